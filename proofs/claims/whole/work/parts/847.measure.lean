/-! the class measures distances -/
def k25 (q j : Nat) : Prop := q = 25
def Dmx (d : Nat → Nat → Nat) (S : cpS) : Prop := ∀ a b, a < 6 → b < 6 → S.1 25 (6 * a + b) = nI (d a b) ∧ d a b ≤ 99
def stB (k a b : Nat) (d : Nat → Nat → Nat) : Nat → Nat → Nat := cpNear d a b (d a k + d k b)
def stA (K k a : Nat) (d : Nat → Nat → Nat) : Nat → Nat → Nat := up (stB k a) K 0 d
def stK (K k : Nat) (d : Nat → Nat → Nat) : Nat → Nat → Nat := up (stA K k) K 0 d
def stR (rd : Nat → Nat × Nat × Nat) (r : Nat) (d : Nat → Nat → Nat) : Nat → Nat → Nat := cpNear (cpNear d (rd r).1 (rd r).2.1 (rd r).2.2) (rd r).2.1 (rd r).1 (rd r).2.2
section ME
variable {S : cpS} {d : Nat → Nat → Nat}
theorem e_dist (h : Dmx d S) {a b : Nat} (ha : a < 6) (hb : b < 6) : fX10_distance 15 (nI a) (nI b) S = some (nI (d a b), S) := by
  have e : a * 6 + b = 6 * a + b := by omega
  have := (h a b ha hb).1
  unfold fX10_distance
  simp (disch := omega) only [lit, lm1, nI_add, pk_mul, nm_eq, nm_eq', nm_lt, nm_lt', nm_le, nm_le', x_lt, x_le, x_eq, x_in, x_cl, x_div, x_sub, x_rem, x_min, x_max, x_and, x_or, x_xor, x_df, x_shl, bI_0, bI_1, bI_bo, lg_eq, toL_inj, ls_nI, decide_eq_false_iff_not, decide_eq_true_eq, Bool.true_eq_false, Bool.false_eq_true, bq, if_pos, if_neg, if_true, if_false, lq, Nat.reduceAdd, Nat.reduceMul, Nat.reduceSub, Nat.reduceDiv, Nat.reduceMod, e, this]
theorem e_short (h : Dmx d S) {a b n : Nat} (ha : a < 6) (hb : b < 6) (hn : n ≤ 198) : ∃ A, fX10_shorten 15 (nI a) (nI b) (nI n) S = some ((), A) ∧ Dmx (cpNear d a b n) A ∧ Kp k25 S A := by
  have e : a * 6 + b = 6 * a + b := by omega
  have hd := (h a b ha hb).2
  unfold fX10_shorten
  by_cases hl : d a b ≤ n
  · refine ⟨S, ?_, fun x y hx hy => ?_, Kp.rf⟩
    · simp (disch := omega) only [lit, lm1, nI_add, pk_mul, nm_eq, nm_eq', nm_lt, nm_lt', nm_le, nm_le', x_lt, x_le, x_eq, x_in, x_cl, x_div, x_sub, x_rem, x_min, x_max, x_and, x_or, x_xor, x_df, x_shl, bI_0, bI_1, bI_bo, lg_eq, toL_inj, ls_nI, decide_eq_false_iff_not, decide_eq_true_eq, Bool.true_eq_false, Bool.false_eq_true, bq, if_pos, if_neg, if_true, if_false, lq, Nat.reduceAdd, Nat.reduceMul, Nat.reduceSub, Nat.reduceDiv, Nat.reduceMod, e_dist h ha hb]
    · obtain ⟨h1, h2⟩ := h x y hx hy
      unfold cpNear
      rw [if_neg (fun q => by obtain ⟨rfl, rfl, q⟩ := q; omega)]
      exact ⟨h1, h2⟩
  · refine ⟨cpI S 25 (6 * a + b) (nI n), ?_, fun x y hx hy => ?_, Kp.rf.I (by exact rfl)⟩
    · simp (disch := omega) only [lit, lm1, nI_add, pk_mul, nm_eq, nm_eq', nm_lt, nm_lt', nm_le, nm_le', x_lt, x_le, x_eq, x_in, x_cl, x_div, x_sub, x_rem, x_min, x_max, x_and, x_or, x_xor, x_df, x_shl, bI_0, bI_1, bI_bo, lg_eq, toL_inj, ls_nI, decide_eq_false_iff_not, decide_eq_true_eq, Bool.true_eq_false, Bool.false_eq_true, bq, if_pos, if_neg, if_true, if_false, lq, Nat.reduceAdd, Nat.reduceMul, Nat.reduceSub, Nat.reduceDiv, Nat.reduceMod, e_dist h ha hb, e]
    · obtain ⟨h1, h2⟩ := h x y hx hy
      unfold cpNear
      by_cases q : x = a ∧ y = b
      · obtain ⟨rfl, rfl⟩ := q
        rw [if_pos ⟨rfl, rfl, by omega⟩, sI1]
        exact ⟨rfl, by omega⟩
      · rw [if_neg (fun z => q ⟨z.1, z.2.1⟩), sIn (Or.inr (by omega))]
        exact ⟨h1, h2⟩
theorem Dmx.le (h : Dmx d S) {a b : Nat} (ha : a < 6) (hb : b < 6) : d a b ≤ 99 := (h a b ha hb).2
theorem kk25 {T : cpS} (h : Kp k25 S T) {q : Nat} (hq : q ≠ 25) (j : Nat) : T.1 q j = S.1 q j := h.i (fun e => hq e)
theorem e_117 {K : Nat} (hK : K ≤ 6) (cK : S.1 15 0 = nI K) (h : Dmx d S) {k a : Nat} (hk : k < K) (ha : a < K) (k97 k107 : Int32 → cpS → Option (Unit × cpS)) : ∃ A, fX10_measureDistances_117 15 (nI k) (nI a) k97 k107 cpFu (nI 0) S = k107 (nI (a + 1)) A ∧ Dmx (stA K k a d) A ∧ Kp k25 S A := by
  have := up_lpR (F := fun n i (T : cpS) => fX10_measureDistances_117 15 (nI k) (nI a) k97 k107 n i T) (K := fun T => k107 (nI (a + 1)) T) K (stB k a) (fun i e T => Dmx e T ∧ Kp k25 S T) (by omega) (fun n i e T hi hI => ?_) (fun n e T hI => ?_) (i0 := 0) (s := d) (a := S) (Nat.zero_le _) ⟨h, Kp.rf⟩
  · obtain ⟨A, a1, a2, a3⟩ := this
    exact ⟨A, a1, a2, a3⟩
  · obtain ⟨i1, i2⟩ := hI
    have l1 := i1.le (a := a) (b := k) (by omega) (by omega)
    have l2 := i1.le (a := k) (b := i) (by omega) (by omega)
    obtain ⟨A, a1, a2, a3⟩ := e_short i1 (a := a) (b := i) (n := e a k + e k i) (by omega) (by omega) (by omega)
    refine ⟨A, ?_, a2, i2.tr a3⟩
    have cT : T.1 15 0 = nI K := by rw [kk25 i2 (by decide)]; exact cK
    have x1 := e_dist i1 (a := a) (b := k) (by omega) (by omega)
    have x2 := e_dist i1 (a := k) (b := i) (by omega) (by omega)
    rw [fX10_measureDistances_117]
    simp (disch := omega) only [lit, lm1, nI_add, pk_mul, nm_eq, nm_eq', nm_lt, nm_lt', nm_le, nm_le', x_lt, x_le, x_eq, x_in, x_cl, x_div, x_sub, x_rem, x_min, x_max, x_and, x_or, x_xor, x_df, x_shl, bI_0, bI_1, bI_bo, lg_eq, toL_inj, ls_nI, decide_eq_false_iff_not, decide_eq_true_eq, Bool.true_eq_false, Bool.false_eq_true, bq, if_pos, if_neg, if_true, if_false, lq, Nat.reduceAdd, Nat.reduceMul, Nat.reduceSub, Nat.reduceDiv, Nat.reduceMod, cT, x1, x2, a1]
  · obtain ⟨i1, i2⟩ := hI
    have cT : T.1 15 0 = nI K := by rw [kk25 i2 (by decide)]; exact cK
    rw [fX10_measureDistances_117]
    simp (disch := omega) only [lit, lm1, nI_add, pk_mul, nm_eq, nm_eq', nm_lt, nm_lt', nm_le, nm_le', x_lt, x_le, x_eq, x_in, x_cl, x_div, x_sub, x_rem, x_min, x_max, x_and, x_or, x_xor, x_df, x_shl, bI_0, bI_1, bI_bo, lg_eq, toL_inj, ls_nI, decide_eq_false_iff_not, decide_eq_true_eq, Bool.true_eq_false, Bool.false_eq_true, bq, if_pos, if_neg, if_true, if_false, lq, Nat.reduceAdd, Nat.reduceMul, Nat.reduceSub, Nat.reduceDiv, Nat.reduceMod, cT]
theorem e_107 {K : Nat} (hK : K ≤ 6) (cK : S.1 15 0 = nI K) (h : Dmx d S) {k : Nat} (hk : k < K) (k97 : Int32 → cpS → Option (Unit × cpS)) : ∃ A, fX10_measureDistances_107 15 (nI k) k97 cpFu (nI 0) S = k97 (nI (k + 1)) A ∧ Dmx (stK K k d) A ∧ Kp k25 S A := by
  have := up_lpR (F := fun n i (T : cpS) => fX10_measureDistances_107 15 (nI k) k97 n i T) (K := fun T => k97 (nI (k + 1)) T) K (stA K k) (fun i e T => Dmx e T ∧ Kp k25 S T) (by omega) (fun n i e T hi hI => ?_) (fun n e T hI => ?_) (i0 := 0) (s := d) (a := S) (Nat.zero_le _) ⟨h, Kp.rf⟩
  · obtain ⟨A, a1, a2, a3⟩ := this
    exact ⟨A, a1, a2, a3⟩
  · obtain ⟨i1, i2⟩ := hI
    have cT : T.1 15 0 = nI K := by rw [kk25 i2 (by decide)]; exact cK
    obtain ⟨A, a1, a2, a3⟩ := e_117 hK cT i1 hk hi k97 (fX10_measureDistances_107 15 (nI k) k97 n)
    refine ⟨A, ?_, a2, i2.tr a3⟩
    rw [fX10_measureDistances_107]
    simp (disch := omega) only [lit, lm1, nI_add, pk_mul, nm_eq, nm_eq', nm_lt, nm_lt', nm_le, nm_le', x_lt, x_le, x_eq, x_in, x_cl, x_div, x_sub, x_rem, x_min, x_max, x_and, x_or, x_xor, x_df, x_shl, bI_0, bI_1, bI_bo, lg_eq, toL_inj, ls_nI, decide_eq_false_iff_not, decide_eq_true_eq, Bool.true_eq_false, Bool.false_eq_true, bq, if_pos, if_neg, if_true, if_false, lq, Nat.reduceAdd, Nat.reduceMul, Nat.reduceSub, Nat.reduceDiv, Nat.reduceMod, cT]
    exact a1
  · obtain ⟨i1, i2⟩ := hI
    have cT : T.1 15 0 = nI K := by rw [kk25 i2 (by decide)]; exact cK
    rw [fX10_measureDistances_107]
    simp (disch := omega) only [lit, lm1, nI_add, pk_mul, nm_eq, nm_eq', nm_lt, nm_lt', nm_le, nm_le', x_lt, x_le, x_eq, x_in, x_cl, x_div, x_sub, x_rem, x_min, x_max, x_and, x_or, x_xor, x_df, x_shl, bI_0, bI_1, bI_bo, lg_eq, toL_inj, ls_nI, decide_eq_false_iff_not, decide_eq_true_eq, Bool.true_eq_false, Bool.false_eq_true, bq, if_pos, if_neg, if_true, if_false, lq, Nat.reduceAdd, Nat.reduceMul, Nat.reduceSub, Nat.reduceDiv, Nat.reduceMod, cT]
theorem e_97 {K : Nat} (hK : K ≤ 6) (cK : S.1 15 0 = nI K) (h : Dmx d S) : ∃ A, fX10_measureDistances_97 15 cpFu (nI 0) S = some ((), A) ∧ Dmx (up (stK K) K 0 d) A ∧ Kp k25 S A := by
  have := up_lpR (F := fun n i (T : cpS) => fX10_measureDistances_97 15 n i T) (K := fun T => some ((), T)) K (stK K) (fun i e T => Dmx e T ∧ Kp k25 S T) (by omega) (fun n i e T hi hI => ?_) (fun n e T hI => ?_) (i0 := 0) (s := d) (a := S) (Nat.zero_le _) ⟨h, Kp.rf⟩
  · obtain ⟨A, a1, a2, a3⟩ := this
    exact ⟨A, a1, a2, a3⟩
  · obtain ⟨i1, i2⟩ := hI
    have cT : T.1 15 0 = nI K := by rw [kk25 i2 (by decide)]; exact cK
    obtain ⟨A, a1, a2, a3⟩ := e_107 hK cT i1 hi (fX10_measureDistances_97 15 n)
    refine ⟨A, ?_, a2, i2.tr a3⟩
    rw [fX10_measureDistances_97]
    simp (disch := omega) only [lit, lm1, nI_add, pk_mul, nm_eq, nm_eq', nm_lt, nm_lt', nm_le, nm_le', x_lt, x_le, x_eq, x_in, x_cl, x_div, x_sub, x_rem, x_min, x_max, x_and, x_or, x_xor, x_df, x_shl, bI_0, bI_1, bI_bo, lg_eq, toL_inj, ls_nI, decide_eq_false_iff_not, decide_eq_true_eq, Bool.true_eq_false, Bool.false_eq_true, bq, if_pos, if_neg, if_true, if_false, lq, Nat.reduceAdd, Nat.reduceMul, Nat.reduceSub, Nat.reduceDiv, Nat.reduceMod, cT]
    exact a1
  · obtain ⟨i1, i2⟩ := hI
    have cT : T.1 15 0 = nI K := by rw [kk25 i2 (by decide)]; exact cK
    rw [fX10_measureDistances_97]
    simp (disch := omega) only [lit, lm1, nI_add, pk_mul, nm_eq, nm_eq', nm_lt, nm_lt', nm_le, nm_le', x_lt, x_le, x_eq, x_in, x_cl, x_div, x_sub, x_rem, x_min, x_max, x_and, x_or, x_xor, x_df, x_shl, bI_0, bI_1, bI_bo, lg_eq, toL_inj, ls_nI, decide_eq_false_iff_not, decide_eq_true_eq, Bool.true_eq_false, Bool.false_eq_true, bq, if_pos, if_neg, if_true, if_false, lq, Nat.reduceAdd, Nat.reduceMul, Nat.reduceSub, Nat.reduceDiv, Nat.reduceMod, cT]
theorem e_37 {K R : Nat} {rd : Nat → Nat × Nat × Nat} (hK : K ≤ 6) (hR : R ≤ 9) (cK : S.1 15 0 = nI K) (cR : S.1 15 3 = nI R) (hrd : ∀ r, r < R → (rd r).1 < 6 ∧ (rd r).2.1 < 6 ∧ (rd r).2.2 ≤ 9 ∧ S.1 16 r = nI (rd r).1 ∧ S.1 17 r = nI (rd r).2.1 ∧ S.1 18 r = nI (rd r).2.2) (h : Dmx d S) : ∃ A, fX10_measureDistances_37 15 cpFu (nI 0) S = some ((), A) ∧ Dmx (up (stK K) K 0 (up (stR rd) R 0 d)) A ∧ Kp k25 S A := by
  have := up_lpR (F := fun n i (T : cpS) => fX10_measureDistances_37 15 n i T) (K := fun T => fX10_measureDistances_97 15 cpFu (nI 0) T) R (stR rd) (fun i e T => Dmx e T ∧ Kp k25 S T) (by omega) (fun n i e T hi hI => ?_) (fun n e T hI => ?_) (i0 := 0) (s := d) (a := S) (Nat.zero_le _) ⟨h, Kp.rf⟩
  · obtain ⟨A, a1, a2, a3⟩ := this
    have cT : A.1 15 0 = nI K := by rw [kk25 a3 (by decide)]; exact cK
    obtain ⟨B, b1, b2, b3⟩ := e_97 hK cT a2
    exact ⟨B, a1.trans b1, b2, a3.tr b3⟩
  · obtain ⟨i1, i2⟩ := hI
    obtain ⟨r1, r2, r3, r4, r5, r6⟩ := hrd i hi
    have cT : T.1 15 3 = nI R := by rw [kk25 i2 (by decide)]; exact cR
    have t4 : T.1 16 i = nI (rd i).1 := by rw [kk25 i2 (by decide)]; exact r4
    have t5 : T.1 17 i = nI (rd i).2.1 := by rw [kk25 i2 (by decide)]; exact r5
    have t6 : T.1 18 i = nI (rd i).2.2 := by rw [kk25 i2 (by decide)]; exact r6
    obtain ⟨A, a1, a2, a3⟩ := e_short i1 r1 r2 (n := (rd i).2.2) (by omega)
    have u4 : A.1 16 i = nI (rd i).1 := by rw [kk25 a3 (by decide)]; exact t4
    have u5 : A.1 17 i = nI (rd i).2.1 := by rw [kk25 a3 (by decide)]; exact t5
    have u6 : A.1 18 i = nI (rd i).2.2 := by rw [kk25 a3 (by decide)]; exact t6
    obtain ⟨B, b1, b2, b3⟩ := e_short a2 r2 r1 (n := (rd i).2.2) (by omega)
    refine ⟨B, ?_, b2, (i2.tr a3).tr b3⟩
    rw [fX10_measureDistances_37]
    simp (disch := omega) only [lit, lm1, nI_add, pk_mul, nm_eq, nm_eq', nm_lt, nm_lt', nm_le, nm_le', x_lt, x_le, x_eq, x_in, x_cl, x_div, x_sub, x_rem, x_min, x_max, x_and, x_or, x_xor, x_df, x_shl, bI_0, bI_1, bI_bo, lg_eq, toL_inj, ls_nI, decide_eq_false_iff_not, decide_eq_true_eq, Bool.true_eq_false, Bool.false_eq_true, bq, if_pos, if_neg, if_true, if_false, lq, Nat.reduceAdd, Nat.reduceMul, Nat.reduceSub, Nat.reduceDiv, Nat.reduceMod, cT, t4, t5, t6, a1, u4, u5, u6, b1]
  · obtain ⟨i1, i2⟩ := hI
    have cT : T.1 15 3 = nI R := by rw [kk25 i2 (by decide)]; exact cR
    rw [fX10_measureDistances_37]
    simp (disch := omega) only [lit, lm1, nI_add, pk_mul, nm_eq, nm_eq', nm_lt, nm_lt', nm_le, nm_le', x_lt, x_le, x_eq, x_in, x_cl, x_div, x_sub, x_rem, x_min, x_max, x_and, x_or, x_xor, x_df, x_shl, bI_0, bI_1, bI_bo, lg_eq, toL_inj, ls_nI, decide_eq_false_iff_not, decide_eq_true_eq, Bool.true_eq_false, Bool.false_eq_true, bq, if_pos, if_neg, if_true, if_false, lq, Nat.reduceAdd, Nat.reduceMul, Nat.reduceSub, Nat.reduceDiv, Nat.reduceMod, cT]
theorem e_measure {K R : Nat} {rd : Nat → Nat × Nat × Nat} (hK : K ≤ 6) (hR : R ≤ 9) (cK : S.1 15 0 = nI K) (cR : S.1 15 3 = nI R) (hrd : ∀ r, r < R → (rd r).1 < 6 ∧ (rd r).2.1 < 6 ∧ (rd r).2.2 ≤ 9 ∧ S.1 16 r = nI (rd r).1 ∧ S.1 17 r = nI (rd r).2.1 ∧ S.1 18 r = nI (rd r).2.2) : ∃ A, fX10_measureDistances 15 S = some ((), A) ∧ Dmx (up (stK K) K 0 (up (stR rd) R 0 cpFar0)) A ∧ Kp k25 S A := by
  obtain ⟨B, b1, b2⟩ := e_fillI 25 36 (nI 99) (by decide) S
  have kB : Kp k25 S B := fun q j hq => by
    have hq : q ≠ 25 := fun e => hq e
    exact ⟨by rw [b2.2.1 q hq], by rw [b2.1]⟩
  have lp := up_lpR (F := fun n i (T : cpS) => fX10_measureDistances_11 15 n i T) (K := fun T => fX10_measureDistances_37 15 cpFu (nI 0) T) 6 (fun _ (u : Unit) => u) (fun i _ T => (∀ a b, a < 6 → b < 6 → T.1 25 (6 * a + b) = nI (if a = b ∧ a < i then 0 else 99)) ∧ Kp k25 S T) (by decide) (fun n i u T hi hI => ?_) (fun n u T hI => ?_) (i0 := 0) (s := ()) (a := B) (Nat.zero_le _) ⟨fun a b ha hb => by rw [if_neg (by omega), b2.2.2.1 _ (by omega) (by omega)], kB⟩
  · obtain ⟨A, a1, a2, a3⟩ := lp
    have dm : Dmx cpFar0 A := fun a b ha hb => by
      have := a2 a b ha hb
      unfold cpFar0
      by_cases e : a = b
      · rw [if_pos ⟨e, ha⟩] at this
        rw [if_pos e]; exact ⟨this, by decide⟩
      · rw [if_neg (fun q => e q.1)] at this
        rw [if_neg e]; exact ⟨this, by decide⟩
    obtain ⟨G, g1, g2, g3⟩ := e_37 (S := A) hK hR (by rw [kk25 a3 (by decide)]; exact cK) (by rw [kk25 a3 (by decide)]; exact cR) (fun r hr => by
      obtain ⟨r1, r2, r3, r4, r5, r6⟩ := hrd r hr
      exact ⟨r1, r2, r3, by rw [kk25 a3 (by decide)]; exact r4, by rw [kk25 a3 (by decide)]; exact r5, by rw [kk25 a3 (by decide)]; exact r6⟩) dm
    refine ⟨G, ?_, g2, a3.tr g3⟩
    unfold fX10_measureDistances
    have b1 : fJ7_fill_53178 (15 + 10) 36 (nI 99) S = some ((), B) := b1
    simp (disch := omega) only [lit, lm1, nI_add, pk_mul, nm_eq, nm_eq', nm_lt, nm_lt', nm_le, nm_le', x_lt, x_le, x_eq, x_in, x_cl, x_div, x_sub, x_rem, x_min, x_max, x_and, x_or, x_xor, x_df, x_shl, bI_0, bI_1, bI_bo, lg_eq, toL_inj, ls_nI, decide_eq_false_iff_not, decide_eq_true_eq, Bool.true_eq_false, Bool.false_eq_true, bq, if_pos, if_neg, if_true, if_false, lq, Nat.reduceAdd, Nat.reduceMul, Nat.reduceSub, Nat.reduceDiv, Nat.reduceMod, b1]
    exact a1.trans g1
  · obtain ⟨i1, i2⟩ := hI
    have e : i * 6 + i = 6 * i + i := by omega
    refine ⟨cpI T 25 (6 * i + i) (nI 0), ?_, fun a b ha hb => ?_, i2.I (by exact rfl)⟩
    · rw [fX10_measureDistances_11]
      simp (disch := omega) only [lit, lm1, nI_add, pk_mul, nm_eq, nm_eq', nm_lt, nm_lt', nm_le, nm_le', x_lt, x_le, x_eq, x_in, x_cl, x_div, x_sub, x_rem, x_min, x_max, x_and, x_or, x_xor, x_df, x_shl, bI_0, bI_1, bI_bo, lg_eq, toL_inj, ls_nI, decide_eq_false_iff_not, decide_eq_true_eq, Bool.true_eq_false, Bool.false_eq_true, bq, if_pos, if_neg, if_true, if_false, lq, Nat.reduceAdd, Nat.reduceMul, Nat.reduceSub, Nat.reduceDiv, Nat.reduceMod, e]
    · by_cases q : a = b ∧ a = i
      · obtain ⟨rfl, rfl⟩ := q
        rw [sI1, if_pos ⟨rfl, by omega⟩]
      · rw [sIn (Or.inr (by omega)), i1 a b ha hb]
        by_cases z : a = b ∧ a < i
        · rw [if_pos z, if_pos ⟨z.1, by omega⟩]
        · rw [if_neg z, if_neg (by omega)]
  · rw [fX10_measureDistances_11]
    simp (disch := omega) only [lit, lm1, nI_add, pk_mul, nm_eq, nm_eq', nm_lt, nm_lt', nm_le, nm_le', x_lt, x_le, x_eq, x_in, x_cl, x_div, x_sub, x_rem, x_min, x_max, x_and, x_or, x_xor, x_df, x_shl, bI_0, bI_1, bI_bo, lg_eq, toL_inj, ls_nI, decide_eq_false_iff_not, decide_eq_true_eq, Bool.true_eq_false, Bool.false_eq_true, bq, if_pos, if_neg, if_true, if_false, lq, Nat.reduceAdd, Nat.reduceMul, Nat.reduceSub, Nat.reduceDiv, Nat.reduceMod]
end ME
/-! .. and they are the distances -/
section MF
theorem stB_eq {d : Nat → Nat → Nat} {k a : Nat} : ∀ n, up (stB k a) n 0 d = cpFarB d k a n := by
  intro n
  induction n with
  | zero => rfl
  | succ n ih =>
    rw [up_last, ih, Nat.zero_add]
    rfl
theorem stR_eq (rd : Nat → Nat × Nat × Nat) : ∀ n, up (stR rd) n 0 cpFar0 = cpFarR rd n := by
  intro n
  induction n with
  | zero => rfl
  | succ n ih =>
    rw [up_last, ih, Nat.zero_add]
    rfl
theorem stA_eq {d : Nat → Nat → Nat} {K k : Nat} (h0 : d k k = 0) (hk : k < K) : ∀ n x y, up (stA K k) n 0 d x y = if x < n ∧ y < K then min (d x y) (d x k + d k y) else d x y := by
  intro n
  induction n with
  | zero => intro x y; rw [if_neg (by omega)]; rfl
  | succ n ih =>
    intro x y
    rw [up_last, Nat.zero_add]
    show up (stB k n) K 0 (up (stA K k) n 0 d) x y = _
    have z : up (stA K k) n 0 d k k = 0 := by
      rw [ih]
      by_cases h : k < n ∧ k < K
      · rw [if_pos h, h0]; omega
      · rw [if_neg h, h0]
    have e1 : up (stA K k) n 0 d n k = d n k := by rw [ih, if_neg (by omega)]
    have e2 : up (stA K k) n 0 d k y = d k y := by
      rw [ih]
      by_cases h : k < n ∧ y < K
      · rw [if_pos h, h0]; omega
      · rw [if_neg h]
    rw [stB_eq, farB_eq z, e1, e2, ih]
    by_cases h : x = n ∧ y < K
    · obtain ⟨rfl, h⟩ := h
      rw [if_pos ⟨rfl, h⟩, if_neg (by omega), if_pos ⟨by omega, h⟩]
    · rw [if_neg h]
      by_cases h2 : x < n ∧ y < K
      · rw [if_pos h2, if_pos ⟨by omega, h2.2⟩]
      · rw [if_neg h2, if_neg (by omega)]
theorem stK_eq {d : Nat → Nat → Nat} {K : Nat} (hK : K ≤ 6) (h0 : ∀ k, d k k = 0) : ∀ n, n ≤ K → ∀ x y, x < K → y < K → up (stK K) n 0 d x y = cpFarK d n x y := by
  intro n
  induction n with
  | zero => intro _ x y _ _; rfl
  | succ n ih =>
    intro hn x y hx hy
    have z : up (stK K) n 0 d n n = 0 := by rw [ih (by omega) n n (by omega) (by omega)]; exact farK_z h0 n (by omega) n
    rw [up_last, Nat.zero_add]
    show up (stA K n) K 0 (up (stK K) n 0 d) x y = _
    rw [stA_eq z (by omega), if_pos ⟨hx, hy⟩, ih (by omega) x y hx hy, ih (by omega) x n hx (by omega), ih (by omega) n y (by omega) hy, farK_s h0 (by omega) (by omega) (by omega)]
theorem far_K {rd : Nat → Nat × Nat × Nat} {K R : Nat} (hK : K ≤ 6) (hrd : ∀ r, r < R → (rd r).1 < K ∧ (rd r).2.1 < K) {x y : Nat} (hx : x < K) (hy : y < K) : cpFarK (cpFarR rd R) K x y = cpFar rd R x y := by
  have hz : ∀ k, cpFarR rd R k k = 0 := fun k => farR_z rd k R
  have r1 : ∀ r, r ≤ R → ∀ x y, x ≠ y → (K ≤ x ∨ K ≤ y) → cpFarR rd r x y = 99 := by
    intro r
    induction r with
    | zero => intro _ x y h _; exact if_neg h
    | succ r ih =>
      intro hr x y h1 h2
      obtain ⟨q1, q2⟩ := hrd r (by omega)
      show cpNear (cpNear (cpFarR rd r) (rd r).1 (rd r).2.1 (rd r).2.2) (rd r).2.1 (rd r).1 (rd r).2.2 x y = 99
      rw [near_eq, near_eq, if_neg (by omega), if_neg (by omega)]
      exact ih (by omega) x y h1 h2
  have r2 : ∀ n, n ≤ 6 → ∀ x y, x < 6 → y < 6 → x ≠ y → (K ≤ x ∨ K ≤ y) → 99 ≤ cpFarK (cpFarR rd R) n x y := by
    intro n
    induction n with
    | zero => intro _ x y _ _ h1 h2; exact Nat.le_of_eq (r1 R (Nat.le_refl _) x y h1 h2).symm
    | succ n ih =>
      intro hn x y hx hy h1 h2
      rw [farK_s hz (by omega) hx hy]
      have a1 := ih (by omega) x y hx hy h1 h2
      have a2 : 99 ≤ cpFarK (cpFarR rd R) n x n + cpFarK (cpFarR rd R) n n y := by
        by_cases e : K ≤ x
        · by_cases e2 : x = n
          · subst e2; have := ih (by omega) x y hx hy h1 h2; omega
          · have := ih (by omega) x n hx (by omega) e2 (Or.inl e); omega
        · by_cases e2 : n = y
          · subst e2; have := ih (by omega) x n hx hy h1 h2; omega
          · have := ih (by omega) n y (by omega) hy e2 (by omega); omega
      omega
  have r3 : ∀ n, n ≤ 6 → ∀ x y, x < 6 → y < 6 → cpFarK (cpFarR rd R) n x y ≤ 99 := by
    have h0 : ∀ r x y, cpFarR rd r x y ≤ 99 := by
      intro r
      induction r with
      | zero => intro x y; exact far0_le x y
      | succ r ih =>
        intro x y
        show cpNear (cpNear (cpFarR rd r) (rd r).1 (rd r).2.1 (rd r).2.2) (rd r).2.1 (rd r).1 (rd r).2.2 x y ≤ 99
        have := ih x y
        rw [near_eq, near_eq]
        split <;> split <;> omega
    intro n
    induction n with
    | zero => intro _ x y _ _; exact h0 R x y
    | succ n ih =>
      intro hn x y hx hy
      have := ih (by omega) x y hx hy
      rw [farK_s hz (by omega) hx hy]
      omega
  have r4 : ∀ n, K + n ≤ 6 → cpFarK (cpFarR rd R) (K + n) x y = cpFarK (cpFarR rd R) K x y := by
    intro n
    induction n with
    | zero => intro _; rfl
    | succ n ih =>
      intro hn
      rw [show K + (n + 1) = (K + n) + 1 by omega, farK_s hz (by omega) (by omega) (by omega), ← ih (by omega)]
      have a1 := r2 (K + n) (by omega) x (K + n) (by omega) (by omega) (by omega) (Or.inr (by omega))
      have a2 := r3 (K + n) (by omega) x y (by omega) (by omega)
      omega
  unfold cpFar
  rw [← r4 (6 - K) (by omega), show K + (6 - K) = 6 by omega]
end MF
