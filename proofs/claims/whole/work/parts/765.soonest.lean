/-! the fewest carryings -/
def wnX (D : cpD) (E : cpE) (c s a t : Nat) : Nat := if nxt D E c a &&& s = 0 then t else t ||| 2 ^ a
def wnR (D : cpD) (E : cpE) (c s : Nat) : Nat := up (wnX D E c s) D.K 0 s
def wnL (D : cpD) (E : cpE) (c to n : Nat) : Nat := it (wnR D E c) n (2 ^ to)
def dst (D : cpD) (E : cpE) (c to a : Nat) : Option Nat := ff (fun n => (wnL D E c to n).testBit a) 6 0
section DS
variable {D : cpD} {E : cpE} {S : cpS}
theorem wnR_lt {c s : Nat} (h : s < 2 ^ D.K) : wnR D E c s < 2 ^ D.K := up_inv (wnX D E c s) D.K (fun _ t => t < 2 ^ D.K) (fun i t hi h => by
  unfold wnX
  split
  · exact h
  · exact or_lt h (two_lt hi)) D.K 0 s (by omega) h
theorem wnR_sub (c s : Nat) : sub s (wnR D E c s) := fun i h => up_inv (wnX D E c s) D.K (fun _ t => t.testBit i = true) (fun r t hr h => by
  unfold wnX
  split
  · exact h
  · rw [Nat.testBit_or, h]; rfl) D.K 0 s (by omega) h
theorem nx_ne {c a s : Nat} : nxt D E c a &&& s ≠ 0 ↔ ∃ b, b < D.K ∧ go D E c a b = true ∧ s.testBit b = true := by
  constructor
  · intro h
    refine Classical.byContradiction (fun q => h (and0.mpr (fun b hb => ?_)))
    rw [nxt_bit, Bool.and_eq_true, decide_eq_true_eq] at hb
    cases e : s.testBit b
    · rfl
    · exact absurd ⟨b, hb.1, hb.2, e⟩ q
  · intro ⟨b, h1, h2, h3⟩ h
    have := and0.mp h b (by rw [nxt_bit, h2, decide_eq_true h1]; rfl)
    rw [h3] at this; cases this
theorem wnR_bit {c s a : Nat} : (wnR D E c s).testBit a = true ↔ s.testBit a = true ∨ (a < D.K ∧ ∃ b, b < D.K ∧ go D E c a b = true ∧ s.testBit b = true) := by
  have : ∀ n, (up (wnX D E c s) n 0 s).testBit a = true ↔ s.testBit a = true ∨ (a < n ∧ nxt D E c a &&& s ≠ 0) := by
    intro n
    induction n with
    | zero => exact ⟨fun h => Or.inl h, fun h => by rcases h with h | h; exact h; omega⟩
    | succ n ih =>
      rw [up_last, Nat.zero_add]
      unfold wnX at ih ⊢
      by_cases h : nxt D E c n &&& s = 0
      · rw [if_pos h, ih]
        constructor
        · rintro (q | ⟨q1, q2⟩)
          · exact Or.inl q
          · exact Or.inr ⟨by omega, q2⟩
        · rintro (q | ⟨q1, q2⟩)
          · exact Or.inl q
          · by_cases e : a = n
            · rw [e] at q2; exact absurd h q2
            · exact Or.inr ⟨by omega, q2⟩
      · rw [if_neg h, Nat.testBit_or, Bool.or_eq_true, ih, Nat.testBit_two_pow, decide_eq_true_eq]
        constructor
        · rintro ((q | ⟨q1, q2⟩) | q)
          · exact Or.inl q
          · exact Or.inr ⟨by omega, q2⟩
          · rw [← q]; exact Or.inr ⟨by omega, h⟩
        · rintro (q | ⟨q1, q2⟩)
          · exact Or.inl (Or.inl q)
          · by_cases e : n = a
            · exact Or.inr e
            · exact Or.inl (Or.inr ⟨by omega, q2⟩)
  unfold wnR
  rw [this, nx_ne]
theorem wnL_s (c to n : Nat) : wnL D E c to (n + 1) = wnR D E c (wnL D E c to n) := it_s _ _ _
theorem wnL_lt {c to n : Nat} (ht : to < D.K) : wnL D E c to n < 2 ^ D.K := by
  induction n with
  | zero => exact two_lt ht
  | succ n ih => rw [wnL_s]; exact wnR_lt ih
theorem wnL_mono {c to m n a : Nat} (h : m ≤ n) (hm : (wnL D E c to m).testBit a = true) : (wnL D E c to n).testBit a = true := by
  induction n with
  | zero => rw [show (0 : Nat) = m by omega]; exact hm
  | succ n ih =>
    by_cases e : m = n + 1
    · rw [← e]; exact hm
    · rw [wnL_s]; exact wnR_sub _ _ a (ih (by omega))
theorem wnL_stab (hD : D.WF) {c to : Nat} (ht : to < D.K) : ∀ n, D.K - 1 ≤ n → wnL D E c to n = wnL D E c to (D.K - 1) := by
  have k6 := hD.k6
  have h0 : 1 ≤ cnt (2 ^ to) := by
    have : ∀ a, a < 6 → 1 ≤ cnt (2 ^ a) := by decide +kernel
    exact this to (by omega)
  exact it_stab (f := wnR D E c) (K := D.K) (by omega) (fun s hs => ⟨wnR_lt hs, wnR_sub c s⟩) (two_lt ht) h0 hD.k1
theorem dst_0 {c to a : Nat} : dst D E c to a = some 0 ↔ a = to := by
  unfold dst
  rw [ff_some]
  constructor
  · intro ⟨_, _, h, _⟩
    have h : (2 ^ to).testBit a = true := h
    rw [Nat.testBit_two_pow, decide_eq_true_eq] at h; exact h.symm
  · intro h
    refine ⟨by omega, by omega, ?_, fun j h1 h2 => by omega⟩
    show (2 ^ to).testBit a = true
    rw [Nat.testBit_two_pow, h]; simp
theorem dst_in {c to a n : Nat} (h : dst D E c to a = some n) : n < 6 ∧ (wnL D E c to n).testBit a = true ∧ ∀ j, j < n → (wnL D E c to j).testBit a = false := by
  obtain ⟨h1, h2, h3, h4⟩ := (ff_some _ _ _).mp h
  exact ⟨by omega, h3, fun j hj => h4 j (by omega) hj⟩
theorem dst_of (hD : D.WF) {c to a n : Nat} (ht : to < D.K) (h : (wnL D E c to n).testBit a = true) : ∃ m, dst D E c to a = some m ∧ m ≤ n ∧ m ≤ D.K - 1 := by
  have k6 := hD.k6
  have h' : (wnL D E c to (D.K - 1)).testBit a = true := by
    by_cases e : D.K - 1 ≤ n
    · rw [← wnL_stab hD ht n e]; exact h
    · exact wnL_mono (by omega) h
  cases e : dst D E c to a with
  | none =>
    have := (ff_none 6 0).mp e (D.K - 1) (by omega) (by omega)
    (try dsimp only at this)
    rw [h'] at this; cases this
  | some m =>
    obtain ⟨g1, g2, g3⟩ := dst_in e
    refine ⟨m, rfl, ?_, ?_⟩
    · by_cases q : m ≤ n
      · exact q
      · rw [g3 n (by omega)] at h; cases h
    · by_cases q : m ≤ D.K - 1
      · exact q
      · rw [g3 (D.K - 1) (by omega)] at h'; cases h'
theorem dst_2 (hD : D.WF) {c to a b n : Nat} (ht : to < D.K) (ha : a < D.K) (hb : b < D.K) (hg : go D E c a b = true) (h : dst D E c to b = some n) : ∃ m, dst D E c to a = some m ∧ m ≤ n + 1 := by
  obtain ⟨-, g2, -⟩ := dst_in h
  obtain ⟨m, m1, m2, -⟩ := dst_of hD (a := a) (n := n + 1) ht (by rw [wnL_s, wnR_bit]; exact Or.inr ⟨ha, b, hb, hg, g2⟩)
  exact ⟨m, m1, m2⟩
theorem dst_3 (hD : D.WF) {c to a n : Nat} (ht : to < D.K) (h : dst D E c to a = some (n + 1)) : a < D.K ∧ ∃ b, b < D.K ∧ go D E c a b = true ∧ dst D E c to b = some n := by
  obtain ⟨g1, g2, g3⟩ := dst_in h
  rw [wnL_s, wnR_bit, g3 n (by omega)] at g2
  rcases g2 with g2 | ⟨ha, b, hb, hg, hw⟩
  · cases g2
  · obtain ⟨m, m1, m2, -⟩ := dst_of hD ht hw
    refine ⟨ha, b, hb, hg, ?_⟩
    by_cases e : m = n
    · rw [← e]; exact m1
    · obtain ⟨q, q1, q2⟩ := dst_2 hD ht ha hb hg m1
      rw [h] at q1
      cases q1
      omega
theorem dst_lt (hD : D.WF) {c to a n : Nat} (ht : to < D.K) (h : dst D E c to a = some n) : a < D.K ∧ n ≤ D.K - 1 := by
  obtain ⟨g1, g2, g3⟩ := dst_in h
  refine ⟨?_, ?_⟩
  · by_cases e : a < D.K
    · exact e
    · rw [bit_ge (wnL_lt ht) (by omega)] at g2; cases g2
  · obtain ⟨m, m1, -, m3⟩ := dst_of hD ht g2
    rw [h] at m1
    cases m1
    exact m3
/-! the class measures -/
def dr (D : cpD) (E : cpE) (c to r a : Nat) : Option Nat := match dst D E c to a with
  | none => none
  | some n => if n ≤ r then some n else none
theorem dr_s {c to r a n : Nat} : dr D E c to r a = some n ↔ dst D E c to a = some n ∧ n ≤ r := by
  unfold dr
  cases dst D E c to a with
  | none => exact ⟨fun h => (by cases h), fun h => (by cases h.1)⟩
  | some m =>
    dsimp only
    by_cases e : m ≤ r
    · rw [if_pos e]; exact ⟨fun h => by cases h; exact ⟨rfl, e⟩, fun h => h.1⟩
    · rw [if_neg e]; exact ⟨fun h => (by cases h), fun h => by cases h.1; exact absurd h.2 e⟩
theorem dr_n {c to r a : Nat} (h : dr D E c to r a = none) (n : Nat) (hn : dst D E c to a = some n) : r < n := by
  by_cases e : r < n
  · exact e
  · have := dr_s.mpr ⟨hn, (by omega : n ≤ r)⟩
    rw [h] at this; cases this
theorem oI_s {o : Option Nat} {n : Nat} (hb : ∀ k, o = some k → k < 2 ^ 31) (hn : n < 2 ^ 31) : (oI o = nI n) = (o = some n) := by
  cases o with
  | none => exact propext ⟨fun h => absurd h (by have := nm_eq' hn; rw [show oI none = nM from rfl]; rw [this]; exact id), fun h => (by cases h)⟩
  | some k =>
    have := hb k rfl
    show (nI k = nI n) = _
    rw [x_eq this hn]
    exact propext ⟨fun h => by rw [h], fun h => by cases h; rfl⟩
theorem oI_n {o : Option Nat} (hb : ∀ k, o = some k → k < 2 ^ 31) : (oI o = nM) = (o = none) := by
  cases o with
  | none => exact propext ⟨fun _ => rfl, fun _ => rfl⟩
  | some k =>
    show (nI k = nM) = _
    rw [nm_eq (hb k rfl)]
    exact propext ⟨fun h => h.elim, fun h => (by cases h)⟩
def k122 (q _ : Nat) : Prop := q = 122
theorem k122_C {k j : Nat} (h : k122 k j) : kC k j := by
  unfold k122 at h; subst h; exact ⟨scr_c (by decide) (by decide) (by decide) j, by decide⟩
theorem c_stepsOn (hD : D.WF) (c : cA D E S) {r' : Bool} {k to a r : Nat} {u : Nat → Option Nat} (l : lrn D E r' k S) (ha : a < D.K) (hr : r < 10) (hu : ∀ x, x < D.K → S.1 122 x = oI (u x)) (hb : ∀ x n, u x = some n → n < 10) : fX4_stepsOnTo (nI a) (nI r) S = some (bI (ff (fun b => decide (u b = some r) && go D E k a b) D.K 0).isSome, S) := by
  have k6 := hD.k6
  unfold fX4_stepsOnTo
  simp only [lit]
  refine ff_lp (F := fun f i (T : cpS) => fX4_stepsOnTo_2 (nI a) (nI r) f i T) D.K (fun b => decide (u b = some r) && go D E k a b) (fun _ T => T = S) (fun o x => x = some (bI o.isSome, S)) (by omega) (fun f i T hi hT hp' => ⟨S, ?_, rfl⟩) (fun f i T hi hT hp' => ?_) (fun f T hT => ?_) (i0 := 0) (a := S) (Nat.zero_le _) rfl
  · subst hT
    have e := oI_s (o := u i) (n := r) (fun n h => by have := hb i n h; omega) (by omega)
    rw [fX4_stepsOnTo_2]
    unfold fX4_places
    by_cases h : u i = some r
    · rw [decide_eq_true h, Bool.true_and] at hp'
      have e' : T.1 122 i = nI r := by rw [hu i hi, h]; rfl
      simp (disch := omega) only [lit, lm1, nI_add, pk_mul, nm_eq, nm_eq', nm_lt, nm_lt', nm_le, nm_le', x_lt, x_le, x_eq, x_in, x_cl, x_div, x_sub, x_rem, x_min, x_max, x_and, x_or, x_xor, x_df, x_shl, bI_0, bI_1, bI_bo, lg_eq, toL_inj, ls_nI, decide_eq_false_iff_not, decide_eq_true_eq, Bool.true_eq_false, Bool.false_eq_true, bq, if_pos, if_neg, if_true, if_false, lq, Nat.reduceAdd, Nat.reduceMul, Nat.reduceSub, Nat.reduceDiv, Nat.reduceMod, c.K, e', c_canGo hD l ha hi, hp', eq_self]
    · simp (disch := omega) only [lit, lm1, nI_add, pk_mul, nm_eq, nm_eq', nm_lt, nm_lt', nm_le, nm_le', x_lt, x_le, x_eq, x_in, x_cl, x_div, x_sub, x_rem, x_min, x_max, x_and, x_or, x_xor, x_df, x_shl, bI_0, bI_1, bI_bo, lg_eq, toL_inj, ls_nI, decide_eq_false_iff_not, decide_eq_true_eq, Bool.true_eq_false, Bool.false_eq_true, bq, if_pos, if_neg, if_true, if_false, lq, Nat.reduceAdd, Nat.reduceMul, Nat.reduceSub, Nat.reduceDiv, Nat.reduceMod, c.K, hu i hi, e, h]
  · subst hT
    have e := oI_s (o := u i) (n := r) (fun n h => by have := hb i n h; omega) (by omega)
    rw [Bool.and_eq_true, decide_eq_true_eq] at hp'
    rw [fX4_stepsOnTo_2]
    unfold fX4_places
    have e' : T.1 122 i = nI r := by rw [hu i hi, hp'.1]; rfl
    simp (disch := omega) only [lit, lm1, nI_add, pk_mul, nm_eq, nm_eq', nm_lt, nm_lt', nm_le, nm_le', x_lt, x_le, x_eq, x_in, x_cl, x_div, x_sub, x_rem, x_min, x_max, x_and, x_or, x_xor, x_df, x_shl, bI_0, bI_1, bI_bo, lg_eq, toL_inj, ls_nI, decide_eq_false_iff_not, decide_eq_true_eq, Bool.true_eq_false, Bool.false_eq_true, bq, if_pos, if_neg, if_true, if_false, lq, Nat.reduceAdd, Nat.reduceMul, Nat.reduceSub, Nat.reduceDiv, Nat.reduceMod, c.K, e', c_canGo hD l ha hi, hp'.2, eq_self]
    rfl
  · subst hT
    rw [fX4_stepsOnTo_2]
    unfold fX4_places
    simp (disch := omega) only [lit, lm1, nI_add, pk_mul, nm_eq, nm_eq', nm_lt, nm_lt', nm_le, nm_le', x_lt, x_le, x_eq, x_in, x_cl, x_div, x_sub, x_rem, x_min, x_max, x_and, x_or, x_xor, x_df, x_shl, bI_0, bI_1, bI_bo, lg_eq, toL_inj, ls_nI, decide_eq_false_iff_not, decide_eq_true_eq, Bool.true_eq_false, Bool.false_eq_true, bq, if_pos, if_neg, if_true, if_false, lq, Nat.reduceAdd, Nat.reduceMul, Nat.reduceSub, Nat.reduceDiv, Nat.reduceMod, c.K]
    rfl
theorem c_measure27 (hD : D.WF) (c : cA D E S) {r' : Bool} {k to r : Nat} (l : lrn D E r' k S) (ht : to < D.K) (hr : r < 6) (h0 : ∀ x, x < D.K → S.1 122 x = oI (dr D E k to r x)) (kk : Int32 → cpS → Option (Unit × cpS)) : ∃ T, fX4_measureTo_27 (nI (r + 1)) kk cpFu (nI 0) S = kk (nI (r + 2)) T ∧ (∀ x, x < D.K → T.1 122 x = oI (dr D E k to (r + 1) x)) ∧ Kp k122 S T := by
  have k6 := hD.k6
  have := up_lpR (F := fun f a (T : cpS) => fX4_measureTo_27 (nI (r + 1)) kk f a T) (K := fun T => kk (nI (r + 2)) T) D.K (fun _ (s : Unit) => s) (fun j _ T => (∀ x, x < D.K → T.1 122 x = oI (if x < j then dr D E k to (r + 1) x else dr D E k to r x)) ∧ Kp k122 S T) (by omega) (fun f a s T ha hI => ?_) (fun f s T hI => ?_) (i0 := 0) (s := ()) (a := S) (Nat.zero_le _) ⟨fun x hx => by rw [if_neg (by omega)]; exact h0 x hx, Kp.rf⟩
  · obtain ⟨T, t1, t2, t3⟩ := this
    exact ⟨T, t1, fun x hx => by rw [t2 x hx, if_pos hx], t3⟩
  · obtain ⟨i1, i2⟩ := hI
    have cT : cA D E T := c.cc (i2.le (fun _ _ => k122_C))
    have lT := l.kp i2 (fun q j h => by unfold k122 at h; omega)
    have bd : ∀ x n, (if x < a then dr D E k to (r + 1) x else dr D E k to r x) = some n → n < 10 := fun x n h => by
      split at h
      · have := (dr_s.mp h).2; omega
      · have := (dr_s.mp h).2; omega
    have ea : T.1 122 a = oI (dr D E k to r a) := by rw [i1 a ha, if_neg (by omega)]
    have en := oI_n (o := dr D E k to r a) (fun n h => by have := (dr_s.mp h).2; omega)
    cases hd : dr D E k to r a with
    | none =>
      have hs := c_stepsOn hD cT (r' := r') (to := to) lT ha (r := r) (by omega) i1 bd
      have hex : (ff (fun b => decide ((if b < a then dr D E k to (r + 1) b else dr D E k to r b) = some r) && go D E k a b) D.K 0).isSome = decide (dst D E k to a = some (r + 1)) := by
        have eq : ∀ b, ((if b < a then dr D E k to (r + 1) b else dr D E k to r b) = some r) ↔ dst D E k to b = some r := fun b => by
          split
          · rw [dr_s]; exact ⟨fun h => h.1, fun h => ⟨h, by omega⟩⟩
          · rw [dr_s]; exact ⟨fun h => h.1, fun h => ⟨h, Nat.le_refl _⟩⟩
        by_cases q : dst D E k to a = some (r + 1)
        · rw [decide_eq_true q]
          obtain ⟨-, b, hb, hg, hb2⟩ := dst_3 hD ht q
          cases e : ff (fun b => decide ((if b < a then dr D E k to (r + 1) b else dr D E k to r b) = some r) && go D E k a b) D.K 0 with
          | none =>
            have := (ff_none _ _).mp e b (by omega) (by omega)
            (try dsimp only at this)
            rw [hg, decide_eq_true ((eq b).mpr hb2)] at this; cases this
          | some _ => rfl
        · rw [decide_eq_false q]
          cases e : ff (fun b => decide ((if b < a then dr D E k to (r + 1) b else dr D E k to r b) = some r) && go D E k a b) D.K 0 with
          | none => rfl
          | some b =>
            exfalso
            obtain ⟨b1, b2, b3, -⟩ := (ff_some _ _ _).mp e
            rw [Bool.and_eq_true, decide_eq_true_eq] at b3
            obtain ⟨m, m1, m2⟩ := dst_2 hD ht ha (by omega) b3.2 ((eq b).mp b3.1)
            have := dr_n hd m m1
            apply q
            rw [m1, show m = r + 1 by omega]
      rw [hex] at hs
      by_cases q : dst D E k to a = some (r + 1)
      · rw [decide_eq_true q] at hs
        refine ⟨cpI T 122 a (nI (r + 1)), ?_, fun x hx => ?_, i2.I (by exact rfl)⟩
        · rw [hd] at ea
          rw [fX4_measureTo_27]
          unfold fX4_places
          simp (disch := omega) only [lit, lm1, nI_add, pk_mul, nm_eq, nm_eq', nm_lt, nm_lt', nm_le, nm_le', x_lt, x_le, x_eq, x_in, x_cl, x_div, x_sub, x_rem, x_min, x_max, x_and, x_or, x_xor, x_df, x_shl, bI_0, bI_1, bI_bo, lg_eq, toL_inj, ls_nI, decide_eq_false_iff_not, decide_eq_true_eq, Bool.true_eq_false, Bool.false_eq_true, bq, if_pos, if_neg, if_true, if_false, lq, Nat.reduceAdd, Nat.reduceMul, Nat.reduceSub, Nat.reduceDiv, Nat.reduceMod, cT.K, ea, oI, eq_self, Nat.add_sub_cancel, hs]
        · by_cases e : x = a
          · rw [e, sI1, if_pos (by omega), dr_s.mpr ⟨q, Nat.le_refl _⟩]; rfl
          · rw [sIn (Or.inr e), i1 x hx]
            by_cases z : x < a
            · rw [if_pos z, if_pos (by omega)]
            · rw [if_neg z, if_neg (by omega)]
      · rw [decide_eq_false q] at hs
        refine ⟨T, ?_, fun x hx => ?_, i2⟩
        · rw [hd] at ea
          rw [fX4_measureTo_27]
          unfold fX4_places
          simp (disch := omega) only [lit, lm1, nI_add, pk_mul, nm_eq, nm_eq', nm_lt, nm_lt', nm_le, nm_le', x_lt, x_le, x_eq, x_in, x_cl, x_div, x_sub, x_rem, x_min, x_max, x_and, x_or, x_xor, x_df, x_shl, bI_0, bI_1, bI_bo, lg_eq, toL_inj, ls_nI, decide_eq_false_iff_not, decide_eq_true_eq, Bool.true_eq_false, Bool.false_eq_true, bq, if_pos, if_neg, if_true, if_false, lq, Nat.reduceAdd, Nat.reduceMul, Nat.reduceSub, Nat.reduceDiv, Nat.reduceMod, cT.K, ea, oI, eq_self, Nat.add_sub_cancel, hs]
        · rw [i1 x hx]
          by_cases e : x = a
          · rw [e, if_neg (by omega), if_pos (by omega), hd]
            cases z : dr D E k to (r + 1) a with
            | none => rfl
            | some n =>
              obtain ⟨z1, z2⟩ := dr_s.mp z
              have := dr_n hd n z1
              rw [show n = r + 1 by omega] at z1
              exact absurd z1 q
          · by_cases z : x < a
            · rw [if_pos z, if_pos (by omega)]
            · rw [if_neg z, if_neg (by omega)]
    | some n =>
      obtain ⟨n1, n2⟩ := dr_s.mp hd
      refine ⟨T, ?_, fun x hx => ?_, i2⟩
      · rw [hd] at ea
        rw [fX4_measureTo_27]
        unfold fX4_places
        simp (disch := omega) only [lit, lm1, nI_add, pk_mul, nm_eq, nm_eq', nm_lt, nm_lt', nm_le, nm_le', x_lt, x_le, x_eq, x_in, x_cl, x_div, x_sub, x_rem, x_min, x_max, x_and, x_or, x_xor, x_df, x_shl, bI_0, bI_1, bI_bo, lg_eq, toL_inj, ls_nI, decide_eq_false_iff_not, decide_eq_true_eq, Bool.true_eq_false, Bool.false_eq_true, bq, if_pos, if_neg, if_true, if_false, lq, Nat.reduceAdd, Nat.reduceMul, Nat.reduceSub, Nat.reduceDiv, Nat.reduceMod, cT.K, ea, oI]
      · rw [i1 x hx]
        by_cases e : x = a
        · rw [e, if_neg (by omega), if_pos (by omega), hd, dr_s.mpr ⟨n1, by omega⟩]
        · by_cases z : x < a
          · rw [if_pos z, if_pos (by omega)]
          · rw [if_neg z, if_neg (by omega)]
  · have cT : cA D E T := c.cc (hI.2.le (fun _ _ => k122_C))
    rw [fX4_measureTo_27]
    unfold fX4_places
    simp (disch := omega) only [lit, lm1, nI_add, pk_mul, nm_eq, nm_eq', nm_lt, nm_lt', nm_le, nm_le', x_lt, x_le, x_eq, x_in, x_cl, x_div, x_sub, x_rem, x_min, x_max, x_and, x_or, x_xor, x_df, x_shl, bI_0, bI_1, bI_bo, lg_eq, toL_inj, ls_nI, decide_eq_false_iff_not, decide_eq_true_eq, Bool.true_eq_false, Bool.false_eq_true, bq, if_pos, if_neg, if_true, if_false, lq, Nat.reduceAdd, Nat.reduceMul, Nat.reduceSub, Nat.reduceDiv, Nat.reduceMod, cT.K]
theorem c_measureTo (hD : D.WF) (c : cA D E S) {r' : Bool} {k to : Nat} (l : lrn D E r' k S) (ht : to < D.K) : ∃ T, fX4_measureTo (nI to) S = some ((), T) ∧ (∀ x, x < D.K → T.1 122 x = oI (dst D E k to x)) ∧ Kp k122 S T := by
  have k6 := hD.k6
  have k1 := hD.k1
  obtain ⟨A, a1, a2⟩ := e_fillI 122 6 nM (by decide) S
  have kA : Kp k122 S (cpI A 122 to (nI 0)) := (a2.kp (fun j _ _ => rfl)).I (by exact rfl)
  have z0 : ∀ x, x < D.K → (cpI A 122 to (nI 0)).1 122 x = oI (dr D E k to (1 - 1) x) := fun x hx => by
    by_cases e : x = to
    · rw [e, sI1, dr_s.mpr ⟨dst_0.mpr rfl, Nat.le_refl _⟩]; rfl
    · rw [sIn (Or.inr e), a2.2.2.1 x (by omega) (by omega)]
      cases q : dr D E k to (1 - 1) x with
      | none => rfl
      | some n =>
        obtain ⟨q1, q2⟩ := dr_s.mp q
        rw [show n = 0 by omega] at q1
        exact absurd (dst_0.mp q1) e
  have := up_lpR (F := fun f r (T : cpS) => fX4_measureTo_17 f r T) (K := fun T => some ((), T)) D.K (fun _ (s : Unit) => s) (fun r _ T => (∀ x, x < D.K → T.1 122 x = oI (dr D E k to (r - 1) x)) ∧ Kp k122 S T ∧ 1 ≤ r) (by omega) (fun f r s T hr hI => ?_) (fun f s T hI => ?_) (i0 := 1) (s := ()) (a := cpI A 122 to (nI 0)) k1 ⟨z0, kA, Nat.le_refl _⟩
  · obtain ⟨T, t1, t2, t3, -⟩ := this
    refine ⟨T, ?_, fun x hx => ?_, t3⟩
    · have e1 : fJ7_fill_53178 122 6 (-1 : Int32) S = some ((), A) := a1
      unfold fX4_measureTo
      rw [e1, bq]
      simp (disch := omega) only [lit, lm1, nI_add, pk_mul, nm_eq, nm_eq', nm_lt, nm_lt', nm_le, nm_le', x_lt, x_le, x_eq, x_in, x_cl, x_div, x_sub, x_rem, x_min, x_max, x_and, x_or, x_xor, x_df, x_shl, bI_0, bI_1, bI_bo, lg_eq, toL_inj, ls_nI, decide_eq_false_iff_not, decide_eq_true_eq, Bool.true_eq_false, Bool.false_eq_true, bq, if_pos, if_neg, if_true, if_false, lq, Nat.reduceAdd, Nat.reduceMul, Nat.reduceSub, Nat.reduceDiv, Nat.reduceMod]
      exact t1
    · rw [t2 x hx]
      cases q : dst D E k to x with
      | none => unfold dr; rw [q]
      | some n => rw [dr_s.mpr ⟨q, (dst_lt hD ht q).2⟩]
  · obtain ⟨i1, i2, i3⟩ := hI
    obtain ⟨r0, rfl⟩ : ∃ r0, r = r0 + 1 := ⟨r - 1, by omega⟩
    rw [Nat.add_sub_cancel] at i1
    have cT : cA D E T := c.cc (i2.le (fun _ _ => k122_C))
    obtain ⟨U, u1, u2, u3⟩ := c_measure27 hD cT (l.kp i2 (fun q j h => by unfold k122 at h; omega)) ht (by omega) i1 (fX4_measureTo_17 f)
    refine ⟨U, ?_, fun x hx => by rw [Nat.add_sub_cancel]; exact u2 x hx, i2.tr u3, by omega⟩
    rw [fX4_measureTo_17]
    unfold fX4_places
    simp (disch := omega) only [lit, lm1, nI_add, pk_mul, nm_eq, nm_eq', nm_lt, nm_lt', nm_le, nm_le', x_lt, x_le, x_eq, x_in, x_cl, x_div, x_sub, x_rem, x_min, x_max, x_and, x_or, x_xor, x_df, x_shl, bI_0, bI_1, bI_bo, lg_eq, toL_inj, ls_nI, decide_eq_false_iff_not, decide_eq_true_eq, Bool.true_eq_false, Bool.false_eq_true, bq, if_pos, if_neg, if_true, if_false, lq, Nat.reduceAdd, Nat.reduceMul, Nat.reduceSub, Nat.reduceDiv, Nat.reduceMod, cT.K]
    exact u1
  · have cT : cA D E T := c.cc (hI.2.1.le (fun _ _ => k122_C))
    rw [fX4_measureTo_17]
    unfold fX4_places
    simp (disch := omega) only [lit, lm1, nI_add, pk_mul, nm_eq, nm_eq', nm_lt, nm_lt', nm_le, nm_le', x_lt, x_le, x_eq, x_in, x_cl, x_div, x_sub, x_rem, x_min, x_max, x_and, x_or, x_xor, x_df, x_shl, bI_0, bI_1, bI_bo, lg_eq, toL_inj, ls_nI, decide_eq_false_iff_not, decide_eq_true_eq, Bool.true_eq_false, Bool.false_eq_true, bq, if_pos, if_neg, if_true, if_false, lq, Nat.reduceAdd, Nat.reduceMul, Nat.reduceSub, Nat.reduceDiv, Nat.reduceMod, cT.K]
end DS
