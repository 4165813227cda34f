/-! how far: the reference lays it anew each time -/
def fr (S : cpS) (d : Nat → Nat → Nat) : Prop := ∀ a b, a < 6 → b < 6 → S.1 155 (6 * a + b) = nI (d a b) ∧ d a b ≤ 99
def k155 (k _ : Nat) : Prop := k = 155
theorem m_nearer {S : cpS} {d : Nat → Nat → Nat} {a b n : Nat} (h : fr S d) (ha : a < 6) (hb : b < 6) (hn : n < 1000) : ∃ T, fX12_nearer (nI a) (nI b) (nI n) S = some ((), T) ∧ fr T (cpNear d a b n) ∧ Kp k155 S T := by
  obtain ⟨e1, e2⟩ := h a b ha hb
  unfold fX12_nearer
  by_cases hc : d a b ≤ n
  · refine ⟨S, by simp (disch := omega) only [lit, lm1, nI_add, pk_mul, nm_eq, nm_eq', nm_lt, nm_lt', nm_le, nm_le', x_lt, x_le, x_eq, x_in, x_cl, x_div, x_sub, x_rem, x_min, x_max, x_and, x_or, x_xor, x_df, x_shl, bI_0, bI_1, bI_bo, lg_eq, toL_inj, ls_nI, decide_eq_false_iff_not, decide_eq_true_eq, Bool.true_eq_false, Bool.false_eq_true, bq, if_pos, if_neg, if_true, if_false, lq, Nat.reduceAdd, Nat.reduceMul, Nat.reduceSub, Nat.reduceDiv, Nat.reduceMod, e1, hc], fun x y hx hy => ?_, Kp.rf⟩
    have : cpNear d a b n x y = d x y := by
      unfold cpNear
      by_cases e : x = a ∧ y = b ∧ n < d x y
      · obtain ⟨rfl, rfl, e⟩ := e; omega
      · rw [if_neg e]
    rw [this]; exact h x y hx hy
  · refine ⟨cpI S 155 (6 * a + b) (nI n), by simp (disch := omega) only [lit, lm1, nI_add, pk_mul, nm_eq, nm_eq', nm_lt, nm_lt', nm_le, nm_le', x_lt, x_le, x_eq, x_in, x_cl, x_div, x_sub, x_rem, x_min, x_max, x_and, x_or, x_xor, x_df, x_shl, bI_0, bI_1, bI_bo, lg_eq, toL_inj, ls_nI, decide_eq_false_iff_not, decide_eq_true_eq, Bool.true_eq_false, Bool.false_eq_true, bq, if_pos, if_neg, if_true, if_false, lq, Nat.reduceAdd, Nat.reduceMul, Nat.reduceSub, Nat.reduceDiv, Nat.reduceMod, e1, hc], fun x y hx hy => ?_, Kp.rf.I (by exact rfl)⟩
    unfold cpNear
    by_cases e : x = a ∧ y = b
    · obtain ⟨rfl, rfl⟩ := e
      rw [if_pos ⟨rfl, rfl, by omega⟩, sI1]; exact ⟨rfl, by omega⟩
    · rw [if_neg (fun k => e ⟨k.1, k.2.1⟩), sIn (Or.inr (by omega))]; exact h x y hx hy
theorem m_far152 {S : cpS} {d : Nat → Nat → Nat} {k a : Nat} (h : fr S d) (hk : k < 6) (ha : a < 6) (k1 k2 : Int32 → cpS → Option (Unit × cpS)) : ∃ T, fX12_laysFar_152 (nI k) (nI a) k1 k2 cpFu (nI 0) S = k2 (nI (a + 1)) T ∧ fr T (cpFarB d k a 6) ∧ Kp k155 S T := by
  refine up_lpR (F := fun n b (T : cpS) => fX12_laysFar_152 (nI k) (nI a) k1 k2 n b T) (K := fun T => k2 (nI (a + 1)) T) 6 (fun _ (s : Unit) => s) (fun b _ T => fr T (cpFarB d k a b) ∧ Kp k155 S T) (by decide) (fun n b s T hb hI => ?_) (fun n s T hI => ?_) (i0 := 0) (s := ()) (a := S) (Nat.zero_le _) ⟨h, Kp.rf⟩
  · obtain ⟨i1, i2⟩ := hI
    obtain ⟨e1, e2⟩ := i1 a k ha hk
    obtain ⟨e3, e4⟩ := i1 k b hk hb
    obtain ⟨U, u1, u2, u3⟩ := m_nearer (a := a) (b := b) (n := cpFarB d k a b a k + cpFarB d k a b k b) i1 ha hb (by omega)
    refine ⟨U, ?_, u2, i2.tr u3⟩
    (try dsimp only)
    rw [fX12_laysFar_152]
    simp (disch := omega) only [lit, lm1, nI_add, pk_mul, nm_eq, nm_eq', nm_lt, nm_lt', nm_le, nm_le', x_lt, x_le, x_eq, x_in, x_cl, x_div, x_sub, x_rem, x_min, x_max, x_and, x_or, x_xor, x_df, x_shl, bI_0, bI_1, bI_bo, lg_eq, toL_inj, ls_nI, decide_eq_false_iff_not, decide_eq_true_eq, Bool.true_eq_false, Bool.false_eq_true, bq, if_pos, if_neg, if_true, if_false, lq, Nat.reduceAdd, Nat.reduceMul, Nat.reduceSub, Nat.reduceDiv, Nat.reduceMod, e1, e3, u1]
  · (try dsimp only)
    rw [fX12_laysFar_152]
    simp (disch := omega) only [lit, lm1, nI_add, pk_mul, nm_eq, nm_eq', nm_lt, nm_lt', nm_le, nm_le', x_lt, x_le, x_eq, x_in, x_cl, x_div, x_sub, x_rem, x_min, x_max, x_and, x_or, x_xor, x_df, x_shl, bI_0, bI_1, bI_bo, lg_eq, toL_inj, ls_nI, decide_eq_false_iff_not, decide_eq_true_eq, Bool.true_eq_false, Bool.false_eq_true, bq, if_pos, if_neg, if_true, if_false, lq, Nat.reduceAdd, Nat.reduceMul, Nat.reduceSub, Nat.reduceDiv, Nat.reduceMod]
theorem m_far144 {S : cpS} {d : Nat → Nat → Nat} {k : Nat} (h : fr S d) (hk : k < 6) (k1 : Int32 → cpS → Option (Unit × cpS)) : ∃ T, fX12_laysFar_144 (nI k) k1 cpFu (nI 0) S = k1 (nI (k + 1)) T ∧ fr T (cpFarA d k 6) ∧ Kp k155 S T := by
  refine up_lpR (F := fun n b (T : cpS) => fX12_laysFar_144 (nI k) k1 n b T) (K := fun T => k1 (nI (k + 1)) T) 6 (fun _ (s : Unit) => s) (fun b _ T => fr T (cpFarA d k b) ∧ Kp k155 S T) (by decide) (fun n b s T hb hI => ?_) (fun n s T hI => ?_) (i0 := 0) (s := ()) (a := S) (Nat.zero_le _) ⟨h, Kp.rf⟩
  · obtain ⟨i1, i2⟩ := hI
    obtain ⟨U, u1, u2, u3⟩ := m_far152 (a := b) i1 hk hb k1 (fX12_laysFar_144 (nI k) k1 n)
    refine ⟨U, ?_, u2, i2.tr u3⟩
    (try dsimp only)
    rw [fX12_laysFar_144]
    simp (disch := omega) only [lit, lm1, nI_add, pk_mul, nm_eq, nm_eq', nm_lt, nm_lt', nm_le, nm_le', x_lt, x_le, x_eq, x_in, x_cl, x_div, x_sub, x_rem, x_min, x_max, x_and, x_or, x_xor, x_df, x_shl, bI_0, bI_1, bI_bo, lg_eq, toL_inj, ls_nI, decide_eq_false_iff_not, decide_eq_true_eq, Bool.true_eq_false, Bool.false_eq_true, bq, if_pos, if_neg, if_true, if_false, lq, Nat.reduceAdd, Nat.reduceMul, Nat.reduceSub, Nat.reduceDiv, Nat.reduceMod, u1]
  · (try dsimp only)
    rw [fX12_laysFar_144]
    simp (disch := omega) only [lit, lm1, nI_add, pk_mul, nm_eq, nm_eq', nm_lt, nm_lt', nm_le, nm_le', x_lt, x_le, x_eq, x_in, x_cl, x_div, x_sub, x_rem, x_min, x_max, x_and, x_or, x_xor, x_df, x_shl, bI_0, bI_1, bI_bo, lg_eq, toL_inj, ls_nI, decide_eq_false_iff_not, decide_eq_true_eq, Bool.true_eq_false, Bool.false_eq_true, bq, if_pos, if_neg, if_true, if_false, lq, Nat.reduceAdd, Nat.reduceMul, Nat.reduceSub, Nat.reduceDiv, Nat.reduceMod]
theorem m_far136 {S : cpS} {d : Nat → Nat → Nat} (h : fr S d) : ∃ T, fX12_laysFar_136 cpFu (nI 0) S = some ((), T) ∧ fr T (cpFarK d 6) ∧ Kp k155 S T := by
  refine up_lpR (F := fun n b (T : cpS) => fX12_laysFar_136 n b T) (K := fun T => some ((), T)) 6 (fun _ (s : Unit) => s) (fun b _ T => fr T (cpFarK d b) ∧ Kp k155 S T) (by decide) (fun n b s T hb hI => ?_) (fun n s T hI => ?_) (i0 := 0) (s := ()) (a := S) (Nat.zero_le _) ⟨h, Kp.rf⟩
  · obtain ⟨i1, i2⟩ := hI
    obtain ⟨U, u1, u2, u3⟩ := m_far144 (k := b) i1 hb (fX12_laysFar_136 n)
    refine ⟨U, ?_, u2, i2.tr u3⟩
    (try dsimp only)
    rw [fX12_laysFar_136]
    simp (disch := omega) only [lit, lm1, nI_add, pk_mul, nm_eq, nm_eq', nm_lt, nm_lt', nm_le, nm_le', x_lt, x_le, x_eq, x_in, x_cl, x_div, x_sub, x_rem, x_min, x_max, x_and, x_or, x_xor, x_df, x_shl, bI_0, bI_1, bI_bo, lg_eq, toL_inj, ls_nI, decide_eq_false_iff_not, decide_eq_true_eq, Bool.true_eq_false, Bool.false_eq_true, bq, if_pos, if_neg, if_true, if_false, lq, Nat.reduceAdd, Nat.reduceMul, Nat.reduceSub, Nat.reduceDiv, Nat.reduceMod, u1]
  · (try dsimp only)
    rw [fX12_laysFar_136]
    simp (disch := omega) only [lit, lm1, nI_add, pk_mul, nm_eq, nm_eq', nm_lt, nm_lt', nm_le, nm_le', x_lt, x_le, x_eq, x_in, x_cl, x_div, x_sub, x_rem, x_min, x_max, x_and, x_or, x_xor, x_df, x_shl, bI_0, bI_1, bI_bo, lg_eq, toL_inj, ls_nI, decide_eq_false_iff_not, decide_eq_true_eq, Bool.true_eq_false, Bool.false_eq_true, bq, if_pos, if_neg, if_true, if_false, lq, Nat.reduceAdd, Nat.reduceMul, Nat.reduceSub, Nat.reduceDiv, Nat.reduceMod]
theorem k155_ne {k j : Nat} (h : k155 k j) : k ≠ 151 := fun e => by unfold k155 at h; omega
theorem m_far52 {D : cpD} {E : cpE} {S : cpS} (hD : D.WF) (m : mA D E S) (h : fr S cpFar0) : ∃ T, fX12_laysFar_52 cpFu (nI 0) S = some ((), T) ∧ fr T (cpFar D.rd D.R) ∧ Kp k155 S T := by
  have r9 := hD.r9
  have k6 := hD.k6
  obtain ⟨A, a1, a2, a3⟩ : ∃ A, fX12_laysFar_52 cpFu (nI 0) S = fX12_laysFar_136 cpFu (nI 0) A ∧ fr A (cpFarR D.rd D.R) ∧ Kp k155 S A := by
    refine up_lpR (F := fun n b (T : cpS) => fX12_laysFar_52 n b T) (K := fun T => fX12_laysFar_136 cpFu (nI 0) T) D.R (fun _ (s : Unit) => s) (fun b _ T => fr T (cpFarR D.rd b) ∧ Kp k155 S T) (by omega) (fun n r s T hr hI => ?_) (fun n s T hI => ?_) (i0 := 0) (s := ()) (a := S) (Nat.zero_le _) ⟨h, Kp.rf⟩
    · obtain ⟨i1, i2⟩ := hI
      have mT : mA D E T := m.kp hD i2 (fun _ _ => k155_ne)
      obtain ⟨w1, w2, -, w3, w4⟩ := hD.rd r hr
      have lg : ∀ T : cpS, mA D E T → fX12_longOf (nI r) T = some (nI (D.rd r).2.2, T) := fun T mT => by
        unfold fX12_longOf
        simp (disch := omega) only [lit, lm1, nI_add, pk_mul, nm_eq, nm_eq', nm_lt, nm_lt', nm_le, nm_le', x_lt, x_le, x_eq, x_in, x_cl, x_div, x_sub, x_rem, x_min, x_max, x_and, x_or, x_xor, x_df, x_shl, bI_0, bI_1, bI_bo, lg_eq, toL_inj, ls_nI, decide_eq_false_iff_not, decide_eq_true_eq, Bool.true_eq_false, Bool.false_eq_true, bq, if_pos, if_neg, if_true, if_false, lq, Nat.reduceAdd, Nat.reduceMul, Nat.reduceSub, Nat.reduceDiv, Nat.reduceMod, mT.r3]
      obtain ⟨U, u1, u2, u3⟩ := m_nearer (a := (D.rd r).1) (b := (D.rd r).2.1) (n := (D.rd r).2.2) i1 (by omega) (by omega) (by omega)
      have mU : mA D E U := mT.kp hD u3 (fun _ _ => k155_ne)
      obtain ⟨V, v1, v2, v3⟩ := m_nearer (a := (D.rd r).2.1) (b := (D.rd r).1) (n := (D.rd r).2.2) u2 (by omega) (by omega) (by omega)
      refine ⟨V, ?_, v2, (i2.tr u3).tr v3⟩
      (try dsimp only)
      rw [fX12_laysFar_52]
      simp (disch := omega) only [lit, lm1, nI_add, pk_mul, nm_eq, nm_eq', nm_lt, nm_lt', nm_le, nm_le', x_lt, x_le, x_eq, x_in, x_cl, x_div, x_sub, x_rem, x_min, x_max, x_and, x_or, x_xor, x_df, x_shl, bI_0, bI_1, bI_bo, lg_eq, toL_inj, ls_nI, decide_eq_false_iff_not, decide_eq_true_eq, Bool.true_eq_false, Bool.false_eq_true, bq, if_pos, if_neg, if_true, if_false, lq, Nat.reduceAdd, Nat.reduceMul, Nat.reduceSub, Nat.reduceDiv, Nat.reduceMod, mT.R, mT.r1, mT.r2, lg T mT, u1, lg U mU, mU.r1, mU.r2, v1]
    · have mT : mA D E T := m.kp hD hI.2 (fun _ _ => k155_ne)
      (try dsimp only)
      rw [fX12_laysFar_52]
      simp (disch := omega) only [lit, lm1, nI_add, pk_mul, nm_eq, nm_eq', nm_lt, nm_lt', nm_le, nm_le', x_lt, x_le, x_eq, x_in, x_cl, x_div, x_sub, x_rem, x_min, x_max, x_and, x_or, x_xor, x_df, x_shl, bI_0, bI_1, bI_bo, lg_eq, toL_inj, ls_nI, decide_eq_false_iff_not, decide_eq_true_eq, Bool.true_eq_false, Bool.false_eq_true, bq, if_pos, if_neg, if_true, if_false, lq, Nat.reduceAdd, Nat.reduceMul, Nat.reduceSub, Nat.reduceDiv, Nat.reduceMod, mT.R]
  obtain ⟨B, b1, b2, b3⟩ := m_far136 a2
  exact ⟨B, a1.trans b1, b2, a3.tr b3⟩
/-- what the first a rows of the table are -/
theorem m_far10 {S : cpS} {a : Nat} (h : ∀ x y, x < a → y < 6 → S.1 155 (6 * x + y) = nI (cpFar0 x y)) (ha : a < 6) (k1 : Int32 → cpS → Option (Unit × cpS)) : ∃ T, fX12_laysFar_10 (nI a) k1 cpFu (nI 0) S = k1 (nI (a + 1)) T ∧ (∀ x y, x < a + 1 → y < 6 → T.1 155 (6 * x + y) = nI (cpFar0 x y)) ∧ Kp k155 S T := by
  have := up_lpR (F := fun n b (T : cpS) => fX12_laysFar_10 (nI a) k1 n b T) (K := fun T => k1 (nI (a + 1)) T) 6 (fun _ (s : Unit) => s) (fun b _ T => (∀ x y, (x < a ∧ y < 6) ∨ (x = a ∧ y < b) → T.1 155 (6 * x + y) = nI (cpFar0 x y)) ∧ Kp k155 S T) (by decide) (fun n b s T hb hI => ?_) (fun n s T hI => ?_) (i0 := 0) (s := ()) (a := S) (Nat.zero_le _) ⟨fun x y hx => h x y (by omega) (by omega), Kp.rf⟩
  · obtain ⟨T, t1, t2, t3⟩ := this
    exact ⟨T, t1, fun x y hx hy => t2 x y (by omega), t3⟩
  · obtain ⟨i1, i2⟩ := hI
    refine ⟨cpI T 155 (6 * a + b) (nI (cpFar0 a b)), ?_, fun x y hx => ?_, i2.I (by exact rfl)⟩
    · (try dsimp only)
      rw [fX12_laysFar_10]
      unfold cpFar0
      by_cases e : a = b
      · subst e; simp (disch := omega) only [lit, lm1, nI_add, pk_mul, nm_eq, nm_eq', nm_lt, nm_lt', nm_le, nm_le', x_lt, x_le, x_eq, x_in, x_cl, x_div, x_sub, x_rem, x_min, x_max, x_and, x_or, x_xor, x_df, x_shl, bI_0, bI_1, bI_bo, lg_eq, toL_inj, ls_nI, decide_eq_false_iff_not, decide_eq_true_eq, Bool.true_eq_false, Bool.false_eq_true, bq, if_pos, if_neg, if_true, if_false, lq, Nat.reduceAdd, Nat.reduceMul, Nat.reduceSub, Nat.reduceDiv, Nat.reduceMod]
      · simp (disch := omega) only [lit, lm1, nI_add, pk_mul, nm_eq, nm_eq', nm_lt, nm_lt', nm_le, nm_le', x_lt, x_le, x_eq, x_in, x_cl, x_div, x_sub, x_rem, x_min, x_max, x_and, x_or, x_xor, x_df, x_shl, bI_0, bI_1, bI_bo, lg_eq, toL_inj, ls_nI, decide_eq_false_iff_not, decide_eq_true_eq, Bool.true_eq_false, Bool.false_eq_true, bq, if_pos, if_neg, if_true, if_false, lq, Nat.reduceAdd, Nat.reduceMul, Nat.reduceSub, Nat.reduceDiv, Nat.reduceMod, e]
    · by_cases e : x = a ∧ y = b
      · obtain ⟨rfl, rfl⟩ := e; exact sI1
      · rw [sIn (Or.inr (by omega))]; exact i1 x y (by omega)
  · (try dsimp only)
    rw [fX12_laysFar_10]
    simp (disch := omega) only [lit, lm1, nI_add, pk_mul, nm_eq, nm_eq', nm_lt, nm_lt', nm_le, nm_le', x_lt, x_le, x_eq, x_in, x_cl, x_div, x_sub, x_rem, x_min, x_max, x_and, x_or, x_xor, x_df, x_shl, bI_0, bI_1, bI_bo, lg_eq, toL_inj, ls_nI, decide_eq_false_iff_not, decide_eq_true_eq, Bool.true_eq_false, Bool.false_eq_true, bq, if_pos, if_neg, if_true, if_false, lq, Nat.reduceAdd, Nat.reduceMul, Nat.reduceSub, Nat.reduceDiv, Nat.reduceMod]
theorem far0_le (a b : Nat) : cpFar0 a b ≤ 99 := by unfold cpFar0; by_cases h : a = b <;> simp [h]
theorem m_laysFar {D : cpD} {E : cpE} {S : cpS} (hD : D.WF) (m : mA D E S) : ∃ T, fX12_laysFar S = some ((), T) ∧ fr T (cpFar D.rd D.R) ∧ Kp k155 S T := by
  obtain ⟨A, a1, a2, a3⟩ : ∃ A, fX12_laysFar_2 cpFu (nI 0) S = fX12_laysFar_52 cpFu (nI 0) A ∧ (∀ x y, x < 6 → y < 6 → A.1 155 (6 * x + y) = nI (cpFar0 x y)) ∧ Kp k155 S A := by
    refine up_lpR (F := fun n b (T : cpS) => fX12_laysFar_2 n b T) (K := fun T => fX12_laysFar_52 cpFu (nI 0) T) 6 (fun _ (s : Unit) => s) (fun b _ T => (∀ x y, x < b → y < 6 → T.1 155 (6 * x + y) = nI (cpFar0 x y)) ∧ Kp k155 S T) (by decide) (fun n b s T hb hI => ?_) (fun n s T hI => ?_) (i0 := 0) (s := ()) (a := S) (Nat.zero_le _) ⟨fun x y hx _ => absurd hx (by omega), Kp.rf⟩
    · obtain ⟨i1, i2⟩ := hI
      obtain ⟨U, u1, u2, u3⟩ := m_far10 i1 hb (fX12_laysFar_2 n)
      refine ⟨U, ?_, u2, i2.tr u3⟩
      (try dsimp only)
      rw [fX12_laysFar_2]
      simp (disch := omega) only [lit, lm1, nI_add, pk_mul, nm_eq, nm_eq', nm_lt, nm_lt', nm_le, nm_le', x_lt, x_le, x_eq, x_in, x_cl, x_div, x_sub, x_rem, x_min, x_max, x_and, x_or, x_xor, x_df, x_shl, bI_0, bI_1, bI_bo, lg_eq, toL_inj, ls_nI, decide_eq_false_iff_not, decide_eq_true_eq, Bool.true_eq_false, Bool.false_eq_true, bq, if_pos, if_neg, if_true, if_false, lq, Nat.reduceAdd, Nat.reduceMul, Nat.reduceSub, Nat.reduceDiv, Nat.reduceMod, u1]
    · (try dsimp only)
      rw [fX12_laysFar_2]
      simp (disch := omega) only [lit, lm1, nI_add, pk_mul, nm_eq, nm_eq', nm_lt, nm_lt', nm_le, nm_le', x_lt, x_le, x_eq, x_in, x_cl, x_div, x_sub, x_rem, x_min, x_max, x_and, x_or, x_xor, x_df, x_shl, bI_0, bI_1, bI_bo, lg_eq, toL_inj, ls_nI, decide_eq_false_iff_not, decide_eq_true_eq, Bool.true_eq_false, Bool.false_eq_true, bq, if_pos, if_neg, if_true, if_false, lq, Nat.reduceAdd, Nat.reduceMul, Nat.reduceSub, Nat.reduceDiv, Nat.reduceMod]
  obtain ⟨B, b1, b2, b3⟩ := m_far52 hD (m.kp hD a3 (fun _ _ => k155_ne)) (fun x y hx hy => ⟨a2 x y hx hy, far0_le x y⟩)
  refine ⟨B, ?_, b2, a3.tr b3⟩
  unfold fX12_laysFar
  simp only [lit]
  exact a1.trans b1
theorem k155_M {k j : Nat} (h : k155 k j) : kM k j := by
  unfold k155 at h; subst h
  exact ⟨scr_c (by decide) (by decide) (by decide) j, by decide⟩
theorem q_far : cpQ_far cpRl := by
  intro x1 x2 S hR
  refine q1 hR (fun D E hD hE => ?_)
  have k6 := hD.k6
  rcases in_or x1 D.K with ⟨a, ha, rfl⟩ | h1
  · rcases in_or x2 D.K with ⟨b, hb, rfl⟩ | h2
    · refine ⟨nI (cpFar D.rd D.R a b), fun S c => ⟨S, ?_, Kp.rf⟩, fun S m => ?_⟩
      · have e := c.far a b ha hb
        rw [show 6 * a + b = a * 6 + b by omega] at e
        unfold fX11_far fX10_distance
        simp (disch := omega) only [lit, lm1, nI_add, pk_mul, nm_eq, nm_eq', nm_lt, nm_lt', nm_le, nm_le', x_lt, x_le, x_eq, x_in, x_cl, x_div, x_sub, x_rem, x_min, x_max, x_and, x_or, x_xor, x_df, x_shl, bI_0, bI_1, bI_bo, lg_eq, toL_inj, ls_nI, decide_eq_false_iff_not, decide_eq_true_eq, Bool.true_eq_false, Bool.false_eq_true, bq, if_pos, if_neg, if_true, if_false, lq, Nat.reduceAdd, Nat.reduceMul, Nat.reduceSub, Nat.reduceDiv, Nat.reduceMod, c.hasPlace hD, e]
      · have m0 := m.thr hD (nI 0)
        obtain ⟨T, t1, t2, t3⟩ := m_laysFar hD m0
        refine ⟨T, ?_, (kM_thr S (nI 0)).tr (t3.le (fun _ _ => k155_M))⟩
        unfold fX12_far
        simp (disch := omega) only [lit, lm1, nI_add, pk_mul, nm_eq, nm_eq', nm_lt, nm_lt', nm_le, nm_le', x_lt, x_le, x_eq, x_in, x_cl, x_div, x_sub, x_rem, x_min, x_max, x_and, x_or, x_xor, x_df, x_shl, bI_0, bI_1, bI_bo, lg_eq, toL_inj, ls_nI, decide_eq_false_iff_not, decide_eq_true_eq, Bool.true_eq_false, Bool.false_eq_true, bq, if_pos, if_neg, if_true, if_false, lq, Nat.reduceAdd, Nat.reduceMul, Nat.reduceSub, Nat.reduceDiv, Nat.reduceMod, m0.isPlace hD, t1, (t2 a b (by omega) (by omega)).1]
    · refine ⟨-2, fun S c => ⟨S, ?_, Kp.rf⟩, fun S m => ⟨_, ?_, kM_thr S (nI 0)⟩⟩
      · unfold fX11_far
        simp (disch := omega) only [lit, lm1, nI_add, pk_mul, nm_eq, nm_eq', nm_lt, nm_lt', nm_le, nm_le', x_lt, x_le, x_eq, x_in, x_cl, x_div, x_sub, x_rem, x_min, x_max, x_and, x_or, x_xor, x_df, x_shl, bI_0, bI_1, bI_bo, lg_eq, toL_inj, ls_nI, decide_eq_false_iff_not, decide_eq_true_eq, Bool.true_eq_false, Bool.false_eq_true, bq, if_pos, if_neg, if_true, if_false, lq, Nat.reduceAdd, Nat.reduceMul, Nat.reduceSub, Nat.reduceDiv, Nat.reduceMod, c.hasPlace hD, h2]
      · unfold fX12_far
        simp (disch := omega) only [lit, lm1, nI_add, pk_mul, nm_eq, nm_eq', nm_lt, nm_lt', nm_le, nm_le', x_lt, x_le, x_eq, x_in, x_cl, x_div, x_sub, x_rem, x_min, x_max, x_and, x_or, x_xor, x_df, x_shl, bI_0, bI_1, bI_bo, lg_eq, toL_inj, ls_nI, decide_eq_false_iff_not, decide_eq_true_eq, Bool.true_eq_false, Bool.false_eq_true, bq, if_pos, if_neg, if_true, if_false, lq, Nat.reduceAdd, Nat.reduceMul, Nat.reduceSub, Nat.reduceDiv, Nat.reduceMod, (m.thr hD (nI 0)).isPlace hD, h2]
  · refine ⟨-2, fun S c => ⟨S, ?_, Kp.rf⟩, fun S m => ⟨_, ?_, kM_thr S (nI 0)⟩⟩
    · unfold fX11_far
      simp (disch := omega) only [lit, lm1, nI_add, pk_mul, nm_eq, nm_eq', nm_lt, nm_lt', nm_le, nm_le', x_lt, x_le, x_eq, x_in, x_cl, x_div, x_sub, x_rem, x_min, x_max, x_and, x_or, x_xor, x_df, x_shl, bI_0, bI_1, bI_bo, lg_eq, toL_inj, ls_nI, decide_eq_false_iff_not, decide_eq_true_eq, Bool.true_eq_false, Bool.false_eq_true, bq, if_pos, if_neg, if_true, if_false, lq, Nat.reduceAdd, Nat.reduceMul, Nat.reduceSub, Nat.reduceDiv, Nat.reduceMod, c.hasPlace hD, h1]
    · unfold fX12_far
      simp (disch := omega) only [lit, lm1, nI_add, pk_mul, nm_eq, nm_eq', nm_lt, nm_lt', nm_le, nm_le', x_lt, x_le, x_eq, x_in, x_cl, x_div, x_sub, x_rem, x_min, x_max, x_and, x_or, x_xor, x_df, x_shl, bI_0, bI_1, bI_bo, lg_eq, toL_inj, ls_nI, decide_eq_false_iff_not, decide_eq_true_eq, Bool.true_eq_false, Bool.false_eq_true, bq, if_pos, if_neg, if_true, if_false, lq, Nat.reduceAdd, Nat.reduceMul, Nat.reduceSub, Nat.reduceDiv, Nat.reduceMod, (m.thr hD (nI 0)).isPlace hD, h1]
