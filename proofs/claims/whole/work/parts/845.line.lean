/-! a line, its end, all lines -/
section LI
variable {t : Nat → Nat} {L s : Nat} {S M : cpS}
theorem bo1 : cpBo (nI 1) = true := by decide
theorem bo0 : cpBo (nI 0) = true := by decide
theorem Lo.of {rc rc' : Option (Int32 × cpS)} {rm rm' : Option (Unit × cpS)} (h : Lo t L s S M rc rm) (hc : ∀ z T, z = nI 1 ∨ z = nI 0 → rc = some (z, T) → rc' = some (z, T)) (hm : ∀ T, rm = some ((), T) → rm' = some ((), T)) : Lo t L s S M rc' rm' := by
  rcases h with ⟨s', S', M', h1, h2, h3⟩ | ⟨S', M', h1, h2, h3⟩
  · exact Or.inl ⟨s', S', M', hc _ _ (Or.inl rfl) h1, hm _ h2, h3⟩
  · exact Or.inr ⟨S', M', hc _ _ (Or.inr rfl) h1, hm _ h2, h3⟩
theorem cl_1 {z : Int32} {T : cpS}  (h : fX7_isWord 4 S = some (nI 1, S)) (e : fX7_readRoad S = some (z, T)) (b : cpBo z = true) : fX7_readLine S = some (z, T) := by unfold fX7_readLine; simp (disch := omega) only [lit, lm1, nI_add, pk_mul, nm_eq, nm_eq', nm_lt, nm_lt', nm_le, nm_le', x_lt, x_le, x_eq, x_in, x_cl, x_div, x_sub, x_rem, x_min, x_max, x_and, x_or, x_xor, x_df, x_shl, bI_0, bI_1, bI_bo, lg_eq, toL_inj, ls_nI, decide_eq_false_iff_not, decide_eq_true_eq, Bool.true_eq_false, Bool.false_eq_true, bq, if_pos, if_neg, if_true, if_false, lq, Nat.reduceAdd, Nat.reduceMul, Nat.reduceSub, Nat.reduceDiv, Nat.reduceMod, h, e, b]
theorem ml_1 {T : cpS} (m11 : M.1 150 11 = nI 0)  (h : fX12_is (nI 3) M = some (nI 1, M)) (e : fX12_readRoad M = some ((), T)) : fX12_readLine M = some ((), T) := by unfold fX12_readLine; simp (disch := omega) only [lit, lm1, nI_add, pk_mul, nm_eq, nm_eq', nm_lt, nm_lt', nm_le, nm_le', x_lt, x_le, x_eq, x_in, x_cl, x_div, x_sub, x_rem, x_min, x_max, x_and, x_or, x_xor, x_df, x_shl, bI_0, bI_1, bI_bo, lg_eq, toL_inj, ls_nI, decide_eq_false_iff_not, decide_eq_true_eq, Bool.true_eq_false, Bool.false_eq_true, bq, if_pos, if_neg, if_true, if_false, lq, Nat.reduceAdd, Nat.reduceMul, Nat.reduceSub, Nat.reduceDiv, Nat.reduceMod, m11, h, e]
theorem cl_2 {z : Int32} {T : cpS} (i1 : fX7_isWord 4 S = some (nI 0, S)) (h : fX7_isWord 6 S = some (nI 1, S)) (e : fX7_readPerson S = some (z, T)) (b : cpBo z = true) : fX7_readLine S = some (z, T) := by unfold fX7_readLine; simp (disch := omega) only [lit, lm1, nI_add, pk_mul, nm_eq, nm_eq', nm_lt, nm_lt', nm_le, nm_le', x_lt, x_le, x_eq, x_in, x_cl, x_div, x_sub, x_rem, x_min, x_max, x_and, x_or, x_xor, x_df, x_shl, bI_0, bI_1, bI_bo, lg_eq, toL_inj, ls_nI, decide_eq_false_iff_not, decide_eq_true_eq, Bool.true_eq_false, Bool.false_eq_true, bq, if_pos, if_neg, if_true, if_false, lq, Nat.reduceAdd, Nat.reduceMul, Nat.reduceSub, Nat.reduceDiv, Nat.reduceMod, i1, h, e, b]
theorem ml_2 {T : cpS} (m11 : M.1 150 11 = nI 0) (j1 : fX12_is (nI 3) M = some (nI 0, M)) (h : fX12_is (nI 5) M = some (nI 1, M)) (e : fX12_readPerson M = some ((), T)) : fX12_readLine M = some ((), T) := by unfold fX12_readLine; simp (disch := omega) only [lit, lm1, nI_add, pk_mul, nm_eq, nm_eq', nm_lt, nm_lt', nm_le, nm_le', x_lt, x_le, x_eq, x_in, x_cl, x_div, x_sub, x_rem, x_min, x_max, x_and, x_or, x_xor, x_df, x_shl, bI_0, bI_1, bI_bo, lg_eq, toL_inj, ls_nI, decide_eq_false_iff_not, decide_eq_true_eq, Bool.true_eq_false, Bool.false_eq_true, bq, if_pos, if_neg, if_true, if_false, lq, Nat.reduceAdd, Nat.reduceMul, Nat.reduceSub, Nat.reduceDiv, Nat.reduceMod, m11, j1, h, e]
theorem cl_3 {z : Int32} {T : cpS} (i1 : fX7_isWord 4 S = some (nI 0, S)) (i2 : fX7_isWord 6 S = some (nI 0, S)) (h : fX7_isWord 9 S = some (nI 1, S)) (e : fX7_readQuarrel S = some (z, T)) (b : cpBo z = true) : fX7_readLine S = some (z, T) := by unfold fX7_readLine; simp (disch := omega) only [lit, lm1, nI_add, pk_mul, nm_eq, nm_eq', nm_lt, nm_lt', nm_le, nm_le', x_lt, x_le, x_eq, x_in, x_cl, x_div, x_sub, x_rem, x_min, x_max, x_and, x_or, x_xor, x_df, x_shl, bI_0, bI_1, bI_bo, lg_eq, toL_inj, ls_nI, decide_eq_false_iff_not, decide_eq_true_eq, Bool.true_eq_false, Bool.false_eq_true, bq, if_pos, if_neg, if_true, if_false, lq, Nat.reduceAdd, Nat.reduceMul, Nat.reduceSub, Nat.reduceDiv, Nat.reduceMod, i1, i2, h, e, b]
theorem ml_3 {T : cpS} (m11 : M.1 150 11 = nI 0) (j1 : fX12_is (nI 3) M = some (nI 0, M)) (j2 : fX12_is (nI 5) M = some (nI 0, M)) (h : fX12_is (nI 8) M = some (nI 1, M)) (e : fX12_readQuarrel M = some ((), T)) : fX12_readLine M = some ((), T) := by unfold fX12_readLine; simp (disch := omega) only [lit, lm1, nI_add, pk_mul, nm_eq, nm_eq', nm_lt, nm_lt', nm_le, nm_le', x_lt, x_le, x_eq, x_in, x_cl, x_div, x_sub, x_rem, x_min, x_max, x_and, x_or, x_xor, x_df, x_shl, bI_0, bI_1, bI_bo, lg_eq, toL_inj, ls_nI, decide_eq_false_iff_not, decide_eq_true_eq, Bool.true_eq_false, Bool.false_eq_true, bq, if_pos, if_neg, if_true, if_false, lq, Nat.reduceAdd, Nat.reduceMul, Nat.reduceSub, Nat.reduceDiv, Nat.reduceMod, m11, j1, j2, h, e]
theorem cl_4 {z : Int32} {T : cpS} (i1 : fX7_isWord 4 S = some (nI 0, S)) (i2 : fX7_isWord 6 S = some (nI 0, S)) (i3 : fX7_isWord 9 S = some (nI 0, S)) (h : fX7_isWord 10 S = some (nI 1, S)) (e : fX7_readCoin S = some (z, T)) (b : cpBo z = true) : fX7_readLine S = some (z, T) := by unfold fX7_readLine; simp (disch := omega) only [lit, lm1, nI_add, pk_mul, nm_eq, nm_eq', nm_lt, nm_lt', nm_le, nm_le', x_lt, x_le, x_eq, x_in, x_cl, x_div, x_sub, x_rem, x_min, x_max, x_and, x_or, x_xor, x_df, x_shl, bI_0, bI_1, bI_bo, lg_eq, toL_inj, ls_nI, decide_eq_false_iff_not, decide_eq_true_eq, Bool.true_eq_false, Bool.false_eq_true, bq, if_pos, if_neg, if_true, if_false, lq, Nat.reduceAdd, Nat.reduceMul, Nat.reduceSub, Nat.reduceDiv, Nat.reduceMod, i1, i2, i3, h, e, b]
theorem ml_4 {T : cpS} (m11 : M.1 150 11 = nI 0) (j1 : fX12_is (nI 3) M = some (nI 0, M)) (j2 : fX12_is (nI 5) M = some (nI 0, M)) (j3 : fX12_is (nI 8) M = some (nI 0, M)) (h : fX12_is (nI 9) M = some (nI 1, M)) (e : fX12_readCoin M = some ((), T)) : fX12_readLine M = some ((), T) := by unfold fX12_readLine; simp (disch := omega) only [lit, lm1, nI_add, pk_mul, nm_eq, nm_eq', nm_lt, nm_lt', nm_le, nm_le', x_lt, x_le, x_eq, x_in, x_cl, x_div, x_sub, x_rem, x_min, x_max, x_and, x_or, x_xor, x_df, x_shl, bI_0, bI_1, bI_bo, lg_eq, toL_inj, ls_nI, decide_eq_false_iff_not, decide_eq_true_eq, Bool.true_eq_false, Bool.false_eq_true, bq, if_pos, if_neg, if_true, if_false, lq, Nat.reduceAdd, Nat.reduceMul, Nat.reduceSub, Nat.reduceDiv, Nat.reduceMod, m11, j1, j2, j3, h, e]
theorem cl_5 {z : Int32} {T : cpS} (i1 : fX7_isWord 4 S = some (nI 0, S)) (i2 : fX7_isWord 6 S = some (nI 0, S)) (i3 : fX7_isWord 9 S = some (nI 0, S)) (i4 : fX7_isWord 10 S = some (nI 0, S)) (h : fX7_isWord 13 S = some (nI 1, S)) (e : fX7_readMay S = some (z, T)) (b : cpBo z = true) : fX7_readLine S = some (z, T) := by unfold fX7_readLine; simp (disch := omega) only [lit, lm1, nI_add, pk_mul, nm_eq, nm_eq', nm_lt, nm_lt', nm_le, nm_le', x_lt, x_le, x_eq, x_in, x_cl, x_div, x_sub, x_rem, x_min, x_max, x_and, x_or, x_xor, x_df, x_shl, bI_0, bI_1, bI_bo, lg_eq, toL_inj, ls_nI, decide_eq_false_iff_not, decide_eq_true_eq, Bool.true_eq_false, Bool.false_eq_true, bq, if_pos, if_neg, if_true, if_false, lq, Nat.reduceAdd, Nat.reduceMul, Nat.reduceSub, Nat.reduceDiv, Nat.reduceMod, i1, i2, i3, i4, h, e, b]
theorem ml_5 {T : cpS} (m11 : M.1 150 11 = nI 0) (m9 : M.1 150 9 = nI 12) (j1 : fX12_is (nI 3) M = some (nI 0, M)) (j2 : fX12_is (nI 5) M = some (nI 0, M)) (j3 : fX12_is (nI 8) M = some (nI 0, M)) (j4 : fX12_is (nI 9) M = some (nI 0, M)) (h : fX12_is (nI 12) M = some (nI 1, M)) (e : fX12_readLaw (nI 0) M = some ((), T)) : fX12_readLine M = some ((), T) := by unfold fX12_readLine; simp (disch := omega) only [lit, lm1, nI_add, pk_mul, nm_eq, nm_eq', nm_lt, nm_lt', nm_le, nm_le', x_lt, x_le, x_eq, x_in, x_cl, x_div, x_sub, x_rem, x_min, x_max, x_and, x_or, x_xor, x_df, x_shl, bI_0, bI_1, bI_bo, lg_eq, toL_inj, ls_nI, decide_eq_false_iff_not, decide_eq_true_eq, Bool.true_eq_false, Bool.false_eq_true, bq, if_pos, if_neg, if_true, if_false, lq, Nat.reduceAdd, Nat.reduceMul, Nat.reduceSub, Nat.reduceDiv, Nat.reduceMod, m11, j1, j2, j3, j4, h, m9, e]
theorem cl_6 {z : Int32} {T : cpS} (i1 : fX7_isWord 4 S = some (nI 0, S)) (i2 : fX7_isWord 6 S = some (nI 0, S)) (i3 : fX7_isWord 9 S = some (nI 0, S)) (i4 : fX7_isWord 10 S = some (nI 0, S)) (i5 : fX7_isWord 13 S = some (nI 0, S)) (h : fX7_isWord 23 S = some (nI 1, S)) (e : fX7_readWears S = some (z, T)) (b : cpBo z = true) : fX7_readLine S = some (z, T) := by unfold fX7_readLine; simp (disch := omega) only [lit, lm1, nI_add, pk_mul, nm_eq, nm_eq', nm_lt, nm_lt', nm_le, nm_le', x_lt, x_le, x_eq, x_in, x_cl, x_div, x_sub, x_rem, x_min, x_max, x_and, x_or, x_xor, x_df, x_shl, bI_0, bI_1, bI_bo, lg_eq, toL_inj, ls_nI, decide_eq_false_iff_not, decide_eq_true_eq, Bool.true_eq_false, Bool.false_eq_true, bq, if_pos, if_neg, if_true, if_false, lq, Nat.reduceAdd, Nat.reduceMul, Nat.reduceSub, Nat.reduceDiv, Nat.reduceMod, i1, i2, i3, i4, i5, h, e, b]
theorem ml_6 {T : cpS} (m11 : M.1 150 11 = nI 0) (m9 : M.1 150 9 = nI 13) (j1 : fX12_is (nI 3) M = some (nI 0, M)) (j2 : fX12_is (nI 5) M = some (nI 0, M)) (j3 : fX12_is (nI 8) M = some (nI 0, M)) (j4 : fX12_is (nI 9) M = some (nI 0, M)) (j5 : fX12_is (nI 12) M = some (nI 0, M)) (h : fX12_is (nI 13) M = some (nI 1, M)) (e : fX12_readLaw (nI 1) M = some ((), T)) : fX12_readLine M = some ((), T) := by unfold fX12_readLine; simp (disch := omega) only [lit, lm1, nI_add, pk_mul, nm_eq, nm_eq', nm_lt, nm_lt', nm_le, nm_le', x_lt, x_le, x_eq, x_in, x_cl, x_div, x_sub, x_rem, x_min, x_max, x_and, x_or, x_xor, x_df, x_shl, bI_0, bI_1, bI_bo, lg_eq, toL_inj, ls_nI, decide_eq_false_iff_not, decide_eq_true_eq, Bool.true_eq_false, Bool.false_eq_true, bq, if_pos, if_neg, if_true, if_false, lq, Nat.reduceAdd, Nat.reduceMul, Nat.reduceSub, Nat.reduceDiv, Nat.reduceMod, m11, j1, j2, j3, j4, j5, h, m9, e]
theorem cl_7 {T : cpS} (i1 : fX7_isWord 4 S = some (nI 0, S)) (i2 : fX7_isWord 6 S = some (nI 0, S)) (i3 : fX7_isWord 9 S = some (nI 0, S)) (i4 : fX7_isWord 10 S = some (nI 0, S)) (i5 : fX7_isWord 13 S = some (nI 0, S)) (i6 : fX7_isWord 23 S = some (nI 0, S)) (e : fX7_refuse (nI 2) S = some (nI 0, T)) : fX7_readLine S = some (nI 0, T) := by unfold fX7_readLine; simp (disch := omega) only [lit, lm1, nI_add, pk_mul, nm_eq, nm_eq', nm_lt, nm_lt', nm_le, nm_le', x_lt, x_le, x_eq, x_in, x_cl, x_div, x_sub, x_rem, x_min, x_max, x_and, x_or, x_xor, x_df, x_shl, bI_0, bI_1, bI_bo, lg_eq, toL_inj, ls_nI, decide_eq_false_iff_not, decide_eq_true_eq, Bool.true_eq_false, Bool.false_eq_true, bq, if_pos, if_neg, if_true, if_false, lq, Nat.reduceAdd, Nat.reduceMul, Nat.reduceSub, Nat.reduceDiv, Nat.reduceMod, i1, i2, i3, i4, i5, i6, e, bo0]
theorem ml_7 {T : cpS} (m11 : M.1 150 11 = nI 0) (j1 : fX12_is (nI 3) M = some (nI 0, M)) (j2 : fX12_is (nI 5) M = some (nI 0, M)) (j3 : fX12_is (nI 8) M = some (nI 0, M)) (j4 : fX12_is (nI 9) M = some (nI 0, M)) (j5 : fX12_is (nI 12) M = some (nI 0, M)) (j6 : fX12_is (nI 13) M = some (nI 0, M)) (e : fX12_fails (nI 2) M = some ((), T)) : fX12_readLine M = some ((), T) := by unfold fX12_readLine; simp (disch := omega) only [lit, lm1, nI_add, pk_mul, nm_eq, nm_eq', nm_lt, nm_lt', nm_le, nm_le', x_lt, x_le, x_eq, x_in, x_cl, x_div, x_sub, x_rem, x_min, x_max, x_and, x_or, x_xor, x_df, x_shl, bI_0, bI_1, bI_bo, lg_eq, toL_inj, ls_nI, decide_eq_false_iff_not, decide_eq_true_eq, Bool.true_eq_false, Bool.false_eq_true, bq, if_pos, if_neg, if_true, if_false, lq, Nat.reduceAdd, Nat.reduceMul, Nat.reduceSub, Nat.reduceDiv, Nat.reduceMod, m11, j1, j2, j3, j4, j5, j6, e]
theorem l_line (hx : Lx t L s S M) : Lo t L s S M (fX7_readLine S) (fX12_readLine M) := by
  obtain ⟨l, K, R, P, C, hh, hl⟩ := hx
  have m11 := hl.rp.m11
  have m9 := hl.rp.m9
  have bb : ∀ z, z = nI 1 ∨ z = nI 0 → cpBo z = true := fun z h => by
    rcases h with h | h <;> rw [h] <;> decide
  have i1 := hl.rp.isW (k := 4) (by decide) (by decide)
  rw [show kWd 4 = 3 from rfl] at i1
  have j1 := hl.rp.mis (w := 3) (by decide)
  by_cases e1 : kyE t L s = 3
  · rw [decide_eq_true e1] at i1 j1
    exact (l_road hl e1).of (fun z T hz e => cl_1  i1 e (bb z hz)) (fun T e => ml_1 m11   j1 e)
  rw [decide_eq_false e1] at i1 j1
  have i2 := hl.rp.isW (k := 6) (by decide) (by decide)
  rw [show kWd 6 = 5 from rfl] at i2
  have j2 := hl.rp.mis (w := 5) (by decide)
  by_cases e2 : kyE t L s = 5
  · rw [decide_eq_true e2] at i2 j2
    exact (l_person hl e2).of (fun z T hz e => cl_2 i1 i2 e (bb z hz)) (fun T e => ml_2 m11  j1 j2 e)
  rw [decide_eq_false e2] at i2 j2
  have i3 := hl.rp.isW (k := 9) (by decide) (by decide)
  rw [show kWd 9 = 8 from rfl] at i3
  have j3 := hl.rp.mis (w := 8) (by decide)
  by_cases e3 : kyE t L s = 8
  · rw [decide_eq_true e3] at i3 j3
    exact (l_quarrel hl e3).of (fun z T hz e => cl_3 i1 i2 i3 e (bb z hz)) (fun T e => ml_3 m11  j1 j2 j3 e)
  rw [decide_eq_false e3] at i3 j3
  have i4 := hl.rp.isW (k := 10) (by decide) (by decide)
  rw [show kWd 10 = 9 from rfl] at i4
  have j4 := hl.rp.mis (w := 9) (by decide)
  by_cases e4 : kyE t L s = 9
  · rw [decide_eq_true e4] at i4 j4
    exact (l_coin hl e4).of (fun z T hz e => cl_4 i1 i2 i3 i4 e (bb z hz)) (fun T e => ml_4 m11  j1 j2 j3 j4 e)
  rw [decide_eq_false e4] at i4 j4
  have i5 := hl.rp.isW (k := 13) (by decide) (by decide)
  rw [show kWd 13 = 12 from rfl] at i5
  have j5 := hl.rp.mis (w := 12) (by decide)
  by_cases e5 : kyE t L s = 12
  · rw [decide_eq_true e5] at i5 j5
    rw [e5] at m9
    exact (l_may hl e5).of (fun z T hz e => cl_5 i1 i2 i3 i4 i5 e (bb z hz)) (fun T e => ml_5 m11 m9 j1 j2 j3 j4 j5 e)
  rw [decide_eq_false e5] at i5 j5
  have i6 := hl.rp.isW (k := 23) (by decide) (by decide)
  rw [show kWd 23 = 13 from rfl] at i6
  have j6 := hl.rp.mis (w := 13) (by decide)
  by_cases e6 : kyE t L s = 13
  · rw [decide_eq_true e6] at i6 j6
    rw [e6] at m9
    exact (l_wears hl e6).of (fun z T hz e => cl_6 i1 i2 i3 i4 i5 i6 e (bb z hz)) (fun T e => ml_6 m11 m9 j1 j2 j3 j4 j5 j6 e)
  rw [decide_eq_false e6] at i6 j6
  obtain ⟨S2, M2, r1, r2, r3, r4, r5⟩ := hl.rp.refu (f := 2) (by decide) (by decide)
  exact Or.inr ⟨S2, M2, cl_7 i1 i2 i3 i4 i5 i6 r1, ml_7 m11 j1 j2 j3 j4 j5 j6 r2, r3, hl.vy.fl (kRc.f r4), kRm.v r5⟩
theorem e_end (h : Rp t L s S M) :
    (∃ S' M', fX7_takeLineEnd S = some (nI 1, cpI S' 15 2 (S.1 15 2 + nI 1)) ∧ fX12_closes M = some ((), cpI M' 154 0 (M.1 154 0 + nI 1)) ∧ Go t L s S M S' M') ∨
    (∃ S' M', fX7_takeLineEnd S = some (nI 0, S') ∧ fX12_closes M = some ((), cpI M' 154 0 (M.1 154 0 + nI 1)) ∧ Fl S M S' M') := by
  rcases h.sign (i := 0) (by decide) with ⟨S', M', e1, e2, s', g1, g2, g3, g4⟩ | ⟨S', M', e1, e2, e3, f1, f2, f3⟩
  · have e1 : fX7_takeSign (nI 59) S = some (nI 1, S') := e1
    have e2 : fX12_eats (nI 30) M = some (nI 1, M') := e2
    have c2 : S'.1 15 2 = S.1 15 2 := g3.i (by unfold kRc; omega)
    have m0 : M'.1 154 0 = M.1 154 0 := g4.i (by unfold kRm; omega)
    refine Or.inl ⟨S', M', ?_, ?_, s', g1, g2, g3, g4⟩
    · unfold fX7_takeLineEnd; simp (disch := omega) only [lit, lm1, nI_add, pk_mul, nm_eq, nm_eq', nm_lt, nm_lt', nm_le, nm_le', x_lt, x_le, x_eq, x_in, x_cl, x_div, x_sub, x_rem, x_min, x_max, x_and, x_or, x_xor, x_df, x_shl, bI_0, bI_1, bI_bo, lg_eq, toL_inj, ls_nI, decide_eq_false_iff_not, decide_eq_true_eq, Bool.true_eq_false, Bool.false_eq_true, bq, if_pos, if_neg, if_true, if_false, lq, Nat.reduceAdd, Nat.reduceMul, Nat.reduceSub, Nat.reduceDiv, Nat.reduceMod, e1, c2]
    · unfold fX12_closes fX12_closes_14; simp (disch := omega) only [lit, lm1, nI_add, pk_mul, nm_eq, nm_eq', nm_lt, nm_lt', nm_le, nm_le', x_lt, x_le, x_eq, x_in, x_cl, x_div, x_sub, x_rem, x_min, x_max, x_and, x_or, x_xor, x_df, x_shl, bI_0, bI_1, bI_bo, lg_eq, toL_inj, ls_nI, decide_eq_false_iff_not, decide_eq_true_eq, Bool.true_eq_false, Bool.false_eq_true, bq, if_pos, if_neg, if_true, if_false, lq, Nat.reduceAdd, Nat.reduceMul, Nat.reduceSub, Nat.reduceDiv, Nat.reduceMod, e2, m0]
  · have e1 : fX7_takeSign (nI 59) S = some (nI 0, S') := e1
    have e2 : fX12_eats (nI 30) M = some (nI 0, M) := e2
    have m0 : M'.1 154 0 = M.1 154 0 := f3.i (by unfold kRm; omega)
    refine Or.inr ⟨S', M', ?_, ?_, f1, f2, f3⟩
    · unfold fX7_takeLineEnd; simp (disch := omega) only [lit, lm1, nI_add, pk_mul, nm_eq, nm_eq', nm_lt, nm_lt', nm_le, nm_le', x_lt, x_le, x_eq, x_in, x_cl, x_div, x_sub, x_rem, x_min, x_max, x_and, x_or, x_xor, x_df, x_shl, bI_0, bI_1, bI_bo, lg_eq, toL_inj, ls_nI, decide_eq_false_iff_not, decide_eq_true_eq, Bool.true_eq_false, Bool.false_eq_true, bq, if_pos, if_neg, if_true, if_false, lq, Nat.reduceAdd, Nat.reduceMul, Nat.reduceSub, Nat.reduceDiv, Nat.reduceMod, e1]
    · unfold fX12_closes fX12_closes_14; simp (disch := omega) only [lit, lm1, nI_add, pk_mul, nm_eq, nm_eq', nm_lt, nm_lt', nm_le, nm_le', x_lt, x_le, x_eq, x_in, x_cl, x_div, x_sub, x_rem, x_min, x_max, x_and, x_or, x_xor, x_df, x_shl, bI_0, bI_1, bI_bo, lg_eq, toL_inj, ls_nI, decide_eq_false_iff_not, decide_eq_true_eq, Bool.true_eq_false, Bool.false_eq_true, bq, if_pos, if_neg, if_true, if_false, lq, Nat.reduceAdd, Nat.reduceMul, Nat.reduceSub, Nat.reduceDiv, Nat.reduceMod, e2, e3, m0]
theorem l_end (hx : Lx t L s S M) : Lo t L s S M (fX7_takeLineEnd S) (fX12_closes M) := by
  obtain ⟨l, K, R, P, C, hh, hl⟩ := hx
  have bg := hl.bg
  rcases e_end hl.rp with ⟨S', M', e1, e2, s', g1, g2, g3, g4⟩ | ⟨S', M', e1, e2, f1, f2, f3⟩
  · have wc : Kp (fun q j => q = 15 ∧ j = 2) S' (cpI S' 15 2 (S.1 15 2 + nI 1)) := Kp.rf.I (by exact ⟨rfl, rfl⟩)
    have wm : Kp (fun q j => q = 154 ∧ j = 0) M' (cpI M' 154 0 (M.1 154 0 + nI 1)) := Kp.rf.I (by exact ⟨rfl, rfl⟩)
    have kc : Kp (fun q j => (q = 115 ∧ 3 ≤ j) ∨ (q = 15 ∧ j = 2)) S (cpI S' 15 2 (S.1 15 2 + nI 1)) := (g3.le (fun q j h => Or.inl ⟨h.1, h.2.1⟩)).tr (wc.le (fun q j h => Or.inr h))
    have km : Kp (fun q j => (q = 150 ∧ 6 ≤ j) ∨ (q = 154 ∧ j = 0)) M (cpI M' 154 0 (M.1 154 0 + nI 1)) := (g4.le (fun q j h => Or.inl ⟨h.1, h.2.1⟩)).tr (wm.le (fun q j h => Or.inr h))
    have vy := hl.vy
    refine Or.inl ⟨s', _, _, e1, e2, ⟨l, K, R, P, C, hh, (g1.wS (by decide)).wM, hl.cd.kp kc km (by omega) (fun j => by omega) (fun j _ => by omega), hl.lw.kp0 kc km (fun j _ _ => by omega) (fun j _ _ => by omega), ?_, by omega⟩, g2, kc.le (fun q j h => by unfold kVc; omega), km.le (fun q j h => by unfold kVm; omega)⟩
    refine ⟨vy.b, ?_, ?_, ?_, ?_, ?_, ?_, ?_, ?_, ?_, ?_, ?_, fun r hr => ?_, fun p hp => ?_, fun c hc => ?_, fun c z1 z2 => ?_, ?_, fun j hj => ?_⟩
    · rw [kc.i (by omega)]; exact vy.cK
    · rw [km.i (by omega)]; exact vy.mK
    · rw [kc.i (by omega)]; exact vy.cR
    · rw [km.i (by omega)]; exact vy.mR
    · rw [kc.i (by omega)]; exact vy.cP
    · rw [km.i (by omega)]; exact vy.mP
    · rw [kc.i (by omega)]; exact vy.cC
    · rw [km.i (by omega)]; exact vy.mC
    · rw [kc.i (by omega)]; exact vy.ch
    · rw [km.i (by omega)]; exact vy.mh
    · rw [sI1, sI1, vy.ln]
    · rw [kc.i (by omega), kc.i (by omega), kc.i (by omega), km.i (by omega), km.i (by omega), km.i (by omega)]; exact vy.rd r hr
    · rw [kc.i (by omega), kc.i (by omega), km.i (by omega), km.i (by omega)]; exact vy.pe p hp
    · rw [kc.i (by omega), kc.i (by omega), kc.i (by omega), km.i (by omega), km.i (by omega), km.i (by omega)]; exact vy.co c hc
    · rw [kc.i (by omega), km.i (by omega)]; exact vy.cz c z1 z2
    · obtain ⟨fd, y1, y2⟩ := vy.fd
      refine ⟨fd, fun p hp => ?_, y2⟩
      rw [kc.i (by omega), km.i (by omega)]; exact y1 p hp
    · rw [km.i (by omega)]; exact vy.z j hj
  · exact Or.inr ⟨S', _, e1, e2, f1.w, hl.vy.fl (kRc.f f2), (kRm.v f3).I (by exact Or.inl rfl)⟩
theorem f_closes (h : Fm M) : fX12_closes M = some ((), cpI M 154 0 (M.1 154 0 + nI 1)) := by
  unfold fX12_closes fX12_closes_14; simp (disch := omega) only [lit, lm1, nI_add, pk_mul, nm_eq, nm_eq', nm_lt, nm_lt', nm_le, nm_le', x_lt, x_le, x_eq, x_in, x_cl, x_div, x_sub, x_rem, x_min, x_max, x_and, x_or, x_xor, x_df, x_shl, bI_0, bI_1, bI_bo, lg_eq, toL_inj, ls_nI, decide_eq_false_iff_not, decide_eq_true_eq, Bool.true_eq_false, Bool.false_eq_true, bq, if_pos, if_neg, if_true, if_false, lq, Nat.reduceAdd, Nat.reduceMul, Nat.reduceSub, Nat.reduceDiv, Nat.reduceMod, f_eats h, f_fails h]
theorem ky_end : kyE t L L = 26 := by
  unfold kyE
  rw [lte_L.1, lte_L.2.1, if_neg (Nat.lt_irrefl _), if_neg (Nat.lt_irrefl _), if_neg (Nat.lt_irrefl _)]
/-- the class's end of a text -/
def endT (x : Int32) (S : cpS) : Option (Int32 × cpS) := cpB (fX10_measureDistances 15 S) fun _ S5 => cpLt (cpI S5 115 1 (0 : Int32)) fun S6 => if cpBo x then some (x, S6) else none
theorem c_stop (n : Nat) (x3 : Int32) (S : cpS) : fX7_readText_38 (n + 1) (nI 0) x3 S = endT (nI 0) S := by
  rw [fX7_readText_38]
  unfold endT
  by_cases h : nI 900 ≤ x3
  · have h' := eq_true h
    simp (disch := omega) only [lit, lm1, nI_add, pk_mul, nm_eq, nm_eq', nm_lt, nm_lt', nm_le, nm_le', x_lt, x_le, x_eq, x_in, x_cl, x_div, x_sub, x_rem, x_min, x_max, x_and, x_or, x_xor, x_df, x_shl, bI_0, bI_1, bI_bo, lg_eq, toL_inj, ls_nI, decide_eq_false_iff_not, decide_eq_true_eq, Bool.true_eq_false, Bool.false_eq_true, bq, if_pos, if_neg, if_true, if_false, lq, Nat.reduceAdd, Nat.reduceMul, Nat.reduceSub, Nat.reduceDiv, Nat.reduceMod, h']
  · have h' := eq_false h
    simp (disch := omega) only [lit, lm1, nI_add, pk_mul, nm_eq, nm_eq', nm_lt, nm_lt', nm_le, nm_le', x_lt, x_le, x_eq, x_in, x_cl, x_div, x_sub, x_rem, x_min, x_max, x_and, x_or, x_xor, x_df, x_shl, bI_0, bI_1, bI_bo, lg_eq, toL_inj, ls_nI, decide_eq_false_iff_not, decide_eq_true_eq, Bool.true_eq_false, Bool.false_eq_true, bq, if_pos, if_neg, if_true, if_false, lq, Nat.reduceAdd, Nat.reduceMul, Nat.reduceSub, Nat.reduceDiv, Nat.reduceMod, h']
theorem m_stop (n : Nat) (h : Fm M) : fX12_valley_99 (n + 1) M = fX12_valley_126 M := by
  have h' : (M.1 150 11 = nI 0) = False := eq_false h
  rw [fX12_valley_99]
  simp (disch := omega) only [lit, lm1, nI_add, pk_mul, nm_eq, nm_eq', nm_lt, nm_lt', nm_le, nm_le', x_lt, x_le, x_eq, x_in, x_cl, x_div, x_sub, x_rem, x_min, x_max, x_and, x_or, x_xor, x_df, x_shl, bI_0, bI_1, bI_bo, lg_eq, toL_inj, ls_nI, decide_eq_false_iff_not, decide_eq_true_eq, Bool.true_eq_false, Bool.false_eq_true, bq, if_pos, if_neg, if_true, if_false, lq, Nat.reduceAdd, Nat.reduceMul, Nat.reduceSub, Nat.reduceDiv, Nat.reduceMod, h']
theorem l_all : ∀ (r n m x s : Nat) (S M : cpS), L ≤ s + r → r + 1 < n → r + 1 < m → x ≤ s → x ≤ 900 → Lx t L s S M →
    (∃ s' S' M', fX7_readText_38 n (nI 1) (nI x) S = endT (nI 1) S' ∧ fX12_valley_99 m M = fX12_valley_126 M' ∧ Lx t L s' S' M' ∧ Kp kVc S S' ∧ Kp kVm M M') ∨
    (∃ S' M', fX7_readText_38 n (nI 1) (nI x) S = endT (nI 0) S' ∧ fX12_valley_99 m M = fX12_valley_126 M' ∧ Fp S' M' ∧ Fr S S' ∧ Kp kVm M M') := by
  intro r
  induction r with
  | zero =>
    intro n m x s S M h1 h2 h3 h4 h5 hx
    obtain ⟨n, rfl⟩ : ∃ k, n = k + 1 := ⟨n - 1, by omega⟩
    obtain ⟨m, rfl⟩ : ∃ k, m = k + 1 := ⟨m - 1, by omega⟩
    obtain ⟨l, K, R, P, C, hh, hl⟩ := hx
    have sl := hl.rp.sl
    have eL : s = L := by omega
    have ek : kyE t L s = 26 := by rw [eL]; exact ky_end
    have m9 := hl.rp.m9
    rw [ek] at m9
    have k0 : (tkE t L s).2 = 0 := by rcases kyE_kind t L s with q | q | q | q | q <;> omega
    have c6 := hl.rp.c6
    rw [k0] at c6
    refine Or.inl ⟨s, S, M, ?_, ?_, ⟨l, K, R, P, C, hh, hl⟩, Kp.rf, Kp.rf⟩
    · rw [fX7_readText_38]
      unfold endT
      by_cases e9 : 900 ≤ x
      · simp (disch := omega) only [lit, lm1, nI_add, pk_mul, nm_eq, nm_eq', nm_lt, nm_lt', nm_le, nm_le', x_lt, x_le, x_eq, x_in, x_cl, x_div, x_sub, x_rem, x_min, x_max, x_and, x_or, x_xor, x_df, x_shl, bI_0, bI_1, bI_bo, lg_eq, toL_inj, ls_nI, decide_eq_false_iff_not, decide_eq_true_eq, Bool.true_eq_false, Bool.false_eq_true, bq, if_pos, if_neg, if_true, if_false, lq, Nat.reduceAdd, Nat.reduceMul, Nat.reduceSub, Nat.reduceDiv, Nat.reduceMod]
      · simp (disch := omega) only [lit, lm1, nI_add, pk_mul, nm_eq, nm_eq', nm_lt, nm_lt', nm_le, nm_le', x_lt, x_le, x_eq, x_in, x_cl, x_div, x_sub, x_rem, x_min, x_max, x_and, x_or, x_xor, x_df, x_shl, bI_0, bI_1, bI_bo, lg_eq, toL_inj, ls_nI, decide_eq_false_iff_not, decide_eq_true_eq, Bool.true_eq_false, Bool.false_eq_true, bq, if_pos, if_neg, if_true, if_false, lq, Nat.reduceAdd, Nat.reduceMul, Nat.reduceSub, Nat.reduceDiv, Nat.reduceMod, c6]
    · rw [fX12_valley_99]
      simp (disch := omega) only [lit, lm1, nI_add, pk_mul, nm_eq, nm_eq', nm_lt, nm_lt', nm_le, nm_le', x_lt, x_le, x_eq, x_in, x_cl, x_div, x_sub, x_rem, x_min, x_max, x_and, x_or, x_xor, x_df, x_shl, bI_0, bI_1, bI_bo, lg_eq, toL_inj, ls_nI, decide_eq_false_iff_not, decide_eq_true_eq, Bool.true_eq_false, Bool.false_eq_true, bq, if_pos, if_neg, if_true, if_false, lq, Nat.reduceAdd, Nat.reduceMul, Nat.reduceSub, Nat.reduceDiv, Nat.reduceMod, hl.rp.m11, m9]
  | succ r ih =>
    intro n m x s S M h1 h2 h3 h4 h5 hx
    obtain ⟨n, rfl⟩ : ∃ k, n = k + 1 := ⟨n - 1, by omega⟩
    obtain ⟨m, rfl⟩ : ∃ k, m = k + 1 := ⟨m - 1, by omega⟩
    obtain ⟨l, K, R, P, C, hh, hl⟩ := hx
    have sl := hl.rp.sl
    have l9 := hl.rp.ct.1
    have hx : Lx t L s S M := ⟨l, K, R, P, C, hh, hl⟩
    have m9 := hl.rp.m9
    have c6 := hl.rp.c6
    by_cases ek : kyE t L s = 26
    · rw [ek] at m9
      have k0 : (tkE t L s).2 = 0 := by rcases kyE_kind t L s with q | q | q | q | q <;> omega
      rw [k0] at c6
      refine Or.inl ⟨s, S, M, ?_, ?_, hx, Kp.rf, Kp.rf⟩
      · rw [fX7_readText_38]
        unfold endT
        by_cases e9 : 900 ≤ x
        · simp (disch := omega) only [lit, lm1, nI_add, pk_mul, nm_eq, nm_eq', nm_lt, nm_lt', nm_le, nm_le', x_lt, x_le, x_eq, x_in, x_cl, x_div, x_sub, x_rem, x_min, x_max, x_and, x_or, x_xor, x_df, x_shl, bI_0, bI_1, bI_bo, lg_eq, toL_inj, ls_nI, decide_eq_false_iff_not, decide_eq_true_eq, Bool.true_eq_false, Bool.false_eq_true, bq, if_pos, if_neg, if_true, if_false, lq, Nat.reduceAdd, Nat.reduceMul, Nat.reduceSub, Nat.reduceDiv, Nat.reduceMod]
        · simp (disch := omega) only [lit, lm1, nI_add, pk_mul, nm_eq, nm_eq', nm_lt, nm_lt', nm_le, nm_le', x_lt, x_le, x_eq, x_in, x_cl, x_div, x_sub, x_rem, x_min, x_max, x_and, x_or, x_xor, x_df, x_shl, bI_0, bI_1, bI_bo, lg_eq, toL_inj, ls_nI, decide_eq_false_iff_not, decide_eq_true_eq, Bool.true_eq_false, Bool.false_eq_true, bq, if_pos, if_neg, if_true, if_false, lq, Nat.reduceAdd, Nat.reduceMul, Nat.reduceSub, Nat.reduceDiv, Nat.reduceMod, c6]
      · rw [fX12_valley_99]
        simp (disch := omega) only [lit, lm1, nI_add, pk_mul, nm_eq, nm_eq', nm_lt, nm_lt', nm_le, nm_le', x_lt, x_le, x_eq, x_in, x_cl, x_div, x_sub, x_rem, x_min, x_max, x_and, x_or, x_xor, x_df, x_shl, bI_0, bI_1, bI_bo, lg_eq, toL_inj, ls_nI, decide_eq_false_iff_not, decide_eq_true_eq, Bool.true_eq_false, Bool.false_eq_true, bq, if_pos, if_neg, if_true, if_false, lq, Nat.reduceAdd, Nat.reduceMul, Nat.reduceSub, Nat.reduceDiv, Nat.reduceMod, hl.rp.m11, m9]
    · have hL := ky_L (t := t) sl ek
      have k0 : ¬ (tkE t L s).2 = 0 := by rcases kyE_kind t L s with q | q | q | q | q <;> omega
      have kc : (tkE t L s).2 < 5 := by rcases kyE_kind t L s with q | q | q | q | q <;> omega
      have kb : kyE t L s < 42 := by rcases kyE_kind t L s with q | q | q | q | q <;> omega
      rcases l_line hx with ⟨s1, S1, M1, a1, a2, a3, a4, a5, a6⟩ | ⟨S1, M1, a1, a2, a3, a4, a5⟩
      · rcases l_end a3 with ⟨s2, S2, M2, b1, b2, b3, b4, b5, b6⟩ | ⟨S2, M2, b1, b2, b3, b4, b5⟩
        · have e1 : fX7_readText_38 (n + 1) (nI 1) (nI x) S = fX7_readText_38 n (nI 1) (nI (x + 1)) S2 := by
            rw [fX7_readText_38]
            simp (disch := omega) only [lit, lm1, nI_add, pk_mul, nm_eq, nm_eq', nm_lt, nm_lt', nm_le, nm_le', x_lt, x_le, x_eq, x_in, x_cl, x_div, x_sub, x_rem, x_min, x_max, x_and, x_or, x_xor, x_df, x_shl, bI_0, bI_1, bI_bo, lg_eq, toL_inj, ls_nI, decide_eq_false_iff_not, decide_eq_true_eq, Bool.true_eq_false, Bool.false_eq_true, bq, if_pos, if_neg, if_true, if_false, lq, Nat.reduceAdd, Nat.reduceMul, Nat.reduceSub, Nat.reduceDiv, Nat.reduceMod, c6, k0, a1, b1]
          have e2 : fX12_valley_99 (m + 1) M = fX12_valley_99 m M2 := by
            rw [fX12_valley_99]
            simp (disch := omega) only [lit, lm1, nI_add, pk_mul, nm_eq, nm_eq', nm_lt, nm_lt', nm_le, nm_le', x_lt, x_le, x_eq, x_in, x_cl, x_div, x_sub, x_rem, x_min, x_max, x_and, x_or, x_xor, x_df, x_shl, bI_0, bI_1, bI_bo, lg_eq, toL_inj, ls_nI, decide_eq_false_iff_not, decide_eq_true_eq, Bool.true_eq_false, Bool.false_eq_true, bq, if_pos, if_neg, if_true, if_false, lq, Nat.reduceAdd, Nat.reduceMul, Nat.reduceSub, Nat.reduceDiv, Nat.reduceMod, hl.rp.m11, m9, ek, a2, b2]
          rw [e1, e2]
          rcases ih n m (x + 1) s2 S2 M2 (by omega) (by omega) (by omega) (by omega) (by omega) b3 with ⟨s3, S3, M3, c1, c2, c3, c4, c5⟩ | ⟨S3, M3, c1, c2, c3, c4, c5⟩
          · exact Or.inl ⟨s3, S3, M3, c1, c2, c3, (a5.tr b5).tr c4, (a6.tr b6).tr c5⟩
          · exact Or.inr ⟨S3, M3, c1, c2, c3, ⟨(a5.tr b5).tr c4.1, c4.2⟩, (a6.tr b6).tr c5⟩
        · obtain ⟨n, rfl⟩ : ∃ k, n = k + 1 := ⟨n - 1, by omega⟩
          obtain ⟨m, rfl⟩ : ∃ k, m = k + 1 := ⟨m - 1, by omega⟩
          refine Or.inr ⟨S2, M2, ?_, ?_, b3, ⟨a5.tr b4.1, b4.2⟩, a6.tr b5⟩
          · rw [fX7_readText_38]
            simp (disch := omega) only [lit, lm1, nI_add, pk_mul, nm_eq, nm_eq', nm_lt, nm_lt', nm_le, nm_le', x_lt, x_le, x_eq, x_in, x_cl, x_div, x_sub, x_rem, x_min, x_max, x_and, x_or, x_xor, x_df, x_shl, bI_0, bI_1, bI_bo, lg_eq, toL_inj, ls_nI, decide_eq_false_iff_not, decide_eq_true_eq, Bool.true_eq_false, Bool.false_eq_true, bq, if_pos, if_neg, if_true, if_false, lq, Nat.reduceAdd, Nat.reduceMul, Nat.reduceSub, Nat.reduceDiv, Nat.reduceMod, c6, k0, a1, b1]
            exact c_stop n _ S2
          · rw [fX12_valley_99]
            simp (disch := omega) only [lit, lm1, nI_add, pk_mul, nm_eq, nm_eq', nm_lt, nm_lt', nm_le, nm_le', x_lt, x_le, x_eq, x_in, x_cl, x_div, x_sub, x_rem, x_min, x_max, x_and, x_or, x_xor, x_df, x_shl, bI_0, bI_1, bI_bo, lg_eq, toL_inj, ls_nI, decide_eq_false_iff_not, decide_eq_true_eq, Bool.true_eq_false, Bool.false_eq_true, bq, if_pos, if_neg, if_true, if_false, lq, Nat.reduceAdd, Nat.reduceMul, Nat.reduceSub, Nat.reduceDiv, Nat.reduceMod, hl.rp.m11, m9, ek, a2, b2]
            exact m_stop m b3.fm
      · obtain ⟨n, rfl⟩ : ∃ k, n = k + 1 := ⟨n - 1, by omega⟩
        obtain ⟨m, rfl⟩ : ∃ k, m = k + 1 := ⟨m - 1, by omega⟩
        refine Or.inr ⟨S1, cpI M1 154 0 (M1.1 154 0 + nI 1), ?_, ?_, a3.w, a4, a5.I (by exact Or.inl rfl)⟩
        · rw [fX7_readText_38]
          simp (disch := omega) only [lit, lm1, nI_add, pk_mul, nm_eq, nm_eq', nm_lt, nm_lt', nm_le, nm_le', x_lt, x_le, x_eq, x_in, x_cl, x_div, x_sub, x_rem, x_min, x_max, x_and, x_or, x_xor, x_df, x_shl, bI_0, bI_1, bI_bo, lg_eq, toL_inj, ls_nI, decide_eq_false_iff_not, decide_eq_true_eq, Bool.true_eq_false, Bool.false_eq_true, bq, if_pos, if_neg, if_true, if_false, lq, Nat.reduceAdd, Nat.reduceMul, Nat.reduceSub, Nat.reduceDiv, Nat.reduceMod, c6, k0, a1]
          exact c_stop n _ S1
        · rw [fX12_valley_99]
          simp (disch := omega) only [lit, lm1, nI_add, pk_mul, nm_eq, nm_eq', nm_lt, nm_lt', nm_le, nm_le', x_lt, x_le, x_eq, x_in, x_cl, x_div, x_sub, x_rem, x_min, x_max, x_and, x_or, x_xor, x_df, x_shl, bI_0, bI_1, bI_bo, lg_eq, toL_inj, ls_nI, decide_eq_false_iff_not, decide_eq_true_eq, Bool.true_eq_false, Bool.false_eq_true, bq, if_pos, if_neg, if_true, if_false, lq, Nat.reduceAdd, Nat.reduceMul, Nat.reduceSub, Nat.reduceDiv, Nat.reduceMod, hl.rp.m11, m9, ek, a2, f_closes a3.fm]
          exact m_stop m a3.fm.w
end LI
