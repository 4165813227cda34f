/-! laws: the smallest piece, and all of it -/
section AT
variable {t : Nat → Nat} {L w n : Nat}
theorem fcW_35 : fcW w 35 = none := by
  unfold fcW
  rw [if_neg (by decide), if_neg (by decide), if_neg (by decide), if_neg (by decide), if_neg (by decide), if_neg (fun q => absurd q.2 (by decide))]
theorem fcW_14 : fcW w 14 = none := by
  unfold fcW
  rw [if_neg (by decide), if_neg (by decide), if_neg (by decide), if_neg (by decide), if_neg (by decide), if_neg (fun q => absurd q.2 (by decide))]
theorem fcW_b {y z : Nat} (hf : fcW w y = some z) : z ≤ 5 ∧ y ≠ 26 := by
  refine ⟨?_, fun q => ?_⟩
  · unfold fcW at hf
    split at hf
    · cases hf; decide
    · split at hf
      · cases hf; decide
      · split at hf
        · cases hf; decide
        · split at hf
          · cases hf; decide
          · split at hf
            · cases hf; decide
            · split at hf
              · cases hf; decide
              · cases hf
  · rw [q] at hf
    unfold fcW at hf
    rw [if_neg (by decide), if_neg (by decide), if_neg (by decide), if_neg (by decide), if_neg (by decide), if_neg (fun q => absurd q.2 (by decide))] at hf
    cases hf
theorem at_num {d m s : Nat} {l : List Nat} {S M : cpS} (hd : d ≤ 6) (hn : 8 * (6 - d) + 8 ≤ n + 1 + 6) (hm : 8 * (6 - d) + 8 ≤ m + 1 + 6) (hl : Ls t L s w l S M) (e1 : kyE t L s = 25) : Ot t L s w l false (8 * (6 - d) + 8 - 6) S M (fX7_readAtom (fX7_rec n) (nI d) S) (fX12_readAtom (fX12_rec m) (nI d) M) := by
  have l9 := hl.rp.ct.1
  have bg := hl.bg
  have hz : cpBo (nI 0) = true := by decide
  have kb : kyE t L s < 42 := by rcases kyE_kind t L s with q | q | q | q | q <;> omega
  have kc : (tkE t L s).2 < 5 := by rcases kyE_kind t L s with q | q | q | q | q <;> omega
  have m9 := hl.rp.m9
  have m11 := hl.rp.m11
  have i1 := hl.rp.isS (i := 5) (by decide)
  have i2 := hl.rp.mis (w := 35) (by decide)
  have j1 := hl.rp.isW (k := 15) (by decide) (by decide)
  rw [show kWd 15 = 14 from rfl] at j1
  have j2 := hl.rp.mis (w := 14) (by decide)
  have n2 := hl.rp.mis (w := 25) (by decide)
  have cf := c_fact hl
  have k2 : (tkE t L s).2 = 2 := by rcases kyE_kind t L s with q | q | q | q | q <;> omega
  rw [decide_eq_false (by omega)] at i1 j1
  have i1 : fX7_isSign (nI 40) S = some (nI 0, S) := i1
  have j1 : fX7_isWord 15 S = some (nI 0, S) := j1
  rw [decide_eq_true e1] at n2
  have n2 : fX12_is (nI 25) M = some (nI 1, M) := n2
  have c6 := hl.rp.c6
  rw [k2] at c6
  have c9 := hl.rp.c9 k2
  have m10 := hl.rp.m10 k2
  have hv := nvl_k hl.rp.sl k2
  generalize nvl t s ((tkE t L s).1 - s) = v at c9 m10 hv
  obtain ⟨s', S1, M1, S2, M2, a1, a2, a3, a4, a5, a6, a7, a8⟩ := hl.push (by omega) (k := v) (by omega)
  have a2 : fX12_codes (nI v) M = some ((), M1) := by
    have ev : cpOp v = v := by unfold cpOp; rw [if_pos (by omega)]
    rw [ev] at a2; exact a2
  refine Or.inl ⟨s', [v], S2, M2, ?_, ?_, a5, a6, by show 1 + s ≤ s'; omega, fun st hst => snd_one (by omega) ?_, a7, a8⟩
  · unfold fX7_readAtom fX7_readAtom_99; simp (disch := omega) only [lit, lm1, nI_add, pk_mul, nm_eq, nm_eq', nm_lt, nm_lt', nm_le, nm_le', x_lt, x_le, x_eq, x_in, x_cl, x_div, x_sub, x_rem, x_min, x_max, x_and, x_or, x_xor, x_df, x_shl, bI_0, bI_1, bI_bo, lg_eq, toL_inj, ls_nI, decide_eq_false_iff_not, decide_eq_true_eq, Bool.true_eq_false, Bool.false_eq_true, bq, if_pos, if_neg, if_true, if_false, lq, Nat.reduceAdd, Nat.reduceMul, Nat.reduceSub, Nat.reduceDiv, Nat.reduceMod, i1, j1, cf, c6, c9, a1, a3]
  · unfold fX12_readAtom; simp (disch := omega) only [lit, lm1, nI_add, pk_mul, nm_eq, nm_eq', nm_lt, nm_lt', nm_le, nm_le', x_lt, x_le, x_eq, x_in, x_cl, x_div, x_sub, x_rem, x_min, x_max, x_and, x_or, x_xor, x_df, x_shl, bI_0, bI_1, bI_bo, lg_eq, toL_inj, ls_nI, decide_eq_false_iff_not, decide_eq_true_eq, Bool.true_eq_false, Bool.false_eq_true, bq, if_pos, if_neg, if_true, if_false, lq, Nat.reduceAdd, Nat.reduceMul, Nat.reduceSub, Nat.reduceDiv, Nat.reduceMod, n2, m10, a2, a4]
  · unfold cpTyp; rw [if_pos (by omega)]
theorem at_par (h4 : LKq t L w n 4 3 false) {d m s : Nat} {l : List Nat} {S M : cpS} (hd : d ≤ 6) (hn : 8 * (6 - d) + 8 ≤ n + 1 + 6) (hm : 8 * (6 - d) + 8 ≤ m + 1 + 6) (hl : Ls t L s w l S M) (e2 : kyE t L s = 35) : Ot t L s w l false (8 * (6 - d) + 8 - 6) S M (fX7_readAtom (fX7_rec n) (nI d) S) (fX12_readAtom (fX12_rec m) (nI d) M) := by
  have l9 := hl.rp.ct.1
  have bg := hl.bg
  have hz : cpBo (nI 0) = true := by decide
  have kb : kyE t L s < 42 := by rcases kyE_kind t L s with q | q | q | q | q <;> omega
  have kc : (tkE t L s).2 < 5 := by rcases kyE_kind t L s with q | q | q | q | q <;> omega
  have m9 := hl.rp.m9
  have m11 := hl.rp.m11
  have i1 := hl.rp.isS (i := 5) (by decide)
  have i2 := hl.rp.mis (w := 35) (by decide)
  have n2 := hl.rp.mis (w := 25) (by decide)
  have wf := m_word kb hl.w2 hl.wm
  rw [decide_eq_false (by omega)] at n2
  have n2 : fX12_is (nI 25) M = some (nI 0, M) := n2
  rw [e2] at wf m9
  have wf : fX12_wordOf (nI 35) M = some (nM, M) := by rw [fcW_35] at wf; exact wf
  rw [decide_eq_true e2] at i1 i2
  have i1 : fX7_isSign (nI 40) S = some (nI 1, S) := i1
  have i2 : fX12_is (nI 35) M = some (nI 1, M) := i2
  have qm : (nM = nM) = True := eq_self _
  rcases hl.enter (by omega) hd with ⟨s1, S1, M1, d6, a1, a2, a3, a4, a5, a6⟩ | ⟨S1, M1, a1, a2, a3, a4, a5⟩
  · rcases h4 (d + 1) m s1 l S1 M1 (by omega) (by omega) (by omega) a3 with ⟨s2, k, S2, M2, b1, b2, b3, b4, b5, b6, b7, b8⟩ | ⟨S2, M2, b1, b2, b3, b4, b5⟩
    · rcases b3.signs (i := 6) (by decide) with ⟨s3, S3, M3, c1, c2, c3, c4, c5, c6⟩ | ⟨S3, M3, c1, c2, c3, c4, c5, c6⟩
      · have c1 : fX7_takeSign (nI 41) S2 = some (nI 1, S3) := c1
        have c2 : fX12_eats (nI 36) M2 = some (nI 1, M3) := c2
        refine Or.inl ⟨s3, k, S3, M3, ?_, ?_, c3, by omega, by omega, fun st hst => b6 st (by omega), (a5.tr b7).tr c5, (a6.tr b8).tr c6⟩
        · unfold fX7_readAtom; simp (disch := omega) only [lit, lm1, nI_add, pk_mul, nm_eq, nm_eq', nm_lt, nm_lt', nm_le, nm_le', x_lt, x_le, x_eq, x_in, x_cl, x_div, x_sub, x_rem, x_min, x_max, x_and, x_or, x_xor, x_df, x_shl, bI_0, bI_1, bI_bo, lg_eq, toL_inj, ls_nI, decide_eq_false_iff_not, decide_eq_true_eq, Bool.true_eq_false, Bool.false_eq_true, bq, if_pos, if_neg, if_true, if_false, lq, Nat.reduceAdd, Nat.reduceMul, Nat.reduceSub, Nat.reduceDiv, Nat.reduceMod, i1, a1, b1, c1]
        · unfold fX12_readAtom; simp (disch := omega) only [lit, lm1, nI_add, pk_mul, nm_eq, nm_eq', nm_lt, nm_lt', nm_le, nm_le', x_lt, x_le, x_eq, x_in, x_cl, x_div, x_sub, x_rem, x_min, x_max, x_and, x_or, x_xor, x_df, x_shl, bI_0, bI_1, bI_bo, lg_eq, toL_inj, ls_nI, decide_eq_false_iff_not, decide_eq_true_eq, Bool.true_eq_false, Bool.false_eq_true, bq, if_pos, if_neg, if_true, if_false, lq, Nat.reduceAdd, Nat.reduceMul, Nat.reduceSub, Nat.reduceDiv, Nat.reduceMod, n2, m11, m9, wf, qm, i2, a2, b2, c2]; unfold fX12_readAtom_66; simp (disch := omega) only [lit, lm1, nI_add, pk_mul, nm_eq, nm_eq', nm_lt, nm_lt', nm_le, nm_le', x_lt, x_le, x_eq, x_in, x_cl, x_div, x_sub, x_rem, x_min, x_max, x_and, x_or, x_xor, x_df, x_shl, bI_0, bI_1, bI_bo, lg_eq, toL_inj, ls_nI, decide_eq_false_iff_not, decide_eq_true_eq, Bool.true_eq_false, Bool.false_eq_true, bq, if_pos, if_neg, if_true, if_false, lq, Nat.reduceAdd, Nat.reduceMul, Nat.reduceSub, Nat.reduceDiv, Nat.reduceMod, n2, m11, m9, wf, qm, i2, a2, b2, c2]
      · have c1 : fX7_takeSign (nI 41) S2 = some (nI 0, S3) := c1
        have c2 : fX12_eats (nI 36) M2 = some (nI 0, M2) := c2
        refine Or.inr ⟨S3, M3, ?_, ?_, c4, (a5.tr b7).tr c5, (a6.tr b8).tr c6⟩
        · unfold fX7_readAtom; simp (disch := omega) only [lit, lm1, nI_add, pk_mul, nm_eq, nm_eq', nm_lt, nm_lt', nm_le, nm_le', x_lt, x_le, x_eq, x_in, x_cl, x_div, x_sub, x_rem, x_min, x_max, x_and, x_or, x_xor, x_df, x_shl, bI_0, bI_1, bI_bo, lg_eq, toL_inj, ls_nI, decide_eq_false_iff_not, decide_eq_true_eq, Bool.true_eq_false, Bool.false_eq_true, bq, if_pos, if_neg, if_true, if_false, lq, Nat.reduceAdd, Nat.reduceMul, Nat.reduceSub, Nat.reduceDiv, Nat.reduceMod, i1, a1, b1, c1]
        · unfold fX12_readAtom; simp (disch := omega) only [lit, lm1, nI_add, pk_mul, nm_eq, nm_eq', nm_lt, nm_lt', nm_le, nm_le', x_lt, x_le, x_eq, x_in, x_cl, x_div, x_sub, x_rem, x_min, x_max, x_and, x_or, x_xor, x_df, x_shl, bI_0, bI_1, bI_bo, lg_eq, toL_inj, ls_nI, decide_eq_false_iff_not, decide_eq_true_eq, Bool.true_eq_false, Bool.false_eq_true, bq, if_pos, if_neg, if_true, if_false, lq, Nat.reduceAdd, Nat.reduceMul, Nat.reduceSub, Nat.reduceDiv, Nat.reduceMod, n2, m11, m9, wf, qm, i2, a2, b2, c2, c3]; unfold fX12_readAtom_66; simp (disch := omega) only [lit, lm1, nI_add, pk_mul, nm_eq, nm_eq', nm_lt, nm_lt', nm_le, nm_le', x_lt, x_le, x_eq, x_in, x_cl, x_div, x_sub, x_rem, x_min, x_max, x_and, x_or, x_xor, x_df, x_shl, bI_0, bI_1, bI_bo, lg_eq, toL_inj, ls_nI, decide_eq_false_iff_not, decide_eq_true_eq, Bool.true_eq_false, Bool.false_eq_true, bq, if_pos, if_neg, if_true, if_false, lq, Nat.reduceAdd, Nat.reduceMul, Nat.reduceSub, Nat.reduceDiv, Nat.reduceMod, n2, m11, m9, wf, qm, i2, a2, b2, c2, c3]
    · refine Or.inr ⟨S2, M2, ?_, ?_, b3, a5.tr b4, a6.tr b5⟩
      · unfold fX7_readAtom; simp (disch := omega) only [lit, lm1, nI_add, pk_mul, nm_eq, nm_eq', nm_lt, nm_lt', nm_le, nm_le', x_lt, x_le, x_eq, x_in, x_cl, x_div, x_sub, x_rem, x_min, x_max, x_and, x_or, x_xor, x_df, x_shl, bI_0, bI_1, bI_bo, lg_eq, toL_inj, ls_nI, decide_eq_false_iff_not, decide_eq_true_eq, Bool.true_eq_false, Bool.false_eq_true, bq, if_pos, if_neg, if_true, if_false, lq, Nat.reduceAdd, Nat.reduceMul, Nat.reduceSub, Nat.reduceDiv, Nat.reduceMod, i1, a1, b1]
      · unfold fX12_readAtom; simp (disch := omega) only [lit, lm1, nI_add, pk_mul, nm_eq, nm_eq', nm_lt, nm_lt', nm_le, nm_le', x_lt, x_le, x_eq, x_in, x_cl, x_div, x_sub, x_rem, x_min, x_max, x_and, x_or, x_xor, x_df, x_shl, bI_0, bI_1, bI_bo, lg_eq, toL_inj, ls_nI, decide_eq_false_iff_not, decide_eq_true_eq, Bool.true_eq_false, Bool.false_eq_true, bq, if_pos, if_neg, if_true, if_false, lq, Nat.reduceAdd, Nat.reduceMul, Nat.reduceSub, Nat.reduceDiv, Nat.reduceMod, n2, m11, m9, wf, qm, i2, a2, b2, f_eats b3.fm, f_fails b3.fm]; unfold fX12_readAtom_66; simp (disch := omega) only [lit, lm1, nI_add, pk_mul, nm_eq, nm_eq', nm_lt, nm_lt', nm_le, nm_le', x_lt, x_le, x_eq, x_in, x_cl, x_div, x_sub, x_rem, x_min, x_max, x_and, x_or, x_xor, x_df, x_shl, bI_0, bI_1, bI_bo, lg_eq, toL_inj, ls_nI, decide_eq_false_iff_not, decide_eq_true_eq, Bool.true_eq_false, Bool.false_eq_true, bq, if_pos, if_neg, if_true, if_false, lq, Nat.reduceAdd, Nat.reduceMul, Nat.reduceSub, Nat.reduceDiv, Nat.reduceMod, n2, m11, m9, wf, qm, i2, a2, b2, f_eats b3.fm, f_fails b3.fm]
  · refine Or.inr ⟨S1, M1, ?_, ?_, a3, a4, a5⟩
    · unfold fX7_readAtom; simp (disch := omega) only [lit, lm1, nI_add, pk_mul, nm_eq, nm_eq', nm_lt, nm_lt', nm_le, nm_le', x_lt, x_le, x_eq, x_in, x_cl, x_div, x_sub, x_rem, x_min, x_max, x_and, x_or, x_xor, x_df, x_shl, bI_0, bI_1, bI_bo, lg_eq, toL_inj, ls_nI, decide_eq_false_iff_not, decide_eq_true_eq, Bool.true_eq_false, Bool.false_eq_true, bq, if_pos, if_neg, if_true, if_false, lq, Nat.reduceAdd, Nat.reduceMul, Nat.reduceSub, Nat.reduceDiv, Nat.reduceMod, i1, a1]
    · unfold fX12_readAtom; simp (disch := omega) only [lit, lm1, nI_add, pk_mul, nm_eq, nm_eq', nm_lt, nm_lt', nm_le, nm_le', x_lt, x_le, x_eq, x_in, x_cl, x_div, x_sub, x_rem, x_min, x_max, x_and, x_or, x_xor, x_df, x_shl, bI_0, bI_1, bI_bo, lg_eq, toL_inj, ls_nI, decide_eq_false_iff_not, decide_eq_true_eq, Bool.true_eq_false, Bool.false_eq_true, bq, if_pos, if_neg, if_true, if_false, lq, Nat.reduceAdd, Nat.reduceMul, Nat.reduceSub, Nat.reduceDiv, Nat.reduceMod, n2, m11, m9, wf, qm, i2, a2]; unfold fX12_readAtom_66; simp (disch := omega) only [lit, lm1, nI_add, pk_mul, nm_eq, nm_eq', nm_lt, nm_lt', nm_le, nm_le', x_lt, x_le, x_eq, x_in, x_cl, x_div, x_sub, x_rem, x_min, x_max, x_and, x_or, x_xor, x_df, x_shl, bI_0, bI_1, bI_bo, lg_eq, toL_inj, ls_nI, decide_eq_false_iff_not, decide_eq_true_eq, Bool.true_eq_false, Bool.false_eq_true, bq, if_pos, if_neg, if_true, if_false, lq, Nat.reduceAdd, Nat.reduceMul, Nat.reduceSub, Nat.reduceDiv, Nat.reduceMod, n2, m11, m9, wf, qm, i2, a2]
theorem at_if (g0 : ∀ k, n = k + 1 → LKq t L w k 0 0 true) (g4 : ∀ k, n = k + 1 → LKq t L w k 4 3 false) {d m s : Nat} {l : List Nat} {S M : cpS} (hd : d ≤ 6) (hn : 8 * (6 - d) + 8 ≤ n + 1 + 6) (hm : 8 * (6 - d) + 8 ≤ m + 1 + 6) (hl : Ls t L s w l S M) (e3 : kyE t L s = 14) : Ot t L s w l false (8 * (6 - d) + 8 - 6) S M (fX7_readAtom (fX7_rec n) (nI d) S) (fX12_readAtom (fX12_rec m) (nI d) M) := by
  have l9 := hl.rp.ct.1
  have bg := hl.bg
  have hz : cpBo (nI 0) = true := by decide
  have kb : kyE t L s < 42 := by rcases kyE_kind t L s with q | q | q | q | q <;> omega
  have kc : (tkE t L s).2 < 5 := by rcases kyE_kind t L s with q | q | q | q | q <;> omega
  have m9 := hl.rp.m9
  have m11 := hl.rp.m11
  have i1 := hl.rp.isS (i := 5) (by decide)
  have i2 := hl.rp.mis (w := 35) (by decide)
  have j1 := hl.rp.isW (k := 15) (by decide) (by decide)
  rw [show kWd 15 = 14 from rfl] at j1
  have j2 := hl.rp.mis (w := 14) (by decide)
  have n2 := hl.rp.mis (w := 25) (by decide)
  have wf := m_word kb hl.w2 hl.wm
  rw [decide_eq_false (by omega)] at n2
  have n2 : fX12_is (nI 25) M = some (nI 0, M) := n2
  rw [decide_eq_false (by omega)] at i1 i2
  have i1 : fX7_isSign (nI 40) S = some (nI 0, S) := i1
  have i2 : fX12_is (nI 35) M = some (nI 0, M) := i2
  rw [e3] at wf m9
  have wf : fX12_wordOf (nI 14) M = some (nM, M) := by rw [fcW_14] at wf; exact wf
  rw [decide_eq_true e3] at j1 j2
  have j1 : fX7_isWord 15 S = some (nI 1, S) := j1
  have j2 : fX12_is (nI 14) M = some (nI 1, M) := j2
  have qm : (nM = nM) = True := eq_self _
  obtain ⟨m, rfl⟩ : ∃ k, m = k + 1 := ⟨m - 1, by omega⟩
  have gm : ∀ T, fX12_readIf (fX12_rec m) (nI d) M = some ((), T) → fX12_readAtom (fX12_rec (m + 1)) (nI d) M = some ((), T) := fun T e => by
    have e' : fX12_rec (m + 1) 6 (nI d) M = some ((), T) := by rw [rm_6]; exact e
    unfold fX12_readAtom; simp (disch := omega) only [lit, lm1, nI_add, pk_mul, nm_eq, nm_eq', nm_lt, nm_lt', nm_le, nm_le', x_lt, x_le, x_eq, x_in, x_cl, x_div, x_sub, x_rem, x_min, x_max, x_and, x_or, x_xor, x_df, x_shl, bI_0, bI_1, bI_bo, lg_eq, toL_inj, ls_nI, decide_eq_false_iff_not, decide_eq_true_eq, Bool.true_eq_false, Bool.false_eq_true, bq, if_pos, if_neg, if_true, if_false, lq, Nat.reduceAdd, Nat.reduceMul, Nat.reduceSub, Nat.reduceDiv, Nat.reduceMod, n2, m11, m9, wf, qm, i2, j2, e']; unfold fX12_readAtom_66; simp (disch := omega) only [lit, lm1, nI_add, pk_mul, nm_eq, nm_eq', nm_lt, nm_lt', nm_le, nm_le', x_lt, x_le, x_eq, x_in, x_cl, x_div, x_sub, x_rem, x_min, x_max, x_and, x_or, x_xor, x_df, x_shl, bI_0, bI_1, bI_bo, lg_eq, toL_inj, ls_nI, decide_eq_false_iff_not, decide_eq_true_eq, Bool.true_eq_false, Bool.false_eq_true, bq, if_pos, if_neg, if_true, if_false, lq, Nat.reduceAdd, Nat.reduceMul, Nat.reduceSub, Nat.reduceDiv, Nat.reduceMod, n2, m11, m9, wf, qm, i2, j2, e']
  rcases hl.enter (by omega) hd with ⟨s1, S1, M1, d6, a1, a2, a3, a4, a5, a6⟩ | ⟨S1, M1, a1, a2, a3, a4, a5⟩
  · obtain ⟨n, rfl⟩ : ∃ k, n = k + 1 := ⟨n - 1, by omega⟩
    have g0 := g0 n rfl
    have g4 := g4 n rfl
    have gc : ∀ z T, fX7_readChoice (fX7_rec n) (nI (d + 1)) S1 = some (nI z, T) → z ≤ 1 → fX7_readAtom (fX7_rec (n + 1)) (nI d) S = some (nI z, T) := fun z T e hz1 => by
      have e' : fX7_rec (n + 1) 7 (nI (d + 1)) S1 = some (nI z, T) := by rw [r7_7]; exact e
      rcases (by omega : z = 0 ∨ z = 1) with rfl | rfl
      · unfold fX7_readAtom; simp (disch := omega) only [lit, lm1, nI_add, pk_mul, nm_eq, nm_eq', nm_lt, nm_lt', nm_le, nm_le', x_lt, x_le, x_eq, x_in, x_cl, x_div, x_sub, x_rem, x_min, x_max, x_and, x_or, x_xor, x_df, x_shl, bI_0, bI_1, bI_bo, lg_eq, toL_inj, ls_nI, decide_eq_false_iff_not, decide_eq_true_eq, Bool.true_eq_false, Bool.false_eq_true, bq, if_pos, if_neg, if_true, if_false, lq, Nat.reduceAdd, Nat.reduceMul, Nat.reduceSub, Nat.reduceDiv, Nat.reduceMod, i1, j1, a1, e']
      · unfold fX7_readAtom; simp (disch := omega) only [lit, lm1, nI_add, pk_mul, nm_eq, nm_eq', nm_lt, nm_lt', nm_le, nm_le', x_lt, x_le, x_eq, x_in, x_cl, x_div, x_sub, x_rem, x_min, x_max, x_and, x_or, x_xor, x_df, x_shl, bI_0, bI_1, bI_bo, lg_eq, toL_inj, ls_nI, decide_eq_false_iff_not, decide_eq_true_eq, Bool.true_eq_false, Bool.false_eq_true, bq, if_pos, if_neg, if_true, if_false, lq, Nat.reduceAdd, Nat.reduceMul, Nat.reduceSub, Nat.reduceDiv, Nat.reduceMod, i1, j1, a1, e']
    rcases g0 (d + 1) m s1 l S1 M1 (by omega) (by omega) (by omega) a3 with ⟨s2, k2', S2, M2, b1, b2, b3, b4, b5, b6, b7, b8⟩ | ⟨S2, M2, b1, b2, b3, b4, b5⟩
    · rcases b3.words (k := 16) (by decide) (by decide) with ⟨s3, S3, M3, c1, c2, c3, c4, c5, c6⟩ | ⟨S3, M3, c1, c2, c3, c4, c5, c6⟩
      · have c2 : fX12_eats (nI 15) M2 = some (nI 1, M3) := c2
        rcases g4 (d + 1) m s3 _ S3 M3 (by omega) (by omega) (by omega) c3 with ⟨s4, k4, S4, M4, x1, x2, x3, x4, x5, x6, x7, x8⟩ | ⟨S4, M4, x1, x2, x3, x4, x5⟩
        · rcases x3.words (k := 17) (by decide) (by decide) with ⟨s5, S5, M5, y1, y2, y3, y4, y5, y6⟩ | ⟨S5, M5, y1, y2, y3, y4, y5, y6⟩
          · have y2 : fX12_eats (nI 16) M4 = some (nI 1, M5) := y2
            rcases g4 (d + 1) m s5 _ S5 M5 (by omega) (by omega) (by omega) y3 with ⟨s6, k6, S6, M6, u1, u2, u3, u4, u5, u6, u7, u8⟩ | ⟨S6, M6, u1, u2, u3, u4, u5⟩
            · rcases u3.words (k := 18) (by decide) (by decide) with ⟨s7, S7, M7, v1, v2, v3, v4, v5, v6⟩ | ⟨S7, M7, v1, v2, v3, v4, v5, v6⟩
              · have v2 : fX12_eats (nI 17) M6 = some (nI 1, M7) := v2
                obtain ⟨S8, M8, w1, w2, w3, w4, w5⟩ := v3.app (k := 2009) (by decide) (by rw [List.length_append, List.length_append, List.length_append]; omega)
                have w2 : fX12_codes (nI 3009) M7 = some ((), M8) := w2
                refine Or.inl ⟨s7, k2' ++ (k4 ++ (k6 ++ [2009])), S8, M8, gc 1 _ ?_ (by decide), gm _ ?_, by rw [← List.append_assoc, ← List.append_assoc, ← List.append_assoc]; exact w3, by omega, by rw [List.length_append, List.length_append, List.length_append]; show k2'.length + (k4.length + (k6.length + 1)) + s ≤ s7; omega, fun st hst => ?_, ((((((a5.tr b7).tr c5).tr x7).tr y5).tr u7).tr v5).tr w4, ((((((a6.tr b8).tr c6).tr x8).tr y6).tr u8).tr v6).tr w5⟩
                · unfold fX7_readChoice; simp (disch := omega) only [lit, lm1, nI_add, pk_mul, nm_eq, nm_eq', nm_lt, nm_lt', nm_le, nm_le', x_lt, x_le, x_eq, x_in, x_cl, x_div, x_sub, x_rem, x_min, x_max, x_and, x_or, x_xor, x_df, x_shl, bI_0, bI_1, bI_bo, lg_eq, toL_inj, ls_nI, decide_eq_false_iff_not, decide_eq_true_eq, Bool.true_eq_false, Bool.false_eq_true, bq, if_pos, if_neg, if_true, if_false, lq, Nat.reduceAdd, Nat.reduceMul, Nat.reduceSub, Nat.reduceDiv, Nat.reduceMod, b1, c1, x1, y1, u1, v1, w1]
                · unfold fX12_readIf; simp (disch := omega) only [lit, lm1, nI_add, pk_mul, nm_eq, nm_eq', nm_lt, nm_lt', nm_le, nm_le', x_lt, x_le, x_eq, x_in, x_cl, x_div, x_sub, x_rem, x_min, x_max, x_and, x_or, x_xor, x_df, x_shl, bI_0, bI_1, bI_bo, lg_eq, toL_inj, ls_nI, decide_eq_false_iff_not, decide_eq_true_eq, Bool.true_eq_false, Bool.false_eq_true, bq, if_pos, if_neg, if_true, if_false, lq, Nat.reduceAdd, Nat.reduceMul, Nat.reduceSub, Nat.reduceDiv, Nat.reduceMod, a2, b2, c2, x2, y2, u2, v2, w2]; unfold fX12_readIf_30; simp (disch := omega) only [lit, lm1, nI_add, pk_mul, nm_eq, nm_eq', nm_lt, nm_lt', nm_le, nm_le', x_lt, x_le, x_eq, x_in, x_cl, x_div, x_sub, x_rem, x_min, x_max, x_and, x_or, x_xor, x_df, x_shl, bI_0, bI_1, bI_bo, lg_eq, toL_inj, ls_nI, decide_eq_false_iff_not, decide_eq_true_eq, Bool.true_eq_false, Bool.false_eq_true, bq, if_pos, if_neg, if_true, if_false, lq, Nat.reduceAdd, Nat.reduceMul, Nat.reduceSub, Nat.reduceDiv, Nat.reduceMod, a2, b2, c2, x2, y2, u2, v2, w2]; unfold fX12_readIf_51; simp (disch := omega) only [lit, lm1, nI_add, pk_mul, nm_eq, nm_eq', nm_lt, nm_lt', nm_le, nm_le', x_lt, x_le, x_eq, x_in, x_cl, x_div, x_sub, x_rem, x_min, x_max, x_and, x_or, x_xor, x_df, x_shl, bI_0, bI_1, bI_bo, lg_eq, toL_inj, ls_nI, decide_eq_false_iff_not, decide_eq_true_eq, Bool.true_eq_false, Bool.false_eq_true, bq, if_pos, if_neg, if_true, if_false, lq, Nat.reduceAdd, Nat.reduceMul, Nat.reduceSub, Nat.reduceDiv, Nat.reduceMod, a2, b2, c2, x2, y2, u2, v2, w2]
                · exact snd_app _ (b6 st (by omega)) (snd_app _ (x6 _ (by show st.length + 1 + _ < 90; omega)) (snd_app _ (u6 _ (by show st.length + 1 + 1 + _ < 90; omega)) (snd_one (by show st.length + 1 + 1 + 1 < 90; omega) rfl)))
              · have v2 : fX12_eats (nI 17) M6 = some (nI 0, M6) := v2
                refine Or.inr ⟨S7, M7, gc 0 _ ?_ (by decide), gm _ ?_, v4, (((((a5.tr b7).tr c5).tr x7).tr y5).tr u7).tr v5, (((((a6.tr b8).tr c6).tr x8).tr y6).tr u8).tr v6⟩
                · unfold fX7_readChoice; simp (disch := omega) only [lit, lm1, nI_add, pk_mul, nm_eq, nm_eq', nm_lt, nm_lt', nm_le, nm_le', x_lt, x_le, x_eq, x_in, x_cl, x_div, x_sub, x_rem, x_min, x_max, x_and, x_or, x_xor, x_df, x_shl, bI_0, bI_1, bI_bo, lg_eq, toL_inj, ls_nI, decide_eq_false_iff_not, decide_eq_true_eq, Bool.true_eq_false, Bool.false_eq_true, bq, if_pos, if_neg, if_true, if_false, lq, Nat.reduceAdd, Nat.reduceMul, Nat.reduceSub, Nat.reduceDiv, Nat.reduceMod, b1, c1, x1, y1, u1, v1]
                · unfold fX12_readIf; simp (disch := omega) only [lit, lm1, nI_add, pk_mul, nm_eq, nm_eq', nm_lt, nm_lt', nm_le, nm_le', x_lt, x_le, x_eq, x_in, x_cl, x_div, x_sub, x_rem, x_min, x_max, x_and, x_or, x_xor, x_df, x_shl, bI_0, bI_1, bI_bo, lg_eq, toL_inj, ls_nI, decide_eq_false_iff_not, decide_eq_true_eq, Bool.true_eq_false, Bool.false_eq_true, bq, if_pos, if_neg, if_true, if_false, lq, Nat.reduceAdd, Nat.reduceMul, Nat.reduceSub, Nat.reduceDiv, Nat.reduceMod, a2, b2, c2, x2, y2, u2, v2, v3, f_codes v4.fm]; unfold fX12_readIf_30; simp (disch := omega) only [lit, lm1, nI_add, pk_mul, nm_eq, nm_eq', nm_lt, nm_lt', nm_le, nm_le', x_lt, x_le, x_eq, x_in, x_cl, x_div, x_sub, x_rem, x_min, x_max, x_and, x_or, x_xor, x_df, x_shl, bI_0, bI_1, bI_bo, lg_eq, toL_inj, ls_nI, decide_eq_false_iff_not, decide_eq_true_eq, Bool.true_eq_false, Bool.false_eq_true, bq, if_pos, if_neg, if_true, if_false, lq, Nat.reduceAdd, Nat.reduceMul, Nat.reduceSub, Nat.reduceDiv, Nat.reduceMod, a2, b2, c2, x2, y2, u2, v2, v3, f_codes v4.fm]; unfold fX12_readIf_51; simp (disch := omega) only [lit, lm1, nI_add, pk_mul, nm_eq, nm_eq', nm_lt, nm_lt', nm_le, nm_le', x_lt, x_le, x_eq, x_in, x_cl, x_div, x_sub, x_rem, x_min, x_max, x_and, x_or, x_xor, x_df, x_shl, bI_0, bI_1, bI_bo, lg_eq, toL_inj, ls_nI, decide_eq_false_iff_not, decide_eq_true_eq, Bool.true_eq_false, Bool.false_eq_true, bq, if_pos, if_neg, if_true, if_false, lq, Nat.reduceAdd, Nat.reduceMul, Nat.reduceSub, Nat.reduceDiv, Nat.reduceMod, a2, b2, c2, x2, y2, u2, v2, v3, f_codes v4.fm]
            · refine Or.inr ⟨S6, M6, gc 0 _ ?_ (by decide), gm _ ?_, u3, ((((a5.tr b7).tr c5).tr x7).tr y5).tr u4, ((((a6.tr b8).tr c6).tr x8).tr y6).tr u5⟩
              · unfold fX7_readChoice; simp (disch := omega) only [lit, lm1, nI_add, pk_mul, nm_eq, nm_eq', nm_lt, nm_lt', nm_le, nm_le', x_lt, x_le, x_eq, x_in, x_cl, x_div, x_sub, x_rem, x_min, x_max, x_and, x_or, x_xor, x_df, x_shl, bI_0, bI_1, bI_bo, lg_eq, toL_inj, ls_nI, decide_eq_false_iff_not, decide_eq_true_eq, Bool.true_eq_false, Bool.false_eq_true, bq, if_pos, if_neg, if_true, if_false, lq, Nat.reduceAdd, Nat.reduceMul, Nat.reduceSub, Nat.reduceDiv, Nat.reduceMod, b1, c1, x1, y1, u1]
              · unfold fX12_readIf; simp (disch := omega) only [lit, lm1, nI_add, pk_mul, nm_eq, nm_eq', nm_lt, nm_lt', nm_le, nm_le', x_lt, x_le, x_eq, x_in, x_cl, x_div, x_sub, x_rem, x_min, x_max, x_and, x_or, x_xor, x_df, x_shl, bI_0, bI_1, bI_bo, lg_eq, toL_inj, ls_nI, decide_eq_false_iff_not, decide_eq_true_eq, Bool.true_eq_false, Bool.false_eq_true, bq, if_pos, if_neg, if_true, if_false, lq, Nat.reduceAdd, Nat.reduceMul, Nat.reduceSub, Nat.reduceDiv, Nat.reduceMod, a2, b2, c2, x2, y2, u2, f_eats u3.fm, f_fails u3.fm, f_codes u3.fm]; unfold fX12_readIf_30; simp (disch := omega) only [lit, lm1, nI_add, pk_mul, nm_eq, nm_eq', nm_lt, nm_lt', nm_le, nm_le', x_lt, x_le, x_eq, x_in, x_cl, x_div, x_sub, x_rem, x_min, x_max, x_and, x_or, x_xor, x_df, x_shl, bI_0, bI_1, bI_bo, lg_eq, toL_inj, ls_nI, decide_eq_false_iff_not, decide_eq_true_eq, Bool.true_eq_false, Bool.false_eq_true, bq, if_pos, if_neg, if_true, if_false, lq, Nat.reduceAdd, Nat.reduceMul, Nat.reduceSub, Nat.reduceDiv, Nat.reduceMod, a2, b2, c2, x2, y2, u2, f_eats u3.fm, f_fails u3.fm, f_codes u3.fm]; unfold fX12_readIf_51; simp (disch := omega) only [lit, lm1, nI_add, pk_mul, nm_eq, nm_eq', nm_lt, nm_lt', nm_le, nm_le', x_lt, x_le, x_eq, x_in, x_cl, x_div, x_sub, x_rem, x_min, x_max, x_and, x_or, x_xor, x_df, x_shl, bI_0, bI_1, bI_bo, lg_eq, toL_inj, ls_nI, decide_eq_false_iff_not, decide_eq_true_eq, Bool.true_eq_false, Bool.false_eq_true, bq, if_pos, if_neg, if_true, if_false, lq, Nat.reduceAdd, Nat.reduceMul, Nat.reduceSub, Nat.reduceDiv, Nat.reduceMod, a2, b2, c2, x2, y2, u2, f_eats u3.fm, f_fails u3.fm, f_codes u3.fm]
          · have y2 : fX12_eats (nI 16) M4 = some (nI 0, M4) := y2
            refine Or.inr ⟨S5, M5, gc 0 _ ?_ (by decide), gm _ ?_, y4, (((a5.tr b7).tr c5).tr x7).tr y5, (((a6.tr b8).tr c6).tr x8).tr y6⟩
            · unfold fX7_readChoice; simp (disch := omega) only [lit, lm1, nI_add, pk_mul, nm_eq, nm_eq', nm_lt, nm_lt', nm_le, nm_le', x_lt, x_le, x_eq, x_in, x_cl, x_div, x_sub, x_rem, x_min, x_max, x_and, x_or, x_xor, x_df, x_shl, bI_0, bI_1, bI_bo, lg_eq, toL_inj, ls_nI, decide_eq_false_iff_not, decide_eq_true_eq, Bool.true_eq_false, Bool.false_eq_true, bq, if_pos, if_neg, if_true, if_false, lq, Nat.reduceAdd, Nat.reduceMul, Nat.reduceSub, Nat.reduceDiv, Nat.reduceMod, b1, c1, x1, y1]
            · unfold fX12_readIf; simp (disch := omega) only [lit, lm1, nI_add, pk_mul, nm_eq, nm_eq', nm_lt, nm_lt', nm_le, nm_le', x_lt, x_le, x_eq, x_in, x_cl, x_div, x_sub, x_rem, x_min, x_max, x_and, x_or, x_xor, x_df, x_shl, bI_0, bI_1, bI_bo, lg_eq, toL_inj, ls_nI, decide_eq_false_iff_not, decide_eq_true_eq, Bool.true_eq_false, Bool.false_eq_true, bq, if_pos, if_neg, if_true, if_false, lq, Nat.reduceAdd, Nat.reduceMul, Nat.reduceSub, Nat.reduceDiv, Nat.reduceMod, a2, b2, c2, x2, y2, y3, f_3g y4.fm, f_eats y4.fm, f_fails y4.fm, f_codes y4.fm]; unfold fX12_readIf_30; simp (disch := omega) only [lit, lm1, nI_add, pk_mul, nm_eq, nm_eq', nm_lt, nm_lt', nm_le, nm_le', x_lt, x_le, x_eq, x_in, x_cl, x_div, x_sub, x_rem, x_min, x_max, x_and, x_or, x_xor, x_df, x_shl, bI_0, bI_1, bI_bo, lg_eq, toL_inj, ls_nI, decide_eq_false_iff_not, decide_eq_true_eq, Bool.true_eq_false, Bool.false_eq_true, bq, if_pos, if_neg, if_true, if_false, lq, Nat.reduceAdd, Nat.reduceMul, Nat.reduceSub, Nat.reduceDiv, Nat.reduceMod, a2, b2, c2, x2, y2, y3, f_3g y4.fm, f_eats y4.fm, f_fails y4.fm, f_codes y4.fm]; unfold fX12_readIf_51; simp (disch := omega) only [lit, lm1, nI_add, pk_mul, nm_eq, nm_eq', nm_lt, nm_lt', nm_le, nm_le', x_lt, x_le, x_eq, x_in, x_cl, x_div, x_sub, x_rem, x_min, x_max, x_and, x_or, x_xor, x_df, x_shl, bI_0, bI_1, bI_bo, lg_eq, toL_inj, ls_nI, decide_eq_false_iff_not, decide_eq_true_eq, Bool.true_eq_false, Bool.false_eq_true, bq, if_pos, if_neg, if_true, if_false, lq, Nat.reduceAdd, Nat.reduceMul, Nat.reduceSub, Nat.reduceDiv, Nat.reduceMod, a2, b2, c2, x2, y2, y3, f_3g y4.fm, f_eats y4.fm, f_fails y4.fm, f_codes y4.fm]
        · refine Or.inr ⟨S4, M4, gc 0 _ ?_ (by decide), gm _ ?_, x3, ((a5.tr b7).tr c5).tr x4, ((a6.tr b8).tr c6).tr x5⟩
          · unfold fX7_readChoice; simp (disch := omega) only [lit, lm1, nI_add, pk_mul, nm_eq, nm_eq', nm_lt, nm_lt', nm_le, nm_le', x_lt, x_le, x_eq, x_in, x_cl, x_div, x_sub, x_rem, x_min, x_max, x_and, x_or, x_xor, x_df, x_shl, bI_0, bI_1, bI_bo, lg_eq, toL_inj, ls_nI, decide_eq_false_iff_not, decide_eq_true_eq, Bool.true_eq_false, Bool.false_eq_true, bq, if_pos, if_neg, if_true, if_false, lq, Nat.reduceAdd, Nat.reduceMul, Nat.reduceSub, Nat.reduceDiv, Nat.reduceMod, b1, c1, x1]
          · unfold fX12_readIf; simp (disch := omega) only [lit, lm1, nI_add, pk_mul, nm_eq, nm_eq', nm_lt, nm_lt', nm_le, nm_le', x_lt, x_le, x_eq, x_in, x_cl, x_div, x_sub, x_rem, x_min, x_max, x_and, x_or, x_xor, x_df, x_shl, bI_0, bI_1, bI_bo, lg_eq, toL_inj, ls_nI, decide_eq_false_iff_not, decide_eq_true_eq, Bool.true_eq_false, Bool.false_eq_true, bq, if_pos, if_neg, if_true, if_false, lq, Nat.reduceAdd, Nat.reduceMul, Nat.reduceSub, Nat.reduceDiv, Nat.reduceMod, a2, b2, c2, x2, f_3g x3.fm, f_eats x3.fm, f_fails x3.fm, f_codes x3.fm]; unfold fX12_readIf_30; simp (disch := omega) only [lit, lm1, nI_add, pk_mul, nm_eq, nm_eq', nm_lt, nm_lt', nm_le, nm_le', x_lt, x_le, x_eq, x_in, x_cl, x_div, x_sub, x_rem, x_min, x_max, x_and, x_or, x_xor, x_df, x_shl, bI_0, bI_1, bI_bo, lg_eq, toL_inj, ls_nI, decide_eq_false_iff_not, decide_eq_true_eq, Bool.true_eq_false, Bool.false_eq_true, bq, if_pos, if_neg, if_true, if_false, lq, Nat.reduceAdd, Nat.reduceMul, Nat.reduceSub, Nat.reduceDiv, Nat.reduceMod, a2, b2, c2, x2, f_3g x3.fm, f_eats x3.fm, f_fails x3.fm, f_codes x3.fm]; unfold fX12_readIf_51; simp (disch := omega) only [lit, lm1, nI_add, pk_mul, nm_eq, nm_eq', nm_lt, nm_lt', nm_le, nm_le', x_lt, x_le, x_eq, x_in, x_cl, x_div, x_sub, x_rem, x_min, x_max, x_and, x_or, x_xor, x_df, x_shl, bI_0, bI_1, bI_bo, lg_eq, toL_inj, ls_nI, decide_eq_false_iff_not, decide_eq_true_eq, Bool.true_eq_false, Bool.false_eq_true, bq, if_pos, if_neg, if_true, if_false, lq, Nat.reduceAdd, Nat.reduceMul, Nat.reduceSub, Nat.reduceDiv, Nat.reduceMod, a2, b2, c2, x2, f_3g x3.fm, f_eats x3.fm, f_fails x3.fm, f_codes x3.fm]
      · have c2 : fX12_eats (nI 15) M2 = some (nI 0, M2) := c2
        refine Or.inr ⟨S3, M3, gc 0 _ ?_ (by decide), gm _ ?_, c4, (a5.tr b7).tr c5, (a6.tr b8).tr c6⟩
        · unfold fX7_readChoice; simp (disch := omega) only [lit, lm1, nI_add, pk_mul, nm_eq, nm_eq', nm_lt, nm_lt', nm_le, nm_le', x_lt, x_le, x_eq, x_in, x_cl, x_div, x_sub, x_rem, x_min, x_max, x_and, x_or, x_xor, x_df, x_shl, bI_0, bI_1, bI_bo, lg_eq, toL_inj, ls_nI, decide_eq_false_iff_not, decide_eq_true_eq, Bool.true_eq_false, Bool.false_eq_true, bq, if_pos, if_neg, if_true, if_false, lq, Nat.reduceAdd, Nat.reduceMul, Nat.reduceSub, Nat.reduceDiv, Nat.reduceMod, b1, c1]
        · unfold fX12_readIf; simp (disch := omega) only [lit, lm1, nI_add, pk_mul, nm_eq, nm_eq', nm_lt, nm_lt', nm_le, nm_le', x_lt, x_le, x_eq, x_in, x_cl, x_div, x_sub, x_rem, x_min, x_max, x_and, x_or, x_xor, x_df, x_shl, bI_0, bI_1, bI_bo, lg_eq, toL_inj, ls_nI, decide_eq_false_iff_not, decide_eq_true_eq, Bool.true_eq_false, Bool.false_eq_true, bq, if_pos, if_neg, if_true, if_false, lq, Nat.reduceAdd, Nat.reduceMul, Nat.reduceSub, Nat.reduceDiv, Nat.reduceMod, a2, b2, c2, c3, f_3g c4.fm, f_eats c4.fm, f_fails c4.fm, f_codes c4.fm]; unfold fX12_readIf_30; simp (disch := omega) only [lit, lm1, nI_add, pk_mul, nm_eq, nm_eq', nm_lt, nm_lt', nm_le, nm_le', x_lt, x_le, x_eq, x_in, x_cl, x_div, x_sub, x_rem, x_min, x_max, x_and, x_or, x_xor, x_df, x_shl, bI_0, bI_1, bI_bo, lg_eq, toL_inj, ls_nI, decide_eq_false_iff_not, decide_eq_true_eq, Bool.true_eq_false, Bool.false_eq_true, bq, if_pos, if_neg, if_true, if_false, lq, Nat.reduceAdd, Nat.reduceMul, Nat.reduceSub, Nat.reduceDiv, Nat.reduceMod, a2, b2, c2, c3, f_3g c4.fm, f_eats c4.fm, f_fails c4.fm, f_codes c4.fm]; unfold fX12_readIf_51; simp (disch := omega) only [lit, lm1, nI_add, pk_mul, nm_eq, nm_eq', nm_lt, nm_lt', nm_le, nm_le', x_lt, x_le, x_eq, x_in, x_cl, x_div, x_sub, x_rem, x_min, x_max, x_and, x_or, x_xor, x_df, x_shl, bI_0, bI_1, bI_bo, lg_eq, toL_inj, ls_nI, decide_eq_false_iff_not, decide_eq_true_eq, Bool.true_eq_false, Bool.false_eq_true, bq, if_pos, if_neg, if_true, if_false, lq, Nat.reduceAdd, Nat.reduceMul, Nat.reduceSub, Nat.reduceDiv, Nat.reduceMod, a2, b2, c2, c3, f_3g c4.fm, f_eats c4.fm, f_fails c4.fm, f_codes c4.fm]
    · refine Or.inr ⟨S2, M2, gc 0 _ ?_ (by decide), gm _ ?_, b3, a5.tr b4, a6.tr b5⟩
      · unfold fX7_readChoice; simp (disch := omega) only [lit, lm1, nI_add, pk_mul, nm_eq, nm_eq', nm_lt, nm_lt', nm_le, nm_le', x_lt, x_le, x_eq, x_in, x_cl, x_div, x_sub, x_rem, x_min, x_max, x_and, x_or, x_xor, x_df, x_shl, bI_0, bI_1, bI_bo, lg_eq, toL_inj, ls_nI, decide_eq_false_iff_not, decide_eq_true_eq, Bool.true_eq_false, Bool.false_eq_true, bq, if_pos, if_neg, if_true, if_false, lq, Nat.reduceAdd, Nat.reduceMul, Nat.reduceSub, Nat.reduceDiv, Nat.reduceMod, b1]
      · unfold fX12_readIf; simp (disch := omega) only [lit, lm1, nI_add, pk_mul, nm_eq, nm_eq', nm_lt, nm_lt', nm_le, nm_le', x_lt, x_le, x_eq, x_in, x_cl, x_div, x_sub, x_rem, x_min, x_max, x_and, x_or, x_xor, x_df, x_shl, bI_0, bI_1, bI_bo, lg_eq, toL_inj, ls_nI, decide_eq_false_iff_not, decide_eq_true_eq, Bool.true_eq_false, Bool.false_eq_true, bq, if_pos, if_neg, if_true, if_false, lq, Nat.reduceAdd, Nat.reduceMul, Nat.reduceSub, Nat.reduceDiv, Nat.reduceMod, a2, b2, f_3g b3.fm, f_eats b3.fm, f_fails b3.fm, f_codes b3.fm]; unfold fX12_readIf_30; simp (disch := omega) only [lit, lm1, nI_add, pk_mul, nm_eq, nm_eq', nm_lt, nm_lt', nm_le, nm_le', x_lt, x_le, x_eq, x_in, x_cl, x_div, x_sub, x_rem, x_min, x_max, x_and, x_or, x_xor, x_df, x_shl, bI_0, bI_1, bI_bo, lg_eq, toL_inj, ls_nI, decide_eq_false_iff_not, decide_eq_true_eq, Bool.true_eq_false, Bool.false_eq_true, bq, if_pos, if_neg, if_true, if_false, lq, Nat.reduceAdd, Nat.reduceMul, Nat.reduceSub, Nat.reduceDiv, Nat.reduceMod, a2, b2, f_3g b3.fm, f_eats b3.fm, f_fails b3.fm, f_codes b3.fm]; unfold fX12_readIf_51; simp (disch := omega) only [lit, lm1, nI_add, pk_mul, nm_eq, nm_eq', nm_lt, nm_lt', nm_le, nm_le', x_lt, x_le, x_eq, x_in, x_cl, x_div, x_sub, x_rem, x_min, x_max, x_and, x_or, x_xor, x_df, x_shl, bI_0, bI_1, bI_bo, lg_eq, toL_inj, ls_nI, decide_eq_false_iff_not, decide_eq_true_eq, Bool.true_eq_false, Bool.false_eq_true, bq, if_pos, if_neg, if_true, if_false, lq, Nat.reduceAdd, Nat.reduceMul, Nat.reduceSub, Nat.reduceDiv, Nat.reduceMod, a2, b2, f_3g b3.fm, f_eats b3.fm, f_fails b3.fm, f_codes b3.fm]
  · refine Or.inr ⟨S1, M1, ?_, gm _ ?_, a3, a4, a5⟩
    · unfold fX7_readAtom; simp (disch := omega) only [lit, lm1, nI_add, pk_mul, nm_eq, nm_eq', nm_lt, nm_lt', nm_le, nm_le', x_lt, x_le, x_eq, x_in, x_cl, x_div, x_sub, x_rem, x_min, x_max, x_and, x_or, x_xor, x_df, x_shl, bI_0, bI_1, bI_bo, lg_eq, toL_inj, ls_nI, decide_eq_false_iff_not, decide_eq_true_eq, Bool.true_eq_false, Bool.false_eq_true, bq, if_pos, if_neg, if_true, if_false, lq, Nat.reduceAdd, Nat.reduceMul, Nat.reduceSub, Nat.reduceDiv, Nat.reduceMod, i1, j1, a1]
    · unfold fX12_readIf; simp (disch := omega) only [lit, lm1, nI_add, pk_mul, nm_eq, nm_eq', nm_lt, nm_lt', nm_le, nm_le', x_lt, x_le, x_eq, x_in, x_cl, x_div, x_sub, x_rem, x_min, x_max, x_and, x_or, x_xor, x_df, x_shl, bI_0, bI_1, bI_bo, lg_eq, toL_inj, ls_nI, decide_eq_false_iff_not, decide_eq_true_eq, Bool.true_eq_false, Bool.false_eq_true, bq, if_pos, if_neg, if_true, if_false, lq, Nat.reduceAdd, Nat.reduceMul, Nat.reduceSub, Nat.reduceDiv, Nat.reduceMod, a2]
theorem at_fact {d m s : Nat} {l : List Nat} {S M : cpS} (hd : d ≤ 6) (hn : 8 * (6 - d) + 8 ≤ n + 1 + 6) (hm : 8 * (6 - d) + 8 ≤ m + 1 + 6) (hl : Ls t L s w l S M) (e1 : kyE t L s ≠ 25) (e2 : kyE t L s ≠ 35) (e3 : kyE t L s ≠ 14) {z : Nat} (hf : fcW w (kyE t L s) = some z) : Ot t L s w l false (8 * (6 - d) + 8 - 6) S M (fX7_readAtom (fX7_rec n) (nI d) S) (fX12_readAtom (fX12_rec m) (nI d) M) := by
  have l9 := hl.rp.ct.1
  have bg := hl.bg
  have hz : cpBo (nI 0) = true := by decide
  have kb : kyE t L s < 42 := by rcases kyE_kind t L s with q | q | q | q | q <;> omega
  have kc : (tkE t L s).2 < 5 := by rcases kyE_kind t L s with q | q | q | q | q <;> omega
  have m9 := hl.rp.m9
  have m11 := hl.rp.m11
  have i1 := hl.rp.isS (i := 5) (by decide)
  have i2 := hl.rp.mis (w := 35) (by decide)
  have j1 := hl.rp.isW (k := 15) (by decide) (by decide)
  rw [show kWd 15 = 14 from rfl] at j1
  have j2 := hl.rp.mis (w := 14) (by decide)
  have n2 := hl.rp.mis (w := 25) (by decide)
  have cf := c_fact hl
  have wf := m_word kb hl.w2 hl.wm
  have k2 : ¬ (tkE t L s).2 = 2 := by rcases kyE_kind t L s with q | q | q | q | q <;> omega
  rw [decide_eq_false (by omega)] at n2
  have n2 : fX12_is (nI 25) M = some (nI 0, M) := n2
  rw [decide_eq_false (by omega)] at i1 i2
  have i1 : fX7_isSign (nI 40) S = some (nI 0, S) := i1
  have i2 : fX12_is (nI 35) M = some (nI 0, M) := i2
  rw [decide_eq_false (by omega)] at j1 j2
  have j1 : fX7_isWord 15 S = some (nI 0, S) := j1
  have j2 : fX12_is (nI 14) M = some (nI 0, M) := j2
  rw [hf] at cf wf
  obtain ⟨z5, y6⟩ := fcW_b hf
  have cf : fX7_factNamed S = some (nI z, S) := cf
  have wf : fX12_wordOf (nI (kyE t L s)) M = some (nI z, M) := wf
  obtain ⟨s', S1, M1, S2, M2, a1, a2, a3, a4, a5, a6, a7, a8⟩ := hl.push y6 (k := 1000 + z) (by omega)
  have a2 : fX12_codes (nI (1000 + z)) M = some ((), M1) := by
    have ev : cpOp (1000 + z) = 1000 + z := by unfold cpOp; rw [if_pos (by omega)]
    rw [ev] at a2; exact a2
  refine Or.inl ⟨s', [1000 + z], S2, M2, ?_, ?_, a5, a6, by show 1 + s ≤ s'; omega, fun st hst => snd_one (by omega) ?_, a7, a8⟩
  · unfold fX7_readAtom fX7_readAtom_99; simp (disch := omega) only [lit, lm1, nI_add, pk_mul, nm_eq, nm_eq', nm_lt, nm_lt', nm_le, nm_le', x_lt, x_le, x_eq, x_in, x_cl, x_div, x_sub, x_rem, x_min, x_max, x_and, x_or, x_xor, x_df, x_shl, bI_0, bI_1, bI_bo, lg_eq, toL_inj, ls_nI, decide_eq_false_iff_not, decide_eq_true_eq, Bool.true_eq_false, Bool.false_eq_true, bq, if_pos, if_neg, if_true, if_false, lq, Nat.reduceAdd, Nat.reduceMul, Nat.reduceSub, Nat.reduceDiv, Nat.reduceMod, i1, j1, cf, hl.rp.c6, k2, a1, a3]
  · unfold fX12_readAtom; simp (disch := omega) only [lit, lm1, nI_add, pk_mul, nm_eq, nm_eq', nm_lt, nm_lt', nm_le, nm_le', x_lt, x_le, x_eq, x_in, x_cl, x_div, x_sub, x_rem, x_min, x_max, x_and, x_or, x_xor, x_df, x_shl, bI_0, bI_1, bI_bo, lg_eq, toL_inj, ls_nI, decide_eq_false_iff_not, decide_eq_true_eq, Bool.true_eq_false, Bool.false_eq_true, bq, if_pos, if_neg, if_true, if_false, lq, Nat.reduceAdd, Nat.reduceMul, Nat.reduceSub, Nat.reduceDiv, Nat.reduceMod, n2, m11, m9, wf, a2, a4]
  · unfold cpTyp; rw [if_pos (by omega)]
theorem at_none {d m s : Nat} {l : List Nat} {S M : cpS} (hd : d ≤ 6) (hn : 8 * (6 - d) + 8 ≤ n + 1 + 6) (hm : 8 * (6 - d) + 8 ≤ m + 1 + 6) (hl : Ls t L s w l S M) (e1 : kyE t L s ≠ 25) (e2 : kyE t L s ≠ 35) (e3 : kyE t L s ≠ 14) (hf : fcW w (kyE t L s) = none) : Ot t L s w l false (8 * (6 - d) + 8 - 6) S M (fX7_readAtom (fX7_rec n) (nI d) S) (fX12_readAtom (fX12_rec m) (nI d) M) := by
  have l9 := hl.rp.ct.1
  have bg := hl.bg
  have hz : cpBo (nI 0) = true := by decide
  have kb : kyE t L s < 42 := by rcases kyE_kind t L s with q | q | q | q | q <;> omega
  have kc : (tkE t L s).2 < 5 := by rcases kyE_kind t L s with q | q | q | q | q <;> omega
  have m9 := hl.rp.m9
  have m11 := hl.rp.m11
  have i1 := hl.rp.isS (i := 5) (by decide)
  have i2 := hl.rp.mis (w := 35) (by decide)
  have j1 := hl.rp.isW (k := 15) (by decide) (by decide)
  rw [show kWd 15 = 14 from rfl] at j1
  have j2 := hl.rp.mis (w := 14) (by decide)
  have n2 := hl.rp.mis (w := 25) (by decide)
  have cf := c_fact hl
  have wf := m_word kb hl.w2 hl.wm
  have k2 : ¬ (tkE t L s).2 = 2 := by rcases kyE_kind t L s with q | q | q | q | q <;> omega
  rw [decide_eq_false (by omega)] at n2
  have n2 : fX12_is (nI 25) M = some (nI 0, M) := n2
  rw [decide_eq_false (by omega)] at i1 i2
  have i1 : fX7_isSign (nI 40) S = some (nI 0, S) := i1
  have i2 : fX12_is (nI 35) M = some (nI 0, M) := i2
  rw [decide_eq_false (by omega)] at j1 j2
  have j1 : fX7_isWord 15 S = some (nI 0, S) := j1
  have j2 : fX12_is (nI 14) M = some (nI 0, M) := j2
  rw [hf] at cf wf
  have cf : fX7_factNamed S = some (nM, S) := cf
  have wf : fX12_wordOf (nI (kyE t L s)) M = some (nM, M) := wf
  have qm : (nM = nM) = True := eq_self _
  obtain ⟨S2, M2, r1, r2, r3, r4, r5⟩ := hl.rp.refu (f := 2) (by decide) (by decide)
  refine Or.inr ⟨S2, M2, ?_, ?_, r3, kRc.le r4, kRm.le r5⟩
  · unfold fX7_readAtom; simp (disch := omega) only [lit, lm1, nI_add, pk_mul, nm_eq, nm_eq', nm_lt, nm_lt', nm_le, nm_le', x_lt, x_le, x_eq, x_in, x_cl, x_div, x_sub, x_rem, x_min, x_max, x_and, x_or, x_xor, x_df, x_shl, bI_0, bI_1, bI_bo, lg_eq, toL_inj, ls_nI, decide_eq_false_iff_not, decide_eq_true_eq, Bool.true_eq_false, Bool.false_eq_true, bq, if_pos, if_neg, if_true, if_false, lq, Nat.reduceAdd, Nat.reduceMul, Nat.reduceSub, Nat.reduceDiv, Nat.reduceMod, i1, j1, cf, hl.rp.c6, k2, qm, r1, hz]
  · unfold fX12_readAtom; simp (disch := omega) only [lit, lm1, nI_add, pk_mul, nm_eq, nm_eq', nm_lt, nm_lt', nm_le, nm_le', x_lt, x_le, x_eq, x_in, x_cl, x_div, x_sub, x_rem, x_min, x_max, x_and, x_or, x_xor, x_df, x_shl, bI_0, bI_1, bI_bo, lg_eq, toL_inj, ls_nI, decide_eq_false_iff_not, decide_eq_true_eq, Bool.true_eq_false, Bool.false_eq_true, bq, if_pos, if_neg, if_true, if_false, lq, Nat.reduceAdd, Nat.reduceMul, Nat.reduceSub, Nat.reduceDiv, Nat.reduceMod, n2, m11, m9, wf, qm, i2, j2, r2]; unfold fX12_readAtom_66; simp (disch := omega) only [lit, lm1, nI_add, pk_mul, nm_eq, nm_eq', nm_lt, nm_lt', nm_le, nm_le', x_lt, x_le, x_eq, x_in, x_cl, x_div, x_sub, x_rem, x_min, x_max, x_and, x_or, x_xor, x_df, x_shl, bI_0, bI_1, bI_bo, lg_eq, toL_inj, ls_nI, decide_eq_false_iff_not, decide_eq_true_eq, Bool.true_eq_false, Bool.false_eq_true, bq, if_pos, if_neg, if_true, if_false, lq, Nat.reduceAdd, Nat.reduceMul, Nat.reduceSub, Nat.reduceDiv, Nat.reduceMod, n2, m11, m9, wf, qm, i2, j2, r2]
theorem lk_atom (h4 : LKq t L w n 4 3 false) (g0 : ∀ k, n = k + 1 → LKq t L w k 0 0 true) (g4 : ∀ k, n = k + 1 → LKq t L w k 4 3 false) : LKq t L w (n + 1) 6 5 false := by
  intro d m s l S M hd hn hm hl
  obtain ⟨m, rfl⟩ : ∃ k, m = k + 1 := ⟨m - 1, by omega⟩
  rw [r7_6, rm_5]
  by_cases e1 : kyE t L s = 25
  · exact at_num hd hn hm hl e1
  by_cases e2 : kyE t L s = 35
  · exact at_par h4 hd hn hm hl e2
  by_cases e3 : kyE t L s = 14
  · exact at_if g0 g4 hd hn hm hl e3
  cases hf : fcW w (kyE t L s) with
  | some z => exact at_fact hd hn hm hl e1 e2 e3 hf
  | none => exact at_none hd hn hm hl e1 e2 e3 hf
theorem lk_all : ∀ n, LKq t L w n 0 0 true ∧ LKq t L w n 1 1 true ∧ LKq t L w n 2 2 true ∧ LKq t L w n 4 3 false ∧ LKq t L w n 5 4 false ∧ LKq t L w n 6 5 false := by
  have : ∀ N n, n ≤ N → LKq t L w n 0 0 true ∧ LKq t L w n 1 1 true ∧ LKq t L w n 2 2 true ∧ LKq t L w n 4 3 false ∧ LKq t L w n 5 4 false ∧ LKq t L w n 6 5 false := by
    intro N
    induction N with
    | zero =>
      intro n hn
      refine ⟨?_, ?_, ?_, ?_, ?_, ?_⟩ <;> intro d m s l S M hd h1 h2 hl <;> exact absurd h1 (by omega)
    | succ N ih =>
      intro n hn
      cases n with
      | zero => exact ih 0 (by omega)
      | succ n =>
        obtain ⟨h0, h1, h2, h4, h5, h6⟩ := ih n (by omega)
        exact ⟨lk_truth h1, lk_both h2, lk_unit h2 h0 (fun k e => (ih k (by omega)).2.2.2.1), lk_sum h5, lk_term h6, lk_atom h4 (fun k e => (ih k (by omega)).1) (fun k e => (ih k (by omega)).2.2.2.1)⟩
  exact fun n => this n n (Nat.le_refl _)
end AT
