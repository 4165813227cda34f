/-! the class's next token -/
def tkE (t : Nat → Nat) (L s : Nat) : Nat × Nat := if s < lte t L s then (lte t L s, 1) else if s < dge t L s then (dge t L s, if dge t L s - s ≤ 3 then 2 else 4) else if s < L then (s + 1, if (sgI (t s)).isSome then 3 else 4) else (s, 0)
section T5
variable {S : cpS} {t : Nat → Nat} {L : Nat}
theorem c_adv231 (h : cTp t L S) {s : Nat} (hs : s ≤ L) (hl : ¬ s < lte t L s) (h7 : S.1 115 7 = nI s) (h8 : S.1 115 8 = nI (dge t L s)) : ∃ A, fX7_advance_231 S = some ((), A) ∧ A.1 115 8 = nI (tkE t L s).1 ∧ A.1 115 6 = nI (tkE t L s).2 ∧ Kp (fun q j => q = 115 ∧ (j = 6 ∨ j = 8)) S A := by
  have l9 := h.1
  have hd := dge_le (t := t) s hs
  unfold fX7_advance_231 tkE
  rw [if_neg hl]
  by_cases hg : s < dge t L s
  · rw [if_pos hg]
    by_cases h3 : dge t L s - s ≤ 3
    · refine ⟨cpI S 115 6 (nI 2), ?_, by rw [sIn (Or.inr (by decide))]; exact h8, by rw [sI1, if_pos h3], Kp.rf.I (by exact ⟨rfl, Or.inl rfl⟩)⟩
      simp (disch := omega) only [lit, lm1, nI_add, pk_mul, nm_eq, nm_eq', nm_lt, nm_lt', nm_le, nm_le', x_lt, x_le, x_eq, x_in, x_cl, x_div, x_sub, x_rem, x_min, x_max, x_and, x_or, x_xor, x_df, x_shl, bI_0, bI_1, bI_bo, lg_eq, toL_inj, ls_nI, decide_eq_false_iff_not, decide_eq_true_eq, Bool.true_eq_false, Bool.false_eq_true, bq, if_pos, if_neg, if_true, if_false, lq, Nat.reduceAdd, Nat.reduceMul, Nat.reduceSub, Nat.reduceDiv, Nat.reduceMod, h7, h8]
    · refine ⟨cpI S 115 6 (nI 4), ?_, by rw [sIn (Or.inr (by decide))]; exact h8, by rw [sI1, if_neg h3], Kp.rf.I (by exact ⟨rfl, Or.inl rfl⟩)⟩
      simp (disch := omega) only [lit, lm1, nI_add, pk_mul, nm_eq, nm_eq', nm_lt, nm_lt', nm_le, nm_le', x_lt, x_le, x_eq, x_in, x_cl, x_div, x_sub, x_rem, x_min, x_max, x_and, x_or, x_xor, x_df, x_shl, bI_0, bI_1, bI_bo, lg_eq, toL_inj, ls_nI, decide_eq_false_iff_not, decide_eq_true_eq, Bool.true_eq_false, Bool.false_eq_true, bq, if_pos, if_neg, if_true, if_false, lq, Nat.reduceAdd, Nat.reduceMul, Nat.reduceSub, Nat.reduceDiv, Nat.reduceMod, h7, h8]
  · rw [if_neg hg]
    have es : dge t L s = s := by omega
    rw [es] at h8
    by_cases hL : s < L
    · rw [if_pos hL]
      obtain ⟨e1, e2⟩ := h.2.2 s hL
      have ix := c_indexOf (S := S) e2
      cases hsg : sgI (t s) with
      | none =>
        rw [hsg] at ix
        have ix : fJ0_indexOf_0f7a4 0 (nI (t s)) S = some (nM, S) := ix
        have hz : (nM < nI 0) = True := eq_true (by decide)
        have q7 : (cpI S 115 6 (nI 4)).1 115 7 = nI s := by rw [sIn (Or.inr (by decide))]; exact h7
        refine ⟨cpI (cpI S 115 6 (nI 4)) 115 8 (nI (s + 1)), ?_, sI1, by rw [sIn (Or.inr (by decide)), sI1]; rfl, (Kp.rf.I (by exact ⟨rfl, Or.inl rfl⟩)).I (by exact ⟨rfl, Or.inr rfl⟩)⟩
        simp (disch := omega) only [lit, lm1, nI_add, pk_mul, nm_eq, nm_eq', nm_lt, nm_lt', nm_le, nm_le', x_lt, x_le, x_eq, x_in, x_cl, x_div, x_sub, x_rem, x_min, x_max, x_and, x_or, x_xor, x_df, x_shl, bI_0, bI_1, bI_bo, lg_eq, toL_inj, ls_nI, decide_eq_false_iff_not, decide_eq_true_eq, Bool.true_eq_false, Bool.false_eq_true, bq, if_pos, if_neg, if_true, if_false, lq, Nat.reduceAdd, Nat.reduceMul, Nat.reduceSub, Nat.reduceDiv, Nat.reduceMod, h7, h8, h.2.1, e1, ix, hz, q7]
      | some k =>
        obtain ⟨-, k2, -, -⟩ := (ff_some _ _ _).mp hsg
        rw [hsg] at ix
        have ix : fJ0_indexOf_0f7a4 0 (nI (t s)) S = some (nI k, S) := ix
        have q7 : (cpI S 115 6 (nI 3)).1 115 7 = nI s := by rw [sIn (Or.inr (by decide))]; exact h7
        refine ⟨cpI (cpI S 115 6 (nI 3)) 115 8 (nI (s + 1)), ?_, sI1, by rw [sIn (Or.inr (by decide)), sI1]; rfl, (Kp.rf.I (by exact ⟨rfl, Or.inl rfl⟩)).I (by exact ⟨rfl, Or.inr rfl⟩)⟩
        simp (disch := omega) only [lit, lm1, nI_add, pk_mul, nm_eq, nm_eq', nm_lt, nm_lt', nm_le, nm_le', x_lt, x_le, x_eq, x_in, x_cl, x_div, x_sub, x_rem, x_min, x_max, x_and, x_or, x_xor, x_df, x_shl, bI_0, bI_1, bI_bo, lg_eq, toL_inj, ls_nI, decide_eq_false_iff_not, decide_eq_true_eq, Bool.true_eq_false, Bool.false_eq_true, bq, if_pos, if_neg, if_true, if_false, lq, Nat.reduceAdd, Nat.reduceMul, Nat.reduceSub, Nat.reduceDiv, Nat.reduceMod, h7, h8, h.2.1, e1, ix, q7]
    · rw [if_neg hL]
      refine ⟨cpI S 115 6 (nI 0), ?_, by rw [sIn (Or.inr (by decide))]; exact h8, sI1, Kp.rf.I (by exact ⟨rfl, Or.inl rfl⟩)⟩
      simp (disch := omega) only [lit, lm1, nI_add, pk_mul, nm_eq, nm_eq', nm_lt, nm_lt', nm_le, nm_le', x_lt, x_le, x_eq, x_in, x_cl, x_div, x_sub, x_rem, x_min, x_max, x_and, x_or, x_xor, x_df, x_shl, bI_0, bI_1, bI_bo, lg_eq, toL_inj, ls_nI, decide_eq_false_iff_not, decide_eq_true_eq, Bool.true_eq_false, Bool.false_eq_true, bq, if_pos, if_neg, if_true, if_false, lq, Nat.reduceAdd, Nat.reduceMul, Nat.reduceSub, Nat.reduceDiv, Nat.reduceMod, h7, h8, h.2.1]
end T5
