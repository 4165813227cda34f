/-! the reference: numbers -/
section N3
variable {S : cpS} {t : Nat → Nat} {L : Nat}
theorem m_146 (h : mTp t L S) {p : Nat} (hp : p ≤ L) (h6 : S.1 150 6 = nI p) (h7 : S.1 150 7 = nI p) (h10 : S.1 150 10 = nI 0) : ∃ A, fX12_next_146 cpFu S = some ((), A) ∧ A.1 150 7 = nI (dge t L p) ∧ A.1 150 10 = nI (nvl t p (dge t L p - p)) ∧ A.1 150 9 = nI (if dge t L p - p ≤ 3 then 25 else 27) ∧ Kp (fun q j => q = 150 ∧ (j = 7 ∨ j = 9 ∨ j = 10)) S A := by
  have l9 := h.1
  have kk : ∀ {T : cpS}, Kp (fun q j => q = 150 ∧ (j = 7 ∨ j = 9 ∨ j = 10)) S T → mTp t L T := fun g => h.kp (g.le (fun q j h => ⟨h.1, by have := h.2; omega⟩))
  have k6 : ∀ {T : cpS}, Kp (fun q j => q = 150 ∧ (j = 7 ∨ j = 9 ∨ j = 10)) S T → T.1 150 6 = nI p := fun g => by rw [g.i (by omega)]; exact h6
  have fin : ∀ (n : Nat) (i : Nat) (T : cpS), p ≤ i → i ≤ L → (∃ z, fX12_see (nI i) T = some (z, T) ∧ fX12_isDigit z T = some (nI 0, T)) → T.1 150 7 = nI i → T.1 150 10 = nI (nvl t p (i - p)) → Kp (fun q j => q = 150 ∧ (j = 7 ∨ j = 9 ∨ j = 10)) S T → ∃ A, fX12_next_146 (n + 1) T = some ((), A) ∧ A.1 150 7 = nI i ∧ A.1 150 10 = nI (nvl t p (i - p)) ∧ A.1 150 9 = nI (if i - p ≤ 3 then 25 else 27) ∧ Kp (fun q j => q = 150 ∧ (j = 7 ∨ j = 9 ∨ j = 10)) S A := by
    intro n i T i0 iL hz i1 i2 i4
    obtain ⟨z, hz1, hz2⟩ := hz
    refine ⟨cpI T 150 9 (nI (if i - p ≤ 3 then 25 else 27)), ?_, by rw [sIn (Or.inr (by decide))]; exact i1, by rw [sIn (Or.inr (by decide))]; exact i2, sI1, i4.I (by exact ⟨rfl, by omega⟩)⟩
    rw [fX12_next_146]
    by_cases h3 : i - p ≤ 3
    · rw [if_pos h3]
      simp (disch := omega) only [lit, lm1, nI_add, pk_mul, nm_eq, nm_eq', nm_lt, nm_lt', nm_le, nm_le', x_lt, x_le, x_eq, x_in, x_cl, x_div, x_sub, x_rem, x_min, x_max, x_and, x_or, x_xor, x_df, x_shl, bI_0, bI_1, bI_bo, lg_eq, toL_inj, ls_nI, decide_eq_false_iff_not, decide_eq_true_eq, Bool.true_eq_false, Bool.false_eq_true, bq, if_pos, if_neg, if_true, if_false, lq, Nat.reduceAdd, Nat.reduceMul, Nat.reduceSub, Nat.reduceDiv, Nat.reduceMod, i1, hz1, hz2, k6 i4]
    · rw [if_neg h3]
      simp (disch := omega) only [lit, lm1, nI_add, pk_mul, nm_eq, nm_eq', nm_lt, nm_lt', nm_le, nm_le', x_lt, x_le, x_eq, x_in, x_cl, x_div, x_sub, x_rem, x_min, x_max, x_and, x_or, x_xor, x_df, x_shl, bI_0, bI_1, bI_bo, lg_eq, toL_inj, ls_nI, decide_eq_false_iff_not, decide_eq_true_eq, Bool.true_eq_false, Bool.false_eq_true, bq, if_pos, if_neg, if_true, if_false, lq, Nat.reduceAdd, Nat.reduceMul, Nat.reduceSub, Nat.reduceDiv, Nat.reduceMod, i1, hz1, hz2, k6 i4]
  refine ff_lp (F := fun n _ (T : cpS) => fX12_next_146 n T) L (fun x => !dig (t x)) (fun i T => p ≤ i ∧ T.1 150 7 = nI i ∧ T.1 150 10 = nI (nvl t p (i - p)) ∧ (nvl t p (i - p) < 10 ^ (min 3 (i - p))) ∧ Kp (fun q j => q = 150 ∧ (j = 7 ∨ j = 9 ∨ j = 10)) S T) (fun o r => ∃ A, r = some ((), A) ∧ A.1 150 7 = nI (o.getD L) ∧ A.1 150 10 = nI (nvl t p (o.getD L - p)) ∧ A.1 150 9 = nI (if o.getD L - p ≤ 3 then 25 else 27) ∧ Kp (fun q j => q = 150 ∧ (j = 7 ∨ j = 9 ∨ j = 10)) S A) (by omega) (fun n i T hi hI hq => ?_) (fun n i T hi hI hq => ?_) (fun n T hI => ?_) (i0 := p) (a := S) hp ⟨Nat.le_refl _, h7, by rw [Nat.sub_self]; exact h10, by rw [Nat.sub_self]; exact (by decide : 0 < 1), Kp.rf⟩
  · obtain ⟨i0, i1, i2, i3, i4⟩ := hI
    have hT := kk i4
    obtain ⟨e1, e2⟩ := hT.2.2 i hi
    have hw : dig (t i) = true := by
      cases hw : dig (t i)
      · (try dsimp only at hq); rw [hw] at hq; cases hq
      · rfl
    have dd := m_digit (S := T) e2
    rw [hw] at dd
    have dd : fX12_isDigit (nI (t i)) T = some (nI 1, T) := dd
    unfold dig at hw
    rw [Bool.and_eq_true, decide_eq_true_eq, decide_eq_true_eq] at hw
    obtain ⟨w1, w2⟩ := hw
    have es : i + 1 - p = (i - p) + 1 := by omega
    have ei : p + (i - p) = i := by omega
    by_cases h3 : 3 ≤ i - p
    · have ev : nvl t p (i + 1 - p) = nvl t p (i - p) := by rw [es, nvl_s, if_pos h3]
      refine ⟨cpI T 150 7 (nI (i + 1)), ?_, by omega, sI1, ?_, ?_, i4.I (by exact ⟨rfl, Or.inl rfl⟩)⟩
      · rw [fX12_next_146]
        simp (disch := omega) only [lit, lm1, nI_add, pk_mul, nm_eq, nm_eq', nm_lt, nm_lt', nm_le, nm_le', x_lt, x_le, x_eq, x_in, x_cl, x_div, x_sub, x_rem, x_min, x_max, x_and, x_or, x_xor, x_df, x_shl, bI_0, bI_1, bI_bo, lg_eq, toL_inj, ls_nI, decide_eq_false_iff_not, decide_eq_true_eq, Bool.true_eq_false, Bool.false_eq_true, bq, if_pos, if_neg, if_true, if_false, lq, Nat.reduceAdd, Nat.reduceMul, Nat.reduceSub, Nat.reduceDiv, Nat.reduceMod, i1, m_see hT hi, dd, k6 i4]
      · rw [sIn (Or.inr (by decide)), ev]; exact i2
      · rw [ev, show min 3 (i + 1 - p) = min 3 (i - p) by omega]; exact i3
    · have ev : nvl t p (i + 1 - p) = 10 * nvl t p (i - p) + (t i - 48) := by rw [es, nvl_s, if_neg h3, ei]
      have hb : nvl t p (i - p) < 1000 := Nat.lt_of_lt_of_le i3 (Nat.pow_le_pow_right (n := 10) (by decide) (Nat.min_le_left 3 (i - p)))
      refine ⟨cpI (cpI T 150 10 (nI (nvl t p (i + 1 - p)))) 150 7 (nI (i + 1)), ?_, by omega, sI1, ?_, ?_, (i4.I (by exact ⟨rfl, by omega⟩)).I (by exact ⟨rfl, Or.inl rfl⟩)⟩
      · have ee : 10 * nvl t p (i - p) + t i - 48 = nvl t p (i + 1 - p) := by rw [ev]; omega
        have e8 : (cpI T 150 10 (nI (nvl t p (i + 1 - p)))).1 150 7 = nI i := by rw [sIn (Or.inr (by decide))]; exact i1
        rw [fX12_next_146]
        simp (disch := omega) only [lit, lm1, nI_add, pk_mul, nm_eq, nm_eq', nm_lt, nm_lt', nm_le, nm_le', x_lt, x_le, x_eq, x_in, x_cl, x_div, x_sub, x_rem, x_min, x_max, x_and, x_or, x_xor, x_df, x_shl, bI_0, bI_1, bI_bo, lg_eq, toL_inj, ls_nI, decide_eq_false_iff_not, decide_eq_true_eq, Bool.true_eq_false, Bool.false_eq_true, bq, if_pos, if_neg, if_true, if_false, lq, Nat.reduceAdd, Nat.reduceMul, Nat.reduceSub, Nat.reduceDiv, Nat.reduceMod, i1, m_see hT hi, dd, k6 i4, i2, ee, e8]
      · rw [sIn (Or.inr (by decide)), sI1]
      · rw [ev, show min 3 (i + 1 - p) = min 3 (i - p) + 1 by omega, Nat.pow_succ]; omega
  · obtain ⟨i0, i1, i2, i3, i4⟩ := hI
    have hT := kk i4
    obtain ⟨e1, e2⟩ := hT.2.2 i hi
    have hw : dig (t i) = false := by
      cases hw : dig (t i)
      · rfl
      · (try dsimp only at hq); rw [hw] at hq; cases hq
    have dd := m_digit (S := T) e2
    rw [hw] at dd
    exact fin n i T i0 (by omega) ⟨_, m_see hT hi, dd⟩ i1 i2 i4
  · obtain ⟨i0, i1, i2, i3, i4⟩ := hI
    have hT := kk i4
    exact fin n L T i0 (Nat.le_refl _) ⟨_, m_seeN hT, m_digitN⟩ i1 i2 i4
end N3
