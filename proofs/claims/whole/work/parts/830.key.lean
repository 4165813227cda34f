/-! the reference: words by their number -/
def wOf (j : Nat) : Nat := [1, 8, 15, 20, 25, 30, 37, 40, 47, 55, 60, 67, 73, 77, 83, 86, 91, 96, 100, 104, 111, 115, 118, 122].getD j 0
def wLn (j : Nat) : Nat := [6, 6, 4, 4, 4, 6, 2, 6, 7, 4, 6, 5, 3, 5, 2, 4, 4, 3, 3, 6, 3, 2, 3].getD j 0
abbrev wqQ (t : Nat → Nat) (s e j : Nat) : Prop := e = s + wLn j ∧ ∀ i, i < wLn j → t (s + i) = txB 24 (wOf j + i)
def kyW (t : Nat → Nat) (s e : Nat) : Nat := (ff (fun j => decide (wqQ t s e j)) 23 0).getD 24
theorem tx24 : ∀ j, j < 23 → wOf (j + 1) = wOf j + wLn j + 1 ∧ wOf j + wLn j < 122 ∧ txB 24 (wOf j + wLn j) = 32 ∧ 1 ≤ wLn j ∧ wLn j ≤ 7 ∧ ∀ i, i < wLn j → txB 24 (wOf j + i) ≠ 32 := by decide +kernel
theorem tx24l : txL 24 = 122 ∧ wOf 0 = 1 ∧ wOf 23 = 122 := by decide
theorem tx24b : ∀ i, i < 122 → txB 24 i < 128 := by decide +kernel
section KY
variable {S : cpS} {t : Nat → Nat} {L : Nat}
theorem m_k97 {j : Nat} (hj : j < 23) (k4 : Int32 → Int32 → cpS → Option (Int32 × cpS)) : ∀ (m x n : Nat), x + m = wOf j + wLn j → wOf j ≤ x → m < n → fX12_keyAt_97 (nI j) k4 n (nI x) S = k4 (nI (j + 1)) (nI (wOf (j + 1))) S := by
  obtain ⟨h1, h2, h3, h4, h4', h5⟩ := tx24 j hj
  intro m
  induction m with
  | zero =>
    intro x n hx hw hn
    obtain ⟨n, rfl⟩ : ∃ k, n = k + 1 := ⟨n - 1, by omega⟩
    have ex : x = wOf j + wLn j := by omega
    subst ex
    have hc := e_charAt (v := 24) (i := wOf j + wLn j) (by decide) (by rw [tx24l.1]; exact h2) S
    rw [h3] at hc
    rw [fX12_keyAt_97, h1]
    simp (disch := omega) only [lit, lm1, nI_add, pk_mul, nm_eq, nm_eq', nm_lt, nm_lt', nm_le, nm_le', x_lt, x_le, x_eq, x_in, x_cl, x_div, x_sub, x_rem, x_min, x_max, x_and, x_or, x_xor, x_df, x_shl, bI_0, bI_1, bI_bo, lg_eq, toL_inj, ls_nI, decide_eq_false_iff_not, decide_eq_true_eq, Bool.true_eq_false, Bool.false_eq_true, bq, if_pos, if_neg, if_true, if_false, lq, Nat.reduceAdd, Nat.reduceMul, Nat.reduceSub, Nat.reduceDiv, Nat.reduceMod, hc]
  | succ m ih =>
    intro x n hx hw hn
    obtain ⟨n, rfl⟩ : ∃ k, n = k + 1 := ⟨n - 1, by omega⟩
    have hc := e_charAt (v := 24) (i := x) (by decide) (by rw [tx24l.1]; omega) S
    have hb := tx24b x (by omega)
    have h5' := h5 (x - wOf j) (by omega)
    rw [show wOf j + (x - wOf j) = x by omega] at h5'
    have := ih (x + 1) n (by omega) (by omega) (by omega)
    rw [fX12_keyAt_97]
    simp (disch := omega) only [lit, lm1, nI_add, pk_mul, nm_eq, nm_eq', nm_lt, nm_lt', nm_le, nm_le', x_lt, x_le, x_eq, x_in, x_cl, x_div, x_sub, x_rem, x_min, x_max, x_and, x_or, x_xor, x_df, x_shl, bI_0, bI_1, bI_bo, lg_eq, toL_inj, ls_nI, decide_eq_false_iff_not, decide_eq_true_eq, Bool.true_eq_false, Bool.false_eq_true, bq, if_pos, if_neg, if_true, if_false, lq, Nat.reduceAdd, Nat.reduceMul, Nat.reduceSub, Nat.reduceDiv, Nat.reduceMod, hc, h5']
    exact this
theorem m_k15 (h : mTp t L S) {s e : Nat} (hs : s ≤ e) (he : e ≤ L) (h6 : S.1 150 6 = nI s) (h7 : S.1 150 7 = nI e) {j : Nat} (hj : j < 23) (k4 : Int32 → Int32 → cpS → Option (Int32 × cpS)) : ∀ (m x n : Nat), x + m = wLn j → s + x ≤ e → (∀ i, i < x → t (s + i) = txB 24 (wOf j + i)) → m < n → fX12_keyAt_15 (nI j) (nI (wOf j)) k4 n (nI x) S = if wqQ t s e j then some (nI j, S) else k4 (nI (j + 1)) (nI (wOf (j + 1))) S := by
  have l9 := h.1
  obtain ⟨h1, h2, h3, h4, h4', h5⟩ := tx24 j hj
  have go97 := m_k97 (S := S) hj k4 (wLn j) (wOf j) cpFu rfl (Nat.le_refl _) (by show wLn j < 5000; omega)
  have k69 : ∀ x, x < wLn j → s + x ≤ e → ¬ wqQ t s e j → fX12_keyAt_69 (nI j) (nI (wOf j)) (nI x) k4 S = k4 (nI (j + 1)) (nI (wOf (j + 1))) S := by
    intro x hx hx2 hq
    have hc := e_charAt (v := 24) (i := wOf j + x) (by decide) (by rw [tx24l.1]; omega) S
    have hb := tx24b (wOf j + x) (by omega)
    have h5' := h5 x hx
    unfold fX12_keyAt_69
    simp (disch := omega) only [lit, lm1, nI_add, pk_mul, nm_eq, nm_eq', nm_lt, nm_lt', nm_le, nm_le', x_lt, x_le, x_eq, x_in, x_cl, x_div, x_sub, x_rem, x_min, x_max, x_and, x_or, x_xor, x_df, x_shl, bI_0, bI_1, bI_bo, lg_eq, toL_inj, ls_nI, decide_eq_false_iff_not, decide_eq_true_eq, Bool.true_eq_false, Bool.false_eq_true, bq, if_pos, if_neg, if_true, if_false, lq, Nat.reduceAdd, Nat.reduceMul, Nat.reduceSub, Nat.reduceDiv, Nat.reduceMod, hc, h5']
    exact go97
  intro m
  induction m with
  | zero =>
    intro x n hx hxe hm hn
    obtain ⟨n, rfl⟩ : ∃ k, n = k + 1 := ⟨n - 1, by omega⟩
    have ex : x = wLn j := by omega
    have hc := e_charAt (v := 24) (i := wOf j + x) (by decide) (by rw [tx24l.1, ex]; exact h2) S
    rw [ex, h3, ← ex] at hc
    rw [fX12_keyAt_15]
    simp (disch := omega) only [lit, lm1, nI_add, pk_mul, nm_eq, nm_eq', nm_lt, nm_lt', nm_le, nm_le', x_lt, x_le, x_eq, x_in, x_cl, x_div, x_sub, x_rem, x_min, x_max, x_and, x_or, x_xor, x_df, x_shl, bI_0, bI_1, bI_bo, lg_eq, toL_inj, ls_nI, decide_eq_false_iff_not, decide_eq_true_eq, Bool.true_eq_false, Bool.false_eq_true, bq, if_pos, if_neg, if_true, if_false, lq, Nat.reduceAdd, Nat.reduceMul, Nat.reduceSub, Nat.reduceDiv, Nat.reduceMod, hc]
    unfold fX12_keyAt_69
    by_cases hq : wqQ t s e j
    · rw [if_pos hq]
      have e2 : s + x = e := by rw [ex]; exact hq.1.symm
      simp (disch := omega) only [lit, lm1, nI_add, pk_mul, nm_eq, nm_eq', nm_lt, nm_lt', nm_le, nm_le', x_lt, x_le, x_eq, x_in, x_cl, x_div, x_sub, x_rem, x_min, x_max, x_and, x_or, x_xor, x_df, x_shl, bI_0, bI_1, bI_bo, lg_eq, toL_inj, ls_nI, decide_eq_false_iff_not, decide_eq_true_eq, Bool.true_eq_false, Bool.false_eq_true, bq, if_pos, if_neg, if_true, if_false, lq, Nat.reduceAdd, Nat.reduceMul, Nat.reduceSub, Nat.reduceDiv, Nat.reduceMod, hc, h6, h7, e2]
    · rw [if_neg hq]
      have e2 : ¬ s + x = e := fun q => hq ⟨by omega, fun i hi => hm i (by omega)⟩
      simp (disch := omega) only [lit, lm1, nI_add, pk_mul, nm_eq, nm_eq', nm_lt, nm_lt', nm_le, nm_le', x_lt, x_le, x_eq, x_in, x_cl, x_div, x_sub, x_rem, x_min, x_max, x_and, x_or, x_xor, x_df, x_shl, bI_0, bI_1, bI_bo, lg_eq, toL_inj, ls_nI, decide_eq_false_iff_not, decide_eq_true_eq, Bool.true_eq_false, Bool.false_eq_true, bq, if_pos, if_neg, if_true, if_false, lq, Nat.reduceAdd, Nat.reduceMul, Nat.reduceSub, Nat.reduceDiv, Nat.reduceMod, hc, h6, h7, e2]
      exact go97
  | succ m ih =>
    intro x n hx hxe hm hn
    obtain ⟨n, rfl⟩ : ∃ k, n = k + 1 := ⟨n - 1, by omega⟩
    have hc := e_charAt (v := 24) (i := wOf j + x) (by decide) (by rw [tx24l.1]; omega) S
    have hb := tx24b (wOf j + x) (by omega)
    have h5' := h5 x (by omega)
    rw [fX12_keyAt_15]
    by_cases hse : e ≤ s + x
    · have hq : ¬ wqQ t s e j := fun q => by have := q.1; omega
      have := k69 x (by omega) hxe hq
      rw [if_neg hq]
      simp (disch := omega) only [lit, lm1, nI_add, pk_mul, nm_eq, nm_eq', nm_lt, nm_lt', nm_le, nm_le', x_lt, x_le, x_eq, x_in, x_cl, x_div, x_sub, x_rem, x_min, x_max, x_and, x_or, x_xor, x_df, x_shl, bI_0, bI_1, bI_bo, lg_eq, toL_inj, ls_nI, decide_eq_false_iff_not, decide_eq_true_eq, Bool.true_eq_false, Bool.false_eq_true, bq, if_pos, if_neg, if_true, if_false, lq, Nat.reduceAdd, Nat.reduceMul, Nat.reduceSub, Nat.reduceDiv, Nat.reduceMod, hc, h5', h6, h7]
      exact this
    · obtain ⟨e1, e2⟩ := h.2.2 (s + x) (by omega)
      by_cases hb2 : t (s + x) = txB 24 (wOf j + x)
      · have := ih (x + 1) n (by omega) (by omega) (fun i hi => by
          by_cases ei : i = x
          · rw [ei]; exact hb2
          · exact hm i (by omega)) (by omega)
        simp (disch := omega) only [lit, lm1, nI_add, pk_mul, nm_eq, nm_eq', nm_lt, nm_lt', nm_le, nm_le', x_lt, x_le, x_eq, x_in, x_cl, x_div, x_sub, x_rem, x_min, x_max, x_and, x_or, x_xor, x_df, x_shl, bI_0, bI_1, bI_bo, lg_eq, toL_inj, ls_nI, decide_eq_false_iff_not, decide_eq_true_eq, Bool.true_eq_false, Bool.false_eq_true, bq, if_pos, if_neg, if_true, if_false, lq, Nat.reduceAdd, Nat.reduceMul, Nat.reduceSub, Nat.reduceDiv, Nat.reduceMod, hc, h5', h6, h7, e1, hb2]
        exact this
      · have hq : ¬ wqQ t s e j := fun q => hb2 (q.2 x (by omega))
        have := k69 x (by omega) hxe hq
        rw [if_neg hq]
        simp (disch := omega) only [lit, lm1, nI_add, pk_mul, nm_eq, nm_eq', nm_lt, nm_lt', nm_le, nm_le', x_lt, x_le, x_eq, x_in, x_cl, x_div, x_sub, x_rem, x_min, x_max, x_and, x_or, x_xor, x_df, x_shl, bI_0, bI_1, bI_bo, lg_eq, toL_inj, ls_nI, decide_eq_false_iff_not, decide_eq_true_eq, Bool.true_eq_false, Bool.false_eq_true, bq, if_pos, if_neg, if_true, if_false, lq, Nat.reduceAdd, Nat.reduceMul, Nat.reduceSub, Nat.reduceDiv, Nat.reduceMod, hc, h5', h6, h7, e1, hb2]
        exact this
theorem m_k4 (h : mTp t L S) {s e : Nat} (hs : s ≤ e) (he : e ≤ L) (h6 : S.1 150 6 = nI s) (h7 : S.1 150 7 = nI e) : ∀ (m j n : Nat), j + m = 23 → m < n → fX12_keyAt_4 n (nI j) (nI (wOf j)) S = some (nI ((ff (fun j => decide (wqQ t s e j)) m j).getD 24), S) := by
  intro m
  have hln := e_len (v := 24) (by decide) S
  rw [tx24l.1] at hln
  induction m with
  | zero =>
    intro j n hj hn
    obtain ⟨n, rfl⟩ : ∃ k, n = k + 1 := ⟨n - 1, by omega⟩
    have ej : j = 23 := by omega
    subst ej
    rw [fX12_keyAt_4, tx24l.2.2]
    simp (disch := omega) only [lit, lm1, nI_add, pk_mul, nm_eq, nm_eq', nm_lt, nm_lt', nm_le, nm_le', x_lt, x_le, x_eq, x_in, x_cl, x_div, x_sub, x_rem, x_min, x_max, x_and, x_or, x_xor, x_df, x_shl, bI_0, bI_1, bI_bo, lg_eq, toL_inj, ls_nI, decide_eq_false_iff_not, decide_eq_true_eq, Bool.true_eq_false, Bool.false_eq_true, bq, if_pos, if_neg, if_true, if_false, lq, Nat.reduceAdd, Nat.reduceMul, Nat.reduceSub, Nat.reduceDiv, Nat.reduceMod, hln]
    rfl
  | succ m ih =>
    intro j n hj hn
    obtain ⟨n, rfl⟩ : ∃ k, n = k + 1 := ⟨n - 1, by omega⟩
    obtain ⟨h1, h2, h3, h4, h4', h5⟩ := tx24 j (by omega)
    have k := m_k15 h hs he h6 h7 (j := j) (by omega) (fX12_keyAt_4 n) (wLn j) 0 cpFu (by omega) (by omega) (fun i hi => absurd hi (by omega)) (by show wLn j < 5000; omega)
    rw [ih (j + 1) n (by omega) (by omega)] at k
    rw [fX12_keyAt_4, ff]
    simp (disch := omega) only [lit, lm1, nI_add, pk_mul, nm_eq, nm_eq', nm_lt, nm_lt', nm_le, nm_le', x_lt, x_le, x_eq, x_in, x_cl, x_div, x_sub, x_rem, x_min, x_max, x_and, x_or, x_xor, x_df, x_shl, bI_0, bI_1, bI_bo, lg_eq, toL_inj, ls_nI, decide_eq_false_iff_not, decide_eq_true_eq, Bool.true_eq_false, Bool.false_eq_true, bq, if_pos, if_neg, if_true, if_false, lq, Nat.reduceAdd, Nat.reduceMul, Nat.reduceSub, Nat.reduceDiv, Nat.reduceMod, hln]
    refine k.trans ?_
    by_cases hq : wqQ t s e j
    · rw [if_pos hq, if_pos hq]; rfl
    · rw [if_neg hq, if_neg hq]
theorem m_keyAt (h : mTp t L S) {s e : Nat} (hs : s ≤ e) (he : e ≤ L) (h6 : S.1 150 6 = nI s) (h7 : S.1 150 7 = nI e) : fX12_keyAt S = some (nI (kyW t s e), S) := by
  have := m_k4 h hs he h6 h7 23 0 cpFu rfl (by decide)
  rw [tx24l.2.1] at this
  exact this
end KY
