/-! texts, byte by byte -/
def txL (v : Nat) : Nat := cpLen.getD v 0
def txB (v i : Nat) : Nat := ((cpByt.getD v []).getD i 0).toNatClampNeg
theorem tx_ok : ∀ v, v < 25 → ∀ i, i < 122 → i < txL v → (cpi2c (((cpByt.getD v []).getD i 0) &&& 255) = nI (txB v i) ∧ cpCh (nI (txB v i)) = true ∧ txB v i < 128 ∧ txL v ≤ 122) := by decide +kernel
theorem tx_len : ∀ v, v < 25 → txL v ≤ 122 := by decide
theorem e_len {v : Nat} (hv : v < 25) (S : cpS) : fJ0_length_8abf5 v S = some (nI (txL v), S) := by
  unfold fJ0_length_8abf5 fJ0_coder_7d493
  have : ∀ v, v < 25 → cpShr (nI (cpLen.getD v 0)) (nI 0) = nI (txL v) := by decide +kernel
  simp (disch := omega) only [lit, lm1, nI_add, pk_mul, nm_eq, nm_eq', nm_lt, nm_lt', nm_le, nm_le', x_lt, x_le, x_eq, x_in, x_cl, x_div, x_sub, x_rem, x_min, x_max, x_and, x_or, x_xor, x_df, x_shl, bI_0, bI_1, bI_bo, lg_eq, toL_inj, ls_nI, decide_eq_false_iff_not, decide_eq_true_eq, Bool.true_eq_false, Bool.false_eq_true, bq, if_pos, if_neg, if_true, if_false, lq, Nat.reduceAdd, Nat.reduceMul, Nat.reduceSub, Nat.reduceDiv, Nat.reduceMod, this v hv]
theorem e_charAt {v i : Nat} (hv : v < 25) (hi : i < txL v) (S : cpS) : fJ0_charAt_5068e v (nI i) S = some (nI (txB v i), S) := by
  have hl := tx_len v hv
  obtain ⟨h1, h2, h3, -⟩ := tx_ok v hv i (by omega) hi
  have e1 : cpi2c (((cpByt.getD v []).getD i (nI 0)) &&& nI 255) = nI (txB v i) := h1
  have hi' : i < cpLen.getD v 0 := hi
  have hl' : cpLen.getD v 0 ≤ 122 := hl
  unfold fJ0_charAt_5068e fJ0_isLatin1_aae02 fJ1_charAt_3b067 fJ0_checkIndex_df160 fJ3_checkIndex_8e157
  simp (disch := omega) only [lit, lm1, nI_add, pk_mul, nm_eq, nm_eq', nm_lt, nm_lt', nm_le, nm_le', x_lt, x_le, x_eq, x_in, x_cl, x_div, x_sub, x_rem, x_min, x_max, x_and, x_or, x_xor, x_df, x_shl, bI_0, bI_1, bI_bo, lg_eq, toL_inj, ls_nI, decide_eq_false_iff_not, decide_eq_true_eq, Bool.true_eq_false, Bool.false_eq_true, bq, if_pos, if_neg, if_true, if_false, lq, Nat.reduceAdd, Nat.reduceMul, Nat.reduceSub, Nat.reduceDiv, Nat.reduceMod, e1, h2]
