/-! signs -/
def sgN (i : Nat) : Nat := [59, 58, 43, 45, 42, 40, 41, 91, 93, 61, 60, 62].getD i 0
def sgI (x : Nat) : Option Nat := ff (fun i => decide (sgN i = x)) 12 0
theorem sg_b : ∀ x, x < 256 → ∀ i, i < 12 → decide ((cpByt.getD 0 []).getD i 0 = cpi2b (nI x)) = decide (sgN i = x) := by decide +kernel
theorem len0 : cpLen.getD 0 0 = 12 := by decide
theorem c_indexOf {S : cpS} {x : Nat} (hx : x < 256) : fJ0_indexOf_0f7a4 0 (nI x) S = some (oI (sgI x), S) := by
  have lp : fJ1_indexOfChar_4cfef_7 0 (nI 12) (cpi2b (nI x)) cpFu (nI 0) S = some (oI (sgI x), S) := by
    refine ff_lp (F := fun n i (T : cpS) => fJ1_indexOfChar_4cfef_7 0 (nI 12) (cpi2b (nI x)) n i T) 12 (fun i => decide (sgN i = x)) (fun _ T => T = S) (fun o r => r = some (oI o, S)) (by decide) (fun n i T hi hT hq => ⟨S, ?_, rfl⟩) (fun n i T hi hT hq => ?_) (fun n T hT => ?_) (i0 := 0) (a := S) (Nat.zero_le _) rfl
    · subst hT
      have hb := sg_b x hx i hi
      (try dsimp only at hq)
      rw [hq] at hb
      have hb : ((cpByt.getD 0 []).getD i (nI 0) = cpi2b (nI x)) = False := eq_false (of_decide_eq_false hb)
      rw [fJ1_indexOfChar_4cfef_7, len0]
      simp (disch := omega) only [lit, lm1, nI_add, pk_mul, nm_eq, nm_eq', nm_lt, nm_lt', nm_le, nm_le', x_lt, x_le, x_eq, x_in, x_cl, x_div, x_sub, x_rem, x_min, x_max, x_and, x_or, x_xor, x_df, x_shl, bI_0, bI_1, bI_bo, lg_eq, toL_inj, ls_nI, decide_eq_false_iff_not, decide_eq_true_eq, Bool.true_eq_false, Bool.false_eq_true, bq, if_pos, if_neg, if_true, if_false, lq, Nat.reduceAdd, Nat.reduceMul, Nat.reduceSub, Nat.reduceDiv, Nat.reduceMod, hb]
    · subst hT
      have hb := sg_b x hx i hi
      (try dsimp only at hq)
      rw [hq] at hb
      have hb : ((cpByt.getD 0 []).getD i (nI 0) = cpi2b (nI x)) = True := eq_true (of_decide_eq_true hb)
      rw [fJ1_indexOfChar_4cfef_7, len0]
      simp (disch := omega) only [lit, lm1, nI_add, pk_mul, nm_eq, nm_eq', nm_lt, nm_lt', nm_le, nm_le', x_lt, x_le, x_eq, x_in, x_cl, x_div, x_sub, x_rem, x_min, x_max, x_and, x_or, x_xor, x_df, x_shl, bI_0, bI_1, bI_bo, lg_eq, toL_inj, ls_nI, decide_eq_false_iff_not, decide_eq_true_eq, Bool.true_eq_false, Bool.false_eq_true, bq, if_pos, if_neg, if_true, if_false, lq, Nat.reduceAdd, Nat.reduceMul, Nat.reduceSub, Nat.reduceDiv, Nat.reduceMod, hb]
      rfl
    · subst hT
      rw [fJ1_indexOfChar_4cfef_7]
      simp (disch := omega) only [lit, lm1, nI_add, pk_mul, nm_eq, nm_eq', nm_lt, nm_lt', nm_le, nm_le', x_lt, x_le, x_eq, x_in, x_cl, x_div, x_sub, x_rem, x_min, x_max, x_and, x_or, x_xor, x_df, x_shl, bI_0, bI_1, bI_bo, lg_eq, toL_inj, ls_nI, decide_eq_false_iff_not, decide_eq_true_eq, Bool.true_eq_false, Bool.false_eq_true, bq, if_pos, if_neg, if_true, if_false, lq, Nat.reduceAdd, Nat.reduceMul, Nat.reduceSub, Nat.reduceDiv, Nat.reduceMod]
      rfl
  have e12 : cpShr (nI 12) (nI 0) = nI 12 := by decide
  unfold fJ0_indexOf_0f7a4 fJ0_indexOf_7cf53 fJ0_isLatin1_aae02 fJ0_length_8abf5 fJ0_coder_7d493 fJ1_indexOf_4cfef fJ1_canEncode_9a6ad fJ1_indexOfChar_4cfef
  rw [len0]
  simp (disch := omega) only [lit, lm1, nI_add, pk_mul, nm_eq, nm_eq', nm_lt, nm_lt', nm_le, nm_le', x_lt, x_le, x_eq, x_in, x_cl, x_div, x_sub, x_rem, x_min, x_max, x_and, x_or, x_xor, x_df, x_shl, bI_0, bI_1, bI_bo, lg_eq, toL_inj, ls_nI, decide_eq_false_iff_not, decide_eq_true_eq, Bool.true_eq_false, Bool.false_eq_true, bq, if_pos, if_neg, if_true, if_false, lq, Nat.reduceAdd, Nat.reduceMul, Nat.reduceSub, Nat.reduceDiv, Nat.reduceMod, e12, Nat.max_self, Nat.min_self]
  simp (disch := omega) only [lit, lm1, nI_add, pk_mul, nm_eq, nm_eq', nm_lt, nm_lt', nm_le, nm_le', x_lt, x_le, x_eq, x_in, x_cl, x_div, x_sub, x_rem, x_min, x_max, x_and, x_or, x_xor, x_df, x_shl, bI_0, bI_1, bI_bo, lg_eq, toL_inj, ls_nI, decide_eq_false_iff_not, decide_eq_true_eq, Bool.true_eq_false, Bool.false_eq_true, bq, if_pos, if_neg, if_true, if_false, lq, Nat.reduceAdd, Nat.reduceMul, Nat.reduceSub, Nat.reduceDiv, Nat.reduceMod, lp]
