/-! undoing; counts -/
theorem fm_eq (a : Int32) (S : cpS) : fJ9_floorMod_7cf53 a (nI 10) S = some ((if 0 ≤ (a ^^^ nI 10) then cpRem a (nI 10) else if cpRem a (nI 10) = 0 then cpRem a (nI 10) else cpRem a (nI 10) + nI 10), S) := by
  unfold fJ9_floorMod_7cf53
  rw [if_neg (by decide), cpLt]
  by_cases h : 0 ≤ (a ^^^ nI 10)
  · rw [if_pos h, if_pos h]
  · rw [if_neg h, if_neg h]
    by_cases h2 : cpRem a (nI 10) = 0
    · rw [if_pos h2, if_pos h2]
    · rw [if_neg h2, if_neg h2]
theorem fm_at {x k : Nat} (hx : x < 10) (hk : k < 11) (S : cpS) : fJ9_floorMod_7cf53 (nI x - nI k) (nI 10) S = some (nI ((x + 10 - k) % 10), S) := by
  have : ∀ x, x < 10 → ∀ k, k < 11 → (if 0 ≤ ((nI x - nI k) ^^^ nI 10) then cpRem (nI x - nI k) (nI 10) else if cpRem (nI x - nI k) (nI 10) = 0 then cpRem (nI x - nI k) (nI 10) else cpRem (nI x - nI k) (nI 10) + nI 10) = nI ((x + 10 - k) % 10) := by decide +kernel
  rw [fm_eq, this x hx k hk]
theorem q_undo : cpQ_undo cpRl := by
  intro x1 S hR
  obtain ⟨D, E, z, x, hD, hE, c, m, n, w, z9, x9, hz, hz', hx, old⟩ := hR.un
  have hT : Kp (fun k j => k = 150 ∧ j = 0) S (cpI S 150 0 (nI 0)) := Kp.rf.I (by exact ⟨rfl, rfl⟩)
  have hS : ∀ k j, (k = 150 ∧ j = 0) → cpScr k j := fun k j h => by obtain ⟨rfl, rfl⟩ := h; exact scr_thr
  rcases in_or x1 11 with ⟨k, hk, rfl⟩ | h1
  · have ew : fX12_within (Int32.toInt64 (nI k)) 1 10 (cpI S 150 0 (nI 0)) = some (bI (decide (1 ≤ k)), cpI S 150 0 (nI 0)) := by
      rw [e_within, nI_l (by omega), show (1 : Int64) = lN 1 from rfl, show (10 : Int64) = lN 10 from rfl, lN_le (by omega) (by omega), lN_le (by omega) (by omega)]
      by_cases h : 1 ≤ k
      · rw [if_pos ⟨h, by omega⟩, decide_eq_true h]; rfl
      · rw [if_neg (by omega), decide_eq_false h]; rfl
    have e80 : (cpI S 150 0 (nI 0)).1 151 80 = nI z := by rw [hT.i (by omega)]; exact hz'
    by_cases h1 : 1 ≤ k
    · by_cases h2 : k ≤ z
      · have hdef : (x + 9 - (k - 1)) % 10 = (x + 10 - k) % 10 := by omega
        have hy : (x + 10 - k) % 10 < 10 := Nat.mod_lt _ (by decide)
        obtain ⟨o1, o2⟩ := old (k - 1) (by omega)
        rw [hdef, show z - 1 - (k - 1) = z - k by omega] at o1
        rw [hdef] at o2
        have eo : ∀ i, (((x + 10 - k) % 10) + 9 - i) % 10 = (x + 9 - (i + k)) % 10 ∨ 10 ≤ i + k := fun i => by omega
        generalize (x + 10 - k) % 10 = y at hdef hy o1 o2 eo
        sorry
      · refine ⟨-3, S, cpI S 150 0 (nI 0), ?_, ?_, hR.kp hT hS⟩
        · unfold fX11_undo
          simp (disch := omega) only [lit, lm1, nI_add, pk_mul, nm_eq, nm_eq', nm_lt, nm_lt', nm_le, nm_le', x_lt, x_le, x_eq, x_in, x_cl, x_div, x_sub, x_rem, x_min, x_max, x_and, x_or, x_xor, x_df, x_shl, bI_0, bI_1, bI_bo, lg_eq, toL_inj, ls_nI, decide_eq_false_iff_not, decide_eq_true_eq, Bool.true_eq_false, Bool.false_eq_true, bq, if_pos, if_neg, if_true, if_false, lq, Nat.reduceAdd, Nat.reduceMul, Nat.reduceSub, Nat.reduceDiv, Nat.reduceMod, hz]
        · unfold fX12_undo
          simp (disch := omega) only [lit, lm1, nI_add, pk_mul, nm_eq, nm_eq', nm_lt, nm_lt', nm_le, nm_le', x_lt, x_le, x_eq, x_in, x_cl, x_div, x_sub, x_rem, x_min, x_max, x_and, x_or, x_xor, x_df, x_shl, bI_0, bI_1, bI_bo, lg_eq, toL_inj, ls_nI, decide_eq_false_iff_not, decide_eq_true_eq, Bool.true_eq_false, Bool.false_eq_true, bq, if_pos, if_neg, if_true, if_false, lq, Nat.reduceAdd, Nat.reduceMul, Nat.reduceSub, Nat.reduceDiv, Nat.reduceMod, ew, e80]
    · refine ⟨-3, S, cpI S 150 0 (nI 0), ?_, ?_, hR.kp hT hS⟩
      · unfold fX11_undo
        simp (disch := omega) only [lit, lm1, nI_add, pk_mul, nm_eq, nm_eq', nm_lt, nm_lt', nm_le, nm_le', x_lt, x_le, x_eq, x_in, x_cl, x_div, x_sub, x_rem, x_min, x_max, x_and, x_or, x_xor, x_df, x_shl, bI_0, bI_1, bI_bo, lg_eq, toL_inj, ls_nI, decide_eq_false_iff_not, decide_eq_true_eq, Bool.true_eq_false, Bool.false_eq_true, bq, if_pos, if_neg, if_true, if_false, lq, Nat.reduceAdd, Nat.reduceMul, Nat.reduceSub, Nat.reduceDiv, Nat.reduceMod]
      · unfold fX12_undo
        simp (disch := omega) only [lit, lm1, nI_add, pk_mul, nm_eq, nm_eq', nm_lt, nm_lt', nm_le, nm_le', x_lt, x_le, x_eq, x_in, x_cl, x_div, x_sub, x_rem, x_min, x_max, x_and, x_or, x_xor, x_df, x_shl, bI_0, bI_1, bI_bo, lg_eq, toL_inj, ls_nI, decide_eq_false_iff_not, decide_eq_true_eq, Bool.true_eq_false, Bool.false_eq_true, bq, if_pos, if_neg, if_true, if_false, lq, Nat.reduceAdd, Nat.reduceMul, Nat.reduceSub, Nat.reduceDiv, Nat.reduceMod, ew]
  · have ew : fX12_within (Int32.toInt64 x1) 1 10 (cpI S 150 0 (nI 0)) = some (nI 0, cpI S 150 0 (nI 0)) := by
      rw [e_within, if_neg]; rfl
      intro k
      have a := (l_le _ _).mp k.1
      have b := (l_le _ _).mp k.2
      rw [i2l_toInt, show (1 : Int64).toInt = 1 from by decide] at a
      rw [i2l_toInt, show (10 : Int64).toInt = 10 from by decide] at b
      have := of_decide_eq_false h1
      omega
    refine ⟨-3, S, cpI S 150 0 (nI 0), ?_, ?_, hR.kp hT hS⟩
    · unfold fX11_undo
      rcases out_or (by decide) h1 with h | ⟨h, h', h''⟩
      · rw [if_pos (show x1 < (1 : Int32) by rw [i_lt] at h ⊢; have e0 : (0 : Int32).toInt = 0 := by decide
                                             have e1 : (1 : Int32).toInt = 1 := by decide
                                             omega)]
      · have h4 : ¬ x1 ≤ nI z := fun q => by
          rw [i_le, nI_toInt (by omega)] at q h''
          omega
        simp (disch := omega) only [lit, lm1, nI_add, pk_mul, nm_eq, nm_eq', nm_lt, nm_lt', nm_le, nm_le', x_lt, x_le, x_eq, x_in, x_cl, x_div, x_sub, x_rem, x_min, x_max, x_and, x_or, x_xor, x_df, x_shl, bI_0, bI_1, bI_bo, lg_eq, toL_inj, ls_nI, decide_eq_false_iff_not, decide_eq_true_eq, Bool.true_eq_false, Bool.false_eq_true, bq, if_pos, if_neg, if_true, if_false, lq, Nat.reduceAdd, Nat.reduceMul, Nat.reduceSub, Nat.reduceDiv, Nat.reduceMod, hz, h4]
        by_cases h5 : x1 < nI 1
        · rw [if_pos h5]
        · rw [if_neg h5]
    · unfold fX12_undo
      simp (disch := omega) only [lit, lm1, nI_add, pk_mul, nm_eq, nm_eq', nm_lt, nm_lt', nm_le, nm_le', x_lt, x_le, x_eq, x_in, x_cl, x_div, x_sub, x_rem, x_min, x_max, x_and, x_or, x_xor, x_df, x_shl, bI_0, bI_1, bI_bo, lg_eq, toL_inj, ls_nI, decide_eq_false_iff_not, decide_eq_true_eq, Bool.true_eq_false, Bool.false_eq_true, bq, if_pos, if_neg, if_true, if_false, lq, Nat.reduceAdd, Nat.reduceMul, Nat.reduceSub, Nat.reduceDiv, Nat.reduceMod, ew]
