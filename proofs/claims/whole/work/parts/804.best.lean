/-! where to bring it first -/
def bpP (D : cpD) (E : cpE) (c to n a b : Nat) : Bool := decide (b ≠ a) && (cb D E c a b && decide (Do D E c to b = some n))
def bp (D : cpD) (E : cpE) (c to n a : Nat) : Nat := (ff (bpP D E c to n a) D.K 0).getD a
section BP
variable {D : cpD} {E : cpE} {S : cpS}
theorem bp_b (hD : D.WF) {c to n a b : Nat} (ht : to < D.K) (ha : a < D.K) (hb : b < D.K) (hd : Dm D E c to a = some (n + 1)) : (nb D E c a &&& (mo D E c to n).2).testBit b = (cb D E c a b && decide (Do D E c to b = some n)) := by
  rw [Nat.testBit_and, nb_b hb]
  cases hc : cb D E c a b
  · rfl
  · rw [Bool.true_and, Bool.true_and]
    cases hm : (mo D E c to n).2.testBit b
    · refine (decide_eq_false (fun h => ?_)).symm
      rw [(Do_in h).2.1] at hm; cases hm
    · refine (decide_eq_true ?_).symm
      obtain ⟨m, m1, -, m2⟩ := Do_of hD ht hm
      by_cases e : m = n
      · rw [← e]; exact m2
      · obtain ⟨q, q1, q2⟩ := M1 hD ht ha hb hc m2
        rw [hd] at q2; cases q2; omega
theorem c_best (hD : D.WF) (cS : cA D E S) {c to n a : Nat} (o : onw D E c S) (ht : to < D.K) (ha : a < D.K) (hd : Dm D E c to a = some (n + 1)) (h5 : S.1 134 5 = nI (mo D E c to n).2) : fX2_bestPlace (nI a) S = some (nI (bp D E c to n a), S) := by
  have k6 := hD.k6
  have k64 : 2 ^ D.K ≤ 2 ^ 6 := Nat.pow_le_pow_right (by decide) k6
  have hy : nb D E c a &&& (mo D E c to n).2 < 2 ^ 31 := Nat.lt_of_le_of_lt Nat.and_le_right (by have := (mo_lt (E := E) (c := c) ht n).2; omega)
  unfold fX2_bestPlace
  simp (disch := omega) only [lit, lm1, nI_add, pk_mul, nm_eq, nm_eq', nm_lt, nm_lt', nm_le, nm_le', x_lt, x_le, x_eq, x_in, x_cl, x_div, x_sub, x_rem, x_min, x_max, x_and, x_or, x_xor, x_df, x_shl, bI_0, bI_1, bI_bo, lg_eq, toL_inj, ls_nI, decide_eq_false_iff_not, decide_eq_true_eq, Bool.true_eq_false, Bool.false_eq_true, bq, if_pos, if_neg, if_true, if_false, lq, Nat.reduceAdd, Nat.reduceMul, Nat.reduceSub, Nat.reduceDiv, Nat.reduceMod, o a ha, h5]
  refine ff_lp (F := fun f b (T : cpS) => fX2_bestPlace_14 (nI a) (nI (nb D E c a &&& (mo D E c to n).2)) f b T) D.K (bpP D E c to n a) (fun i T => T = S ∧ ∀ b, b < i → bpP D E c to n a b = false) (fun o r => r = some (nI (o.getD a), S)) (by omega) (fun f b T hb hT hp => ⟨S, ?_, rfl, fun b' hb' => ?_⟩) (fun f b T hb hT hp => ?_) (fun f T hT => ?_) (i0 := 0) (a := S) (Nat.zero_le _) ⟨rfl, fun b hb => absurd hb (by omega)⟩
  · obtain ⟨rfl, -⟩ := hT
    rw [fX2_bestPlace_14]
    by_cases e : b = a
    · subst e
      simp (disch := omega) only [lit, lm1, nI_add, pk_mul, nm_eq, nm_eq', nm_lt, nm_lt', nm_le, nm_le', x_lt, x_le, x_eq, x_in, x_cl, x_div, x_sub, x_rem, x_min, x_max, x_and, x_or, x_xor, x_df, x_shl, bI_0, bI_1, bI_bo, lg_eq, toL_inj, ls_nI, decide_eq_false_iff_not, decide_eq_true_eq, Bool.true_eq_false, Bool.false_eq_true, bq, if_pos, if_neg, if_true, if_false, lq, Nat.reduceAdd, Nat.reduceMul, Nat.reduceSub, Nat.reduceDiv, Nat.reduceMod, cS.K, eq_self]
    · have hbit := bp_b hD ht ha hb hd
      unfold bpP at hp
      rw [decide_eq_true e, Bool.true_and, ← hbit] at hp
      simp (disch := omega) only [lit, lm1, nI_add, pk_mul, nm_eq, nm_eq', nm_lt, nm_lt', nm_le, nm_le', x_lt, x_le, x_eq, x_in, x_cl, x_div, x_sub, x_rem, x_min, x_max, x_and, x_or, x_xor, x_df, x_shl, bI_0, bI_1, bI_bo, lg_eq, toL_inj, ls_nI, decide_eq_false_iff_not, decide_eq_true_eq, Bool.true_eq_false, Bool.false_eq_true, bq, if_pos, if_neg, if_true, if_false, lq, Nat.reduceAdd, Nat.reduceMul, Nat.reduceSub, Nat.reduceDiv, Nat.reduceMod, cS.K, e, e_isIn, hp]
  · by_cases e : b' = b
    · rw [e]; exact hp
    · exact hT.2 b' (by omega)
  · obtain ⟨rfl, -⟩ := hT
    have hbit := bp_b hD ht ha hb hd
    unfold bpP at hp
    rw [Bool.and_eq_true, decide_eq_true_eq, ← hbit] at hp
    have e : ¬ b = a := hp.1
    rw [fX2_bestPlace_14]
    simp (disch := omega) only [lit, lm1, nI_add, pk_mul, nm_eq, nm_eq', nm_lt, nm_lt', nm_le, nm_le', x_lt, x_le, x_eq, x_in, x_cl, x_div, x_sub, x_rem, x_min, x_max, x_and, x_or, x_xor, x_df, x_shl, bI_0, bI_1, bI_bo, lg_eq, toL_inj, ls_nI, decide_eq_false_iff_not, decide_eq_true_eq, Bool.true_eq_false, Bool.false_eq_true, bq, if_pos, if_neg, if_true, if_false, lq, Nat.reduceAdd, Nat.reduceMul, Nat.reduceSub, Nat.reduceDiv, Nat.reduceMod, cS.K, e, e_isIn, hp.2]
    rfl
  · obtain ⟨rfl, hno⟩ := hT
    obtain ⟨-, -, b, hb, hc, hb2⟩ := M2 hD ht hd
    have hba : b = a := Classical.byContradiction (fun e => by
      have := hno b hb
      unfold bpP at this
      rw [decide_eq_true e, hc, decide_eq_true hb2] at this
      cases this)
    have hbit := bp_b hD ht ha ha hd
    rw [hba] at hc hb2
    rw [hc, decide_eq_true hb2] at hbit
    rw [fX2_bestPlace_14]
    simp (disch := omega) only [lit, lm1, nI_add, pk_mul, nm_eq, nm_eq', nm_lt, nm_lt', nm_le, nm_le', x_lt, x_le, x_eq, x_in, x_cl, x_div, x_sub, x_rem, x_min, x_max, x_and, x_or, x_xor, x_df, x_shl, bI_0, bI_1, bI_bo, lg_eq, toL_inj, ls_nI, decide_eq_false_iff_not, decide_eq_true_eq, Bool.true_eq_false, Bool.false_eq_true, bq, if_pos, if_neg, if_true, if_false, lq, Nat.reduceAdd, Nat.reduceMul, Nat.reduceSub, Nat.reduceDiv, Nat.reduceMod, cS.K, e_isIn, hbit]
    rfl
theorem m_best (hD : D.WF) (m : mA D E S) {c to n a : Nat} (br : brs D E c S) (ht : to < D.K) (ha : a < D.K) (hd : Dm D E c to a = some (n + 1)) (f : ftU S (Dm D E c to, Do D E c to, false) 1000) : fX12_best_51 (nI (n + 1)) (nI a) cpFu (nI 0) S = some (nI (bp D E c to n a), S) := by
  have k6 := hD.k6
  have hn := (Dm_in hd).1
  have eqn : ∀ b, b < D.K → (S.1 161 b = nI n) = (Do D E c to b = some n) := fun b hb => by
    have h1 : S.1 161 b = dF (Do D E c to b) := f.2.1 b (by omega)
    rw [h1]
    cases hd2 : Do D E c to b with
    | none =>
      show (nI 268435456 = nI n) = _
      rw [x_eq (by decide) (by omega)]
      exact propext ⟨fun h => by omega, fun h => (by cases h)⟩
    | some q =>
      have := (Do_in hd2).1
      show (nI q = nI n) = _
      rw [x_eq (by omega) (by omega)]
      exact propext ⟨fun h => by rw [h], fun h => by cases h; rfl⟩
  refine ff_lp (F := fun f b (T : cpS) => fX12_best_51 (nI (n + 1)) (nI a) f b T) D.K (bpP D E c to n a) (fun i T => T = S) (fun o r => r = some (nI (o.getD a), S)) (by omega) (fun f b T hb hT hp => ⟨S, ?_, rfl⟩) (fun f b T hb hT hp => ?_) (fun f T hT => ?_) (i0 := 0) (a := S) (Nat.zero_le _) rfl
  · subst hT
    have hcb := m_canBe hD br ha hb
    rw [fX12_best_51]
    by_cases e : b = a
    · subst e
      simp (disch := omega) only [lit, lm1, nI_add, pk_mul, nm_eq, nm_eq', nm_lt, nm_lt', nm_le, nm_le', x_lt, x_le, x_eq, x_in, x_cl, x_div, x_sub, x_rem, x_min, x_max, x_and, x_or, x_xor, x_df, x_shl, bI_0, bI_1, bI_bo, lg_eq, toL_inj, ls_nI, decide_eq_false_iff_not, decide_eq_true_eq, Bool.true_eq_false, Bool.false_eq_true, bq, if_pos, if_neg, if_true, if_false, lq, Nat.reduceAdd, Nat.reduceMul, Nat.reduceSub, Nat.reduceDiv, Nat.reduceMod, m.K, eq_self]
    · unfold bpP at hp
      rw [decide_eq_true e, Bool.true_and] at hp
      cases hc : cb D E c a b
      · rw [hc] at hcb
        simp (disch := omega) only [lit, lm1, nI_add, pk_mul, nm_eq, nm_eq', nm_lt, nm_lt', nm_le, nm_le', x_lt, x_le, x_eq, x_in, x_cl, x_div, x_sub, x_rem, x_min, x_max, x_and, x_or, x_xor, x_df, x_shl, bI_0, bI_1, bI_bo, lg_eq, toL_inj, ls_nI, decide_eq_false_iff_not, decide_eq_true_eq, Bool.true_eq_false, Bool.false_eq_true, bq, if_pos, if_neg, if_true, if_false, lq, Nat.reduceAdd, Nat.reduceMul, Nat.reduceSub, Nat.reduceDiv, Nat.reduceMod, m.K, e, hcb]
      · rw [hc, Bool.true_and] at hp
        have hne := of_decide_eq_false hp
        rw [hc] at hcb
        simp (disch := omega) only [lit, lm1, nI_add, pk_mul, nm_eq, nm_eq', nm_lt, nm_lt', nm_le, nm_le', x_lt, x_le, x_eq, x_in, x_cl, x_div, x_sub, x_rem, x_min, x_max, x_and, x_or, x_xor, x_df, x_shl, bI_0, bI_1, bI_bo, lg_eq, toL_inj, ls_nI, decide_eq_false_iff_not, decide_eq_true_eq, Bool.true_eq_false, Bool.false_eq_true, bq, if_pos, if_neg, if_true, if_false, lq, Nat.reduceAdd, Nat.reduceMul, Nat.reduceSub, Nat.reduceDiv, Nat.reduceMod, m.K, e, hcb, Nat.add_sub_cancel, eqn b hb, hne]
  · subst hT
    have hcb := m_canBe hD br ha hb
    unfold bpP at hp
    rw [Bool.and_eq_true, Bool.and_eq_true, decide_eq_true_eq, decide_eq_true_eq] at hp
    have e : ¬ b = a := hp.1
    rw [hp.2.1] at hcb
    rw [fX12_best_51]
    simp (disch := omega) only [lit, lm1, nI_add, pk_mul, nm_eq, nm_eq', nm_lt, nm_lt', nm_le, nm_le', x_lt, x_le, x_eq, x_in, x_cl, x_div, x_sub, x_rem, x_min, x_max, x_and, x_or, x_xor, x_df, x_shl, bI_0, bI_1, bI_bo, lg_eq, toL_inj, ls_nI, decide_eq_false_iff_not, decide_eq_true_eq, Bool.true_eq_false, Bool.false_eq_true, bq, if_pos, if_neg, if_true, if_false, lq, Nat.reduceAdd, Nat.reduceMul, Nat.reduceSub, Nat.reduceDiv, Nat.reduceMod, m.K, e, hcb, Nat.add_sub_cancel, eqn b hb, hp.2.2, eq_self]
    rfl
  · subst hT
    rw [fX12_best_51]
    simp (disch := omega) only [lit, lm1, nI_add, pk_mul, nm_eq, nm_eq', nm_lt, nm_lt', nm_le, nm_le', x_lt, x_le, x_eq, x_in, x_cl, x_div, x_sub, x_rem, x_min, x_max, x_and, x_or, x_xor, x_df, x_shl, bI_0, bI_1, bI_bo, lg_eq, toL_inj, ls_nI, decide_eq_false_iff_not, decide_eq_true_eq, Bool.true_eq_false, Bool.false_eq_true, bq, if_pos, if_neg, if_true, if_false, lq, Nat.reduceAdd, Nat.reduceMul, Nat.reduceSub, Nat.reduceDiv, Nat.reduceMod, m.K]
    rfl
end BP
theorem q_best : cpQ_best cpRl := by
  intro x1 x2 S hR
  refine q1 hR (fun D E hD hE => ?_)
  have c4 := hD.c4
  have k6 := hD.k6
  rcases arg2 D x1 x2 with ⟨k, t, hk, ht, rfl, rfl⟩ | h
  · have ha := hE.at' k hk
    refine ⟨match Dm D E k t (E.at' k) with
      | none => nM
      | some 0 => nM
      | some (n + 1) => nI (bp D E k t n (E.at' k)), fun S c => ?_, fun S m => ?_⟩
    · obtain ⟨A, a1, a2, a3⟩ := c_learn hD hE c false hk
      have a1 : fX4_learn (nI k) (nI 0) S = some ((), A) := a1
      have cA' := c.cc (a3.le (fun _ _ => kL_C))
      obtain ⟨B, b1, b2, b3, b4⟩ := c_forcedWithin hD cA' a2 ht ha
      have cB := cA'.cc (b4.le (fun _ _ => kFo_C))
      refine ⟨B, ?_, (a3.le (fun _ _ => kL_C)).tr (b4.le (fun _ _ => kFo_C))⟩
      unfold fX11_best
      cases hd : Dm D E k t (E.at' k) with
      | none =>
        rw [hd] at b1
        have hz : (nI 0 < nM) = False := eq_false (by decide)
        simp (disch := omega) only [lit, lm1, nI_add, pk_mul, nm_eq, nm_eq', nm_lt, nm_lt', nm_le, nm_le', x_lt, x_le, x_eq, x_in, x_cl, x_div, x_sub, x_rem, x_min, x_max, x_and, x_or, x_xor, x_df, x_shl, bI_0, bI_1, bI_bo, lg_eq, toL_inj, ls_nI, decide_eq_false_iff_not, decide_eq_true_eq, Bool.true_eq_false, Bool.false_eq_true, bq, if_pos, if_neg, if_true, if_false, lq, Nat.reduceAdd, Nat.reduceMul, Nat.reduceSub, Nat.reduceDiv, Nat.reduceMod, c_cap1 hD c hk ht, a1, cA'.at', b1, oI, hz]
      | some n =>
        have hn := (Dm_in hd).1
        rw [hd] at b1
        cases n with
        | zero =>
          simp (disch := omega) only [lit, lm1, nI_add, pk_mul, nm_eq, nm_eq', nm_lt, nm_lt', nm_le, nm_le', x_lt, x_le, x_eq, x_in, x_cl, x_div, x_sub, x_rem, x_min, x_max, x_and, x_or, x_xor, x_df, x_shl, bI_0, bI_1, bI_bo, lg_eq, toL_inj, ls_nI, decide_eq_false_iff_not, decide_eq_true_eq, Bool.true_eq_false, Bool.false_eq_true, bq, if_pos, if_neg, if_true, if_false, lq, Nat.reduceAdd, Nat.reduceMul, Nat.reduceSub, Nat.reduceDiv, Nat.reduceMod, c_cap1 hD c hk ht, a1, cA'.at', b1, oI]
        | succ n =>
          have hb := c_best hD cB b3 ht ha hd (b2 n hd)
          simp (disch := omega) only [lit, lm1, nI_add, pk_mul, nm_eq, nm_eq', nm_lt, nm_lt', nm_le, nm_le', x_lt, x_le, x_eq, x_in, x_cl, x_div, x_sub, x_rem, x_min, x_max, x_and, x_or, x_xor, x_df, x_shl, bI_0, bI_1, bI_bo, lg_eq, toL_inj, ls_nI, decide_eq_false_iff_not, decide_eq_true_eq, Bool.true_eq_false, Bool.false_eq_true, bq, if_pos, if_neg, if_true, if_false, lq, Nat.reduceAdd, Nat.reduceMul, Nat.reduceSub, Nat.reduceDiv, Nat.reduceMod, c_cap1 hD c hk ht, a1, cA'.at', b1, oI, cB.at', hb]
    · have m0 := m.thr hD (nI 0)
      obtain ⟨T, t1, t2, t3, t4⟩ := m_laysForce hD hE m0 hk ht
      have mT := m0.mm hD (t4.le (fun _ _ => kFq_M))
      refine ⟨T, ?_, (kM_thr S (nI 0)).tr (t4.le (fun _ _ => kFq_M))⟩
      unfold fX12_best
      cases hd : Dm D E k t (E.at' k) with
      | none =>
        rw [hd] at t1
        simp (disch := omega) only [lit, lm1, nI_add, pk_mul, nm_eq, nm_eq', nm_lt, nm_lt', nm_le, nm_le', x_lt, x_le, x_eq, x_in, x_cl, x_div, x_sub, x_rem, x_min, x_max, x_and, x_or, x_xor, x_df, x_shl, bI_0, bI_1, bI_bo, lg_eq, toL_inj, ls_nI, decide_eq_false_iff_not, decide_eq_true_eq, Bool.true_eq_false, Bool.false_eq_true, bq, if_pos, if_neg, if_true, if_false, lq, Nat.reduceAdd, Nat.reduceMul, Nat.reduceSub, Nat.reduceDiv, Nat.reduceMod, m_noCoin1 hD m0 hk ht, t1, dF, mT.at', eq_self]
      | some n =>
        have hn := (Dm_in hd).1
        rw [hd] at t1
        cases n with
        | zero =>
          simp (disch := omega) only [lit, lm1, nI_add, pk_mul, nm_eq, nm_eq', nm_lt, nm_lt', nm_le, nm_le', x_lt, x_le, x_eq, x_in, x_cl, x_div, x_sub, x_rem, x_min, x_max, x_and, x_or, x_xor, x_df, x_shl, bI_0, bI_1, bI_bo, lg_eq, toL_inj, ls_nI, decide_eq_false_iff_not, decide_eq_true_eq, Bool.true_eq_false, Bool.false_eq_true, bq, if_pos, if_neg, if_true, if_false, lq, Nat.reduceAdd, Nat.reduceMul, Nat.reduceSub, Nat.reduceDiv, Nat.reduceMod, m_noCoin1 hD m0 hk ht, t1, dF, mT.at']
        | succ n =>
          have hb := m_best hD mT t3 ht ha hd t2
          simp (disch := omega) only [lit, lm1, nI_add, pk_mul, nm_eq, nm_eq', nm_lt, nm_lt', nm_le, nm_le', x_lt, x_le, x_eq, x_in, x_cl, x_div, x_sub, x_rem, x_min, x_max, x_and, x_or, x_xor, x_df, x_shl, bI_0, bI_1, bI_bo, lg_eq, toL_inj, ls_nI, decide_eq_false_iff_not, decide_eq_true_eq, Bool.true_eq_false, Bool.false_eq_true, bq, if_pos, if_neg, if_true, if_false, lq, Nat.reduceAdd, Nat.reduceMul, Nat.reduceSub, Nat.reduceDiv, Nat.reduceMod, m_noCoin1 hD m0 hk ht, t1, dF, mT.at']
          exact hb
  · refine ⟨-2, fun S c => ⟨S, ?_, Kp.rf⟩, fun S m => ⟨_, ?_, kM_thr S (nI 0)⟩⟩
    · unfold fX11_best
      simp (disch := omega) only [lit, lm1, nI_add, pk_mul, nm_eq, nm_eq', nm_lt, nm_lt', nm_le, nm_le', x_lt, x_le, x_eq, x_in, x_cl, x_div, x_sub, x_rem, x_min, x_max, x_and, x_or, x_xor, x_df, x_shl, bI_0, bI_1, bI_bo, lg_eq, toL_inj, ls_nI, decide_eq_false_iff_not, decide_eq_true_eq, Bool.true_eq_false, Bool.false_eq_true, bq, if_pos, if_neg, if_true, if_false, lq, Nat.reduceAdd, Nat.reduceMul, Nat.reduceSub, Nat.reduceDiv, Nat.reduceMod, c_coinAndPlace hD c, h]
    · have hno : fX12_noCoin x1 x2 (cpI S 150 0 (nI 0)) = some (-2, cpI S 150 0 (nI 0)) := by rw [m_noCoin hD (m.thr hD (nI 0)), h]; rfl
      unfold fX12_best
      simp (disch := omega) only [lit, lm1, nI_add, pk_mul, nm_eq, nm_eq', nm_lt, nm_lt', nm_le, nm_le', x_lt, x_le, x_eq, x_in, x_cl, x_div, x_sub, x_rem, x_min, x_max, x_and, x_or, x_xor, x_df, x_shl, bI_0, bI_1, bI_bo, lg_eq, toL_inj, ls_nI, decide_eq_false_iff_not, decide_eq_true_eq, Bool.true_eq_false, Bool.false_eq_true, bq, if_pos, if_neg, if_true, if_false, lq, Nat.reduceAdd, Nat.reduceMul, Nat.reduceSub, Nat.reduceDiv, Nat.reduceMod, hno]
      rfl
