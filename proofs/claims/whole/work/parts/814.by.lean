/-! the greatest chance; by how many roads -/
def gcS (D : cpD) (E : cpE) (c p k m : Nat) : Nat := max m (Vk D E c k p)
def gc (D : cpD) (E : cpE) (c p : Nat) : Nat := up (gcS D E c p) 6 0 0
def fwR (D : cpD) (E : cpE) (c p : Nat) : Option Nat := if gc D E c p = 0 then none else ff (fun k => decide (Vk D E c k p = gc D E c p)) 6 0
def lbS (D : cpD) (E : cpE) (c p k : Nat) (z : Option Nat × Nat) : Option Nat × Nat := if z.2 < Vk D E c k p then (some k, Vk D E c k p) else z
def lb (D : cpD) (E : cpE) (c p : Nat) : Option Nat × Nat := up (lbS D E c p) 6 0 (none, 0)
section BY
variable {D : cpD} {E : cpE} {S : cpS}
theorem gc_le (c p : Nat) : gc D E c p ≤ 100000 := up_inv (gcS D E c p) 6 (fun _ m => m ≤ 100000) (fun k m _ h => by have := Vk_le (D := D) (E := E) c k p; unfold gcS; omega) 6 0 0 (by omega) (by omega)
theorem lb_gc (c p : Nat) : (lb D E c p).2 = gc D E c p := up_rel (f := lbS D E c p) (g := gcS D E c p) (R := fun z m => z.2 = m) (fun k z m h => by
  unfold lbS gcS
  split
  · (try dsimp only); omega
  · omega) 6 0 (none, 0) 0 rfl
theorem lb_in (c p : Nat) : ((lb D E c p).2 = 0 → (lb D E c p).1 = none) ∧ ((lb D E c p).2 ≠ 0 → ∃ k, k < 6 ∧ (lb D E c p).1 = some k ∧ Vk D E c k p = (lb D E c p).2 ∧ ∀ j, j < k → Vk D E c j p < (lb D E c p).2) := by
  have := up_inv (lbS D E c p) 6 (fun i z => (∀ j, j < i → Vk D E c j p ≤ z.2) ∧ (z.2 = 0 → z.1 = none) ∧ (z.2 ≠ 0 → ∃ k, k < i ∧ z.1 = some k ∧ Vk D E c k p = z.2 ∧ ∀ j, j < k → Vk D E c j p < z.2)) (fun i z hi q => ?_) 6 0 (none, 0) (by omega) ⟨fun j hj => absurd hj (by omega), fun _ => rfl, fun h => absurd rfl h⟩
  · exact this.2
  · obtain ⟨q1, q2, q3⟩ := q
    unfold lbS
    split
    · rename_i h
      refine ⟨fun j hj => ?_, fun h0 => ?_, fun _ => ⟨i, Nat.lt_succ_self _, rfl, rfl, fun j hj => ?_⟩⟩
      · (try dsimp only)
        by_cases e : j = i
        · rw [e]; exact Nat.le_refl _
        · have := q1 j (by omega); omega
      · (try dsimp only at h0); omega
      · (try dsimp only); have := q1 j hj; omega
    · rename_i h
      refine ⟨fun j hj => ?_, q2, fun h0 => ?_⟩
      · by_cases e : j = i
        · rw [e]; omega
        · exact q1 j (by omega)
      · obtain ⟨k, k1, k2, k3, k4⟩ := q3 h0
        exact ⟨k, by omega, k2, k3, k4⟩
theorem lb_fw (c p : Nat) : (lb D E c p).1 = fwR D E c p := by
  obtain ⟨h1, h2⟩ := lb_in (D := D) (E := E) c p
  rw [lb_gc] at h1 h2
  unfold fwR
  by_cases h : gc D E c p = 0
  · rw [if_pos h, h1 h]
  · rw [if_neg h]
    obtain ⟨k, k1, k2, k3, k4⟩ := h2 h
    rw [k2]
    exact ((ff_some _ _ _).mpr ⟨by omega, by omega, decide_eq_true k3, fun j _ hj => decide_eq_false (by have := k4 j hj; omega)⟩).symm
theorem c_greatest {c p : Nat} (hp : p < 6) (h : ∀ j, j ≤ 5 → rowC S j (Vk D E c j)) : fX2_greatestChance (nI p) S = some (nI (gc D E c p), S) := by
  refine up_lp (F := fun f k (x : Int32) => fX2_greatestChance_4 (nI p) f x k S) 6 (gcS D E c p) (fun _ m => m ≤ 100000) (fun m => nI m) (K := fun m => some (nI m, S)) (by decide) (fun f k m hk hm => ?_) (fun f m _ => ?_) (i0 := 0) (s := 0) (Nat.zero_le _) (by omega)
  · have hv := Vk_le (D := D) (E := E) c k p
    have e := h k (by omega) p hp
    refine ⟨?_, by unfold gcS; omega⟩
    rw [fX2_greatestChance_4]
    unfold gcS
    simp (disch := omega) only [lit, lm1, nI_add, pk_mul, nm_eq, nm_eq', nm_lt, nm_lt', nm_le, nm_le', x_lt, x_le, x_eq, x_in, x_cl, x_div, x_sub, x_rem, x_min, x_max, x_and, x_or, x_xor, x_df, x_shl, bI_0, bI_1, bI_bo, lg_eq, toL_inj, ls_nI, decide_eq_false_iff_not, decide_eq_true_eq, Bool.true_eq_false, Bool.false_eq_true, bq, if_pos, if_neg, if_true, if_false, lq, Nat.reduceAdd, Nat.reduceMul, Nat.reduceSub, Nat.reduceDiv, Nat.reduceMod, e]
  · rw [fX2_greatestChance_4]
    simp (disch := omega) only [lit, lm1, nI_add, pk_mul, nm_eq, nm_eq', nm_lt, nm_lt', nm_le, nm_le', x_lt, x_le, x_eq, x_in, x_cl, x_div, x_sub, x_rem, x_min, x_max, x_and, x_or, x_xor, x_df, x_shl, bI_0, bI_1, bI_bo, lg_eq, toL_inj, ls_nI, decide_eq_false_iff_not, decide_eq_true_eq, Bool.true_eq_false, Bool.false_eq_true, bq, if_pos, if_neg, if_true, if_false, lq, Nat.reduceAdd, Nat.reduceMul, Nat.reduceSub, Nat.reduceDiv, Nat.reduceMod]
theorem c_fewest {c p : Nat} (hp : p < 6) (h : ∀ j, j ≤ 5 → rowC S j (Vk D E c j)) : fX2_fewestRoads (nI p) S = some (oI (fwR D E c p), S) := by
  have hg := gc_le (D := D) (E := E) c p
  unfold fX2_fewestRoads fwR
  by_cases h0 : gc D E c p = 0
  · rw [if_pos h0]
    have e := c_greatest hp h
    rw [h0] at e
    simp (disch := omega) only [lit, lm1, nI_add, pk_mul, nm_eq, nm_eq', nm_lt, nm_lt', nm_le, nm_le', x_lt, x_le, x_eq, x_in, x_cl, x_div, x_sub, x_rem, x_min, x_max, x_and, x_or, x_xor, x_df, x_shl, bI_0, bI_1, bI_bo, lg_eq, toL_inj, ls_nI, decide_eq_false_iff_not, decide_eq_true_eq, Bool.true_eq_false, Bool.false_eq_true, bq, if_pos, if_neg, if_true, if_false, lq, Nat.reduceAdd, Nat.reduceMul, Nat.reduceSub, Nat.reduceDiv, Nat.reduceMod, e]
    rw [show cpFu = 4999 + 1 from rfl, fX2_fewestRoads_8]
    simp (disch := omega) only [lit, lm1, nI_add, pk_mul, nm_eq, nm_eq', nm_lt, nm_lt', nm_le, nm_le', x_lt, x_le, x_eq, x_in, x_cl, x_div, x_sub, x_rem, x_min, x_max, x_and, x_or, x_xor, x_df, x_shl, bI_0, bI_1, bI_bo, lg_eq, toL_inj, ls_nI, decide_eq_false_iff_not, decide_eq_true_eq, Bool.true_eq_false, Bool.false_eq_true, bq, if_pos, if_neg, if_true, if_false, lq, Nat.reduceAdd, Nat.reduceMul, Nat.reduceSub, Nat.reduceDiv, Nat.reduceMod]
    rfl
  · rw [if_neg h0]
    simp (disch := omega) only [lit, lm1, nI_add, pk_mul, nm_eq, nm_eq', nm_lt, nm_lt', nm_le, nm_le', x_lt, x_le, x_eq, x_in, x_cl, x_div, x_sub, x_rem, x_min, x_max, x_and, x_or, x_xor, x_df, x_shl, bI_0, bI_1, bI_bo, lg_eq, toL_inj, ls_nI, decide_eq_false_iff_not, decide_eq_true_eq, Bool.true_eq_false, Bool.false_eq_true, bq, if_pos, if_neg, if_true, if_false, lq, Nat.reduceAdd, Nat.reduceMul, Nat.reduceSub, Nat.reduceDiv, Nat.reduceMod, c_greatest hp h]
    refine ff_lp (F := fun f k (T : cpS) => fX2_fewestRoads_8 (nI p) (nI (gc D E c p)) f k T) 6 (fun k => decide (Vk D E c k p = gc D E c p)) (fun _ T => T = S) (fun o r => r = some (oI o, S)) (by decide) (fun f k T hk hT hq => ⟨S, ?_, rfl⟩) (fun f k T hk hT hq => ?_) (fun f T hT => ?_) (i0 := 0) (a := S) (Nat.zero_le _) rfl
    · subst hT
      have hv := Vk_le (D := D) (E := E) c k p
      have e := h k (by omega) p hp
      have hq := of_decide_eq_false hq
      rw [fX2_fewestRoads_8]
      simp (disch := omega) only [lit, lm1, nI_add, pk_mul, nm_eq, nm_eq', nm_lt, nm_lt', nm_le, nm_le', x_lt, x_le, x_eq, x_in, x_cl, x_div, x_sub, x_rem, x_min, x_max, x_and, x_or, x_xor, x_df, x_shl, bI_0, bI_1, bI_bo, lg_eq, toL_inj, ls_nI, decide_eq_false_iff_not, decide_eq_true_eq, Bool.true_eq_false, Bool.false_eq_true, bq, if_pos, if_neg, if_true, if_false, lq, Nat.reduceAdd, Nat.reduceMul, Nat.reduceSub, Nat.reduceDiv, Nat.reduceMod, e, h0, hq]
    · subst hT
      have hv := Vk_le (D := D) (E := E) c k p
      have e := h k (by omega) p hp
      have hq := of_decide_eq_true hq
      rw [hq] at e
      rw [fX2_fewestRoads_8]
      simp (disch := omega) only [lit, lm1, nI_add, pk_mul, nm_eq, nm_eq', nm_lt, nm_lt', nm_le, nm_le', x_lt, x_le, x_eq, x_in, x_cl, x_div, x_sub, x_rem, x_min, x_max, x_and, x_or, x_xor, x_df, x_shl, bI_0, bI_1, bI_bo, lg_eq, toL_inj, ls_nI, decide_eq_false_iff_not, decide_eq_true_eq, Bool.true_eq_false, Bool.false_eq_true, bq, if_pos, if_neg, if_true, if_false, lq, Nat.reduceAdd, Nat.reduceMul, Nat.reduceSub, Nat.reduceDiv, Nat.reduceMod, e, h0]
      rfl
    · subst hT
      rw [fX2_fewestRoads_8]
      simp (disch := omega) only [lit, lm1, nI_add, pk_mul, nm_eq, nm_eq', nm_lt, nm_lt', nm_le, nm_le', x_lt, x_le, x_eq, x_in, x_cl, x_div, x_sub, x_rem, x_min, x_max, x_and, x_or, x_xor, x_df, x_shl, bI_0, bI_1, bI_bo, lg_eq, toL_inj, ls_nI, decide_eq_false_iff_not, decide_eq_true_eq, Bool.true_eq_false, Bool.false_eq_true, bq, if_pos, if_neg, if_true, if_false, lq, Nat.reduceAdd, Nat.reduceMul, Nat.reduceSub, Nat.reduceDiv, Nat.reduceMod]
      rfl
theorem m_wholeOf {n : Nat} (hn : n < 10) : fX12_wholeOf (nI n) S = some (lN (10 ^ n), S) := by
  have e : up (fun _ (x : Nat) => x * 10) n 0 1 = 10 ^ n := by
    induction n with
    | zero => rfl
    | succ n ih => rw [up_last, ih (by omega), Nat.pow_succ]
  rw [← e]
  refine up_lp (F := fun f k (x : Int64) => fX12_wholeOf_4 (nI n) f x k S) n (fun _ x => x * 10) (fun _ _ => True) (fun m => lN m) (K := fun m => some (lN m, S)) (by omega) (fun f k m hk hm => ⟨?_, trivial⟩) (fun f m _ => ?_) (i0 := 0) (s := 1) (Nat.zero_le _) trivial
  · have e : lN m * (10 : Int64) = lN (m * 10) := by rw [← lN_mul]; rfl
    rw [fX12_wholeOf_4]
    simp (disch := omega) only [lit, lm1, nI_add, pk_mul, nm_eq, nm_eq', nm_lt, nm_lt', nm_le, nm_le', x_lt, x_le, x_eq, x_in, x_cl, x_div, x_sub, x_rem, x_min, x_max, x_and, x_or, x_xor, x_df, x_shl, bI_0, bI_1, bI_bo, lg_eq, toL_inj, ls_nI, decide_eq_false_iff_not, decide_eq_true_eq, Bool.true_eq_false, Bool.false_eq_true, bq, if_pos, if_neg, if_true, if_false, lq, Nat.reduceAdd, Nat.reduceMul, Nat.reduceSub, Nat.reduceDiv, Nat.reduceMod, e]
  · rw [fX12_wholeOf_4]
    simp (disch := omega) only [lit, lm1, nI_add, pk_mul, nm_eq, nm_eq', nm_lt, nm_lt', nm_le, nm_le', x_lt, x_le, x_eq, x_in, x_cl, x_div, x_sub, x_rem, x_min, x_max, x_and, x_or, x_xor, x_df, x_shl, bI_0, bI_1, bI_bo, lg_eq, toL_inj, ls_nI, decide_eq_false_iff_not, decide_eq_true_eq, Bool.true_eq_false, Bool.false_eq_true, bq, if_pos, if_neg, if_true, if_false, lq, Nat.reduceAdd, Nat.reduceMul, Nat.reduceSub, Nat.reduceDiv, Nat.reduceMod]
theorem m_likeliest {c p : Nat} (hp : p < 6) (h : ∀ j, j ≤ 5 → rowM S j (Lk D E c j)) : fX12_likeliestBy (nI p) S = some (oI (fwR D E c p), S) := by
  rw [← lb_fw]
  have := up_lpR (F := fun f k (x : Int32 × Int64) => fX12_likeliestBy_7 (nI p) f x.1 x.2 k S) (K := fun x => some (x.1, S)) 6 (lbS D E c p) (fun _ z x => x.1 = oI z.1 ∧ x.2 = lN z.2 ∧ z.2 ≤ 100000) (by decide) (fun f k z x hk hI => ?_) (fun f z x hI => ?_) (i0 := 0) (s := (none, 0)) (a := (nM, lN 0)) (Nat.zero_le _) ⟨rfl, rfl, by show 0 ≤ 100000; omega⟩
  · obtain ⟨x, t1, t2, -⟩ := this
    rw [t2] at t1
    exact t1
  · obtain ⟨x, y⟩ := x
    obtain ⟨i1, i2, i3⟩ := hI
    have j1 : x = oI z.1 := i1
    have j2 : y = lN z.2 := i2
    clear i1 i2
    subst j1 j2
    have hv := Vk_le (D := D) (E := E) c k p
    have e := h k (by omega) p hp
    have w := m_wholeOf (S := S) (n := 5 - k) (by omega)
    have ey : lN (Lk D E c k p) * lN (10 ^ (5 - k)) = lN (Vk D E c k p) := by rw [lN_mul, ← Vk_L c k (by omega)]
    have hlg := lgG (a := Vk D E c k p) (b := z.2) (by omega) (by omega)
    unfold lbS
    by_cases hlt : z.2 < Vk D E c k p
    · rw [if_pos hlt]
      refine ⟨(nI k, lN (Vk D E c k p)), ?_, rfl, rfl, hv⟩
      rw [fX12_likeliestBy_7]
      simp (disch := omega) only [lit, lm1, nI_add, pk_mul, nm_eq, nm_eq', nm_lt, nm_lt', nm_le, nm_le', x_lt, x_le, x_eq, x_in, x_cl, x_div, x_sub, x_rem, x_min, x_max, x_and, x_or, x_xor, x_df, x_shl, bI_0, bI_1, bI_bo, lg_eq, toL_inj, ls_nI, decide_eq_false_iff_not, decide_eq_true_eq, Bool.true_eq_false, Bool.false_eq_true, bq, if_pos, if_neg, if_true, if_false, lq, Nat.reduceAdd, Nat.reduceMul, Nat.reduceSub, Nat.reduceDiv, Nat.reduceMod, e, w, ey, hlg, hlt]
    · rw [if_neg hlt]
      refine ⟨(oI z.1, lN z.2), ?_, rfl, rfl, i3⟩
      rw [fX12_likeliestBy_7]
      simp (disch := omega) only [lit, lm1, nI_add, pk_mul, nm_eq, nm_eq', nm_lt, nm_lt', nm_le, nm_le', x_lt, x_le, x_eq, x_in, x_cl, x_div, x_sub, x_rem, x_min, x_max, x_and, x_or, x_xor, x_df, x_shl, bI_0, bI_1, bI_bo, lg_eq, toL_inj, ls_nI, decide_eq_false_iff_not, decide_eq_true_eq, Bool.true_eq_false, Bool.false_eq_true, bq, if_pos, if_neg, if_true, if_false, lq, Nat.reduceAdd, Nat.reduceMul, Nat.reduceSub, Nat.reduceDiv, Nat.reduceMod, e, w, ey, hlg, hlt]
  · rw [fX12_likeliestBy_7]
    simp (disch := omega) only [lit, lm1, nI_add, pk_mul, nm_eq, nm_eq', nm_lt, nm_lt', nm_le, nm_le', x_lt, x_le, x_eq, x_in, x_cl, x_div, x_sub, x_rem, x_min, x_max, x_and, x_or, x_xor, x_df, x_shl, bI_0, bI_1, bI_bo, lg_eq, toL_inj, ls_nI, decide_eq_false_iff_not, decide_eq_true_eq, Bool.true_eq_false, Bool.false_eq_true, bq, if_pos, if_neg, if_true, if_false, lq, Nat.reduceAdd, Nat.reduceMul, Nat.reduceSub, Nat.reduceDiv, Nat.reduceMod]
end BY
theorem q_by : cpQ_by cpRl := by
  intro x1 x2 S hR
  refine q1 hR (fun D E hD hE => ?_)
  have c4 := hD.c4
  have k6 := hD.k6
  rcases arg2 D x1 x2 with ⟨k, t, hk, ht, rfl, rfl⟩ | h
  · refine ⟨oI (fwR D E k t), fun S c => ?_, fun S m => ?_⟩
    · obtain ⟨A, a1, a2, a3⟩ := c_learnChances hD hE c hk
      refine ⟨A, ?_, a3.le (fun _ _ => kCh_C)⟩
      unfold fX11_by
      simp (disch := omega) only [lit, lm1, nI_add, pk_mul, nm_eq, nm_eq', nm_lt, nm_lt', nm_le, nm_le', x_lt, x_le, x_eq, x_in, x_cl, x_div, x_sub, x_rem, x_min, x_max, x_and, x_or, x_xor, x_df, x_shl, bI_0, bI_1, bI_bo, lg_eq, toL_inj, ls_nI, decide_eq_false_iff_not, decide_eq_true_eq, Bool.true_eq_false, Bool.false_eq_true, bq, if_pos, if_neg, if_true, if_false, lq, Nat.reduceAdd, Nat.reduceMul, Nat.reduceSub, Nat.reduceDiv, Nat.reduceMod, c_cap1 hD c hk ht, c.at', a1, c_fewest (show t < 6 by omega) a2]
    · have m0 := m.thr hD (nI 0)
      obtain ⟨T, t1, t2, t3, t4⟩ := m_laysLikely hD hE m0 hk
      refine ⟨T, ?_, (kM_thr S (nI 0)).tr (t4.le (fun _ _ => kLk_M))⟩
      unfold fX12_by
      simp (disch := omega) only [lit, lm1, nI_add, pk_mul, nm_eq, nm_eq', nm_lt, nm_lt', nm_le, nm_le', x_lt, x_le, x_eq, x_in, x_cl, x_div, x_sub, x_rem, x_min, x_max, x_and, x_or, x_xor, x_df, x_shl, bI_0, bI_1, bI_bo, lg_eq, toL_inj, ls_nI, decide_eq_false_iff_not, decide_eq_true_eq, Bool.true_eq_false, Bool.false_eq_true, bq, if_pos, if_neg, if_true, if_false, lq, Nat.reduceAdd, Nat.reduceMul, Nat.reduceSub, Nat.reduceDiv, Nat.reduceMod, m_noCoin1 hD m0 hk ht, t1, m_likeliest (show t < 6 by omega) t2]
  · refine ⟨-2, fun S c => ⟨S, ?_, Kp.rf⟩, fun S m => ⟨_, ?_, kM_thr S (nI 0)⟩⟩
    · unfold fX11_by
      simp (disch := omega) only [lit, lm1, nI_add, pk_mul, nm_eq, nm_eq', nm_lt, nm_lt', nm_le, nm_le', x_lt, x_le, x_eq, x_in, x_cl, x_div, x_sub, x_rem, x_min, x_max, x_and, x_or, x_xor, x_df, x_shl, bI_0, bI_1, bI_bo, lg_eq, toL_inj, ls_nI, decide_eq_false_iff_not, decide_eq_true_eq, Bool.true_eq_false, Bool.false_eq_true, bq, if_pos, if_neg, if_true, if_false, lq, Nat.reduceAdd, Nat.reduceMul, Nat.reduceSub, Nat.reduceDiv, Nat.reduceMod, c_coinAndPlace hD c, h]
    · have hno : fX12_noCoin x1 x2 (cpI S 150 0 (nI 0)) = some (-2, cpI S 150 0 (nI 0)) := by rw [m_noCoin hD (m.thr hD (nI 0)), h]; rfl
      unfold fX12_by
      simp (disch := omega) only [lit, lm1, nI_add, pk_mul, nm_eq, nm_eq', nm_lt, nm_lt', nm_le, nm_le', x_lt, x_le, x_eq, x_in, x_cl, x_div, x_sub, x_rem, x_min, x_max, x_and, x_or, x_xor, x_df, x_shl, bI_0, bI_1, bI_bo, lg_eq, toL_inj, ls_nI, decide_eq_false_iff_not, decide_eq_true_eq, Bool.true_eq_false, Bool.false_eq_true, bq, if_pos, if_neg, if_true, if_false, lq, Nat.reduceAdd, Nat.reduceMul, Nat.reduceSub, Nat.reduceDiv, Nat.reduceMod, hno]
      rfl
