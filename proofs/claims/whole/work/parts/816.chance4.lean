/-! chance -/
section C4
variable {D : cpD} {E : cpE} {S : cpS}
theorem gcd_st {a b : Nat} : Nat.gcd a b = Nat.gcd b (a % b) := by rw [Nat.gcd_comm a b, Nat.gcd_rec b a, Nat.gcd_comm]
theorem mod_half {b c : Nat} (h0 : 0 < c) (hc : c ≤ b) : 2 * (b % c) < b := by
  have h1 := Nat.mod_lt b h0
  have h2 := Nat.div_add_mod b c
  have h3 : 1 ≤ b / c := (Nat.le_div_iff_mul_le h0).mpr (by omega)
  have h4 : c * 1 ≤ c * (b / c) := Nat.mul_le_mul_left c h3
  omega
theorem m_gcd (S : cpS) : ∀ m a b f, b < 2 ^ m → a < 2 ^ 31 → b < 2 ^ 31 → 2 * m + 1 ≤ f → fX12c_rec f (lN a) (lN b) S = some (lN (Nat.gcd a b), S) := by
  have z : ∀ a f, fX12c_rec (f + 1) (lN a) (lN 0) S = some (lN (Nat.gcd a 0), S) := fun a f => by
    rw [fX12c_rec, Nat.gcd_zero_right]
    unfold fX12_common
    simp only [lit]
    rw [if_pos (by rw [lg_eq]; rfl)]
  have st : ∀ a b f, a < 2 ^ 31 → b < 2 ^ 31 → b ≠ 0 → ∀ r, fX12c_rec f (lN b) (lN (a % b)) S = some (r, S) → fX12c_rec (f + 1) (lN a) (lN b) S = some (r, S) := fun a b f ha hb h0 r hr => by
    have hne : ¬ lN b = (0 : Int64) := fun e => by have := l_0 (show b < 2 ^ 63 by omega); rw [e] at this; exact h0 (this ▸ rfl)
    rw [fX12c_rec]
    unfold fX12_common
    simp only [lit]
    rw [if_neg (by rw [lg_eq]; exact hne), if_neg hne]
    have e : cpReml (lN a) (lN b) = lN (a % b) := by unfold cpReml; rw [pk_lRem (by omega) (by omega) (by omega)]
    rw [e, hr]
    rfl
  intro m
  induction m with
  | zero =>
    intro a b f hb ha _ hf
    obtain ⟨f, rfl⟩ : ∃ g, f = g + 1 := ⟨f - 1, by omega⟩
    rw [show b = 0 by omega]
    exact z a f
  | succ m ih =>
    intro a b f hb ha hb' hf
    obtain ⟨f, rfl⟩ : ∃ g, f = g + 1 + 1 := ⟨f - 2, by omega⟩
    by_cases h0 : b = 0
    · rw [h0]; exact z a (f + 1)
    · have hc := Nat.mod_lt a (show 0 < b by omega)
      rw [gcd_st]
      refine st a b (f + 1) ha hb' h0 _ ?_
      by_cases hc0 : a % b = 0
      · rw [hc0]; exact z b f
      · have hh := mod_half (b := b) (c := a % b) (by omega) (by omega)
        have hp : 2 ^ (m + 1) = 2 * 2 ^ m := by rw [Nat.pow_succ, Nat.mul_comm]
        have hd := Nat.mod_lt b (show 0 < a % b by omega)
        rw [gcd_st]
        refine st b (a % b) f hb' (by omega) hc0 _ ?_
        exact ih (a % b) (b % (a % b)) f (by omega) (by omega) (by omega) (by omega)
def chA (D : cpD) (E : cpE) (c p x : Nat) : Int32 := if x = 0 then nI (frc (gc D E c p)).1 else nI (frc (gc D E c p)).2
theorem c_chance21 (hD : D.WF) (hE : E.WF D) (c : cA D E S) {k t x : Nat} (hk : k < D.C) (ht : t < D.K) (hx : x < 2) : ∃ T, fX11_chance_21 (nI k) (nI t) (nI x) S = some (chA D E k t x, T) ∧ Kp kCh S T := by
  have c4 := hD.c4
  have k6 := hD.k6
  obtain ⟨A, a1, a2, a3⟩ := c_learnChances hD hE c hk
  refine ⟨A, ?_, a3⟩
  unfold fX11_chance_21 chA
  simp (disch := omega) only [lit, lm1, nI_add, pk_mul, nm_eq, nm_eq', nm_lt, nm_lt', nm_le, nm_le', x_lt, x_le, x_eq, x_in, x_cl, x_div, x_sub, x_rem, x_min, x_max, x_and, x_or, x_xor, x_df, x_shl, bI_0, bI_1, bI_bo, lg_eq, toL_inj, ls_nI, decide_eq_false_iff_not, decide_eq_true_eq, Bool.true_eq_false, Bool.false_eq_true, bq, if_pos, if_neg, if_true, if_false, lq, Nat.reduceAdd, Nat.reduceMul, Nat.reduceSub, Nat.reduceDiv, Nat.reduceMod, c.at', a1, c_greatest (show t < 6 by omega) a2, c_fraction (gc_le (D := D) (E := E) k t) hx]
theorem frc_0 : (frc 0).1 = 0 ∧ (frc 0).2 = 1 := by decide +kernel
end C4
theorem q_chance : cpQ_chance cpRl := by
  intro x1 x2 x3 S hR
  refine q1 hR (fun D E hD hE => ?_)
  have c4 := hD.c4
  have k6 := hD.k6
  have w1 := m_win 2 1 (by decide)
  rcases arg2 D x1 x2 with ⟨k, t, hk, ht, rfl, rfl⟩ | h
  · rcases in_or x3 2 with ⟨x, hx, rfl⟩ | h3
    · refine ⟨chA D E k t x, fun S c => ?_, fun S m => ?_⟩
      · obtain ⟨T, t1, t2⟩ := c_chance21 hD hE c hk ht hx
        refine ⟨T, ?_, t2.le (fun _ _ => kCh_C)⟩
        unfold fX11_chance
        by_cases e : x = 0
        · rw [e] at t1 ⊢
          simp (disch := omega) only [lit, lm1, nI_add, pk_mul, nm_eq, nm_eq', nm_lt, nm_lt', nm_le, nm_le', x_lt, x_le, x_eq, x_in, x_cl, x_div, x_sub, x_rem, x_min, x_max, x_and, x_or, x_xor, x_df, x_shl, bI_0, bI_1, bI_bo, lg_eq, toL_inj, ls_nI, decide_eq_false_iff_not, decide_eq_true_eq, Bool.true_eq_false, Bool.false_eq_true, bq, if_pos, if_neg, if_true, if_false, lq, Nat.reduceAdd, Nat.reduceMul, Nat.reduceSub, Nat.reduceDiv, Nat.reduceMod, c_cap1 hD c hk ht]
          exact t1
        · have e1 : x = 1 := by omega
          rw [e1] at t1 ⊢
          simp (disch := omega) only [lit, lm1, nI_add, pk_mul, nm_eq, nm_eq', nm_lt, nm_lt', nm_le, nm_le', x_lt, x_le, x_eq, x_in, x_cl, x_div, x_sub, x_rem, x_min, x_max, x_and, x_or, x_xor, x_df, x_shl, bI_0, bI_1, bI_bo, lg_eq, toL_inj, ls_nI, decide_eq_false_iff_not, decide_eq_true_eq, Bool.true_eq_false, Bool.false_eq_true, bq, if_pos, if_neg, if_true, if_false, lq, Nat.reduceAdd, Nat.reduceMul, Nat.reduceSub, Nat.reduceDiv, Nat.reduceMod, c_cap1 hD c hk ht]
          exact t1
      · have m0 := m.thr hD (nI 0)
        obtain ⟨T, t1, t2, t3, t4⟩ := m_laysLikely hD hE m0 hk
        refine ⟨T, ?_, (kM_thr S (nI 0)).tr (t4.le (fun _ _ => kLk_M))⟩
        have lk := m_likeliest (show t < 6 by omega) t2
        unfold fX12_chance chA
        by_cases h0 : gc D E k t = 0
        · have hf : fwR D E k t = none := by unfold fwR; rw [if_pos h0]
          rw [hf] at lk
          have lk : fX12_likeliestBy (nI t) T = some (nM, T) := lk
          rw [h0, frc_0.1, frc_0.2]
          simp (disch := omega) only [lit, lm1, nI_add, pk_mul, nm_eq, nm_eq', nm_lt, nm_lt', nm_le, nm_le', x_lt, x_le, x_eq, x_in, x_cl, x_div, x_sub, x_rem, x_min, x_max, x_and, x_or, x_xor, x_df, x_shl, bI_0, bI_1, bI_bo, lg_eq, toL_inj, ls_nI, decide_eq_false_iff_not, decide_eq_true_eq, Bool.true_eq_false, Bool.false_eq_true, bq, if_pos, if_neg, if_true, if_false, lq, Nat.reduceAdd, Nat.reduceMul, Nat.reduceSub, Nat.reduceDiv, Nat.reduceMod, m_noCoin1 hD m0 hk ht, w1, t1, lk, eq_self]
          by_cases e : x = 0
          · rw [if_pos e, e]
          · rw [if_neg e, show x = 1 by omega]
        · obtain ⟨j, j1, j2, j3, -⟩ := (lb_in (D := D) (E := E) k t).2 (by rw [lb_gc]; exact h0)
          rw [lb_fw] at j2
          rw [lb_gc] at j3
          rw [j2] at lk
          have lk : fX12_likeliestBy (nI t) T = some (nI j, T) := lk
          have hL := Lk_le (D := D) (E := E) k (show j ≤ 5 by omega) t
          have eL := t2 j (by omega) t (by omega)
          have hV := Vk_L (D := D) (E := E) k j (by omega) t
          rw [j3] at hV
          obtain ⟨f1, f2⟩ := frc_ref (L := Lk D E k j t) (k := j) (by omega)
          rw [hV, f1, f2]
          have h10 : 10 ^ j ≤ 10 ^ 5 := Nat.pow_le_pow_right (by decide) (by omega)
          have h10' : 0 < 10 ^ j := Nat.pow_pos (by decide)
          have hg := m_gcd T 17 (Lk D E k j t) (10 ^ j) 100 (by omega) (by omega) (by omega) (by omega)
          have hgp : 0 < Nat.gcd (Lk D E k j t) (10 ^ j) := Nat.gcd_pos_of_pos_right _ h10'
          have hgl : Nat.gcd (Lk D E k j t) (10 ^ j) ≤ 10 ^ j := Nat.le_of_dvd h10' (Nat.gcd_dvd_right _ _)
          have hgn : (lN (Nat.gcd (Lk D E k j t) (10 ^ j)) = (0 : Int64)) = False := eq_false (by rw [l_0 (by omega)]; omega)
          have d1 : lN (Lk D E k j t) / lN (Nat.gcd (Lk D E k j t) (10 ^ j)) = lN (Lk D E k j t / Nat.gcd (Lk D E k j t) (10 ^ j)) := pk_lDiv (by omega) (by omega) (by omega)
          have d2 : lN (10 ^ j) / lN (Nat.gcd (Lk D E k j t) (10 ^ j)) = lN (10 ^ j / Nat.gcd (Lk D E k j t) (10 ^ j)) := pk_lDiv (by omega) (by omega) (by omega)
          have wo := m_wholeOf (S := T) (n := j) (by omega)
          by_cases e : x = 0
          · rw [if_pos e, e]
            simp (disch := omega) only [lit, lm1, nI_add, pk_mul, nm_eq, nm_eq', nm_lt, nm_lt', nm_le, nm_le', x_lt, x_le, x_eq, x_in, x_cl, x_div, x_sub, x_rem, x_min, x_max, x_and, x_or, x_xor, x_df, x_shl, bI_0, bI_1, bI_bo, lg_eq, toL_inj, ls_nI, decide_eq_false_iff_not, decide_eq_true_eq, Bool.true_eq_false, Bool.false_eq_true, bq, if_pos, if_neg, if_true, if_false, lq, Nat.reduceAdd, Nat.reduceMul, Nat.reduceSub, Nat.reduceDiv, Nat.reduceMod, m_noCoin1 hD m0 hk ht, w1, t1, lk, eL, wo, hg, hgn, d1, lN_i]
          · rw [if_neg e, show x = 1 by omega]
            simp (disch := omega) only [lit, lm1, nI_add, pk_mul, nm_eq, nm_eq', nm_lt, nm_lt', nm_le, nm_le', x_lt, x_le, x_eq, x_in, x_cl, x_div, x_sub, x_rem, x_min, x_max, x_and, x_or, x_xor, x_df, x_shl, bI_0, bI_1, bI_bo, lg_eq, toL_inj, ls_nI, decide_eq_false_iff_not, decide_eq_true_eq, Bool.true_eq_false, Bool.false_eq_true, bq, if_pos, if_neg, if_true, if_false, lq, Nat.reduceAdd, Nat.reduceMul, Nat.reduceSub, Nat.reduceDiv, Nat.reduceMod, m_noCoin1 hD m0 hk ht, w1, t1, lk, eL, wo, hg, hgn, d2, lN_i]
    · refine ⟨-2, fun S c => ⟨S, ?_, Kp.rf⟩, fun S m => ⟨_, ?_, kM_thr S (nI 0)⟩⟩
      · have n0 : (x3 = nI 0) = False := eq_false (fun e => by rw [e, ls_nI (by decide)] at h3; exact absurd h3 (by decide))
        have n1 : (x3 = nI 1) = False := eq_false (fun e => by rw [e, ls_nI (by decide)] at h3; exact absurd h3 (by decide))
        unfold fX11_chance
        simp (disch := omega) only [lit, lm1, nI_add, pk_mul, nm_eq, nm_eq', nm_lt, nm_lt', nm_le, nm_le', x_lt, x_le, x_eq, x_in, x_cl, x_div, x_sub, x_rem, x_min, x_max, x_and, x_or, x_xor, x_df, x_shl, bI_0, bI_1, bI_bo, lg_eq, toL_inj, ls_nI, decide_eq_false_iff_not, decide_eq_true_eq, Bool.true_eq_false, Bool.false_eq_true, bq, if_pos, if_neg, if_true, if_false, lq, Nat.reduceAdd, Nat.reduceMul, Nat.reduceSub, Nat.reduceDiv, Nat.reduceMod, c_cap1 hD c hk ht, n0, n1]
      · unfold fX12_chance
        simp (disch := omega) only [lit, lm1, nI_add, pk_mul, nm_eq, nm_eq', nm_lt, nm_lt', nm_le, nm_le', x_lt, x_le, x_eq, x_in, x_cl, x_div, x_sub, x_rem, x_min, x_max, x_and, x_or, x_xor, x_df, x_shl, bI_0, bI_1, bI_bo, lg_eq, toL_inj, ls_nI, decide_eq_false_iff_not, decide_eq_true_eq, Bool.true_eq_false, Bool.false_eq_true, bq, if_pos, if_neg, if_true, if_false, lq, Nat.reduceAdd, Nat.reduceMul, Nat.reduceSub, Nat.reduceDiv, Nat.reduceMod, m_noCoin1 hD (m.thr hD (nI 0)) hk ht, w1, h3]
  · refine ⟨-2, fun S c => ⟨S, ?_, Kp.rf⟩, fun S m => ⟨_, ?_, kM_thr S (nI 0)⟩⟩
    · unfold fX11_chance
      simp (disch := omega) only [lit, lm1, nI_add, pk_mul, nm_eq, nm_eq', nm_lt, nm_lt', nm_le, nm_le', x_lt, x_le, x_eq, x_in, x_cl, x_div, x_sub, x_rem, x_min, x_max, x_and, x_or, x_xor, x_df, x_shl, bI_0, bI_1, bI_bo, lg_eq, toL_inj, ls_nI, decide_eq_false_iff_not, decide_eq_true_eq, Bool.true_eq_false, Bool.false_eq_true, bq, if_pos, if_neg, if_true, if_false, lq, Nat.reduceAdd, Nat.reduceMul, Nat.reduceSub, Nat.reduceDiv, Nat.reduceMod, c_coinAndPlace hD c, h]
    · have hno : fX12_noCoin x1 x2 (cpI S 150 0 (nI 0)) = some (-2, cpI S 150 0 (nI 0)) := by rw [m_noCoin hD (m.thr hD (nI 0)), h]; rfl
      unfold fX12_chance
      simp (disch := omega) only [lit, lm1, nI_add, pk_mul, nm_eq, nm_eq', nm_lt, nm_lt', nm_le, nm_le', x_lt, x_le, x_eq, x_in, x_cl, x_div, x_sub, x_rem, x_min, x_max, x_and, x_or, x_xor, x_df, x_shl, bI_0, bI_1, bI_bo, lg_eq, toL_inj, ls_nI, decide_eq_false_iff_not, decide_eq_true_eq, Bool.true_eq_false, Bool.false_eq_true, bq, if_pos, if_neg, if_true, if_false, lq, Nat.reduceAdd, Nat.reduceMul, Nat.reduceSub, Nat.reduceDiv, Nat.reduceMod, hno]
      rfl
