/-! what a tray tells; hours -/
def allB (n : Nat) (v : Nat → Int64) (lo hi : Int32) : Bool := (ff (fun j => decide (v j < Int32.toInt64 lo) || decide (Int32.toInt64 hi < v j)) n 0).isNone
def rc (o : cpT) : Int32 := match o with
  | none => -6
  | some (n, _) => if n < 1 ∨ 8 < n then -4 else nI 0
def tc (o : cpT) (lo hi : Int32) : Int32 := match o with
  | none => -6
  | some (n, v) => if n < 1 ∨ 8 < n then -4 else if allB n v lo hi then nI 0 else -3
theorem rc_s (n : Nat) (v : Nat → Int64) : rc (some (n, v)) = if n < 1 ∨ 8 < n then -4 else nI 0 := rfl
theorem tc_s (n : Nat) (v : Nat → Int64) (lo hi : Int32) : tc (some (n, v)) lo hi = if n < 1 ∨ 8 < n then -4 else if allB n v lo hi then nI 0 else -3 := rfl
theorem lg_ltP (x y : Int64) : (lg_cmp x y < nI 0) = (x < y) := propext (lg_lt x y)
theorem lg_leP (x y : Int64) : (lg_cmp x y ≤ nI 0) = ¬ (y < x) := propext (lgm_le x y)
section TC
variable {t : Nat} {S : cpS}
theorem c_rowCode {o : cpT} (y : cY t o S) (hO : yO o) : fX9_rowCode (139 + 2 * t) S = some (rc o, S) := by
  unfold fX9_rowCode
  cases o with
  | none => simp (disch := omega) only [lit, lm1, nI_add, pk_mul, nm_eq, nm_eq', nm_lt, nm_lt', nm_le, nm_le', x_lt, x_le, x_eq, x_in, x_cl, x_div, x_sub, x_rem, x_min, x_max, x_and, x_or, x_xor, x_df, x_shl, bI_0, bI_1, bI_bo, lg_eq, toL_inj, ls_nI, decide_eq_false_iff_not, decide_eq_true_eq, Bool.true_eq_false, Bool.false_eq_true, bq, if_pos, if_neg, if_true, if_false, lq, Nat.reduceAdd, Nat.reduceMul, Nat.reduceSub, Nat.reduceDiv, Nat.reduceMod, y.miss, Option.isNone_none]; rfl
  | some x =>
    obtain ⟨n, v⟩ := x
    have hn := hO n v rfl
    rw [rc_s]
    by_cases h : n < 1
    · rw [if_pos (show n < 1 ∨ 8 < n from Or.inl h)]
      simp (disch := omega) only [lit, lm1, nI_add, pk_mul, nm_eq, nm_eq', nm_lt, nm_lt', nm_le, nm_le', x_lt, x_le, x_eq, x_in, x_cl, x_div, x_sub, x_rem, x_min, x_max, x_and, x_or, x_xor, x_df, x_shl, bI_0, bI_1, bI_bo, lg_eq, toL_inj, ls_nI, decide_eq_false_iff_not, decide_eq_true_eq, Bool.true_eq_false, Bool.false_eq_true, bq, if_pos, if_neg, if_true, if_false, lq, Nat.reduceAdd, Nat.reduceMul, Nat.reduceSub, Nat.reduceDiv, Nat.reduceMod, y.miss, Option.isNone_some, y.2.1, h]
    · by_cases h2 : n ≤ 8
      · rw [if_neg (show ¬ (n < 1 ∨ 8 < n) by omega)]
        simp (disch := omega) only [lit, lm1, nI_add, pk_mul, nm_eq, nm_eq', nm_lt, nm_lt', nm_le, nm_le', x_lt, x_le, x_eq, x_in, x_cl, x_div, x_sub, x_rem, x_min, x_max, x_and, x_or, x_xor, x_df, x_shl, bI_0, bI_1, bI_bo, lg_eq, toL_inj, ls_nI, decide_eq_false_iff_not, decide_eq_true_eq, Bool.true_eq_false, Bool.false_eq_true, bq, if_pos, if_neg, if_true, if_false, lq, Nat.reduceAdd, Nat.reduceMul, Nat.reduceSub, Nat.reduceDiv, Nat.reduceMod, y.miss, Option.isNone_some, y.2.1, h, h2]
      · rw [if_pos (show n < 1 ∨ 8 < n by omega)]
        simp (disch := omega) only [lit, lm1, nI_add, pk_mul, nm_eq, nm_eq', nm_lt, nm_lt', nm_le, nm_le', x_lt, x_le, x_eq, x_in, x_cl, x_div, x_sub, x_rem, x_min, x_max, x_and, x_or, x_xor, x_df, x_shl, bI_0, bI_1, bI_bo, lg_eq, toL_inj, ls_nI, decide_eq_false_iff_not, decide_eq_true_eq, Bool.true_eq_false, Bool.false_eq_true, bq, if_pos, if_neg, if_true, if_false, lq, Nat.reduceAdd, Nat.reduceMul, Nat.reduceSub, Nat.reduceDiv, Nat.reduceMod, y.miss, Option.isNone_some, y.2.1, h, h2]
theorem c_allB {n : Nat} {v : Nat → Int64} {lo hi : Int32} (y : cY t (some (n, v)) S) (hn : n ≤ 40) : fX9_allBetween (139 + 2 * t) lo hi S = some (bI (allB n v lo hi), S) := by
  unfold fX9_allBetween allB
  simp only [lit]
  refine ff_lp (F := fun f i (T : cpS) => fX9_allBetween_2 (139 + 2 * t) lo hi f i T) n _ (fun _ T => T = S) (fun o r => r = some (bI o.isNone, S)) (by omega) (fun f i T hi' hT hp' => ⟨S, ?_, rfl⟩) (fun f i T hi' hT hp' => ?_) (fun f T hT => ?_) (i0 := 0) (a := S) (Nat.zero_le _) rfl
  · subst hT
    have e0 := y.2.2 i hi'
    rw [Bool.or_eq_false_iff, decide_eq_false_iff_not, decide_eq_false_iff_not] at hp'
    rw [fX9_allBetween_2]
    simp (disch := omega) only [lit, lm1, nI_add, pk_mul, nm_eq, nm_eq', nm_lt, nm_lt', nm_le, nm_le', x_lt, x_le, x_eq, x_in, x_cl, x_div, x_sub, x_rem, x_min, x_max, x_and, x_or, x_xor, x_df, x_shl, bI_0, bI_1, bI_bo, lg_eq, toL_inj, ls_nI, decide_eq_false_iff_not, decide_eq_true_eq, Bool.true_eq_false, Bool.false_eq_true, bq, if_pos, if_neg, if_true, if_false, lq, Nat.reduceAdd, Nat.reduceMul, Nat.reduceSub, Nat.reduceDiv, Nat.reduceMod, y.2.1, e0, lg_ltP, lg_leP, hp'.1, hp'.2, not_false_eq_true]
  · subst hT
    have e0 := y.2.2 i hi'
    rw [fX9_allBetween_2]
    by_cases h1 : v i < Int32.toInt64 lo
    · simp (disch := omega) only [lit, lm1, nI_add, pk_mul, nm_eq, nm_eq', nm_lt, nm_lt', nm_le, nm_le', x_lt, x_le, x_eq, x_in, x_cl, x_div, x_sub, x_rem, x_min, x_max, x_and, x_or, x_xor, x_df, x_shl, bI_0, bI_1, bI_bo, lg_eq, toL_inj, ls_nI, decide_eq_false_iff_not, decide_eq_true_eq, Bool.true_eq_false, Bool.false_eq_true, bq, if_pos, if_neg, if_true, if_false, lq, Nat.reduceAdd, Nat.reduceMul, Nat.reduceSub, Nat.reduceDiv, Nat.reduceMod, y.2.1, e0, lg_ltP, h1]
      rfl
    · have h2 : Int32.toInt64 hi < v i := by rw [decide_eq_false h1, Bool.false_or] at hp'; exact of_decide_eq_true hp'
      simp (disch := omega) only [lit, lm1, nI_add, pk_mul, nm_eq, nm_eq', nm_lt, nm_lt', nm_le, nm_le', x_lt, x_le, x_eq, x_in, x_cl, x_div, x_sub, x_rem, x_min, x_max, x_and, x_or, x_xor, x_df, x_shl, bI_0, bI_1, bI_bo, lg_eq, toL_inj, ls_nI, decide_eq_false_iff_not, decide_eq_true_eq, Bool.true_eq_false, Bool.false_eq_true, bq, if_pos, if_neg, if_true, if_false, lq, Nat.reduceAdd, Nat.reduceMul, Nat.reduceSub, Nat.reduceDiv, Nat.reduceMod, y.2.1, e0, lg_ltP, lg_leP, h1, h2, not_true_eq_false]
      rfl
  · subst hT
    rw [fX9_allBetween_2]
    simp (disch := omega) only [lit, lm1, nI_add, pk_mul, nm_eq, nm_eq', nm_lt, nm_lt', nm_le, nm_le', x_lt, x_le, x_eq, x_in, x_cl, x_div, x_sub, x_rem, x_min, x_max, x_and, x_or, x_xor, x_df, x_shl, bI_0, bI_1, bI_bo, lg_eq, toL_inj, ls_nI, decide_eq_false_iff_not, decide_eq_true_eq, Bool.true_eq_false, Bool.false_eq_true, bq, if_pos, if_neg, if_true, if_false, lq, Nat.reduceAdd, Nat.reduceMul, Nat.reduceSub, Nat.reduceDiv, Nat.reduceMod, y.2.1]
    rfl
theorem m_noTold {o : cpT} {lo hi : Int32} (ht : t < 4) (y : mY t o S) (hO : yO o) : fX12_noTold (nI t) lo hi S = some (tc o lo hi, S) := by
  cases o with
  | none =>
    have hno : fX12_noTray (nI t) S = some (-6, S) := y.no ht
    unfold fX12_noTold
    simp (disch := omega) only [lit, lm1, nI_add, pk_mul, nm_eq, nm_eq', nm_lt, nm_lt', nm_le, nm_le', x_lt, x_le, x_eq, x_in, x_cl, x_div, x_sub, x_rem, x_min, x_max, x_and, x_or, x_xor, x_df, x_shl, bI_0, bI_1, bI_bo, lg_eq, toL_inj, ls_nI, decide_eq_false_iff_not, decide_eq_true_eq, Bool.true_eq_false, Bool.false_eq_true, bq, if_pos, if_neg, if_true, if_false, lq, Nat.reduceAdd, Nat.reduceMul, Nat.reduceSub, Nat.reduceDiv, Nat.reduceMod, hno]
    rfl
  | some x =>
    obtain ⟨n, v⟩ := x
    have hn := hO n v rfl
    have hno : fX12_noTray (nI t) S = some (nI 0, S) := y.no ht
    have ew := m_win2 1 8 1 8 (by decide) (by decide) (k := n) (by omega)
    rw [tc_s]
    unfold fX12_noTold
    by_cases h : n < 1 ∨ 8 < n
    · rw [if_pos h]
      simp (disch := omega) only [lit, lm1, nI_add, pk_mul, nm_eq, nm_eq', nm_lt, nm_lt', nm_le, nm_le', x_lt, x_le, x_eq, x_in, x_cl, x_div, x_sub, x_rem, x_min, x_max, x_and, x_or, x_xor, x_df, x_shl, bI_0, bI_1, bI_bo, lg_eq, toL_inj, ls_nI, decide_eq_false_iff_not, decide_eq_true_eq, Bool.true_eq_false, Bool.false_eq_true, bq, if_pos, if_neg, if_true, if_false, lq, Nat.reduceAdd, Nat.reduceMul, Nat.reduceSub, Nat.reduceDiv, Nat.reduceMod, hno, y.2.1, ew]
    · rw [if_neg h]
      simp (disch := omega) only [lit, lm1, nI_add, pk_mul, nm_eq, nm_eq', nm_lt, nm_lt', nm_le, nm_le', x_lt, x_le, x_eq, x_in, x_cl, x_div, x_sub, x_rem, x_min, x_max, x_and, x_or, x_xor, x_df, x_shl, bI_0, bI_1, bI_bo, lg_eq, toL_inj, ls_nI, decide_eq_false_iff_not, decide_eq_true_eq, Bool.true_eq_false, Bool.false_eq_true, bq, if_pos, if_neg, if_true, if_false, lq, Nat.reduceAdd, Nat.reduceMul, Nat.reduceSub, Nat.reduceDiv, Nat.reduceMod, hno, y.2.1, ew]
      unfold allB
      refine ff_lp (F := fun f i (T : cpS) => fX12_noTold_38 (nI t) lo hi f i T) n _ (fun _ T => T = S) (fun o r => r = some (if o.isNone = true then nI 0 else -3, S)) (by omega) (fun f i T hi' hT hp' => ⟨S, ?_, rfl⟩) (fun f i T hi' hT hp' => ?_) (fun f T hT => ?_) (i0 := 0) (a := S) (Nat.zero_le _) rfl
      · subst hT
        have e0 := y.2.2 i hi'
        rw [Bool.or_eq_false_iff, decide_eq_false_iff_not, decide_eq_false_iff_not] at hp'
        have ew' : ∀ S, fX12_within (v i) (Int32.toInt64 lo) (Int32.toInt64 hi) S = some (nI 1, S) := fun S => by
          rw [e_within, if_pos]; rfl
          rw [l_le, l_le]; rw [l_lt, l_lt] at hp'; omega
        rw [fX12_noTold_38]
        simp (disch := omega) only [lit, lm1, nI_add, pk_mul, nm_eq, nm_eq', nm_lt, nm_lt', nm_le, nm_le', x_lt, x_le, x_eq, x_in, x_cl, x_div, x_sub, x_rem, x_min, x_max, x_and, x_or, x_xor, x_df, x_shl, bI_0, bI_1, bI_bo, lg_eq, toL_inj, ls_nI, decide_eq_false_iff_not, decide_eq_true_eq, Bool.true_eq_false, Bool.false_eq_true, bq, if_pos, if_neg, if_true, if_false, lq, Nat.reduceAdd, Nat.reduceMul, Nat.reduceSub, Nat.reduceDiv, Nat.reduceMod, y.2.1, e0, ew']
      · subst hT
        have e0 := y.2.2 i hi'
        have ew' : ∀ S, fX12_within (v i) (Int32.toInt64 lo) (Int32.toInt64 hi) S = some (nI 0, S) := fun S => by
          rw [e_within, if_neg]; rfl
          rw [Bool.or_eq_true, decide_eq_true_eq, decide_eq_true_eq] at hp'
          rw [l_le, l_le]; rw [l_lt, l_lt] at hp'; omega
        rw [fX12_noTold_38]
        simp (disch := omega) only [lit, lm1, nI_add, pk_mul, nm_eq, nm_eq', nm_lt, nm_lt', nm_le, nm_le', x_lt, x_le, x_eq, x_in, x_cl, x_div, x_sub, x_rem, x_min, x_max, x_and, x_or, x_xor, x_df, x_shl, bI_0, bI_1, bI_bo, lg_eq, toL_inj, ls_nI, decide_eq_false_iff_not, decide_eq_true_eq, Bool.true_eq_false, Bool.false_eq_true, bq, if_pos, if_neg, if_true, if_false, lq, Nat.reduceAdd, Nat.reduceMul, Nat.reduceSub, Nat.reduceDiv, Nat.reduceMod, y.2.1, e0, ew']
        rfl
      · subst hT
        rw [fX12_noTold_38]
        simp (disch := omega) only [lit, lm1, nI_add, pk_mul, nm_eq, nm_eq', nm_lt, nm_lt', nm_le, nm_le', x_lt, x_le, x_eq, x_in, x_cl, x_div, x_sub, x_rem, x_min, x_max, x_and, x_or, x_xor, x_df, x_shl, bI_0, bI_1, bI_bo, lg_eq, toL_inj, ls_nI, decide_eq_false_iff_not, decide_eq_true_eq, Bool.true_eq_false, Bool.false_eq_true, bq, if_pos, if_neg, if_true, if_false, lq, Nat.reduceAdd, Nat.reduceMul, Nat.reduceSub, Nat.reduceDiv, Nat.reduceMod, y.2.1]
        rfl
theorem c_toldCode {o : cpT} (y : cY t o S) (hO : yO o) : fX11_toldCode (139 + 2 * t) S = some (tc o (nI 0) (nI 99999), S) := by
  unfold fX11_toldCode
  rw [c_rowCode y hO]
  cases o with
  | none => simp (disch := omega) only [lit, lm1, nI_add, pk_mul, nm_eq, nm_eq', nm_lt, nm_lt', nm_le, nm_le', x_lt, x_le, x_eq, x_in, x_cl, x_div, x_sub, x_rem, x_min, x_max, x_and, x_or, x_xor, x_df, x_shl, bI_0, bI_1, bI_bo, lg_eq, toL_inj, ls_nI, decide_eq_false_iff_not, decide_eq_true_eq, Bool.true_eq_false, Bool.false_eq_true, bq, if_pos, if_neg, if_true, if_false, lq, Nat.reduceAdd, Nat.reduceMul, Nat.reduceSub, Nat.reduceDiv, Nat.reduceMod, rc]; rfl
  | some x =>
    obtain ⟨n, v⟩ := x
    have hn := hO n v rfl
    rw [rc_s, tc_s]
    by_cases h : n < 1 ∨ 8 < n
    · rw [if_pos h, if_pos h]
      simp (disch := omega) only [lit, lm1, nI_add, pk_mul, nm_eq, nm_eq', nm_lt, nm_lt', nm_le, nm_le', x_lt, x_le, x_eq, x_in, x_cl, x_div, x_sub, x_rem, x_min, x_max, x_and, x_or, x_xor, x_df, x_shl, bI_0, bI_1, bI_bo, lg_eq, toL_inj, ls_nI, decide_eq_false_iff_not, decide_eq_true_eq, Bool.true_eq_false, Bool.false_eq_true, bq, if_pos, if_neg, if_true, if_false, lq, Nat.reduceAdd, Nat.reduceMul, Nat.reduceSub, Nat.reduceDiv, Nat.reduceMod]
      rfl
    · rw [if_neg h, if_neg h]
      simp (disch := omega) only [lit, lm1, nI_add, pk_mul, nm_eq, nm_eq', nm_lt, nm_lt', nm_le, nm_le', x_lt, x_le, x_eq, x_in, x_cl, x_div, x_sub, x_rem, x_min, x_max, x_and, x_or, x_xor, x_df, x_shl, bI_0, bI_1, bI_bo, lg_eq, toL_inj, ls_nI, decide_eq_false_iff_not, decide_eq_true_eq, Bool.true_eq_false, Bool.false_eq_true, bq, if_pos, if_neg, if_true, if_false, lq, Nat.reduceAdd, Nat.reduceMul, Nat.reduceSub, Nat.reduceDiv, Nat.reduceMod, c_allB y hn]
      cases allB n v (nI 0) (nI 99999) <;> rfl
end TC
theorem tc_0 {o : cpT} {lo hi : Int32} (h : tc o lo hi = nI 0) : ∃ n v, o = some (n, v) ∧ 1 ≤ n ∧ n ≤ 8 ∧ ∀ j, j < n → ¬ v j < Int32.toInt64 lo ∧ ¬ Int32.toInt64 hi < v j := by
  unfold tc at h
  cases o with
  | none => exact absurd (show (-6 : Int32) = nI 0 from h) (by decide)
  | some x =>
    obtain ⟨n, v⟩ := x
    dsimp only at h
    split at h
    · exact absurd h (by decide)
    · split at h
      · rename_i h1 h2
        refine ⟨n, v, rfl, by omega, by omega, fun j hj => ?_⟩
        unfold allB at h2
        have : ff (fun j => decide (v j < Int32.toInt64 lo) || decide (Int32.toInt64 hi < v j)) n 0 = none := by
          cases e : ff (fun j => decide (v j < Int32.toInt64 lo) || decide (Int32.toInt64 hi < v j)) n 0 with
          | none => rfl
          | some k => rw [e] at h2; cases h2
        have := (ff_none n 0).mp this j (by omega) (by omega)
        rw [Bool.or_eq_false_iff, decide_eq_false_iff_not, decide_eq_false_iff_not] at this
        exact this
      · exact absurd h (by decide)
theorem tc_ne {o : cpT} {lo hi : Int32} (h : ¬ tc o lo hi = nI 0) : (tc o lo hi = nI 0) = False := eq_false h
/-- a told carrying is so by an hour -/
def soB (D : cpD) (E : cpE) (u h : Nat) : Bool := ddV D (u / 10 / 1000) (u / 10 / 100 % 10) (u / 10 / 10 % 10) (u / 10 % 10) && (decide (wy D E (u / 10 / 1000) (u / 10 / 100 % 10) (u / 10 / 10 % 10) (u / 10 % 10) h = 0) && decide (wnI D E (u / 10 / 1000) (u / 10 / 100 % 10) (u / 10 / 10 % 10) (u / 10 % 10) h = nI (u % 10)))
def soA (D : cpD) (E : cpE) (u : Nat → Nat) (n h : Nat) : Bool := (ff (fun j => !soB D E (u j) h) n 0).isNone
def hsS (D : cpD) (E : cpE) (u : Nat → Nat) (n h s : Nat) : Nat := if soA D E u n h then s ||| 2 ^ h else s
def hsO (D : cpD) (E : cpE) (u : Nat → Nat) (n : Nat) : Nat := up (hsS D E u n) 10 0 0
theorem hsO_lt (D : cpD) (E : cpE) (u : Nat → Nat) (n : Nat) : hsO D E u n < 1024 := by
  refine up_inv (hsS D E u n) 10 (fun _ s => s < 2 ^ 10) (fun i s hi h => ?_) 10 0 0 (by omega) (by decide)
  unfold hsS
  split
  · exact or_lt h (two_lt hi)
  · exact h
section HO
variable {D : cpD} {E : cpE} {S : cpS}
theorem u_of {v : Nat → Int64} {n : Nat} (h : ∀ j, j < n → ¬ v j < Int32.toInt64 (nI 0) ∧ ¬ Int32.toInt64 (nI 99999) < v j) : ∃ u : Nat → Nat, ∀ j, j < n → u j ≤ 99999 ∧ v j = lN (u j) := by
  refine ⟨fun j => (v j).toInt.toNat, fun j hj => ?_⟩
  obtain ⟨h1, h2⟩ := h j hj
  rw [l_lt, i2l_toInt, show (nI 0).toInt = 0 from by decide] at h1
  rw [l_lt, i2l_toInt, show (nI 99999).toInt = 99999 from by decide] at h2
  dsimp only
  refine ⟨by omega, ?_⟩
  apply Int64.toInt_inj.mp
  rw [lN_toInt (by omega)]; omega
theorem c_allSoAt (hD : D.WF) (hE : E.WF D) (c : cA D E S) {t n h : Nat} {v : Nat → Int64} {u : Nat → Nat} (ht : t < 4) (hn : n ≤ 40) (y : cY t (some (n, v)) S) (hu : ∀ j, j < n → u j ≤ 99999 ∧ v j = lN (u j)) : ∃ T, fX0_allSoAt (139 + 2 * t) (nI h) S = some (bI (soA D E u n h), T) ∧ Kp kF S T := by
  unfold fX0_allSoAt soA
  simp only [lit]
  refine ff_lp (F := fun f i (T : cpS) => fX0_allSoAt_2 (139 + 2 * t) (nI h) f i T) n (fun j => !soB D E (u j) h) (fun _ T => Kp kF S T) (fun o r => ∃ T, r = some (bI o.isNone, T) ∧ Kp kF S T) (by omega) (fun f i T hi' hT hp' => ?_) (fun f i T hi' hT hp' => ?_) (fun f T hT => ?_) (i0 := 0) (a := S) (Nat.zero_le _) Kp.rf
  · have cT := c.F hT
    have yT := y.kp ht hT (fun k j a b q => by unfold kF at q; omega)
    obtain ⟨u1, u2⟩ := hu i hi'
    have e0 := yT.2.2 i hi'
    rw [u2] at e0
    have hs : soB D E (u i) h = true := by cases e : soB D E (u i) h; rw [e] at hp'; cases hp'; rfl
    unfold soB at hs
    rw [Bool.and_eq_true, Bool.and_eq_true, decide_eq_true_eq, decide_eq_true_eq] at hs
    obtain ⟨s1, s2, s3⟩ := hs
    obtain ⟨g1, g2, g3, g4⟩ := ddV_sp s1
    obtain ⟨U, x1, x2⟩ := c_wearAt hD hE cT (h := h) (p := u i / 10 / 1000) (q := u i / 10 / 100 % 10) (k := u i / 10 / 10 % 10) (to := u i / 10 % 10) (by omega) g2 (by omega) g3 g4
    rw [if_pos s2, s3] at x1
    refine ⟨U, ?_, hT.tr x2⟩
    rw [fX0_allSoAt_2]
    simp (disch := omega) only [lit, lm1, nI_add, pk_mul, nm_eq, nm_eq', nm_lt, nm_lt', nm_le, nm_le', x_lt, x_le, x_eq, x_in, x_cl, x_div, x_sub, x_rem, x_min, x_max, x_and, x_or, x_xor, x_df, x_shl, bI_0, bI_1, bI_bo, lg_eq, toL_inj, ls_nI, decide_eq_false_iff_not, decide_eq_true_eq, Bool.true_eq_false, Bool.false_eq_true, bq, if_pos, if_neg, if_true, if_false, lq, Nat.reduceAdd, Nat.reduceMul, Nat.reduceSub, Nat.reduceDiv, Nat.reduceMod, yT.2.1, e0, lN_i, x1, eq_self]
  · have cT := c.F hT
    have yT := y.kp ht hT (fun k j a b q => by unfold kF at q; omega)
    obtain ⟨u1, u2⟩ := hu i hi'
    have e0 := yT.2.2 i hi'
    rw [u2] at e0
    have hs : soB D E (u i) h = false := by cases e : soB D E (u i) h; rfl; rw [e] at hp'; cases hp'
    by_cases hpq : u i / 10 / 100 % 10 ≤ u i / 10 / 1000
    · refine ⟨T, ?_, hT⟩
      rw [fX0_allSoAt_2]
      simp (disch := omega) only [lit, lm1, nI_add, pk_mul, nm_eq, nm_eq', nm_lt, nm_lt', nm_le, nm_le', x_lt, x_le, x_eq, x_in, x_cl, x_div, x_sub, x_rem, x_min, x_max, x_and, x_or, x_xor, x_df, x_shl, bI_0, bI_1, bI_bo, lg_eq, toL_inj, ls_nI, decide_eq_false_iff_not, decide_eq_true_eq, Bool.true_eq_false, Bool.false_eq_true, bq, if_pos, if_neg, if_true, if_false, lq, Nat.reduceAdd, Nat.reduceMul, Nat.reduceSub, Nat.reduceDiv, Nat.reduceMod, yT.2.1, e0, lN_i, hpq]
      rfl
    · unfold soB at hs
      cases hV : ddV D (u i / 10 / 1000) (u i / 10 / 100 % 10) (u i / 10 / 10 % 10) (u i / 10 % 10)
      · have hN := c_wearAtN hD cT (x5 := nI h) (ddV_N (p := u i / 10 / 1000) (q := u i / 10 / 100 % 10) (c := u i / 10 / 10 % 10) (t := u i / 10 % 10) (by omega) (by omega) (by omega) (by omega) hV (by omega))
        refine ⟨T, ?_, hT⟩
        rw [fX0_allSoAt_2]
        simp (disch := omega) only [lit, lm1, nI_add, pk_mul, nm_eq, nm_eq', nm_lt, nm_lt', nm_le, nm_le', x_lt, x_le, x_eq, x_in, x_cl, x_div, x_sub, x_rem, x_min, x_max, x_and, x_or, x_xor, x_df, x_shl, bI_0, bI_1, bI_bo, lg_eq, toL_inj, ls_nI, decide_eq_false_iff_not, decide_eq_true_eq, Bool.true_eq_false, Bool.false_eq_true, bq, if_pos, if_neg, if_true, if_false, lq, Nat.reduceAdd, Nat.reduceMul, Nat.reduceSub, Nat.reduceDiv, Nat.reduceMod, yT.2.1, e0, lN_i, hpq, hN]
        rfl
      · obtain ⟨g1, g2, g3, g4⟩ := ddV_sp hV
        rw [hV, Bool.true_and] at hs
        obtain ⟨U, x1, x2⟩ := c_wearAt hD hE cT (h := h) (p := u i / 10 / 1000) (q := u i / 10 / 100 % 10) (k := u i / 10 / 10 % 10) (to := u i / 10 % 10) (by omega) g2 (by omega) g3 g4
        refine ⟨U, ?_, hT.tr x2⟩
        by_cases e : wy D E (u i / 10 / 1000) (u i / 10 / 100 % 10) (u i / 10 / 10 % 10) (u i / 10 % 10) h = 0
        · rw [decide_eq_true e, Bool.true_and] at hs
          have hne := eq_false (of_decide_eq_false hs)
          rw [if_pos e] at x1
          rw [fX0_allSoAt_2]
          simp (disch := omega) only [lit, lm1, nI_add, pk_mul, nm_eq, nm_eq', nm_lt, nm_lt', nm_le, nm_le', x_lt, x_le, x_eq, x_in, x_cl, x_div, x_sub, x_rem, x_min, x_max, x_and, x_or, x_xor, x_df, x_shl, bI_0, bI_1, bI_bo, lg_eq, toL_inj, ls_nI, decide_eq_false_iff_not, decide_eq_true_eq, Bool.true_eq_false, Bool.false_eq_true, bq, if_pos, if_neg, if_true, if_false, lq, Nat.reduceAdd, Nat.reduceMul, Nat.reduceSub, Nat.reduceDiv, Nat.reduceMod, yT.2.1, e0, lN_i, hpq, x1, hne]
          rfl
        · rw [if_neg e] at x1
          have hne : (ngI (wy D E (u i / 10 / 1000) (u i / 10 / 100 % 10) (u i / 10 / 10 % 10) (u i / 10 % 10) h) = nI (u i % 10)) = False := by
            obtain ⟨q1, q2, q3, q4, q5, q6⟩ := ng_pos (wy D E (u i / 10 / 1000) (u i / 10 / 100 % 10) (u i / 10 / 10 % 10) (u i / 10 % 10) h) (by rcases wyF_cases D E (u i / 10 / 1000) (u i / 10 / 100 % 10) (u i / 10 / 10 % 10) (E.at' (u i / 10 / 10 % 10)) (u i / 10 % 10) h with g | g | g | g; exact absurd g e; exact Or.inl g; exact Or.inr (Or.inl g); exact Or.inr (Or.inr g))
            refine eq_false (fun k => ?_)
            rw [k] at q1
            have : nI 0 ≤ nI (u i % 10) := (nI_leI (by decide) (by omega)).mpr (by omega)
            rw [q1] at this; exact this
          rw [fX0_allSoAt_2]
          simp (disch := omega) only [lit, lm1, nI_add, pk_mul, nm_eq, nm_eq', nm_lt, nm_lt', nm_le, nm_le', x_lt, x_le, x_eq, x_in, x_cl, x_div, x_sub, x_rem, x_min, x_max, x_and, x_or, x_xor, x_df, x_shl, bI_0, bI_1, bI_bo, lg_eq, toL_inj, ls_nI, decide_eq_false_iff_not, decide_eq_true_eq, Bool.true_eq_false, Bool.false_eq_true, bq, if_pos, if_neg, if_true, if_false, lq, Nat.reduceAdd, Nat.reduceMul, Nat.reduceSub, Nat.reduceDiv, Nat.reduceMod, yT.2.1, e0, lN_i, hpq, x1, hne]
          rfl
  · have yT := y.kp ht hT (fun k j a b q => by unfold kF at q; omega)
    refine ⟨T, ?_, hT⟩
    rw [fX0_allSoAt_2]
    simp (disch := omega) only [lit, lm1, nI_add, pk_mul, nm_eq, nm_eq', nm_lt, nm_lt', nm_le, nm_le', x_lt, x_le, x_eq, x_in, x_cl, x_div, x_sub, x_rem, x_min, x_max, x_and, x_or, x_xor, x_df, x_shl, bI_0, bI_1, bI_bo, lg_eq, toL_inj, ls_nI, decide_eq_false_iff_not, decide_eq_true_eq, Bool.true_eq_false, Bool.false_eq_true, bq, if_pos, if_neg, if_true, if_false, lq, Nat.reduceAdd, Nat.reduceMul, Nat.reduceSub, Nat.reduceDiv, Nat.reduceMod, yT.2.1]
    rfl
theorem c_hoursOf (hD : D.WF) (hE : E.WF D) (c : cA D E S) {t n : Nat} {v : Nat → Int64} {u : Nat → Nat} (ht : t < 4) (hn : n ≤ 40) (y : cY t (some (n, v)) S) (hu : ∀ j, j < n → u j ≤ 99999 ∧ v j = lN (u j)) : ∃ T, fX0_hoursOf (139 + 2 * t) S = some (nI (hsO D E u n), T) ∧ Kp kF S T := by
  unfold fX0_hoursOf hsO
  simp only [lit]
  have := up_lpR (F := fun f i (a : Int32 × cpS) => fX0_hoursOf_4 (139 + 2 * t) f a.1 i a.2) (K := fun a => some (a.1, a.2)) 10 (hsS D E u n) (fun i s a => a.1 = nI s ∧ Kp kF S a.2) (by decide) (fun f i s a hi hI => ?_) (fun f s a hI => ?_) (i0 := 0) (s := 0) (a := (nI 0, S)) (Nat.zero_le _) ⟨rfl, Kp.rf⟩
  · obtain ⟨a, t1, t2, t3⟩ := this
    refine ⟨a.2, ?_, t3⟩
    rw [t2] at t1; exact t1
  · obtain ⟨x, T⟩ := a
    obtain ⟨i1, i2⟩ := hI
    have j1 : x = nI s := i1
    have j2 : Kp kF S T := i2
    clear i1 i2
    subst j1
    obtain ⟨U, u1, u2⟩ := c_allSoAt hD hE (c.F j2) (h := i) ht hn (y.kp ht j2 (fun k j a b q => by unfold kF at q; omega)) hu
    refine ⟨(nI (hsS D E u n i s), U), ?_, rfl, j2.tr u2⟩
    rw [fX0_hoursOf_4]
    unfold hsS
    cases e : soA D E u n i
    · simp (disch := omega) only [lit, lm1, nI_add, pk_mul, nm_eq, nm_eq', nm_lt, nm_lt', nm_le, nm_le', x_lt, x_le, x_eq, x_in, x_cl, x_div, x_sub, x_rem, x_min, x_max, x_and, x_or, x_xor, x_df, x_shl, bI_0, bI_1, bI_bo, lg_eq, toL_inj, ls_nI, decide_eq_false_iff_not, decide_eq_true_eq, Bool.true_eq_false, Bool.false_eq_true, bq, if_pos, if_neg, if_true, if_false, lq, Nat.reduceAdd, Nat.reduceMul, Nat.reduceSub, Nat.reduceDiv, Nat.reduceMod, u1, e]
    · simp (disch := omega) only [lit, lm1, nI_add, pk_mul, nm_eq, nm_eq', nm_lt, nm_lt', nm_le, nm_le', x_lt, x_le, x_eq, x_in, x_cl, x_div, x_sub, x_rem, x_min, x_max, x_and, x_or, x_xor, x_df, x_shl, bI_0, bI_1, bI_bo, lg_eq, toL_inj, ls_nI, decide_eq_false_iff_not, decide_eq_true_eq, Bool.true_eq_false, Bool.false_eq_true, bq, if_pos, if_neg, if_true, if_false, lq, Nat.reduceAdd, Nat.reduceMul, Nat.reduceSub, Nat.reduceDiv, Nat.reduceMod, u1, e]
  · rw [fX0_hoursOf_4]
    simp (disch := omega) only [lit, lm1, nI_add, pk_mul, nm_eq, nm_eq', nm_lt, nm_lt', nm_le, nm_le', x_lt, x_le, x_eq, x_in, x_cl, x_div, x_sub, x_rem, x_min, x_max, x_and, x_or, x_xor, x_df, x_shl, bI_0, bI_1, bI_bo, lg_eq, toL_inj, ls_nI, decide_eq_false_iff_not, decide_eq_true_eq, Bool.true_eq_false, Bool.false_eq_true, bq, if_pos, if_neg, if_true, if_false, lq, Nat.reduceAdd, Nat.reduceMul, Nat.reduceSub, Nat.reduceDiv, Nat.reduceMod]
theorem bI_and (a b : Bool) : bI a &&& bI b = bI (a && b) := by cases a <;> cases b <;> decide
theorem up_and (f : Nat → Bool) : ∀ d i b, up (fun j b => b && f j) d i b = (b && (ff (fun j => !f j) d i).isNone) := by
  intro d
  induction d with
  | zero => intro i b; show b = (b && true); simp
  | succ d ih =>
    intro i b
    rw [up, ih, ff]
    cases f i <;> simp
theorem m_isTold (hD : D.WF) (hE : E.WF D) (m : mA D E S) {u h : Nat} (hu : u ≤ 99999) : ∃ T, fX12_isTold (nI u) (nI h) S = some (bI (soB D E u h), T) ∧ Kp kG S T := by
  unfold soB
  by_cases hpq : u / 10 / 100 % 10 ≤ u / 10 / 1000
  · have hV : ddV D (u / 10 / 1000) (u / 10 / 100 % 10) (u / 10 / 10 % 10) (u / 10 % 10) = false := by unfold ddV; rw [decide_eq_false (by omega)]; rfl
    refine ⟨S, ?_, Kp.rf⟩
    rw [hV]
    unfold fX12_isTold fX12_whyTold
    simp (disch := omega) only [lit, lm1, nI_add, pk_mul, nm_eq, nm_eq', nm_lt, nm_lt', nm_le, nm_le', x_lt, x_le, x_eq, x_in, x_cl, x_div, x_sub, x_rem, x_min, x_max, x_and, x_or, x_xor, x_df, x_shl, bI_0, bI_1, bI_bo, lg_eq, toL_inj, ls_nI, decide_eq_false_iff_not, decide_eq_true_eq, Bool.true_eq_false, Bool.false_eq_true, bq, if_pos, if_neg, if_true, if_false, lq, Nat.reduceAdd, Nat.reduceMul, Nat.reduceSub, Nat.reduceDiv, Nat.reduceMod, hpq]
    rfl
  · cases hV : ddV D (u / 10 / 1000) (u / 10 / 100 % 10) (u / 10 / 10 % 10) (u / 10 % 10)
    · have hN := m_whyCarryN hD m (x5 := nI h) (ddV_N (p := u / 10 / 1000) (q := u / 10 / 100 % 10) (c := u / 10 / 10 % 10) (t := u / 10 % 10) (by omega) (by omega) (by omega) (by omega) hV (by omega))
      refine ⟨S, ?_, Kp.rf⟩
      unfold fX12_isTold fX12_whyTold
      simp (disch := omega) only [lit, lm1, nI_add, pk_mul, nm_eq, nm_eq', nm_lt, nm_lt', nm_le, nm_le', x_lt, x_le, x_eq, x_in, x_cl, x_div, x_sub, x_rem, x_min, x_max, x_and, x_or, x_xor, x_df, x_shl, bI_0, bI_1, bI_bo, lg_eq, toL_inj, ls_nI, decide_eq_false_iff_not, decide_eq_true_eq, Bool.true_eq_false, Bool.false_eq_true, bq, if_pos, if_neg, if_true, if_false, lq, Nat.reduceAdd, Nat.reduceMul, Nat.reduceSub, Nat.reduceDiv, Nat.reduceMod, hpq, hN]
      rfl
    · obtain ⟨g1, g2, g3, g4⟩ := ddV_sp hV
      obtain ⟨A, a1, a2⟩ := m_whyCarry hD hE m (h := h) (p := u / 10 / 1000) (q := u / 10 / 100 % 10) (k := u / 10 / 10 % 10) (to := u / 10 % 10) (by omega) g2 (by omega) g3 g4
      by_cases e : wy D E (u / 10 / 1000) (u / 10 / 100 % 10) (u / 10 / 10 % 10) (u / 10 % 10) h = 0
      · obtain ⟨B, b1, b2⟩ := m_wornTo hD hE (m.kp hD a2 (fun _ _ => kG_ne)) (h := h) (p := u / 10 / 1000) (q := u / 10 / 100 % 10) (k := u / 10 / 10 % 10) (to := u / 10 % 10) (by omega) g2 g3 g4 e
        refine ⟨B, ?_, a2.tr b2⟩
        rw [e] at a1
        rw [decide_eq_true e]
        unfold fX12_isTold fX12_whyTold
        rcases Classical.propComplete (wnI D E (u / 10 / 1000) (u / 10 / 100 % 10) (u / 10 / 10 % 10) (u / 10 % 10) h = nI (u % 10)) with q | q
        · simp (disch := omega) only [lit, lm1, nI_add, pk_mul, nm_eq, nm_eq', nm_lt, nm_lt', nm_le, nm_le', x_lt, x_le, x_eq, x_in, x_cl, x_div, x_sub, x_rem, x_min, x_max, x_and, x_or, x_xor, x_df, x_shl, bI_0, bI_1, bI_bo, lg_eq, toL_inj, ls_nI, decide_eq_false_iff_not, decide_eq_true_eq, Bool.true_eq_false, Bool.false_eq_true, bq, if_pos, if_neg, if_true, if_false, lq, Nat.reduceAdd, Nat.reduceMul, Nat.reduceSub, Nat.reduceDiv, Nat.reduceMod, hpq, a1, b1, q]
          simp only [decide_true]; rfl
        · simp (disch := omega) only [lit, lm1, nI_add, pk_mul, nm_eq, nm_eq', nm_lt, nm_lt', nm_le, nm_le', x_lt, x_le, x_eq, x_in, x_cl, x_div, x_sub, x_rem, x_min, x_max, x_and, x_or, x_xor, x_df, x_shl, bI_0, bI_1, bI_bo, lg_eq, toL_inj, ls_nI, decide_eq_false_iff_not, decide_eq_true_eq, Bool.true_eq_false, Bool.false_eq_true, bq, if_pos, if_neg, if_true, if_false, lq, Nat.reduceAdd, Nat.reduceMul, Nat.reduceSub, Nat.reduceDiv, Nat.reduceMod, hpq, a1, b1, q]
          simp only [decide_false]; rfl
      · obtain ⟨q1, q2, q3, q4, q5, q6⟩ := ng_pos (wy D E (u / 10 / 1000) (u / 10 / 100 % 10) (u / 10 / 10 % 10) (u / 10 % 10) h) (by rcases wyF_cases D E (u / 10 / 1000) (u / 10 / 100 % 10) (u / 10 / 10 % 10) (E.at' (u / 10 / 10 % 10)) (u / 10 % 10) h with g | g | g | g; exact absurd g e; exact Or.inl g; exact Or.inr (Or.inl g); exact Or.inr (Or.inr g))
        refine ⟨A, ?_, a2⟩
        rw [decide_eq_false e]
        unfold fX12_isTold fX12_whyTold
        simp (disch := omega) only [lit, lm1, nI_add, pk_mul, nm_eq, nm_eq', nm_lt, nm_lt', nm_le, nm_le', x_lt, x_le, x_eq, x_in, x_cl, x_div, x_sub, x_rem, x_min, x_max, x_and, x_or, x_xor, x_df, x_shl, bI_0, bI_1, bI_bo, lg_eq, toL_inj, ls_nI, decide_eq_false_iff_not, decide_eq_true_eq, Bool.true_eq_false, Bool.false_eq_true, bq, if_pos, if_neg, if_true, if_false, lq, Nat.reduceAdd, Nat.reduceMul, Nat.reduceSub, Nat.reduceDiv, Nat.reduceMod, hpq, a1, q5]
        rfl
theorem m_hours16 (hD : D.WF) (hE : E.WF D) (m : mA D E S) {t n h s : Nat} {v : Nat → Int64} {u : Nat → Nat} (ht : t < 4) (hn : n ≤ 40) (hh : h < 10) (y : mY t (some (n, v)) S) (hu : ∀ j, j < n → u j ≤ 99999 ∧ v j = lN (u j)) (k : Int32 → Int32 → cpS → Option (Int32 × cpS)) : ∃ T, fX12_hoursOf_16 (nI t) (nI s) (nI h) k cpFu (nI 1) (nI 0) S = k (nI (hsS D E u n h s)) (nI (h + 1)) T ∧ Kp kG S T := by
  have e : soA D E u n h = up (fun j b => b && soB D E (u j) h) n 0 true := by rw [up_and]; rfl
  unfold hsS
  rw [e]
  have := up_lpR (F := fun f i (a : Int32 × cpS) => fX12_hoursOf_16 (nI t) (nI s) (nI h) k f a.1 i a.2) (K := fun a => if a.1 = nI 0 then k (nI s) (nI (h + 1)) a.2 else k (nI (s ||| 2 ^ h)) (nI (h + 1)) a.2) n (fun j b => b && soB D E (u j) h) (fun i b a => a.1 = bI b ∧ Kp kG S a.2) (by omega) (fun f i b a hi hI => ?_) (fun f b a hI => ?_) (i0 := 0) (s := true) (a := (nI 1, S)) (Nat.zero_le _) ⟨rfl, Kp.rf⟩
  · obtain ⟨⟨x, T⟩, t1, t2, t3⟩ := this
    have t2 : x = bI (up (fun j b => b && soB D E (u j) h) n 0 true) := t2
    refine ⟨T, ?_, t3⟩
    rw [t2] at t1
    refine t1.trans ?_
    cases up (fun j b => b && soB D E (u j) h) n 0 true <;> rfl
  · obtain ⟨x, T⟩ := a
    obtain ⟨i1, i2⟩ := hI
    have j1 : x = bI b := i1
    have j2 : Kp kG S T := i2
    clear i1 i2
    subst j1
    have yT := y.kp j2 (fun k j p1 p2 q => by unfold kG at q; omega)
    obtain ⟨u1, u2⟩ := hu i hi
    have e0 := yT.2.2 i hi
    rw [u2] at e0
    obtain ⟨U, x1, x2⟩ := m_isTold hD hE (m.kp hD j2 (fun _ _ => kG_ne)) (h := h) u1
    refine ⟨(bI (b && soB D E (u i) h), U), ?_, rfl, j2.tr x2⟩
    rw [fX12_hoursOf_16]
    simp (disch := omega) only [lit, lm1, nI_add, pk_mul, nm_eq, nm_eq', nm_lt, nm_lt', nm_le, nm_le', x_lt, x_le, x_eq, x_in, x_cl, x_div, x_sub, x_rem, x_min, x_max, x_and, x_or, x_xor, x_df, x_shl, bI_0, bI_1, bI_bo, lg_eq, toL_inj, ls_nI, decide_eq_false_iff_not, decide_eq_true_eq, Bool.true_eq_false, Bool.false_eq_true, bq, if_pos, if_neg, if_true, if_false, lq, Nat.reduceAdd, Nat.reduceMul, Nat.reduceSub, Nat.reduceDiv, Nat.reduceMod, yT.2.1, e0, lN_i, x1, bI_and]
  · have yT := y.kp hI.2 (fun k j p1 p2 q => by unfold kG at q; omega)
    rw [fX12_hoursOf_16]
    simp (disch := omega) only [lit, lm1, nI_add, pk_mul, nm_eq, nm_eq', nm_lt, nm_lt', nm_le, nm_le', x_lt, x_le, x_eq, x_in, x_cl, x_div, x_sub, x_rem, x_min, x_max, x_and, x_or, x_xor, x_df, x_shl, bI_0, bI_1, bI_bo, lg_eq, toL_inj, ls_nI, decide_eq_false_iff_not, decide_eq_true_eq, Bool.true_eq_false, Bool.false_eq_true, bq, if_pos, if_neg, if_true, if_false, lq, Nat.reduceAdd, Nat.reduceMul, Nat.reduceSub, Nat.reduceDiv, Nat.reduceMod, yT.2.1, or_0]
theorem m_hoursOf (hD : D.WF) (hE : E.WF D) (m : mA D E S) {t n : Nat} {v : Nat → Int64} {u : Nat → Nat} (ht : t < 4) (hn : n ≤ 40) (y : mY t (some (n, v)) S) (hu : ∀ j, j < n → u j ≤ 99999 ∧ v j = lN (u j)) : ∃ T, fX12_hoursOf (nI t) S = some (nI (hsO D E u n), T) ∧ Kp kG S T := by
  unfold fX12_hoursOf hsO
  simp only [lit]
  have := up_lpR (F := fun f i (a : Int32 × cpS) => fX12_hoursOf_4 (nI t) f a.1 i a.2) (K := fun a => some (a.1, a.2)) 10 (hsS D E u n) (fun i s a => a.1 = nI s ∧ Kp kG S a.2) (by decide) (fun f i s a hi hI => ?_) (fun f s a hI => ?_) (i0 := 0) (s := 0) (a := (nI 0, S)) (Nat.zero_le _) ⟨rfl, Kp.rf⟩
  · obtain ⟨a, t1, t2, t3⟩ := this
    refine ⟨a.2, ?_, t3⟩
    rw [t2] at t1; exact t1
  · obtain ⟨x, T⟩ := a
    obtain ⟨i1, i2⟩ := hI
    have j1 : x = nI s := i1
    have j2 : Kp kG S T := i2
    clear i1 i2
    subst j1
    obtain ⟨U, u1, u2⟩ := m_hours16 hD hE (m.kp hD j2 (fun _ _ => kG_ne)) (h := i) (s := s) ht hn hi (y.kp j2 (fun k j p1 p2 q => by unfold kG at q; omega)) hu (fX12_hoursOf_4 (nI t) f)
    refine ⟨(nI (hsS D E u n i s), U), ?_, rfl, j2.tr u2⟩
    rw [fX12_hoursOf_4]
    simp (disch := omega) only [lit, lm1, nI_add, pk_mul, nm_eq, nm_eq', nm_lt, nm_lt', nm_le, nm_le', x_lt, x_le, x_eq, x_in, x_cl, x_div, x_sub, x_rem, x_min, x_max, x_and, x_or, x_xor, x_df, x_shl, bI_0, bI_1, bI_bo, lg_eq, toL_inj, ls_nI, decide_eq_false_iff_not, decide_eq_true_eq, Bool.true_eq_false, Bool.false_eq_true, bq, if_pos, if_neg, if_true, if_false, lq, Nat.reduceAdd, Nat.reduceMul, Nat.reduceSub, Nat.reduceDiv, Nat.reduceMod, u1]
  · rw [fX12_hoursOf_4]
    simp (disch := omega) only [lit, lm1, nI_add, pk_mul, nm_eq, nm_eq', nm_lt, nm_lt', nm_le, nm_le', x_lt, x_le, x_eq, x_in, x_cl, x_div, x_sub, x_rem, x_min, x_max, x_and, x_or, x_xor, x_df, x_shl, bI_0, bI_1, bI_bo, lg_eq, toL_inj, ls_nI, decide_eq_false_iff_not, decide_eq_true_eq, Bool.true_eq_false, Bool.false_eq_true, bq, if_pos, if_neg, if_true, if_false, lq, Nat.reduceAdd, Nat.reduceMul, Nat.reduceSub, Nat.reduceDiv, Nat.reduceMod]
end HO
theorem q_hours : cpQ_hours cpRl := by
  intro x1 S hR
  rcases in_or x1 4 with ⟨t, ht, rfl⟩ | h1
  · refine qY hR ht (fun D E o hD hE hO => ?_)
    have hc : ∀ S, fX11_hasTray (nI t) S = some (nI 1, S) := fun S => by rw [e_hasTray, if_pos (cpLs_of ht (by decide))]; rfl
    by_cases e : tc o (nI 0) (nI 99999) = nI 0
    · obtain ⟨n, v, rfl, n1, n8, hv⟩ := tc_0 e
      obtain ⟨u, hu⟩ := u_of hv
      refine ⟨nI (hsO D E u n), fun S c y => ?_, fun S m y => ?_⟩
      · obtain ⟨T, t1, t2⟩ := c_hoursOf hD hE c ht (by omega) y hu
        refine ⟨T, ?_, t2.le (fun _ _ => kF_C)⟩
        unfold fX11_hours
        simp (disch := omega) only [lit, lm1, nI_add, pk_mul, nm_eq, nm_eq', nm_lt, nm_lt', nm_le, nm_le', x_lt, x_le, x_eq, x_in, x_cl, x_div, x_sub, x_rem, x_min, x_max, x_and, x_or, x_xor, x_df, x_shl, bI_0, bI_1, bI_bo, lg_eq, toL_inj, ls_nI, decide_eq_false_iff_not, decide_eq_true_eq, Bool.true_eq_false, Bool.false_eq_true, bq, if_pos, if_neg, if_true, if_false, lq, Nat.reduceAdd, Nat.reduceMul, Nat.reduceSub, Nat.reduceDiv, Nat.reduceMod, hc, c_toldCode y hO, e, t1]
      · obtain ⟨T, t1, t2⟩ := m_hoursOf hD hE (m.thr hD (nI 0)) ht (by omega) (y.thr (nI 0)) hu
        refine ⟨T, ?_, (kM_thr S (nI 0)).tr (t2.le (fun _ _ => kG_M))⟩
        unfold fX12_hours
        simp (disch := omega) only [lit, lm1, nI_add, pk_mul, nm_eq, nm_eq', nm_lt, nm_lt', nm_le, nm_le', x_lt, x_le, x_eq, x_in, x_cl, x_div, x_sub, x_rem, x_min, x_max, x_and, x_or, x_xor, x_df, x_shl, bI_0, bI_1, bI_bo, lg_eq, toL_inj, ls_nI, decide_eq_false_iff_not, decide_eq_true_eq, Bool.true_eq_false, Bool.false_eq_true, bq, if_pos, if_neg, if_true, if_false, lq, Nat.reduceAdd, Nat.reduceMul, Nat.reduceSub, Nat.reduceDiv, Nat.reduceMod, m_noTold ht (y.thr (nI 0)) hO, e, t1]
    · refine ⟨tc o (nI 0) (nI 99999), fun S c y => ⟨S, ?_, Kp.rf⟩, fun S m y => ⟨_, ?_, kM_thr S (nI 0)⟩⟩
      · unfold fX11_hours
        simp (disch := omega) only [lit, lm1, nI_add, pk_mul, nm_eq, nm_eq', nm_lt, nm_lt', nm_le, nm_le', x_lt, x_le, x_eq, x_in, x_cl, x_div, x_sub, x_rem, x_min, x_max, x_and, x_or, x_xor, x_df, x_shl, bI_0, bI_1, bI_bo, lg_eq, toL_inj, ls_nI, decide_eq_false_iff_not, decide_eq_true_eq, Bool.true_eq_false, Bool.false_eq_true, bq, if_pos, if_neg, if_true, if_false, lq, Nat.reduceAdd, Nat.reduceMul, Nat.reduceSub, Nat.reduceDiv, Nat.reduceMod, hc, c_toldCode y hO, tc_ne e]
      · unfold fX12_hours
        simp (disch := omega) only [lit, lm1, nI_add, pk_mul, nm_eq, nm_eq', nm_lt, nm_lt', nm_le, nm_le', x_lt, x_le, x_eq, x_in, x_cl, x_div, x_sub, x_rem, x_min, x_max, x_and, x_or, x_xor, x_df, x_shl, bI_0, bI_1, bI_bo, lg_eq, toL_inj, ls_nI, decide_eq_false_iff_not, decide_eq_true_eq, Bool.true_eq_false, Bool.false_eq_true, bq, if_pos, if_neg, if_true, if_false, lq, Nat.reduceAdd, Nat.reduceMul, Nat.reduceSub, Nat.reduceDiv, Nat.reduceMod, m_noTold ht (y.thr (nI 0)) hO, tc_ne e]
  · refine q1 hR (fun D E hD hE => ⟨-2, fun S c => ⟨S, ?_, Kp.rf⟩, fun S m => ⟨_, ?_, kM_thr S (nI 0)⟩⟩)
    · have hc : fX11_hasTray x1 S = some (nI 0, S) := by rw [e_hasTray, h1]; rfl
      unfold fX11_hours
      simp (disch := omega) only [lit, lm1, nI_add, pk_mul, nm_eq, nm_eq', nm_lt, nm_lt', nm_le, nm_le', x_lt, x_le, x_eq, x_in, x_cl, x_div, x_sub, x_rem, x_min, x_max, x_and, x_or, x_xor, x_df, x_shl, bI_0, bI_1, bI_bo, lg_eq, toL_inj, ls_nI, decide_eq_false_iff_not, decide_eq_true_eq, Bool.true_eq_false, Bool.false_eq_true, bq, if_pos, if_neg, if_true, if_false, lq, Nat.reduceAdd, Nat.reduceMul, Nat.reduceSub, Nat.reduceDiv, Nat.reduceMod, hc]
    · unfold fX12_hours fX12_noTold
      simp (disch := omega) only [lit, lm1, nI_add, pk_mul, nm_eq, nm_eq', nm_lt, nm_lt', nm_le, nm_le', x_lt, x_le, x_eq, x_in, x_cl, x_div, x_sub, x_rem, x_min, x_max, x_and, x_or, x_xor, x_df, x_shl, bI_0, bI_1, bI_bo, lg_eq, toL_inj, ls_nI, decide_eq_false_iff_not, decide_eq_true_eq, Bool.true_eq_false, Bool.false_eq_true, bq, if_pos, if_neg, if_true, if_false, lq, Nat.reduceAdd, Nat.reduceMul, Nat.reduceSub, Nat.reduceDiv, Nat.reduceMod, e_noTray2 h1]
      rfl
