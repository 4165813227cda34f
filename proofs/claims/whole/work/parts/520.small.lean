/-! numbers in bounds -/
def cpLs' (x : Int32) (n : Nat) : Bool := decide (0 ≤ x.toInt ∧ x.toInt < n)
theorem cpLs_nI {x : Int32} {n : Nat} (h : cpLs' x n = true) : ∃ p, p < n ∧ x = nI p := by
  have h1 : 0 ≤ x.toInt ∧ x.toInt < n := of_decide_eq_true h
  refine ⟨x.toInt.toNat, by omega, ?_⟩
  rw [Int32.toInt_inj.symm, nI_toInt]
  · omega
  · have := Int32.toInt_lt x
    omega
theorem cpLs_of {p n : Nat} (h : p < n) (hn : n < 2 ^ 31) : cpLs' (nI p) n = true := decide_eq_true (by rw [nI_toInt (by omega)]; omega)
theorem i_lt (a b : Int32) : a < b ↔ a.toInt < b.toInt := Int32.lt_iff_toInt_lt
theorem i_le (a b : Int32) : a ≤ b ↔ a.toInt ≤ b.toInt := Int32.le_iff_toInt_le
theorem l_lt (a b : Int64) : a < b ↔ a.toInt < b.toInt := Int64.lt_iff_toInt_lt
theorem l_le (a b : Int64) : a ≤ b ↔ a.toInt ≤ b.toInt := Int64.le_iff_toInt_le
theorem lg_lt (x y : Int64) : lg_cmp x y < 0 ↔ x < y := by
  unfold lg_cmp
  by_cases h : x > y
  · rw [if_pos h]
    refine ⟨fun k => absurd k (by decide), fun k => ?_⟩
    rw [gt_iff_lt, l_lt] at h; rw [l_lt] at k; omega
  · rw [if_neg h]
    by_cases h2 : x = y
    · rw [if_pos h2]
      refine ⟨fun k => absurd k (by decide), fun k => ?_⟩
      rw [h2, l_lt] at k; omega
    · rw [if_neg h2]
      refine ⟨fun _ => ?_, fun _ => by decide⟩
      rw [gt_iff_lt, l_lt] at h; rw [l_lt]
      have : x.toInt ≠ y.toInt := fun e => h2 (Int64.toInt_inj.mp e)
      omega
theorem lg_gt (x y : Int64) : 0 < lg_cmp x y ↔ y < x := by
  unfold lg_cmp
  by_cases h : x > y
  · rw [if_pos h]; exact ⟨fun _ => h, fun _ => by decide⟩
  · rw [if_neg h]
    refine ⟨fun k => ?_, fun k => absurd k h⟩
    by_cases h2 : x = y
    · rw [if_pos h2] at k; exact absurd k (by decide)
    · rw [if_neg h2] at k; exact absurd k (by decide)
theorem e_within (x lo hi : Int64) (S : cpS) : fX12_within x lo hi S = some (if lo ≤ x ∧ x ≤ hi then 1 else 0, S) := by
  unfold fX12_within
  by_cases h1 : x < lo
  · rw [if_pos ((lg_lt _ _).mpr h1), if_neg (fun k => by rw [l_lt] at h1; have := (l_le _ _).mp k.1; omega)]
  · rw [if_neg (fun k => h1 ((lg_lt _ _).mp k))]
    by_cases h2 : hi < x
    · rw [if_pos ((lg_gt _ _).mpr h2), if_neg (fun k => by rw [l_lt] at h2; have := (l_le _ _).mp k.2; omega)]
    · rw [if_neg (fun k => h2 ((lg_gt _ _).mp k)), if_pos ⟨by rw [l_le]; rw [l_lt] at h1; omega, by rw [l_le]; rw [l_lt] at h2; omega⟩]
theorem i2l_toInt (x : Int32) : x.toInt64.toInt = x.toInt := by simp
/-- 0 to hi, as the reference asks it of an int -/
theorem e_win (x : Int32) (n : Nat) (hn : n < 2 ^ 30) (S : cpS) : fX12_within (Int32.toInt64 x) (0 : Int64) (Int32.toInt64 (nI n - 1)) S = some (if cpLs' x n then 1 else 0, S) := by
  rw [e_within]
  have e : (nI n - (1 : Int32)).toInt = (n : Int) - 1 := pk_sub_toInt (a := n) (b := 1) (by omega) (by decide)
  by_cases h : cpLs' x n = true
  · have h1 : 0 ≤ x.toInt ∧ x.toInt < n := of_decide_eq_true h
    rw [if_pos h, if_pos ⟨by rw [l_le, i2l_toInt]; exact h1.1, by rw [l_le, i2l_toInt, i2l_toInt, e]; omega⟩]
  · have h1 : ¬ (0 ≤ x.toInt ∧ x.toInt < n) := fun k => h (decide_eq_true k)
    rw [if_neg h, if_neg (fun k => h1 ⟨by have := (l_le _ _).mp k.1; rw [i2l_toInt] at this; exact this, by have := (l_le _ _).mp k.2; rw [i2l_toInt, i2l_toInt, e] at this; omega⟩)]
theorem cpBo_if {c : Prop} [Decidable c] : cpBo (if c then 1 else 0) = true := by by_cases h : c <;> simp [h] <;> decide
theorem e_isPerson {x : Int32} {S : cpS} {P : Nat} (h : S.1 151 3 = nI P) (hP : P ≤ 8) : fX12_isPerson (Int32.toInt64 x) S = some (if cpLs' x P then 1 else 0, S) := by
  unfold fX12_isPerson
  rw [h, e_win x P (by omega) S, cpB_eq, if_pos cpBo_if]
theorem e_isCoin {x : Int32} {S : cpS} {P : Nat} (h : S.1 151 4 = nI P) (hP : P ≤ 8) : fX12_isCoin (Int32.toInt64 x) S = some (if cpLs' x P then 1 else 0, S) := by
  unfold fX12_isCoin
  rw [h, e_win x P (by omega) S, cpB_eq, if_pos cpBo_if]
theorem e_isPlace {x : Int32} {S : cpS} {P : Nat} (h : S.1 151 1 = nI P) (hP : P ≤ 8) : fX12_isPlace (Int32.toInt64 x) S = some (if cpLs' x P then 1 else 0, S) := by
  unfold fX12_isPlace
  rw [h, e_win x P (by omega) S, cpB_eq, if_pos cpBo_if]
theorem cp_has (x : Int32) (n : Nat) (hn : n < 2 ^ 31) (S : cpS) : (if x < 0 then some ((0 : Int32), S) else if nI n ≤ x then some ((0 : Int32), S) else some ((1 : Int32), S)) = some (if cpLs' x n then 1 else 0, S) := by
  by_cases h1 : x < 0
  · rw [if_pos h1, if_neg (fun k => by have h2 : 0 ≤ x.toInt ∧ x.toInt < n := of_decide_eq_true k; rw [i_lt] at h1; have : (0 : Int32).toInt = 0 := by decide
                                       omega)]
  · rw [if_neg h1]
    have h0 : 0 ≤ x.toInt := by rw [i_lt] at h1; have : (0 : Int32).toInt = 0 := by decide
                                omega
    by_cases h2 : nI n ≤ x
    · rw [if_pos h2, if_neg (fun k => by have h3 : 0 ≤ x.toInt ∧ x.toInt < n := of_decide_eq_true k; rw [i_le, nI_toInt hn] at h2; omega)]
    · rw [if_neg h2, if_pos (show cpLs' x n = true from decide_eq_true ⟨h0, by rw [i_le, nI_toInt hn] at h2; omega⟩)]
theorem e_hasPerson {x : Int32} {S : cpS} {v P : Nat} (h : S.1 v 7 = nI P) (hP : P ≤ 8) : fX10_hasPerson v x S = some (if cpLs' x P then 1 else 0, S) := by
  unfold fX10_hasPerson; rw [h]; exact cp_has x P (by omega) S
theorem e_hasCoin {x : Int32} {S : cpS} {v P : Nat} (h : S.1 v 11 = nI P) (hP : P ≤ 8) : fX10_hasCoin v x S = some (if cpLs' x P then 1 else 0, S) := by
  unfold fX10_hasCoin; rw [h]; exact cp_has x P (by omega) S
theorem e_hasPlace {x : Int32} {S : cpS} {v P : Nat} (h : S.1 v 0 = nI P) (hP : P ≤ 8) : fX10_hasPlace v x S = some (if cpLs' x P then 1 else 0, S) := by
  unfold fX10_hasPlace; rw [h]; exact cp_has x P (by omega) S
theorem in_nI {i n : Nat} (h : i < n) (hn : n < 2 ^ 31) : cpIn (nI i) n = true := decide_eq_true (nI_in h hn)
theorem q_fault : cpQ_fault cpRl := by
  intro x1 S hR
  have hF := hR.2.1
  unfold fX11_fault
  by_cases h0 : x1 = 0
  · refine ⟨_, S, cpI S 150 0 0, by rw [if_pos h0], ?_, hR.ag (cpAg.thrown S)⟩
    show (if x1 = 0 then _ else _) = _
    rw [if_pos h0, sIn (Or.inr (by decide)), hF.1]
  · by_cases h1 : x1 = 1
    · refine ⟨_, S, cpI S 150 0 0, by rw [if_neg h0, if_pos h1], ?_, hR.ag (cpAg.thrown S)⟩
      show (if x1 = 0 then _ else _) = _
      rw [if_neg h0, if_pos h1, sIn (Or.inr (by decide)), hF.2]
    · refine ⟨_, S, cpI S 150 0 0, by rw [if_neg h0, if_neg h1], ?_, hR.ag (cpAg.thrown S)⟩
      show (if x1 = 0 then _ else _) = _
      rw [if_neg h0, if_neg h1]
