/-! numbers(), write() -/
theorem out_or {x : Int32} {n : Nat} (hn : n < 2 ^ 31) (h : cpLs' x n = false) : x < 0 ∨ (¬ x < 0 ∧ ¬ x < nI n ∧ nI n ≤ x) := by
  have h1 : ¬ (0 ≤ x.toInt ∧ x.toInt < n) := of_decide_eq_false h
  have z : (0 : Int32).toInt = 0 := by decide
  by_cases h0 : x < 0
  · exact Or.inl h0
  · refine Or.inr ⟨h0, ?_, ?_⟩
    · rw [i_lt, nI_toInt hn]; rw [i_lt] at h0; omega
    · rw [i_le, nI_toInt hn]; rw [i_lt] at h0; omega
theorem cY1 {t : Nat} (h : t < 4) : cpCoreY (139 + 2 * t) = false ∧ cpCoreY (139 + 2 * t + 1) = false := by
  rcases (show t = 0 ∨ t = 1 ∨ t = 2 ∨ t = 3 by omega) with rfl | rfl | rfl | rfl <;> decide
theorem q_numbers : cpQ_numbers cpRl := by
  intro x1 x2 x3 S hR
  have hT := cpAg.thrown S
  have w1 := fun (x : Int32) (S : cpS) => e_winN x 4 3 (by decide) S
  have w2 := fun (x : Int32) (S : cpS) => e_winN x 41 40 (by decide) S
  have hc := e_hasTray x1 S
  rcases in_or x1 4 with ⟨t, ht, rfl⟩ | h1
  · have k1 := cpLs_of ht (by decide)
    rw [if_pos k1] at hc
    rcases in_or x2 4 with ⟨q, hq, rfl⟩ | h2
    · have k2 := cpLs_of hq (by decide)
      have p2 : ¬ nI q < 0 := nI_pos (by omega)
      have p2' : nI q < (4 : Int32) := nI_lt (b := 4) hq (by decide)
      rcases in_or x3 41 with ⟨n, hn, rfl⟩ | h3
      · have k3 := cpLs_of hn (by decide)
        have p3 : ¬ nI n < 0 := nI_pos (by omega)
        have p3' : nI n ≤ (40 : Int32) := nI_le (b := 40) (by omega) (by decide)
        have i4 := in_nI (i := t) (n := 4) ht (by decide)
        have c4 := nI_clamp (n := t) (by omega)
        obtain ⟨T, hT1, hT2⟩ := e_renew (139 + 2 * t) (nI q) (nI n) S
        obtain ⟨U, hU1, hU2⟩ := e_num t n ht (by omega) n 0 cpFu (cpI (cpI (cpI T 150 0 0) 171 t (nI q)) 172 t (nI n)) (by omega) (by show n < 5000; omega)
        refine ⟨0, T, U, ?_, ?_, ?_⟩
        · simp only [fX11_numbers, hc, cpB_eq, one_ne, if_false, p2, p2', p3, p3', if_true, i4, c4, hT1]
        · rw [nI_0] at hU1
          simp only [fX12_numbers, cpLt, w1, w2, cpB_eq, k1, k2, k3, if_true, one_ne, if_false, i4, c4, hU1]
        · have g : cpAg cpCoreY S U := by
            have g1 : cpAg cpCoreY S T := cpAg.fL (k := 139 + 2 * t + 1) (((cpAg.rf S).I (cY1 ht).1 (Or.inl (by omega)) (Or.inl (by omega))).I (cY1 ht).1 (Or.inl (by omega)) (Or.inl (by omega))) (cY1 ht).2 hT2.1 hT2.2.1
            exact cpAg.fL (k := 173) (((g1.I (by decide) (Or.inl (by decide)) (Or.inr (by decide))).I (by decide) (Or.inl (by decide)) (Or.inl (by decide))).I (by decide) (Or.inl (by decide)) (Or.inl (by decide))) (by decide) hU2.1 hU2.2.1
          refine hR.agY g ?_
          intro t' ht'
          by_cases e : t' = t
          · subst e
            have a1 : U.1 (139 + 2 * t') 2 = nI q := by rw [hU2.1, sIr (by omega), sIr (by omega), sIr (by omega), hT2.1, sIn (Or.inr (by decide)), sI1]
            have a2 : U.1 (139 + 2 * t') 1 = nI n := by rw [hU2.1, sIr (by omega), sIr (by omega), sIr (by omega), hT2.1, sI1]
            have a3 : U.1 171 t' = nI q := by rw [hU2.1, sIr (by decide), sI1]
            have a4 : U.1 172 t' = nI n := by rw [hU2.1, sI1]
            refine ⟨by rw [a1, a3], Or.inr ⟨⟨q, hq, a3⟩, n, by omega, a2, a4, fun j hj => ?_⟩⟩
            rw [hU2.2.2.1 _ (by omega) (by omega), hU2.2.1 _ (by omega)]
            show (0 : Int64) = T.2 (140 + 2 * t') j
            rw [show 140 + 2 * t' = 139 + 2 * t' + 1 by omega, hT2.2.2.1 j (by omega) (by omega)]
          · obtain ⟨b1, b2⟩ := hR.2.2.1 t' ht'
            have a1 : U.1 (139 + 2 * t') = S.1 (139 + 2 * t') := by rw [hU2.1, sIr (by omega), sIr (by omega), sIr (by omega), hT2.1, sIr (by omega), sIr (by omega)]
            have a3 : U.1 171 t' = S.1 171 t' := by rw [hU2.1, sIr (by decide), sIn (Or.inr e), sIr (by decide), hT2.1, sIr (by omega), sIr (by omega)]
            have a4 : U.1 172 t' = S.1 172 t' := by rw [hU2.1, sIn (Or.inr e), sIr (by decide), sIr (by decide), hT2.1, sIr (by omega), sIr (by omega)]
            rw [a1, a3, a4]
            refine ⟨b1, ?_⟩
            rcases b2 with b2 | ⟨b3, n', b4, b5, b6, b7⟩
            · exact Or.inl b2
            · refine Or.inr ⟨b3, n', b4, b5, b6, fun j hj => ?_⟩
              rw [hU2.2.2.2 _ (by omega), hU2.2.1 _ (by omega)]
              show T.2 173 (40 * t' + j) = T.2 (140 + 2 * t') j
              rw [hT2.2.1 173 (by omega), hT2.2.1 (140 + 2 * t') (by omega)]
              exact b7 j hj
      · have f3 : ∀ S' : cpS, fX12_within (Int32.toInt64 x3) 0 40 S' = some (0, S') := fun S' => by rw [w2 x3 S', h3]; rfl
        refine ⟨-3, S, cpI S 150 0 0, ?_, ?_, hR.ag hT⟩
        · rcases out_or (by decide) h3 with h | ⟨h, h', h''⟩
          · simp only [fX11_numbers, hc, cpB_eq, one_ne, if_false, p2, p2', h, if_true]
          · have h4 : ¬ x3 ≤ (40 : Int32) := fun k => by rw [i_le] at k; rw [i_le] at h''; have z1 : (nI 41).toInt = 41 := by decide
                                                         have z2 : (40 : Int32).toInt = 40 := by decide
                                                         omega
            simp only [fX11_numbers, hc, cpB_eq, one_ne, if_false, p2, p2', h, h4, if_true]
        · simp only [fX12_numbers, cpLt, w1, f3, cpB_eq, k1, k2, if_true, one_ne, if_false]
    · have f2 : ∀ S' : cpS, fX12_within (Int32.toInt64 x2) 0 3 S' = some (0, S') := fun S' => by rw [w1 x2 S', h2]; rfl
      refine ⟨-2, S, cpI S 150 0 0, ?_, ?_, hR.ag hT⟩
      · rcases out_or (by decide) h2 with h | ⟨h, h', -⟩
        · simp only [fX11_numbers, hc, cpB_eq, one_ne, if_false, h, if_true]
        · have h4 : ¬ x2 < (4 : Int32) := h'
          simp only [fX11_numbers, hc, cpB_eq, one_ne, if_false, h, h4]
      · have f1 : ∀ S' : cpS, fX12_within (Int32.toInt64 (nI t)) 0 3 S' = some (1, S') := fun S' => by rw [w1 (nI t) S', k1]; rfl
        simp only [fX12_numbers, cpLt, f1, f2, cpB_eq, if_true, one_ne, if_false]
  · have f1 : ∀ S' : cpS, fX12_within (Int32.toInt64 x1) 0 3 S' = some (0, S') := fun S' => by rw [w1 x1 S', h1]; rfl
    rw [h1] at hc
    exact ⟨-2, S, cpI S 150 0 0, by simp [fX11_numbers, hc, cpB_eq], by simp only [fX12_numbers, cpLt, f1, cpB_eq, if_true], hR.ag hT⟩
