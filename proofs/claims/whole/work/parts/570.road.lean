theorem q_road : cpQ_road cpRl := by
  intro x1 x2 S hR
  obtain ⟨K, R, P, C, rd, ⟨hK1, hK6⟩, hR9, hP8, hC4, hK, hRr, hP, hC, hln, hroad, hpeo, hcoi, hdis, hl1, hl2, hnw, hrn⟩ := hR.2.2.2.1
  have hT := cpAg.thrown S
  have hR1 : S.1 1 3 = nI R := hRr.1
  have hR2 : (cpI S 150 0 0).1 151 2 = nI R := by rw [hT.i (by decide)]; exact hRr.2
  have e1 : fX12_isRoad x1 (cpI S 150 0 0) = some (if cpLs' x1 R then 1 else 0, cpI S 150 0 0) := by
    unfold fX12_isRoad
    rw [hR2, e_win x1 R (by omega), cpB_eq, if_pos cpBo_if]
  have e2 := e_winN x2 3 2 (by decide) (cpI S 150 0 0)
  rcases in_or x1 R with ⟨r, hr, rfl⟩ | h1
  · rw [if_pos (cpLs_of hr (by omega))] at e1
    have p1 : ¬ nI r < 0 := nI_pos (by omega)
    have p2 : nI r < nI R := nI_lt hr (by omega)
    have i9 := in_nI (i := r) (n := 9) (by omega) (by decide)
    have cr := nI_clamp (n := r) (by omega)
    obtain ⟨-, -, -, -, -, r1, r2, r3, m1, m2, m3⟩ := hroad r hr
    rcases in_or x2 3 with ⟨q, hq, rfl⟩ | h2
    · rw [if_pos (cpLs_of hq (by decide))] at e2
      have ej : (11 : Int32) + (3 : Int32) * nI r + nI q = nI (11 + 3 * r + q) := by
        rw [show (3 : Int32) * nI r = nI (3 * r) from pk_mul 3 r, show (11 : Int32) + nI (3 * r) = nI (11 + 3 * r) from nI_add 11 (3 * r), nI_add]
      have ij := in_nI (i := 11 + 3 * r + q) (n := 3486) (by omega) (by decide)
      have cj := nI_clamp (n := 11 + 3 * r + q) (by omega)
      have x3 := hT.i (k := 151) (by decide) (11 + 3 * r + q)
      have hm : fX12_road (nI r) (nI q) S = some (S.1 151 (11 + 3 * r + q), cpI S 150 0 0) := by
        simp only [fX12_road, cpLt, e1, e2, cpB_eq, one_ne, if_false, ej, ij, if_true, cj, x3]
      rcases (show q = 0 ∨ q = 1 ∨ q = 2 by omega) with rfl | rfl | rfl
      · refine ⟨_, S, cpI S 150 0 0, ?_, hm, hR.ag hT⟩
        have z : S.1 151 (11 + 3 * r + 0) = S.1 2 r := by rw [r1]; simpa using m1
        rw [z]
        simp only [fX11_road, hR1, p1, p2, if_false, if_true, i9, cr]
        rw [if_pos (show nI 0 = (0 : Int32) from rfl)]
      · refine ⟨_, S, cpI S 150 0 0, ?_, hm, hR.ag hT⟩
        have z : S.1 151 (11 + 3 * r + 1) = S.1 3 r := by rw [r2]; simpa using m2
        rw [z]
        simp only [fX11_road, hR1, p1, p2, if_false, if_true, i9, cr]
        rw [if_neg (by decide), if_pos (show nI 1 = (1 : Int32) from rfl)]
      · refine ⟨_, S, cpI S 150 0 0, ?_, hm, hR.ag hT⟩
        have z : S.1 151 (11 + 3 * r + 2) = S.1 4 r := by rw [r3]; simpa using m3
        rw [z]
        simp only [fX11_road, hR1, p1, p2, if_false, if_true, i9, cr]
        rw [if_neg (by decide), if_neg (by decide), if_pos (show nI 2 = (2 : Int32) from rfl)]
    · rw [h2] at e2
      have n0 : ¬ x2 = (0 : Int32) := fun e => by rw [e] at h2; exact absurd h2 (by decide)
      have n1 : ¬ x2 = (1 : Int32) := fun e => by rw [e] at h2; exact absurd h2 (by decide)
      have n2 : ¬ x2 = (2 : Int32) := fun e => by rw [e] at h2; exact absurd h2 (by decide)
      exact ⟨-2, S, cpI S 150 0 0, by simp only [fX11_road, hR1, p1, p2, if_false, if_true, n0, n1, n2], by simp [fX12_road, cpLt, e1, e2, cpB_eq, one_ne], hR.ag hT⟩
  · rw [h1] at e1
    refine ⟨-2, S, cpI S 150 0 0, ?_, by simp [fX12_road, cpLt, e1, cpB_eq], hR.ag hT⟩
    rcases out_or (by omega) h1 with h | ⟨h, h', -⟩
    · simp only [fX11_road, h, if_true]
    · simp only [fX11_road, hR1, h, h', if_false]
