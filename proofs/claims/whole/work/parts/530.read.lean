/-! reads: person, coin, road -/
theorem one_ne : ¬ (1 : Int32) = 0 := by decide
theorem q_person : cpQ_person cpRl := by
  intro x1 x2 S hR
  obtain ⟨K, R, P, C, rd, ⟨hK1, hK6⟩, hR9, hP8, hC4, hK, hRr, hP, hC, hln, hroad, hpeo, hcoi, hdis, hl1, hl2, hnw, hrn⟩ := hR.2.2.2.1
  have hT := cpAg.thrown S
  have hP' : (cpI S 150 0 0).1 151 3 = nI P := by rw [hT.i (by decide)]; exact hP.2
  by_cases hp : cpLs' x1 P = true
  · obtain ⟨p, hpP, rfl⟩ := cpLs_nI hp
    have a38 : (38 : Int32) + nI p = nI (38 + p) := nI_add 38 p
    have a46 : (46 : Int32) + nI p = nI (46 + p) := nI_add 46 p
    have a70 : (70 : Int32) + nI p = nI (70 + p) := nI_add 70 p
    obtain ⟨⟨h, hh, hh1, hh2⟩, t, ht, ht1, ht2⟩ := hpeo p hpP
    have hf := hrn.2.2.1 p (by omega)
    have i8 := in_nI (i := p) (n := 8) (by omega) (by decide)
    have i1 := in_nI (i := 38 + p) (n := 3486) (by omega) (by decide)
    have i2 := in_nI (i := 46 + p) (n := 3486) (by omega) (by decide)
    have i3 := in_nI (i := 70 + p) (n := 3486) (by omega) (by decide)
    have c0 := nI_clamp (n := p) (by omega)
    have c1 := nI_clamp (n := 38 + p) (by omega)
    have c2 := nI_clamp (n := 46 + p) (by omega)
    have c3 := nI_clamp (n := 70 + p) (by omega)
    have e1 : S.1 151 (38 + p) = S.1 5 p := by rw [hh1]; simpa using hh2
    have e2 : S.1 151 (46 + p) = S.1 6 p := by rw [ht1]; simpa using ht2
    have e3 : S.1 151 (70 + p) = S.1 60 p := by simpa using hf.symm
    have hc := e_hasPerson (x := nI p) hP.1 hP8
    have hm := e_isPerson (x := nI p) hP' hP8
    rw [if_pos hp] at hc hm
    have x0 := hT.i (k := 151) (by decide) (38 + p)
    have x1 := hT.i (k := 151) (by decide) (46 + p)
    have x3 := hT.i (k := 151) (by decide) (70 + p)
    by_cases h0 : x2 = 0
    · exact ⟨S.1 5 p, S, cpI S 150 0 0, by simp [fX11_person, hc, cpB_eq, one_ne, h0, i8, c0], by simp [fX12_person, cpLt, hm, cpB_eq, one_ne, h0, a38, i1, c1, x0, e1], hR.ag hT⟩
    · by_cases h1 : x2 = 1
      · exact ⟨S.1 6 p, S, cpI S 150 0 0, by simp [fX11_person, hc, cpB_eq, one_ne, h1, i8, c0], by simp [fX12_person, cpLt, hm, cpB_eq, one_ne, h1, a46, i2, c2, x1, e2], hR.ag hT⟩
      · by_cases h2 : x2 = 2
        · exact ⟨S.1 60 p, S, cpI S 150 0 0, by subst h2; simp [fX11_person, hc, cpB_eq, one_ne, i8, c0], by subst h2; simp [fX12_person, cpLt, hm, cpB_eq, one_ne, a70, i3, c3, x3, e3], hR.ag hT⟩
        · exact ⟨-2, S, cpI S 150 0 0, by simp [fX11_person, hc, cpB_eq, one_ne, h0, h1, h2], by simp [fX12_person, cpLt, hm, cpB_eq, one_ne, h0, h1, h2], hR.ag hT⟩
  · have hc := e_hasPerson (x := x1) hP.1 hP8
    have hm := e_isPerson (x := x1) hP' hP8
    rw [if_neg hp] at hc hm
    exact ⟨-2, S, cpI S 150 0 0, by simp [fX11_person, hc, cpB_eq], by simp [fX12_person, cpLt, hm, cpB_eq], hR.ag hT⟩
theorem q_coin : cpQ_coin cpRl := by
  intro x1 x2 S hR
  obtain ⟨K, R, P, C, rd, ⟨hK1, hK6⟩, hR9, hP8, hC4, hK, hRr, hP, hC, hln, hroad, hpeo, hcoi, hdis, hl1, hl2, hnw, hrn⟩ := hR.2.2.2.1
  have hT := cpAg.thrown S
  have hC' : (cpI S 150 0 0).1 151 4 = nI C := by rw [hT.i (by decide)]; exact hC.2
  by_cases hp : cpLs' x1 C = true
  · obtain ⟨p, hpP, rfl⟩ := cpLs_nI hp
    have a1 : (62 : Int32) + nI p = nI (62 + p) := nI_add 62 p
    have a2 : (54 : Int32) + nI p = nI (54 + p) := nI_add 54 p
    have a3 : (58 : Int32) + nI p = nI (58 + p) := nI_add 58 p
    have a4 : (66 : Int32) + nI p = nI (66 + p) := nI_add 66 p
    obtain ⟨⟨h, hh, hh1, hh2⟩, t, ht, ht1, ht2⟩ := hcoi p hpP
    have hf1 := hrn.1 p (by omega)
    have hf2 := hrn.2.1 p (by omega)
    have i4 := in_nI (i := p) (n := 4) (by omega) (by decide)
    have i1 := in_nI (i := 62 + p) (n := 3486) (by omega) (by decide)
    have i2 := in_nI (i := 54 + p) (n := 3486) (by omega) (by decide)
    have i3 := in_nI (i := 58 + p) (n := 3486) (by omega) (by decide)
    have i5 := in_nI (i := 66 + p) (n := 3486) (by omega) (by decide)
    have c0 := nI_clamp (n := p) (by omega)
    have c1 := nI_clamp (n := 62 + p) (by omega)
    have c2 := nI_clamp (n := 54 + p) (by omega)
    have c3 := nI_clamp (n := 58 + p) (by omega)
    have c4 := nI_clamp (n := 66 + p) (by omega)
    have e1 : S.1 151 (62 + p) = S.1 58 p := by simpa using hf1.symm
    have e2 : S.1 151 (54 + p) = S.1 9 p := by rw [hh1]; simpa using hh2
    have e3 : S.1 151 (58 + p) = S.1 10 p := by rw [ht1]; simpa using ht2
    have e4 : S.1 151 (66 + p) = S.1 59 p := by simpa using hf2.symm
    have hc := e_hasCoin (x := nI p) hC.1 (by omega : C ≤ 8)
    have hm := e_isCoin (x := nI p) hC' (by omega : C ≤ 8)
    rw [if_pos hp] at hc hm
    have x3 := fun j => hT.i (k := 151) (by decide) j
    by_cases h0 : x2 = 0
    · exact ⟨S.1 58 p, S, cpI S 150 0 0, by simp [fX11_coin, hc, cpB_eq, one_ne, h0, i4, c0], by simp [fX12_coin, cpLt, hm, cpB_eq, one_ne, h0, a1, i1, c1, x3, e1], hR.ag hT⟩
    · by_cases h1 : x2 = 1
      · exact ⟨S.1 9 p, S, cpI S 150 0 0, by simp [fX11_coin, hc, cpB_eq, one_ne, h1, i4, c0], by simp [fX12_coin, cpLt, hm, cpB_eq, one_ne, h1, a2, i2, c2, x3, e2], hR.ag hT⟩
      · by_cases h2 : x2 = 2
        · exact ⟨S.1 10 p, S, cpI S 150 0 0, by subst h2; simp [fX11_coin, hc, cpB_eq, one_ne, i4, c0], by subst h2; simp [fX12_coin, cpLt, hm, cpB_eq, one_ne, a3, i3, c3, x3, e3], hR.ag hT⟩
        · by_cases h3 : x2 = 3
          · exact ⟨S.1 59 p, S, cpI S 150 0 0, by subst h3; simp [fX11_coin, hc, cpB_eq, one_ne, i4, c0], by subst h3; simp [fX12_coin, cpLt, hm, cpB_eq, one_ne, a4, i5, c4, x3, e4], hR.ag hT⟩
          · exact ⟨-2, S, cpI S 150 0 0, by simp [fX11_coin, hc, cpB_eq, one_ne, h0, h1, h2, h3], by simp [fX12_coin, cpLt, hm, cpB_eq, one_ne, h0, h1, h2, h3], hR.ag hT⟩
  · have hc := e_hasCoin (x := x1) hC.1 (by omega : C ≤ 8)
    have hm := e_isCoin (x := x1) hC' (by omega : C ≤ 8)
    rw [if_neg hp] at hc hm
    exact ⟨-2, S, cpI S 150 0 0, by simp [fX11_coin, hc, cpB_eq], by simp [fX12_coin, cpLt, hm, cpB_eq], hR.ag hT⟩
