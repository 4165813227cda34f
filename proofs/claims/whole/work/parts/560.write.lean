theorem e_cut (q : Nat) (hq : q < 4) (x : Int64) : ∃ c : Int64, (∀ (S : cpS) (v : Nat), S.1 v 2 = nI q → fX9_cut v x S = some (c, S)) ∧ ∀ S : cpS, fX12_cut x (nI q) S = some (c, S) := by
  rcases (show q = 0 ∨ q = 1 ∨ q = 2 ∨ q = 3 by omega) with rfl | rfl | rfl | rfl
  · exact ⟨_, fun S v h => by unfold fX9_cut; rw [h, if_pos (show nI 0 = (0 : Int32) from rfl)], fun S => by unfold fX12_cut; rw [if_pos (show nI 0 = (0 : Int32) from rfl)]⟩
  · exact ⟨_, fun S v h => by unfold fX9_cut; rw [h, if_neg (by decide), if_pos (show nI 1 = (1 : Int32) from rfl)], fun S => by unfold fX12_cut; rw [if_neg (by decide), if_pos (show nI 1 = (1 : Int32) from rfl)]⟩
  · exact ⟨_, fun S v h => by unfold fX9_cut; rw [h, if_neg (by decide), if_neg (by decide), if_pos (show nI 2 = (2 : Int32) from rfl)], fun S => by unfold fX12_cut; rw [if_neg (by decide), if_neg (by decide), if_pos (show nI 2 = (2 : Int32) from rfl)]⟩
  · exact ⟨_, fun S v h => by unfold fX9_cut; rw [h, if_neg (by decide), if_neg (by decide), if_neg (by decide)], fun S => by unfold fX12_cut; rw [if_neg (by decide), if_neg (by decide), if_neg (by decide)]⟩
theorem nI_nm {q : Nat} (h : q < 4) : ¬ nI q = (-1 : Int32) := by
  rcases (show q = 0 ∨ q = 1 ∨ q = 2 ∨ q = 3 by omega) with rfl | rfl | rfl | rfl <;> decide
/-- what a tray has: none, or so many numbers of a sort -/
theorem e_noTray {S : cpS} {t : Nat} (ht : t < 4) : fX12_noTray (nI t) S = some (if S.1 171 t = -1 then (-6 : Int32) else 0, S) := by
  have w1 := e_winN (nI t) 4 3 (by decide) S
  rw [if_pos (cpLs_of ht (by decide))] at w1
  unfold fX12_noTray
  rw [w1, cpB_eq, if_neg one_ne, if_pos (in_nI ht (by decide)), nI_clamp (by omega)]
  by_cases h : S.1 171 t = -1
  · rw [if_pos h, if_pos h]
  · rw [if_neg h, if_neg h]
theorem e_noTray2 {S : cpS} {x : Int32} (h : cpLs' x 4 = false) : fX12_noTray x S = some (-2, S) := by
  have w1 := e_winN x 4 3 (by decide) S
  rw [h] at w1
  unfold fX12_noTray
  rw [w1]; rfl
theorem q_write : cpQ_write cpRl := by
  intro x1 x2 x3 S hR
  have hT := cpAg.thrown S
  have hc := e_hasTray x1 S
  rcases in_or x1 4 with ⟨t, ht, rfl⟩ | h1
  · rw [if_pos (cpLs_of ht (by decide))] at hc
    obtain ⟨b1, b2⟩ := hR.2.2.1 t ht
    have i4 := in_nI (i := t) (n := 4) ht (by decide)
    have c4 := nI_clamp (n := t) (by omega)
    have hm := e_noTray (S := cpI S 150 0 0) ht
    rw [sIr (by decide)] at hm
    rcases b2 with b2 | ⟨⟨q, hq, b3⟩, n, hn, b4, b5, b6⟩
    · rw [if_pos b2] at hm
      have hi : fX9_isMissing (139 + 2 * t) S = some (1, S) := by unfold fX9_isMissing; rw [b1, b2, if_pos rfl]
      exact ⟨-6, S, cpI S 150 0 0, by simp only [fX11_write, hc, cpB_eq, one_ne, if_false, i4, if_true, c4, hi], by simp only [fX12_write, cpLt, hm, cpB_eq]; rw [if_neg (by decide)]; rfl, hR.ag hT⟩
    · have nq := nI_nm hq
      have hsn : ¬ S.1 171 t = -1 := by rw [b3]; exact nq
      rw [if_neg hsn] at hm
      have hi : fX9_isMissing (139 + 2 * t) S = some (0, S) := by unfold fX9_isMissing; rw [b1, b3, if_neg nq]
      have hw := fun (S' : cpS) => e_win x2 n (by omega) S'
      rcases in_or x2 n with ⟨j, hj, rfl⟩ | h2
      · have k2 := cpLs_of hj (by omega)
        have p2 : ¬ nI j < 0 := nI_pos (by omega)
        have p3 : nI j < nI n := nI_lt hj (by omega)
        have i40 := in_nI (i := j) (n := 40) (by omega) (by decide)
        have cj := nI_clamp (n := j) (by omega)
        obtain ⟨cv, hv1, hv2⟩ := e_cut q hq x3
        have hp : fX9_put (139 + 2 * t) (nI j) x3 S = some (cv, cpL S (139 + 2 * t + 1) j cv) := by
          simp only [fX9_put, hv1 S (139 + 2 * t) (by rw [b1, b3]), cpB_eq, i40, if_true, cpLt, cj, sL1]
        have ej : (40 : Int32) * nI t + nI j = nI (40 * t + j) := by rw [show (40 : Int32) * nI t = nI (40 * t) from pk_mul 40 t, nI_add]
        have i160 := in_nI (i := 40 * t + j) (n := 160) (by omega) (by decide)
        have c160 := nI_clamp (n := 40 * t + j) (by omega)
        have hm2 := e_noTray (S := cpI (cpL S (139 + 2 * t + 1) j cv) 150 0 0) ht
        rw [sIr (by decide), sL2, if_neg hsn] at hm2
        have s5 : (cpI (cpL S (139 + 2 * t + 1) j cv) 150 0 0).1 172 t = nI n := by rw [sIr (by decide), sL2]; exact b5
        have s6 : (cpI (cpL S (139 + 2 * t + 1) j cv) 150 0 0).1 171 t = nI q := by rw [sIr (by decide), sL2]; exact b3
        refine ⟨cv, cpL S (139 + 2 * t + 1) j cv, cpL (cpI (cpL S (139 + 2 * t + 1) j cv) 150 0 0) 173 (40 * t + j) cv, ?_, ?_, ?_⟩
        · simp only [fX11_write, hc, cpB_eq, one_ne, if_false, i4, if_true, c4, hi, p2, b4, p3, hp]
        · simp only [fX12_write, cpLt, hm2, cpB_eq, if_true, i4, c4, s5, hw, k2, one_ne, if_false, s6, hv2, ej, i160, c160, sL1]
        · have g : cpAg cpCoreY S (cpL (cpI (cpL S (139 + 2 * t + 1) j cv) 150 0 0) 173 (40 * t + j) cv) := (((cpAg.rf S).L (cY1 ht).2).I (by decide) (Or.inl (by decide)) (Or.inr (by decide))).L (by decide)
          refine hR.agY g ?_
          intro t' ht'
          obtain ⟨d1, d2⟩ := hR.2.2.1 t' ht'
          have a1 : ∀ k, k ≠ 150 → (cpL (cpI (cpL S (139 + 2 * t + 1) j cv) 150 0 0) 173 (40 * t + j) cv).1 k = S.1 k := fun k hk => by rw [sL2, sIr hk, sL2]
          rw [a1 _ (by omega), a1 171 (by decide), a1 172 (by decide)]
          refine ⟨d1, ?_⟩
          rcases d2 with d2 | ⟨d3, n', d4, d5, d6, d7⟩
          · exact Or.inl d2
          · refine Or.inr ⟨d3, n', d4, d5, d6, fun j' hj' => ?_⟩
            rw [sLr (show 140 + 2 * t' ≠ 173 by omega), sI2]
            by_cases e : t' = t ∧ j' = j
            · obtain ⟨rfl, rfl⟩ := e
              rw [sL1, show 140 + 2 * t' = 139 + 2 * t' + 1 by omega, sL1]
            · rw [sLn (Or.inr (by omega)), sI2, sLn (Or.inl (by omega)), sLn (by omega)]
              exact d7 j' hj'
      · have f2 : ∀ S' : cpS, fX12_within (Int32.toInt64 x2) 0 (Int32.toInt64 (nI n - 1)) S' = some (0, S') := fun S' => by rw [hw S', h2]; rfl
        have s5 : (cpI S 150 0 0).1 172 t = nI n := by rw [sIr (by decide)]; exact b5
        refine ⟨-7, S, cpI S 150 0 0, ?_, ?_, hR.ag hT⟩
        · rcases out_or (by omega) h2 with h | ⟨h, h', -⟩
          · simp only [fX11_write, hc, cpB_eq, one_ne, if_false, i4, if_true, c4, hi, h]
          · simp only [fX11_write, hc, cpB_eq, one_ne, if_false, i4, if_true, c4, hi, h, b4, h']
        · simp only [fX12_write, cpLt, hm, cpB_eq, if_true, i4, c4, s5, f2]
  · rw [h1] at hc
    exact ⟨-2, S, cpI S 150 0 0, by simp [fX11_write, hc, cpB_eq], by simp only [fX12_write, cpLt, e_noTray2 h1, cpB_eq]; rw [if_neg (by decide)]; rfl, hR.ag hT⟩
