/-! trays: numbers, write -/
theorem e_winN (x : Int32) (n : Nat) (hi : Int64) (hh : hi.toInt = (n : Int) - 1) (S : cpS) : fX12_within (Int32.toInt64 x) (0 : Int64) hi S = some (if cpLs' x n then 1 else 0, S) := by
  rw [e_within]
  by_cases h : cpLs' x n = true
  · have h1 : 0 ≤ x.toInt ∧ x.toInt < n := of_decide_eq_true h
    rw [if_pos h, if_pos ⟨by rw [l_le, i2l_toInt]; exact h1.1, by rw [l_le, i2l_toInt, hh]; omega⟩]
  · have h1 : ¬ (0 ≤ x.toInt ∧ x.toInt < n) := fun k => h (decide_eq_true k)
    rw [if_neg h, if_neg (fun k => h1 ⟨by have := (l_le _ _).mp k.1; rw [i2l_toInt] at this; exact this, by have := (l_le _ _).mp k.2; rw [i2l_toInt, hh] at this; omega⟩)]
theorem e_hasTray (x : Int32) (S : cpS) : fX11_hasTray x S = some (if cpLs' x 4 then 1 else 0, S) := cp_has x 4 (by decide) S
/-- an int argument: in bounds as a number, or out of them -/
theorem in_or (x : Int32) (n : Nat) : (∃ p, p < n ∧ x = nI p) ∨ cpLs' x n = false := by
  by_cases h : cpLs' x n = true
  · exact Or.inl (cpLs_nI h)
  · exact Or.inr (by simpa using h)
/-- T is S but for the longs i to n-1 of cell k, which are x -/
def fL (S T : cpS) (k i n : Nat) (x : Int64) : Prop := T.1 = S.1 ∧ (∀ q, q ≠ k → T.2 q = S.2 q) ∧ (∀ j, i ≤ j → j < n → T.2 k j = x) ∧ ∀ j, (j < i ∨ n ≤ j) → T.2 k j = S.2 k j
theorem fL.rf (S : cpS) (k n : Nat) (x : Int64) : fL S S k n n x := ⟨rfl, fun _ _ => rfl, fun j h1 h2 => absurd h2 (by omega), fun _ _ => rfl⟩
theorem fL.st {S T : cpS} {k i n : Nat} {x : Int64} (h : fL (cpL S k i x) T k (i + 1) n x) (hi : i < n) : fL S T k i n x := by
  obtain ⟨h1, h2, h3, h4⟩ := h
  refine ⟨h1, fun q hq => by rw [h2 q hq, sLr hq], fun j hj hn => ?_, fun j hj => ?_⟩
  · by_cases e : j = i
    · subst e; rw [h4 j (Or.inl (by omega)), sL1]
    · exact h3 j (by omega) hn
  · rw [h4 j (by omega), sLn (Or.inr (by omega))]
theorem e_fillL (k nk : Nat) (x : Int64) (hk : nk < 2 ^ 31) : ∀ (d i f : Nat) (S : cpS), i + d = nk → d < f → ∃ T, fJ7_fill_d0a16_6 k nk x (nI nk) f (nI i) S = some ((), T) ∧ fL S T k i nk x := by
  intro d
  induction d with
  | zero =>
    intro i f S h hf
    obtain ⟨f, rfl⟩ : ∃ g, f = g + 1 := ⟨f - 1, by omega⟩
    refine ⟨S, ?_, ?_⟩
    · rw [fJ7_fill_d0a16_6, if_pos (by rw [show i = nk by omega]; exact nI_le (Nat.le_refl _) hk)]
    · rw [show i = nk by omega]; exact fL.rf S k nk x
  | succ d ih =>
    intro i f S h hf
    obtain ⟨f, rfl⟩ : ∃ g, f = g + 1 := ⟨f - 1, by omega⟩
    obtain ⟨T, h1, h2⟩ := ih (i + 1) f (cpL S k i x) (by omega) (by omega)
    refine ⟨T, ?_, h2.st (by omega)⟩
    rw [fJ7_fill_d0a16_6, if_neg (nI_ge (by omega) hk), if_pos (in_nI (by omega) hk)]
    show fJ7_fill_d0a16_6 k nk x (nI nk) f (nI i + 1) (cpL S k (nI i).toNatClampNeg x) = _
    rw [nI_clamp (by omega), nI_1]
    exact h1
theorem e_fill (k nk : Nat) (x : Int64) (hk : nk < 4000) (S : cpS) : ∃ T, fJ7_fill_d0a16 k nk x S = some ((), T) ∧ fL S T k 0 nk x := by
  obtain ⟨T, h1, h2⟩ := e_fillL k nk x (by omega) nk 0 cpFu S (by omega) (by show nk < 5000; omega)
  have e : fJ7_fill_d0a16 k nk x S = fJ7_fill_d0a16_6 k nk x (nI nk) cpFu (nI 0) S := by
    unfold fJ7_fill_d0a16 cpLt
    rw [nI_0]
  exact ⟨T, e.trans h1, h2⟩
theorem e_num (t n : Nat) (ht : t < 4) (hn : n ≤ 40) : ∀ (d i f : Nat) (S : cpS), i + d = n → d < f → ∃ T, fX12_numbers_64 (nI t) (nI n) f (nI i) S = some (0, T) ∧ fL S T 173 (40 * t + i) (40 * t + n) 0 := by
  intro d
  induction d with
  | zero =>
    intro i f S h hf
    obtain ⟨f, rfl⟩ : ∃ g, f = g + 1 := ⟨f - 1, by omega⟩
    refine ⟨S, ?_, ?_⟩
    · rw [fX12_numbers_64, if_pos (by rw [show i = n by omega]; exact nI_le (Nat.le_refl _) (by omega))]
    · rw [show i = n by omega]; exact fL.rf S _ _ _
  | succ d ih =>
    intro i f S h hf
    obtain ⟨f, rfl⟩ : ∃ g, f = g + 1 := ⟨f - 1, by omega⟩
    obtain ⟨T, h1, h2⟩ := ih (i + 1) f (cpL S 173 (40 * t + i) 0) (by omega) (by omega)
    refine ⟨T, ?_, h2.st (by omega)⟩
    have e : (40 : Int32) * nI t + nI i = nI (40 * t + i) := by rw [show (40 : Int32) * nI t = nI (40 * t) from pk_mul 40 t, nI_add]
    rw [fX12_numbers_64, if_neg (nI_ge (by omega) (by omega)), e, if_pos (in_nI (by omega) (by decide))]
    show fX12_numbers_64 (nI t) (nI n) f (nI i + 1) (cpL S 173 (nI (40 * t + i)).toNatClampNeg 0) = _
    rw [nI_clamp (by omega), nI_1]
    exact h1
theorem e_renew (v : Nat) (a b : Int32) (S : cpS) : ∃ T, fX9_renew v a b S = some ((), T) ∧ fL (cpI (cpI S v 2 a) v 1 b) T (v + 1) 0 40 0 := by
  obtain ⟨T, h1, h2⟩ := e_fill (v + 1) 40 0 (by decide) (cpI (cpI S v 2 a) v 1 b)
  refine ⟨T, ?_, h2⟩
  simp only [fX9_renew, cpLt, h1, cpB_eq]
