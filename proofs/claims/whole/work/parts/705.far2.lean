/-! distances: what each round of the measuring does; they are the same both ways -/
theorem near_eq (d : Nat → Nat → Nat) (a b n x y : Nat) : cpNear d a b n x y = if x = a ∧ y = b then min n (d x y) else d x y := by
  unfold cpNear
  by_cases h : x = a ∧ y = b
  · rw [if_pos h]
    by_cases h2 : n < d x y
    · rw [if_pos ⟨h.1, h.2, h2⟩]; omega
    · rw [if_neg (fun q => h2 q.2.2)]; omega
  · rw [if_neg h, if_neg (fun q => h ⟨q.1, q.2.1⟩)]
theorem farB_eq {d : Nat → Nat → Nat} {k a : Nat} (h0 : d k k = 0) : ∀ n x y, cpFarB d k a n x y = if x = a ∧ y < n then min (d x y) (d a k + d k y) else d x y := by
  intro n
  induction n with
  | zero => intro x y; rw [if_neg (by omega)]; rfl
  | succ n ih =>
    intro x y
    have e1 : cpFarB d k a n a k = d a k := by
      rw [ih]
      by_cases h : a = a ∧ k < n
      · rw [if_pos h, h0]; omega
      · rw [if_neg h]
    have e2 : cpFarB d k a n k n = d k n := by rw [ih, if_neg (by omega)]
    show cpNear (cpFarB d k a n) a n (cpFarB d k a n a k + cpFarB d k a n k n) x y = _
    rw [near_eq, e1, e2, ih]
    by_cases h : x = a ∧ y = n
    · obtain ⟨rfl, rfl⟩ := h
      rw [if_pos ⟨rfl, rfl⟩, if_neg (by omega), if_pos ⟨rfl, by omega⟩]; omega
    · rw [if_neg h]
      by_cases h2 : x = a ∧ y < n
      · rw [if_pos h2, if_pos ⟨h2.1, by omega⟩]
      · rw [if_neg h2, if_neg (by omega)]
theorem farA_eq {d : Nat → Nat → Nat} {k : Nat} (h0 : d k k = 0) (hk : k < 6) : ∀ n x y, cpFarA d k n x y = if x < n ∧ y < 6 then min (d x y) (d x k + d k y) else d x y := by
  intro n
  induction n with
  | zero => intro x y; rw [if_neg (by omega)]; rfl
  | succ n ih =>
    intro x y
    have z : cpFarA d k n k k = 0 := by
      rw [ih]
      by_cases h : k < n ∧ k < 6
      · rw [if_pos h, h0]; omega
      · rw [if_neg h, h0]
    show cpFarB (cpFarA d k n) k n 6 x y = _
    have e1 : cpFarA d k n n k = d n k := by rw [ih, if_neg (by omega)]
    have e2 : cpFarA d k n k y = d k y := by
      rw [ih]
      by_cases h : k < n ∧ y < 6
      · rw [if_pos h, h0]; omega
      · rw [if_neg h]
    rw [farB_eq z, e1, e2, ih]
    by_cases h : x = n ∧ y < 6
    · obtain ⟨rfl, h⟩ := h
      rw [if_pos ⟨rfl, h⟩, if_neg (by omega), if_pos ⟨by omega, h⟩]
    · rw [if_neg h]
      by_cases h2 : x < n ∧ y < 6
      · rw [if_pos h2, if_pos ⟨by omega, h2.2⟩]
      · rw [if_neg h2, if_neg (by omega)]
theorem farR_z (rd : Nat → Nat × Nat × Nat) (k : Nat) : ∀ r, cpFarR rd r k k = 0
  | 0 => if_pos rfl
  | r + 1 => by
    show cpNear (cpNear (cpFarR rd r) (rd r).1 (rd r).2.1 (rd r).2.2) (rd r).2.1 (rd r).1 (rd r).2.2 k k = 0
    rw [near_eq, near_eq, farR_z rd k r]
    split <;> split <;> omega
theorem farK_z {d : Nat → Nat → Nat} (h : ∀ k, d k k = 0) : ∀ n, n ≤ 6 → ∀ k, cpFarK d n k k = 0 := by
  intro n
  induction n with
  | zero => intro _ k; exact h k
  | succ n ih =>
    intro hn k
    show cpFarA (cpFarK d n) n 6 k k = 0
    rw [farA_eq (ih (by omega) n) (by omega), ih (by omega) k]
    split <;> omega
theorem farK_s {d : Nat → Nat → Nat} (h : ∀ k, d k k = 0) {n x y : Nat} (hn : n < 6) (hx : x < 6) (hy : y < 6) : cpFarK d (n + 1) x y = min (cpFarK d n x y) (cpFarK d n x n + cpFarK d n n y) := by
  show cpFarA (cpFarK d n) n 6 x y = _
  rw [farA_eq (farK_z h n (by omega) n) hn, if_pos ⟨hx, hy⟩]
theorem farR_sy (rd : Nat → Nat × Nat × Nat) : ∀ r x y, cpFarR rd r x y = cpFarR rd r y x := by
  intro r
  induction r with
  | zero => intro x y; show (if x = y then 0 else 99) = if y = x then 0 else 99; by_cases h : x = y; rw [if_pos h, if_pos h.symm]; rw [if_neg h, if_neg (Ne.symm h)]
  | succ r ih =>
    intro x y
    show cpNear (cpNear (cpFarR rd r) (rd r).1 (rd r).2.1 (rd r).2.2) (rd r).2.1 (rd r).1 (rd r).2.2 x y = cpNear (cpNear (cpFarR rd r) (rd r).1 (rd r).2.1 (rd r).2.2) (rd r).2.1 (rd r).1 (rd r).2.2 y x
    rw [near_eq, near_eq, near_eq, near_eq, ih y x]
    generalize (rd r).1 = a
    generalize (rd r).2.1 = b
    rcases Classical.propComplete (x = a) with e1 | e1 <;> rcases Classical.propComplete (y = b) with e2 | e2 <;> rcases Classical.propComplete (x = b) with e3 | e3 <;> rcases Classical.propComplete (y = a) with e4 | e4 <;> simp only [e1, e2, e3, e4, if_true, if_false, and_self, and_false, false_and, and_true, true_and] <;> omega
theorem far_sy (rd : Nat → Nat × Nat × Nat) (R : Nat) {x y : Nat} (hx : x < 6) (hy : y < 6) : cpFar rd R x y = cpFar rd R y x := by
  unfold cpFar
  have : ∀ n, n ≤ 6 → ∀ x y, x < 6 → y < 6 → cpFarK (cpFarR rd R) n x y = cpFarK (cpFarR rd R) n y x := by
    intro n
    induction n with
    | zero => intro _ x y _ _; exact farR_sy rd R x y
    | succ n ih =>
      intro hn x y hx hy
      rw [farK_s (fun k => farR_z rd k R) (by omega) hx hy, farK_s (fun k => farR_z rd k R) (by omega) hy hx, ih (by omega) x y hx hy, ih (by omega) x n hx (by omega), ih (by omega) n y (by omega) hy, Nat.add_comm]
  exact this 6 (Nat.le_refl _) x y hx hy
theorem far_le (rd : Nat → Nat × Nat × Nat) (R : Nat) {x y : Nat} (hx : x < 6) (hy : y < 6) : cpFar rd R x y ≤ 99 := by
  unfold cpFar
  have h0 : ∀ r x y, cpFarR rd r x y ≤ 99 := by
    intro r
    induction r with
    | zero => intro x y; exact far0_le x y
    | succ r ih =>
      intro x y
      show cpNear (cpNear (cpFarR rd r) (rd r).1 (rd r).2.1 (rd r).2.2) (rd r).2.1 (rd r).1 (rd r).2.2 x y ≤ 99
      have := ih x y
      rw [near_eq, near_eq]
      split <;> split <;> omega
  have : ∀ n, n ≤ 6 → ∀ x y, x < 6 → y < 6 → cpFarK (cpFarR rd R) n x y ≤ 99 := by
    intro n
    induction n with
    | zero => intro _ x y _ _; exact h0 R x y
    | succ n ih =>
      intro hn x y hx hy
      have := ih (by omega) x y hx hy
      rw [farK_s (fun k => farR_z rd k R) (by omega) hx hy]
      omega
  exact this 6 (Nat.le_refl _) x y hx hy
