/-! who can force a coin to a place: by sets -/
def nb (D : cpD) (E : cpE) (c a : Nat) : Nat := nxt D E c a ||| 2 ^ a
def cb (D : cpD) (E : cpE) (c a b : Nat) : Bool := decide (a = b) || go D E c a b
def smS (D : cpD) (E : cpE) (c s a t : Nat) : Nat := if nb D E c a &&& s = 0 then t else t ||| 2 ^ a
def smI (D : cpD) (E : cpE) (c s : Nat) : Nat := up (smS D E c s) D.K 0 0
def alS (D : cpD) (E : cpE) (c s a t : Nat) : Nat := if nb D E c a &&& (63 ^^^ s) = 0 then t ||| 2 ^ a else t
def alI (D : cpD) (E : cpE) (c s : Nat) : Nat := up (alS D E c s) D.K 0 0
def mo (D : cpD) (E : cpE) (c to : Nat) : Nat → Nat × Nat
  | 0 => (2 ^ to, 2 ^ to)
  | k + 1 => (2 ^ to ||| smI D E c (mo D E c to k).2, 2 ^ to ||| alI D E c (mo D E c to k).1)
def Dm (D : cpD) (E : cpE) (c to a : Nat) : Option Nat := ff (fun k => (mo D E c to k).1.testBit a) 13 0
def Do (D : cpD) (E : cpE) (c to a : Nat) : Option Nat := ff (fun k => (mo D E c to k).2.testBit a) 13 0
section FO
variable {D : cpD} {E : cpE} {S : cpS}
theorem mo_s (c to k : Nat) : mo D E c to (k + 1) = (2 ^ to ||| smI D E c (mo D E c to k).2, 2 ^ to ||| alI D E c (mo D E c to k).1) := rfl
theorem nb_b {c a b : Nat} (hb : b < D.K) : (nb D E c a).testBit b = cb D E c a b := by
  unfold nb cb
  rw [Nat.testBit_or, nxt_bit, decide_eq_true hb, Bool.true_and, Nat.testBit_two_pow, Bool.or_comm]
theorem nb_lt {c a : Nat} (ha : a < D.K) : nb D E c a < 2 ^ D.K := or_lt (nxt_lt c a) (two_lt ha)
theorem smI_lt (c s : Nat) : smI D E c s < 2 ^ D.K := up_inv (smS D E c s) D.K (fun _ t => t < 2 ^ D.K) (fun i t hi h => by
  unfold smS
  split
  · exact h
  · exact or_lt h (two_lt hi)) D.K 0 0 (by omega) (Nat.two_pow_pos _)
theorem alI_lt (c s : Nat) : alI D E c s < 2 ^ D.K := up_inv (alS D E c s) D.K (fun _ t => t < 2 ^ D.K) (fun i t hi h => by
  unfold alS
  split
  · exact or_lt h (two_lt hi)
  · exact h) D.K 0 0 (by omega) (Nat.two_pow_pos _)
theorem smI_b {c s a : Nat} (hs : s < 2 ^ D.K) : (smI D E c s).testBit a = true ↔ a < D.K ∧ ∃ b, b < D.K ∧ cb D E c a b = true ∧ s.testBit b = true := by
  unfold smI
  refine (up_iff0 (step := smS D E c s) (B := fun t => t.testBit a = true) (Q := fun i => i = a ∧ nb D E c i &&& s ≠ 0) (fun i t => ?_) D.K 0).trans ?_
  · (try dsimp only)
    unfold smS
    by_cases h : nb D E c i &&& s = 0
    · rw [if_pos h]
      exact ⟨fun q => Or.inl q, fun q => by rcases q with q | q; exact q; exact absurd h q.2⟩
    · rw [if_neg h, Nat.testBit_or, Bool.or_eq_true, Nat.testBit_two_pow, decide_eq_true_eq]
      exact ⟨fun q => by rcases q with q | q; exact Or.inl q; exact Or.inr ⟨q, h⟩, fun q => by rcases q with q | q; exact Or.inl q; exact Or.inr q.1⟩
  · rw [Nat.zero_testBit]
    constructor
    · rintro (q | ⟨k, k1, rfl, k3⟩)
      · cases q
      · refine ⟨k1, Classical.byContradiction (fun no => k3 (and0.mpr (fun b hb => ?_)))⟩
        by_cases hbK : b < D.K
        · rw [nb_b hbK] at hb
          cases e : s.testBit b
          · rfl
          · exact absurd ⟨b, hbK, hb, e⟩ no
        · exact bit_ge hs (by omega)
    · rintro ⟨k1, b, b1, b2, b3⟩
      refine Or.inr ⟨a, k1, rfl, fun h => ?_⟩
      have := and0.mp h b (by rw [nb_b b1]; exact b2)
      rw [b3] at this; cases this
theorem alI_b (hD : D.WF) {c s a : Nat} (hs : s < 2 ^ D.K) : (alI D E c s).testBit a = true ↔ a < D.K ∧ ∀ b, b < D.K → cb D E c a b = true → s.testBit b = true := by
  have k6 := hD.k6
  have x6 : ∀ b, b < 6 → (63 : Nat).testBit b = true := by decide
  unfold alI
  refine (up_iff0 (step := alS D E c s) (B := fun t => t.testBit a = true) (Q := fun i => i = a ∧ nb D E c i &&& (63 ^^^ s) = 0) (fun i t => ?_) D.K 0).trans ?_
  · (try dsimp only)
    unfold alS
    by_cases h : nb D E c i &&& (63 ^^^ s) = 0
    · rw [if_pos h, Nat.testBit_or, Bool.or_eq_true, Nat.testBit_two_pow, decide_eq_true_eq]
      exact ⟨fun q => by rcases q with q | q; exact Or.inl q; exact Or.inr ⟨q, h⟩, fun q => by rcases q with q | q; exact Or.inl q; exact Or.inr q.1⟩
    · rw [if_neg h]
      exact ⟨fun q => Or.inl q, fun q => by rcases q with q | q; exact q; exact absurd q.2 h⟩
  · rw [Nat.zero_testBit]
    constructor
    · rintro (q | ⟨k, k1, rfl, k3⟩)
      · cases q
      · refine ⟨k1, fun b hb hc => ?_⟩
        have := and0.mp k3 b (by rw [nb_b hb]; exact hc)
        rw [Nat.testBit_xor, x6 b (by omega)] at this
        cases e : s.testBit b
        · rw [e] at this; cases this
        · rfl
    · rintro ⟨k1, h⟩
      refine Or.inr ⟨a, k1, rfl, and0.mpr (fun b hb => ?_)⟩
      by_cases hbK : b < D.K
      · rw [nb_b hbK] at hb
        rw [Nat.testBit_xor, x6 b (by omega), h b hbK hb]; rfl
      · rw [bit_ge (nb_lt k1) (by omega)] at hb; cases hb
theorem mo_lt {c to : Nat} (ht : to < D.K) : ∀ k, (mo D E c to k).1 < 2 ^ D.K ∧ (mo D E c to k).2 < 2 ^ D.K := by
  intro k
  cases k with
  | zero => exact ⟨two_lt ht, two_lt ht⟩
  | succ k => rw [mo_s]; exact ⟨or_lt (two_lt ht) (smI_lt _ _), or_lt (two_lt ht) (alI_lt _ _)⟩
theorem mo1_b {c to k a : Nat} (ht : to < D.K) : (mo D E c to (k + 1)).1.testBit a = true ↔ a = to ∨ (a < D.K ∧ ∃ b, b < D.K ∧ cb D E c a b = true ∧ (mo D E c to k).2.testBit b = true) := by
  rw [mo_s]
  show (2 ^ to ||| smI D E c (mo D E c to k).2).testBit a = true ↔ _
  rw [Nat.testBit_or, Bool.or_eq_true, smI_b (mo_lt ht k).2, Nat.testBit_two_pow, decide_eq_true_eq, eq_comm]
theorem mo2_b (hD : D.WF) {c to k a : Nat} (ht : to < D.K) : (mo D E c to (k + 1)).2.testBit a = true ↔ a = to ∨ (a < D.K ∧ ∀ b, b < D.K → cb D E c a b = true → (mo D E c to k).1.testBit b = true) := by
  rw [mo_s]
  show (2 ^ to ||| alI D E c (mo D E c to k).1).testBit a = true ↔ _
  rw [Nat.testBit_or, Bool.or_eq_true, alI_b hD (mo_lt ht k).1, Nat.testBit_two_pow, decide_eq_true_eq, eq_comm]
theorem mo_up (hD : D.WF) {c to : Nat} (ht : to < D.K) : ∀ k, sub (mo D E c to k).1 (mo D E c to (k + 1)).1 ∧ sub (mo D E c to k).2 (mo D E c to (k + 1)).2 := by
  intro k
  induction k with
  | zero =>
    have e : ∀ a, (2 ^ to).testBit a = true → a = to := fun a h => by rw [Nat.testBit_two_pow, decide_eq_true_eq] at h; exact h.symm
    exact ⟨fun a h => (mo1_b ht).mpr (Or.inl (e a h)), fun a h => (mo2_b hD ht).mpr (Or.inl (e a h))⟩
  | succ k ih =>
    refine ⟨fun a h => ?_, fun a h => ?_⟩
    · rw [mo1_b ht] at h ⊢
      rcases h with h | ⟨h1, b, b1, b2, b3⟩
      · exact Or.inl h
      · exact Or.inr ⟨h1, b, b1, b2, ih.2 b b3⟩
    · rw [mo2_b hD ht] at h ⊢
      rcases h with h | ⟨h1, h2⟩
      · exact Or.inl h
      · exact Or.inr ⟨h1, fun b b1 b2 => ih.1 b (h2 b b1 b2)⟩
theorem mo_mono (hD : D.WF) {c to m n : Nat} (ht : to < D.K) (h : m ≤ n) : sub (mo D E c to m).1 (mo D E c to n).1 ∧ sub (mo D E c to m).2 (mo D E c to n).2 := by
  induction n with
  | zero => rw [show m = 0 by omega]; exact ⟨fun _ h => h, fun _ h => h⟩
  | succ n ih =>
    by_cases e : m = n + 1
    · rw [e]; exact ⟨fun _ h => h, fun _ h => h⟩
    · have i := ih (by omega)
      have u := mo_up (E := E) (c := c) hD ht n
      exact ⟨fun a h => u.1 a (i.1 a h), fun a h => u.2 a (i.2 a h)⟩
theorem mo_stab (hD : D.WF) {c to : Nat} (ht : to < D.K) : ∀ n, 10 ≤ n → mo D E c to n = mo D E c to 10 := by
  have k6 := hD.k6
  have k64 : 2 ^ D.K ≤ 2 ^ 6 := Nat.pow_le_pow_right (by decide) k6
  have hl := fun k => mo_lt (E := E) (c := c) ht k
  have hcn := fun k => cnt_leP (P := D.K) (by omega) (hl k).1
  have hcm := fun k => cnt_leP (P := D.K) (by omega) (hl k).2
  have hg : ∀ k, mo D E c to (k + 1) ≠ mo D E c to k → cnt (mo D E c to k).1 + cnt (mo D E c to k).2 < cnt (mo D E c to (k + 1)).1 + cnt (mo D E c to (k + 1)).2 := fun k e => by
    have u := mo_up (E := E) (c := c) hD ht k
    have z1 : cnt (mo D E c to k).1 ≤ cnt (mo D E c to (k + 1)).1 := by
      by_cases q : (mo D E c to k).1 = (mo D E c to (k + 1)).1
      · rw [q]; exact Nat.le_refl _
      · exact Nat.le_of_lt (cnt_sub u.1 (by have := (hl (k + 1)).1; omega) q)
    have z2 : cnt (mo D E c to k).2 ≤ cnt (mo D E c to (k + 1)).2 := by
      by_cases q : (mo D E c to k).2 = (mo D E c to (k + 1)).2
      · rw [q]; exact Nat.le_refl _
      · exact Nat.le_of_lt (cnt_sub u.2 (by have := (hl (k + 1)).2; omega) q)
    by_cases q : (mo D E c to k).1 = (mo D E c to (k + 1)).1
    · have q2 : (mo D E c to k).2 ≠ (mo D E c to (k + 1)).2 := fun q2 => e (Prod.ext q.symm q2.symm)
      have := cnt_sub u.2 (by have := (hl (k + 1)).2; omega) q2
      omega
    · have := cnt_sub u.1 (by have := (hl (k + 1)).1; omega) q
      omega
  have c0 : 1 ≤ cnt (2 ^ to) := by
    have : ∀ a, a < 6 → 1 ≤ cnt (2 ^ a) := by decide +kernel
    exact this to (by omega)
  have hc : ∀ n, (∃ m, m < n ∧ mo D E c to (m + 1) = mo D E c to m) ∨ n + 2 ≤ cnt (mo D E c to n).1 + cnt (mo D E c to n).2 := by
    intro n
    induction n with
    | zero => exact Or.inr (by show 0 + 2 ≤ cnt (2 ^ to) + cnt (2 ^ to); omega)
    | succ n ih =>
      rcases ih with ⟨m, m1, m2⟩ | ih
      · exact Or.inl ⟨m, by omega, m2⟩
      · by_cases e : mo D E c to (n + 1) = mo D E c to n
        · exact Or.inl ⟨n, by omega, e⟩
        · have := hg n e
          exact Or.inr (by omega)
  rcases hc 11 with ⟨m, m1, m2⟩ | h
  · have st : ∀ d, mo D E c to (m + d) = mo D E c to m := by
      intro d
      induction d with
      | zero => rfl
      | succ d ih => rw [show m + (d + 1) = (m + d) + 1 by omega, mo_s, ih, ← mo_s, m2]
    intro n hn
    have e1 := st (n - m)
    have e2 := st (10 - m)
    rw [show m + (n - m) = n by omega] at e1
    rw [show m + (10 - m) = 10 by omega] at e2
    rw [e1, e2]
  · have := hcn 11
    have := hcm 11
    omega
theorem Dm_in {c to a n : Nat} (h : Dm D E c to a = some n) : n < 13 ∧ (mo D E c to n).1.testBit a = true ∧ ∀ j, j < n → (mo D E c to j).1.testBit a = false := by
  obtain ⟨h1, h2, h3, h4⟩ := (ff_some _ _ _).mp h
  exact ⟨by omega, h3, fun j hj => h4 j (by omega) hj⟩
theorem Do_in {c to a n : Nat} (h : Do D E c to a = some n) : n < 13 ∧ (mo D E c to n).2.testBit a = true ∧ ∀ j, j < n → (mo D E c to j).2.testBit a = false := by
  obtain ⟨h1, h2, h3, h4⟩ := (ff_some _ _ _).mp h
  exact ⟨by omega, h3, fun j hj => h4 j (by omega) hj⟩
theorem Dm_of (hD : D.WF) {c to a n : Nat} (ht : to < D.K) (h : (mo D E c to n).1.testBit a = true) : ∃ m, m ≤ n ∧ m ≤ 10 ∧ Dm D E c to a = some m := by
  have h' : ∃ q, q ≤ n ∧ q ≤ 10 ∧ (mo D E c to q).1.testBit a = true := by
    by_cases e : n ≤ 10
    · exact ⟨n, Nat.le_refl _, e, h⟩
    · exact ⟨10, by omega, Nat.le_refl _, by rw [← mo_stab hD ht n (by omega)]; exact h⟩
  obtain ⟨q, q1, q2, q3⟩ := h'
  cases e : Dm D E c to a with
  | none =>
    have := (ff_none 13 0).mp e q (by omega) (by omega)
    (try dsimp only at this)
    rw [q3] at this; cases this
  | some m =>
    obtain ⟨g1, g2, g3⟩ := Dm_in e
    have : m ≤ q := Classical.byContradiction (fun z => by rw [g3 q (by omega)] at q3; cases q3)
    exact ⟨m, by omega, by omega, rfl⟩
theorem Do_of (hD : D.WF) {c to a n : Nat} (ht : to < D.K) (h : (mo D E c to n).2.testBit a = true) : ∃ m, m ≤ n ∧ m ≤ 10 ∧ Do D E c to a = some m := by
  have h' : ∃ q, q ≤ n ∧ q ≤ 10 ∧ (mo D E c to q).2.testBit a = true := by
    by_cases e : n ≤ 10
    · exact ⟨n, Nat.le_refl _, e, h⟩
    · exact ⟨10, by omega, Nat.le_refl _, by rw [← mo_stab hD ht n (by omega)]; exact h⟩
  obtain ⟨q, q1, q2, q3⟩ := h'
  cases e : Do D E c to a with
  | none =>
    have := (ff_none 13 0).mp e q (by omega) (by omega)
    (try dsimp only at this)
    rw [q3] at this; cases this
  | some m =>
    obtain ⟨g1, g2, g3⟩ := Do_in e
    have : m ≤ q := Classical.byContradiction (fun z => by rw [g3 q (by omega)] at q3; cases q3)
    exact ⟨m, by omega, by omega, rfl⟩
theorem Dm_0 {c to a : Nat} : Dm D E c to a = some 0 ↔ a = to := by
  unfold Dm
  rw [ff_some]
  constructor
  · intro ⟨_, _, h, _⟩
    have h : (2 ^ to).testBit a = true := h
    rw [Nat.testBit_two_pow, decide_eq_true_eq] at h; exact h.symm
  · intro h
    refine ⟨by omega, by omega, ?_, fun j h1 h2 => by omega⟩
    show (2 ^ to).testBit a = true
    rw [Nat.testBit_two_pow, h]; simp
theorem Do_0 {c to a : Nat} : Do D E c to a = some 0 ↔ a = to := by
  unfold Do
  rw [ff_some]
  constructor
  · intro ⟨_, _, h, _⟩
    have h : (2 ^ to).testBit a = true := h
    rw [Nat.testBit_two_pow, decide_eq_true_eq] at h; exact h.symm
  · intro h
    refine ⟨by omega, by omega, ?_, fun j h1 h2 => by omega⟩
    show (2 ^ to).testBit a = true
    rw [Nat.testBit_two_pow, h]; simp
theorem M1 (hD : D.WF) {c to a b n : Nat} (ht : to < D.K) (ha : a < D.K) (hb : b < D.K) (hc : cb D E c a b = true) (h : Do D E c to b = some n) : ∃ m, m ≤ n + 1 ∧ Dm D E c to a = some m := by
  obtain ⟨m, m1, -, m2⟩ := Dm_of hD ht ((mo1_b (k := n) ht).mpr (Or.inr ⟨ha, b, hb, hc, (Do_in h).2.1⟩))
  exact ⟨m, m1, m2⟩
theorem M2 (hD : D.WF) {c to a n : Nat} (ht : to < D.K) (h : Dm D E c to a = some (n + 1)) : a ≠ to ∧ a < D.K ∧ ∃ b, b < D.K ∧ cb D E c a b = true ∧ Do D E c to b = some n := by
  have hne : a ≠ to := fun e => by have := (Dm_0 (D := D) (E := E) (c := c)).mpr e; rw [h] at this; cases this
  obtain ⟨-, h2, -⟩ := Dm_in h
  rcases (mo1_b ht).mp h2 with e | ⟨ha, b, hb, hc, h3⟩
  · exact absurd e hne
  · obtain ⟨m, m1, -, m2⟩ := Do_of hD ht h3
    refine ⟨hne, ha, b, hb, hc, ?_⟩
    by_cases e : m = n
    · rw [← e]; exact m2
    · obtain ⟨q, q1, q2⟩ := M1 hD ht ha hb hc m2
      rw [h] at q2; cases q2; omega
theorem O1 (hD : D.WF) {c to a n : Nat} (ht : to < D.K) (ha : a < D.K) (h : ∀ b, b < D.K → cb D E c a b = true → ∃ m, m ≤ n ∧ Dm D E c to b = some m) : ∃ m, m ≤ n + 1 ∧ Do D E c to a = some m := by
  obtain ⟨m, m1, -, m2⟩ := Do_of hD ht ((mo2_b (k := n) hD ht).mpr (Or.inr ⟨ha, fun b hb hc => by
    obtain ⟨q, q1, q2⟩ := h b hb hc
    exact (mo_mono hD ht q1).1 b (Dm_in q2).2.1⟩))
  exact ⟨m, m1, m2⟩
theorem O2 (hD : D.WF) {c to a n : Nat} (ht : to < D.K) (h : Do D E c to a = some (n + 1)) : a ≠ to ∧ a < D.K ∧ ∀ b, b < D.K → cb D E c a b = true → ∃ m, m ≤ n ∧ Dm D E c to b = some m := by
  have hne : a ≠ to := fun e => by have := (Do_0 (D := D) (E := E) (c := c)).mpr e; rw [h] at this; cases this
  obtain ⟨-, h2, -⟩ := Do_in h
  rcases (mo2_b hD ht).mp h2 with e | ⟨ha, h3⟩
  · exact absurd e hne
  · refine ⟨hne, ha, fun b hb hc => ?_⟩
    obtain ⟨m, m1, -, m2⟩ := Dm_of hD ht (h3 b hb hc)
    exact ⟨m, m1, m2⟩
end FO
