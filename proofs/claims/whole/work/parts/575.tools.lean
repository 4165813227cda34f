/-! tools: numbers as naturals, by one set of rules; loops -/
theorem lit (n : Nat) : (OfNat.ofNat n : Int32) = nI n := rfl
theorem nm_eq {a : Nat} (h : a < 2 ^ 31) : (nI a = (-1 : Int32)) = False := by
  refine eq_false (fun k => ?_)
  have h1 := congrArg Int32.toInt k
  rw [nI_toInt h, show (-1 : Int32).toInt = -1 from by decide] at h1
  omega
theorem m1_lt {a : Nat} (h : a < 2 ^ 31) : ((-1 : Int32) < nI a) = True := by
  refine eq_true ?_
  rw [i_lt, nI_toInt h, show (-1 : Int32).toInt = -1 from by decide]
  omega
theorem x_lt {a b : Nat} (ha : a < 2 ^ 31) (hb : b < 2 ^ 31) : (nI a < nI b) = (a < b) := propext (nI_ltI ha hb)
theorem x_le {a b : Nat} (ha : a < 2 ^ 31) (hb : b < 2 ^ 31) : (nI a ≤ nI b) = (a ≤ b) := propext (nI_leI ha hb)
theorem x_eq {a b : Nat} (ha : a < 2 ^ 31) (hb : b < 2 ^ 31) : (nI a = nI b) = (a = b) := propext (nI_eq ha hb)
theorem x_in {i n : Nat} (hi : i < 2 ^ 31) : (cpIn (nI i) n = true) = (i < n) := by
  unfold cpIn
  rw [decide_eq_true_iff, nI_clamp hi]
  refine propext ⟨fun h => ?_, fun h k => ?_⟩
  · have : ¬ n ≤ i := fun k => h (Or.inr k)
    omega
  · rcases k with k | k
    · exact nI_pos hi k
    · omega
theorem x_div {a d : Nat} (ha : a < 2 ^ 31) (h0 : 0 < d) (hd : d < 2 ^ 31) : nI a / nI d = nI (a / d) := pk_div ha h0 hd
theorem x_sub {a b : Nat} (h : b ≤ a) : nI a - nI b = nI (a - b) := pk_sub h
theorem x_cl {n : Nat} (h : n < 2 ^ 31) : (nI n).toNatClampNeg = n := nI_clamp h
/-- a loop that counts up to N; it may end ahead of it -/
theorem cp_lp {α β : Type} (F : Nat → Int32 → α → Option β) (N : Nat) (Inv : Nat → α → Prop) (G : Option β → Prop) (hs : ∀ n i a, i < N → Inv i a → (∃ a', Inv (i + 1) a' ∧ F (n + 1) (nI i) a = F n (nI (i + 1)) a') ∨ G (F (n + 1) (nI i) a)) (he : ∀ n a, Inv N a → G (F (n + 1) (nI N) a)) : ∀ (d i f : Nat) (a : α), i + d = N → d < f → Inv i a → G (F f (nI i) a) := by
  intro d
  induction d with
  | zero =>
    intro i f a h hf hI
    obtain ⟨f, rfl⟩ : ∃ g, f = g + 1 := ⟨f - 1, by omega⟩
    obtain rfl : i = N := by omega
    exact he f a hI
  | succ d ih =>
    intro i f a h hf hI
    obtain ⟨f, rfl⟩ : ∃ g, f = g + 1 := ⟨f - 1, by omega⟩
    rcases hs f i a (by omega) hI with ⟨a', h1, h2⟩ | h1
    · rw [h2]; exact ih (i + 1) f a' (by omega) (by omega) h1
    · exact h1
theorem cp_lp0 {α β : Type} {F : Nat → Int32 → α → Option β} (N : Nat) (Inv : Nat → α → Prop) (G : Option β → Prop) {a : α} (h0 : Inv 0 a) (hN : N < 5000) (hs : ∀ n i a, i < N → Inv i a → (∃ a', Inv (i + 1) a' ∧ F (n + 1) (nI i) a = F n (nI (i + 1)) a') ∨ G (F (n + 1) (nI i) a)) (he : ∀ n a, Inv N a → G (F (n + 1) (nI N) a)) : G (F cpFu 0 a) := by
  have := cp_lp F N Inv G hs he N 0 cpFu a (by omega) hN h0
  rw [nI_0] at this
  exact this
theorem t_test (i f : Nat) (S T : cpS) (h : i < 18) (k : fX12_stores_2 f (nI (i + 1)) (cpI S 158 i (S.1 151 (62 + i))) = some ((), T)) : fX12_stores_2 (f + 1) (nI i) S = some ((), T) := by
  rw [fX12_stores_2]
  simp (disch := omega) only [lit, nI_add, pk_mul, nm_eq, x_lt, x_le, x_eq, x_in, x_cl, x_div, x_sub, cpB_eq, if_pos, if_neg, cpLt]
  exact k
