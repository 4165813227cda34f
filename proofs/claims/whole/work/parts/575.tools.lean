/-! tools: numbers as naturals, by one set of rules; loops -/
theorem lit (n : Nat) : (OfNat.ofNat n : Int32) = nI n := Eq.trans rfl rfl
theorem lq {α ρ : Type} {x : α} {g : α → Option ρ} : cpLt x g = g x := Eq.trans rfl rfl
theorem bq {ρ τ : Type} {x : ρ} {S : cpS} {g : ρ → cpS → Option τ} : cpB (some (x, S)) g = g x S := Eq.trans rfl rfl
def nM : Int32 := -1
theorem lm1 : -(nI 1) = nM := Eq.trans rfl rfl
theorem nM_i : nM.toInt = -1 := by decide
theorem nm_eq {a : Nat} (h : a < 2 ^ 31) : (nI a = nM) = False := by
  refine eq_false (fun k => ?_)
  have h1 := congrArg Int32.toInt k
  rw [nI_toInt h, nM_i] at h1
  omega
theorem nm_eq' {a : Nat} (h : a < 2 ^ 31) : (nM = nI a) = False := eq_false (fun k => by have := nm_eq h; rw [k] at this; exact this ▸ rfl)
theorem nm_lt {a : Nat} (h : a < 2 ^ 31) : (nM < nI a) = True := eq_true (by rw [i_lt, nI_toInt h, nM_i]; omega)
theorem nm_lt' {a : Nat} (h : a < 2 ^ 31) : (nI a < nM) = False := eq_false (by rw [i_lt, nI_toInt h, nM_i]; omega)
theorem nm_le {a : Nat} (h : a < 2 ^ 31) : (nM ≤ nI a) = True := eq_true (by rw [i_le, nI_toInt h, nM_i]; omega)
theorem nm_le' {a : Nat} (h : a < 2 ^ 31) : (nI a ≤ nM) = False := eq_false (by rw [i_le, nI_toInt h, nM_i]; omega)
theorem x_lt {a b : Nat} (ha : a < 2 ^ 31) (hb : b < 2 ^ 31) : (nI a < nI b) = (a < b) := propext (nI_ltI ha hb)
theorem x_le {a b : Nat} (ha : a < 2 ^ 31) (hb : b < 2 ^ 31) : (nI a ≤ nI b) = (a ≤ b) := propext (nI_leI ha hb)
theorem x_eq {a b : Nat} (ha : a < 2 ^ 31) (hb : b < 2 ^ 31) : (nI a = nI b) = (a = b) := propext (nI_eq ha hb)
theorem x_in {i n : Nat} (hi : i < 2 ^ 31) : (cpIn (nI i) n = true) = (i < n) := by
  unfold cpIn
  rw [decide_eq_true_iff, nI_clamp hi]
  refine propext ⟨fun h => ?_, fun h k => ?_⟩
  · have : ¬ n ≤ i := fun k => h (Or.inr k)
    omega
  · rcases k with k | k
    · exact nI_pos hi k
    · omega
theorem x_div {a d : Nat} (ha : a < 2 ^ 31) (h0 : 0 < d) (hd : d < 2 ^ 31) : nI a / nI d = nI (a / d) := pk_div ha h0 hd
theorem x_sub {a b : Nat} (h : b ≤ a) : nI a - nI b = nI (a - b) := pk_sub h
theorem x_cl {n : Nat} (h : n < 2 ^ 31) : (nI n).toNatClampNeg = n := nI_clamp h
theorem x_rem {a d : Nat} (ha : a < 2 ^ 31) (h0 : 0 < d) (hd : d < 2 ^ 31) : cpRem (nI a) (nI d) = nI (a % d) := pk_rem ha h0 hd
theorem x_min {a b : Nat} (ha : a < 2 ^ 31) (hb : b < 2 ^ 31) : cpMin (nI a) (nI b) = nI (min a b) := by
  unfold cpMin
  by_cases h : b < a
  · rw [if_pos ((nI_ltI hb ha).mpr h), Nat.min_eq_right (by omega)]
  · rw [if_neg (fun k => h ((nI_ltI hb ha).mp k)), Nat.min_eq_left (by omega)]
theorem x_max {a b : Nat} (ha : a < 2 ^ 31) (hb : b < 2 ^ 31) : cpMax (nI a) (nI b) = nI (max a b) := by
  unfold cpMax
  by_cases h : a < b
  · rw [if_pos ((nI_ltI ha hb).mpr h), Nat.max_eq_right (by omega)]
  · rw [if_neg (fun k => h ((nI_ltI ha hb).mp k)), Nat.max_eq_left (by omega)]
theorem x_and (a b : Nat) : nI a &&& nI b = nI (a &&& b) := by
  apply Int32.toBitVec_inj.mp
  show BitVec.ofNat 32 a &&& BitVec.ofNat 32 b = BitVec.ofNat 32 (a &&& b)
  apply BitVec.eq_of_getLsbD_eq
  intro i hi
  simp [hi]
theorem x_or (a b : Nat) : nI a ||| nI b = nI (a ||| b) := by
  apply Int32.toBitVec_inj.mp
  show BitVec.ofNat 32 a ||| BitVec.ofNat 32 b = BitVec.ofNat 32 (a ||| b)
  apply BitVec.eq_of_getLsbD_eq
  intro i hi
  simp [hi]
theorem x_xor (a b : Nat) : nI a ^^^ nI b = nI (a ^^^ b) := by
  apply Int32.toBitVec_inj.mp
  show BitVec.ofNat 32 a ^^^ BitVec.ofNat 32 b = BitVec.ofNat 32 (a ^^^ b)
  apply BitVec.eq_of_getLsbD_eq
  intro i hi
  simp [hi]
/-- a without b -/
def cpDf (a b : Nat) : Nat := a ^^^ (a &&& b)
theorem df_bit (a b i : Nat) : (cpDf a b).testBit i = (a.testBit i && !b.testBit i) := by
  unfold cpDf
  simp only [Nat.testBit_xor, Nat.testBit_and]
  cases a.testBit i <;> cases b.testBit i <;> rfl
theorem x_df (a b : Nat) : nI a &&& (nI b ^^^ nM) = nI (cpDf a b) := by
  apply Int32.toBitVec_inj.mp
  show BitVec.ofNat 32 a &&& (BitVec.ofNat 32 b ^^^ BitVec.ofNat 32 (2 ^ 32 - 1)) = BitVec.ofNat 32 (cpDf a b)
  apply BitVec.eq_of_getLsbD_eq
  intro i hi
  simp only [BitVec.getLsbD_and, BitVec.getLsbD_xor, BitVec.getLsbD_ofNat, Nat.testBit_two_pow_sub_one, df_bit, hi, decide_true, Bool.true_and]
  cases a.testBit i <;> cases b.testBit i <;> rfl
theorem x_shl {q : Nat} (h : q < 31) : cpShl (nI 1) (nI q) = nI (2 ^ q) := by
  have : ∀ q, q < 31 → cpShl (nI 1) (nI q) = nI (2 ^ q) := by decide +kernel
  exact this q h
theorem x_shrk {q : Nat} (h : q < 31) : (((nI q) &&& 31).toBitVec.smod 32).toNat = q := by
  have : ∀ q, q < 31 → (((nI q) &&& 31).toBitVec.smod 32).toNat = q := by decide +kernel
  exact this q h
theorem x_shr {a q : Nat} (ha : a < 2 ^ 31) (h : q < 31) : cpShr (nI a) (nI q) = nI (a / 2 ^ q) := pk_shrN ha _ q (x_shrk h)
theorem bit_div (a q : Nat) : (a / 2 ^ q &&& 1) = if a.testBit q then 1 else 0 := by
  rw [Nat.and_one_is_mod, Nat.testBit_eq_decide_div_mod_eq]
  by_cases h : a / 2 ^ q % 2 = 1
  · simp [h]
  · have : a / 2 ^ q % 2 = 0 := by omega
    simp [this]
/-- a truth as an int -/
def bI (b : Bool) : Int32 := if b then nI 1 else nI 0
theorem bI_0 (b : Bool) : (bI b = nI 0) = (b = false) := by cases b <;> simp [bI] <;> decide
theorem bI_1 (b : Bool) : (bI b = nI 1) = (b = true) := by cases b <;> simp [bI] <;> decide
theorem bI_bo (b : Bool) : (cpBo (bI b) = true) = True := by cases b <;> simp [bI] <;> decide
theorem e_isIn {a q : Nat} (ha : a < 2 ^ 31) (h : q < 31) (S : cpS) : fX11_isIn (nI a) (nI q) S = some (bI (a.testBit q), S) := by
  unfold fX11_isIn
  rw [x_shr ha h, lit, x_and, bit_div]
  cases a.testBit q
  · rfl
  · rw [if_neg (by decide)]; rfl
theorem lg_eq (x y : Int64) : (lg_cmp x y = nI 0) = (x = y) := by
  have h1 := lg_lt x y
  have h2 := lg_gt x y
  refine propext ⟨fun h => ?_, fun h => ?_⟩
  · rw [h] at h1 h2
    have a : ¬ x < y := fun k => absurd (h1.mpr k) (by decide)
    have b : ¬ y < x := fun k => absurd (h2.mpr k) (by decide)
    rw [l_lt] at a b
    exact Int64.toInt_inj.mp (by omega)
  · subst h
    unfold lg_cmp
    rw [if_neg (by rw [gt_iff_lt, l_lt]; omega), if_pos rfl]; rfl
theorem toL_inj (x y : Int32) : (Int32.toInt64 x = Int32.toInt64 y) = (x = y) := by
  refine propext ⟨fun h => ?_, fun h => by rw [h]⟩
  have := congrArg Int64.toInt h
  rw [i2l_toInt, i2l_toInt] at this
  exact Int32.toInt_inj.mp this
theorem x_shrlk {q : Nat} (h : q < 31) : ((((nI q).toInt64) &&& 63).toBitVec.smod 64).toNat = q := by
  have : ∀ q, q < 31 → ((((nI q).toInt64) &&& 63).toBitVec.smod 64).toNat = q := by decide +kernel
  exact this q h
theorem x_shrl {a q : Nat} (ha : a < 2 ^ 31) (h : q < 31) : cpShrl (lN a) (nI q) = lN (a / 2 ^ q) := by
  apply Int64.toInt_inj.mp
  have h2 : a / 2 ^ q ≤ a := Nat.div_le_self _ _
  rw [lN_toInt (by omega)]
  show ((lN a).toBitVec.sshiftRight ((((nI q).toInt64) &&& 63).toBitVec.smod 64).toNat).toInt = _
  rw [x_shrlk h, BitVec.toInt_sshiftRight]
  show (lN a).toInt >>> q = _
  rw [lN_toInt ha, Int.shiftRight_eq_div_pow]
  rfl
theorem l_and (a b : Nat) : lN a &&& lN b = lN (a &&& b) := by
  apply Int64.toBitVec_inj.mp
  show BitVec.ofNat 64 a &&& BitVec.ofNat 64 b = BitVec.ofNat 64 (a &&& b)
  apply BitVec.eq_of_getLsbD_eq
  intro i hi
  simp [hi]
theorem m_isIn {a q : Nat} (ha : a < 2 ^ 31) (h : q < 31) (S : cpS) : fX12_isIn (Int32.toInt64 (nI a)) (nI q) S = some (bI (a.testBit q), S) := by
  unfold fX12_isIn
  rw [nI_l ha, x_shrl ha h, show (1 : Int64) = lN 1 from rfl, l_and, bit_div]
  simp only [lit, lg_eq]
  cases a.testBit q
  · rw [if_neg (by decide)]; rfl
  · rw [if_pos rfl]; rfl
theorem ls_nI {p n : Nat} (hp : p < 2 ^ 31) : cpLs' (nI p) n = decide (p < n) := by
  unfold cpLs'
  rw [nI_toInt hp]
  by_cases h : p < n
  · rw [decide_eq_true h, decide_eq_true (by omega)]
  · rw [decide_eq_false h, decide_eq_false (by omega)]
theorem pow_le {p n : Nat} (h : p ≤ n) : 2 ^ p ≤ 2 ^ n := Nat.pow_le_pow_right (by decide) h
theorem bit_ge {a n i : Nat} (h : a < 2 ^ n) (hi : n ≤ i) : a.testBit i = false := Nat.testBit_lt_two_pow (Nat.lt_of_lt_of_le h (pow_le hi))
/-- a loop that counts up to N; it may end ahead of it -/
theorem cp_lp {α β : Type} (F : Nat → Int32 → α → Option β) (N : Nat) (Inv : Nat → α → Prop) (G : Option β → Prop) (hs : ∀ n i a, i < N → Inv i a → (∃ a', Inv (i + 1) a' ∧ F (n + 1) (nI i) a = F n (nI (i + 1)) a') ∨ G (F (n + 1) (nI i) a)) (he : ∀ n a, Inv N a → G (F (n + 1) (nI N) a)) : ∀ (d i f : Nat) (a : α), i + d = N → d < f → Inv i a → G (F f (nI i) a) := by
  intro d
  induction d with
  | zero =>
    intro i f a h hf hI
    obtain ⟨f, rfl⟩ : ∃ g, f = g + 1 := ⟨f - 1, by omega⟩
    obtain rfl : i = N := by omega
    exact he f a hI
  | succ d ih =>
    intro i f a h hf hI
    obtain ⟨f, rfl⟩ : ∃ g, f = g + 1 := ⟨f - 1, by omega⟩
    rcases hs f i a (by omega) hI with ⟨a', h1, h2⟩ | h1
    · rw [h2]; exact ih (i + 1) f a' (by omega) (by omega) h1
    · exact h1
theorem cp_lp0 {α β : Type} {F : Nat → Int32 → α → Option β} (N : Nat) (Inv : Nat → α → Prop) (G : Option β → Prop) {a : α} (h0 : Inv 0 a) (hN : N < 5000) (hs : ∀ n i a, i < N → Inv i a → (∃ a', Inv (i + 1) a' ∧ F (n + 1) (nI i) a = F n (nI (i + 1)) a') ∨ G (F (n + 1) (nI i) a)) (he : ∀ n a, Inv N a → G (F (n + 1) (nI N) a)) : G (F cpFu (nI 0) a) := by
  exact cp_lp F N Inv G hs he N 0 cpFu a (by omega) hN h0
/-- .. ends with v -/
theorem cp_lpW {α ρ : Type} {F : Nat → Int32 → α → Option (ρ × cpS)} (N : Nat) (Inv : Nat → α → Prop) {v : ρ} {Q : cpS → Prop} {a : α} (h0 : Inv 0 a) (hN : N < 5000) (hs : ∀ n i a, i < N → Inv i a → (∃ a', Inv (i + 1) a' ∧ F (n + 1) (nI i) a = F n (nI (i + 1)) a') ∨ ∃ T, F (n + 1) (nI i) a = some (v, T) ∧ Q T) (he : ∀ n a, Inv N a → ∃ T, F (n + 1) (nI N) a = some (v, T) ∧ Q T) : ∃ T, F cpFu (nI 0) a = some (v, T) ∧ Q T :=
  cp_lp0 (F := F) N Inv (fun o => ∃ T, o = some (v, T) ∧ Q T) h0 hN hs he
theorem cp_lpE {α ρ : Type} {F : Nat → Int32 → α → Option ρ} (N : Nat) (Inv : Nat → α → Prop) {r : Option ρ} {a : α} (h0 : Inv 0 a) (hN : N < 5000) (hs : ∀ n i a, i < N → Inv i a → (∃ a', Inv (i + 1) a' ∧ F (n + 1) (nI i) a = F n (nI (i + 1)) a') ∨ F (n + 1) (nI i) a = r) (he : ∀ n a, Inv N a → F (n + 1) (nI N) a = r) : F cpFu (nI 0) a = r :=
  cp_lp0 (F := F) N Inv (fun o => o = r) h0 hN hs he
/-- an inner loop, from i0 on, then what follows -/
theorem cp_lpK {α β : Type} {F : Nat → Int32 → α → Option β} (N i0 : Nat) (Inv : Nat → α → Prop) {K : α → Option β} {x : Int32} (hx : x = nI i0) {a : α} (h0 : Inv i0 a) (hi : i0 ≤ N) (hN : N < 5000) (hs : ∀ n i a, i < N → Inv i a → ∃ a', Inv (i + 1) a' ∧ F (n + 1) (nI i) a = F n (nI (i + 1)) a') (he : ∀ n a, Inv N a → F (n + 1) (nI N) a = K a) : ∃ a', Inv N a' ∧ F cpFu x a = K a' := by
  have := cp_lp F N Inv (fun o => ∃ a', Inv N a' ∧ o = K a') (fun n i a h1 h2 => Or.inl (hs n i a h1 h2)) (fun n a h => ⟨a, h, he n a h⟩) (N - i0) i0 cpFu a (by omega) (by show _ < 5000; omega) h0
  rw [hx]; exact this
