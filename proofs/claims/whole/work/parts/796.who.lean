/-! who can have carried -/
theorem up_iff {σ : Type} {step : Nat → σ → σ} {B : σ → Prop} {Q : Nat → Prop} (h : ∀ i s, B (step i s) ↔ B s ∨ Q i) : ∀ d i s, B (up step d i s) ↔ B s ∨ ∃ k, i ≤ k ∧ k < i + d ∧ Q k := by
  intro d
  induction d with
  | zero => intro i s; exact ⟨fun q => Or.inl q, fun q => by rcases q with q | ⟨k, k1, k2, -⟩; exact q; omega⟩
  | succ d ih =>
    intro i s
    rw [up, ih, h]
    constructor
    · rintro ((q | q) | ⟨k, k1, k2, k3⟩)
      · exact Or.inl q
      · exact Or.inr ⟨i, Nat.le_refl _, by omega, q⟩
      · exact Or.inr ⟨k, by omega, by omega, k3⟩
    · rintro (q | ⟨k, k1, k2, k3⟩)
      · exact Or.inl (Or.inl q)
      · by_cases e : k = i
        · rw [e] at k3; exact Or.inl (Or.inr k3)
        · exact Or.inr ⟨k, by omega, by omega, k3⟩
theorem up_iff0 {σ : Type} {step : Nat → σ → σ} {B : σ → Prop} {Q : Nat → Prop} (h : ∀ i s, B (step i s) ↔ B s ∨ Q i) (d : Nat) (s : σ) : B (up step d 0 s) ↔ B s ∨ ∃ k, k < d ∧ Q k := by
  rw [up_iff h]
  constructor
  · rintro (q | ⟨k, k1, k2, k3⟩)
    · exact Or.inl q
    · exact Or.inr ⟨k, by omega, k3⟩
  · rintro (q | ⟨k, k2, k3⟩)
    · exact Or.inl q
    · exact Or.inr ⟨k, Nat.zero_le _, by omega, k3⟩
def orI (p : Bool) (x s : Nat) : Nat := if p then s ||| x else s
theorem orI_lt {p : Bool} {x s n : Nat} (hs : s < 2 ^ n) (hx : x < 2 ^ n) : orI p x s < 2 ^ n := by
  unfold orI
  split
  · exact or_lt hs hx
  · exact hs
theorem orI_b {p : Bool} {x s y : Nat} : (orI p x s).testBit y = true ↔ s.testBit y = true ∨ (p = true ∧ x.testBit y = true) := by
  unfold orI
  cases p
  · exact ⟨fun h => Or.inl h, fun h => by rcases h with h | h; exact h; cases h.1⟩
  · rw [if_pos rfl, Nat.testBit_or, Bool.or_eq_true]
    exact ⟨fun h => by rcases h with h | h; exact Or.inl h; exact Or.inr ⟨rfl, h⟩, fun h => by rcases h with h | h; exact Or.inl h; exact Or.inr h.2⟩
section WHO
variable {D : cpD} {E : cpE} {S : cpS}
/-! the class: places one behind the other -/
def bk3 (D : cpD) (E : cpE) (c : Nat) (x : Int64) (a b t : Nat) : Nat := up (fun i t => orI (ftI D E c x a b i) (2 ^ b) t) 28 0 t
def bk2 (D : cpD) (E : cpE) (c : Nat) (x : Int64) (s a t : Nat) : Nat := if s.testBit a then up (fun b t => bk3 D E c x a b t) D.K 0 t else t
def bk (D : cpD) (E : cpE) (c : Nat) (x : Int64) (s : Nat) : Nat := up (fun a t => bk2 D E c x s a t) D.K 0 0
def us (D : cpD) (E : cpE) (c : Nat) (v : Nat → Int64) (a : Nat) : Nat → Nat
  | 0 => 2 ^ a
  | j + 1 => bk D E c (v j) (us D E c v a j)
theorem us_s (c : Nat) (v : Nat → Int64) (a j : Nat) : us D E c v a (j + 1) = bk D E c (v j) (us D E c v a j) := rfl
theorem bk3_lt {c a b t : Nat} {x : Int64} (hb : b < D.K) (h : t < 2 ^ D.K) : bk3 D E c x a b t < 2 ^ D.K := up_inv (fun i t => orI (ftI D E c x a b i) (2 ^ b) t) 28 (fun _ t => t < 2 ^ D.K) (fun i t _ h => orI_lt h (two_lt hb)) 28 0 t (by omega) h
theorem bk2_lt {c s a t : Nat} {x : Int64} (h : t < 2 ^ D.K) : bk2 D E c x s a t < 2 ^ D.K := by
  unfold bk2
  split
  · exact up_inv (fun b t => bk3 D E c x a b t) D.K (fun _ t => t < 2 ^ D.K) (fun b t hb h => bk3_lt hb h) D.K 0 t (by omega) h
  · exact h
theorem bk_lt {c s : Nat} {x : Int64} : bk D E c x s < 2 ^ D.K := up_inv (fun a t => bk2 D E c x s a t) D.K (fun _ t => t < 2 ^ D.K) (fun a t _ h => bk2_lt h) D.K 0 0 (by omega) (Nat.two_pow_pos _)
theorem us_lt {c a j : Nat} {v : Nat → Int64} (ha : a < D.K) : us D E c v a j < 2 ^ D.K := by
  cases j with
  | zero => exact two_lt ha
  | succ j => exact bk_lt
theorem bk_b {c s y : Nat} {x : Int64} : (bk D E c x s).testBit y = true ↔ ∃ a, a < D.K ∧ s.testBit a = true ∧ y < D.K ∧ ∃ i, i < 28 ∧ ftI D E c x a y i = true := by
  have h3 : ∀ a b t, (bk3 D E c x a b t).testBit y = true ↔ t.testBit y = true ∨ (b = y ∧ ∃ i, i < 28 ∧ ftI D E c x a b i = true) := fun a b t => by
    unfold bk3
    refine (up_iff0 (step := fun i t => orI (ftI D E c x a b i) (2 ^ b) t) (B := fun t => t.testBit y = true) (Q := fun i => ftI D E c x a b i = true ∧ (2 ^ b).testBit y = true) (fun i t => orI_b) 28 t).trans ?_
    rw [Nat.testBit_two_pow, decide_eq_true_eq]
    constructor
    · rintro (h | ⟨k, h1, h2, h3⟩)
      · exact Or.inl h
      · exact Or.inr ⟨h3, k, h1, h2⟩
    · rintro (h | ⟨h3, k, h1, h2⟩)
      · exact Or.inl h
      · exact Or.inr ⟨k, h1, h2, h3⟩
  have h2 : ∀ a t, (bk2 D E c x s a t).testBit y = true ↔ t.testBit y = true ∨ (s.testBit a = true ∧ y < D.K ∧ ∃ i, i < 28 ∧ ftI D E c x a y i = true) := fun a t => by
    unfold bk2
    by_cases hs : s.testBit a = true
    · rw [if_pos hs]
      refine (up_iff0 (step := fun b t => bk3 D E c x a b t) (B := fun t => t.testBit y = true) (fun b t => h3 a b t) D.K t).trans ?_
      constructor
      · rintro (h | ⟨k, h1, h2, i, z3, z4⟩)
        · exact Or.inl h
        · rw [h2] at z4; exact Or.inr ⟨hs, h2 ▸ h1, i, z3, z4⟩
      · rintro (h | ⟨-, h1, i, h3, h4⟩)
        · exact Or.inl h
        · exact Or.inr ⟨y, h1, rfl, i, h3, h4⟩
    · rw [if_neg hs]
      exact ⟨fun h => Or.inl h, fun h => by rcases h with h | h; exact h; exact absurd h.1 hs⟩
  unfold bk
  refine (up_iff0 (step := fun a t => bk2 D E c x s a t) (B := fun t => t.testBit y = true) (fun a t => h2 a t) D.K 0).trans ?_
  rw [Nat.zero_testBit]
  constructor
  · rintro (h | ⟨k, h1, h2, h3⟩)
    · cases h
    · exact ⟨k, h1, h2, h3⟩
  · rintro ⟨k, h1, h2, h3⟩
    exact Or.inr ⟨k, h1, h2, h3⟩
theorem c_beh44 (hD : D.WF) {c n a b j t : Nat} {v : Nat → Int64} (w : clw D E c n v S) (hn : n ≤ 8) (hj : j < n) (ha : a < D.K) (hb : b < D.K) (ht : t < 2 ^ D.K) (x2 : Int32) (k5 k20 : Int32 → Int32 → cpS → Option (Int32 × cpS)) : fX8_placesBehind_44 (nI j) x2 (nI a) (nI b) k5 k20 cpFu (nI t) (nI 0) S = k20 (nI (bk3 D E c (v j) a b t)) (nI (b + 1)) S := by
  have k6 := hD.k6
  have kk : 2 ^ D.K < 2 ^ 31 := Nat.pow_lt_pow_right (by decide) (by omega)
  have kb : 2 ^ b < 2 ^ D.K := two_lt hb
  refine up_lp (F := fun f i (x : Int32) => fX8_placesBehind_44 (nI j) x2 (nI a) (nI b) k5 k20 f x i S) 28 (fun i t => orI (ftI D E c (v j) a b i) (2 ^ b) t) (fun _ t => t < 2 ^ D.K) (fun t => nI t) (K := fun t => k20 (nI t) (nI (b + 1)) S) (by decide) (fun f i t hi h => ⟨?_, orI_lt h kb⟩) (fun f t _ => ?_) (i0 := 0) (s := t) (Nat.zero_le _) ht
  · rw [fX8_placesBehind_44]
    unfold orI
    cases hf : ftI D E c (v j) a b i
    · simp (disch := omega) only [lit, lm1, nI_add, pk_mul, nm_eq, nm_eq', nm_lt, nm_lt', nm_le, nm_le', x_lt, x_le, x_eq, x_in, x_cl, x_div, x_sub, x_rem, x_min, x_max, x_and, x_or, x_xor, x_df, x_shl, bI_0, bI_1, bI_bo, lg_eq, toL_inj, ls_nI, decide_eq_false_iff_not, decide_eq_true_eq, Bool.true_eq_false, Bool.false_eq_true, bq, if_pos, if_neg, if_true, if_false, lq, Nat.reduceAdd, Nat.reduceMul, Nat.reduceSub, Nat.reduceDiv, Nat.reduceMod, c_wearOf hD w.1 ha hb hi, c_fits (show j < 8 by omega) (w.2.1 j hj), hf]
    · simp (disch := omega) only [lit, lm1, nI_add, pk_mul, nm_eq, nm_eq', nm_lt, nm_lt', nm_le, nm_le', x_lt, x_le, x_eq, x_in, x_cl, x_div, x_sub, x_rem, x_min, x_max, x_and, x_or, x_xor, x_df, x_shl, bI_0, bI_1, bI_bo, lg_eq, toL_inj, ls_nI, decide_eq_false_iff_not, decide_eq_true_eq, Bool.true_eq_false, Bool.false_eq_true, bq, if_pos, if_neg, if_true, if_false, lq, Nat.reduceAdd, Nat.reduceMul, Nat.reduceSub, Nat.reduceDiv, Nat.reduceMod, c_wearOf hD w.1 ha hb hi, c_fits (show j < 8 by omega) (w.2.1 j hj), hf]
  · rw [fX8_placesBehind_44]
    simp (disch := omega) only [lit, lm1, nI_add, pk_mul, nm_eq, nm_eq', nm_lt, nm_lt', nm_le, nm_le', x_lt, x_le, x_eq, x_in, x_cl, x_div, x_sub, x_rem, x_min, x_max, x_and, x_or, x_xor, x_df, x_shl, bI_0, bI_1, bI_bo, lg_eq, toL_inj, ls_nI, decide_eq_false_iff_not, decide_eq_true_eq, Bool.true_eq_false, Bool.false_eq_true, bq, if_pos, if_neg, if_true, if_false, lq, Nat.reduceAdd, Nat.reduceMul, Nat.reduceSub, Nat.reduceDiv, Nat.reduceMod]
theorem c_beh20 (hD : D.WF) (cS : cA D E S) {c n a j s t : Nat} {v : Nat → Int64} (w : clw D E c n v S) (hn : n ≤ 8) (hj : j < n) (ha : a < D.K) (hs : s < 2 ^ D.K) (ht : t < 2 ^ D.K) (k5 : Int32 → Int32 → cpS → Option (Int32 × cpS)) : fX8_placesBehind_20 (nI j) (nI s) (nI a) k5 cpFu (nI t) (nI 0) S = k5 (nI (bk2 D E c (v j) s a t)) (nI (a + 1)) S := by
  have k6 := hD.k6
  have k1 := hD.k1
  have kk : 2 ^ D.K < 2 ^ 31 := Nat.pow_lt_pow_right (by decide) (by omega)
  unfold bk2
  cases hb : s.testBit a
  · rw [show cpFu = 4999 + 1 from rfl, fX8_placesBehind_20]
    unfold fX4_places
    simp (disch := omega) only [lit, lm1, nI_add, pk_mul, nm_eq, nm_eq', nm_lt, nm_lt', nm_le, nm_le', x_lt, x_le, x_eq, x_in, x_cl, x_div, x_sub, x_rem, x_min, x_max, x_and, x_or, x_xor, x_df, x_shl, bI_0, bI_1, bI_bo, lg_eq, toL_inj, ls_nI, decide_eq_false_iff_not, decide_eq_true_eq, Bool.true_eq_false, Bool.false_eq_true, bq, if_pos, if_neg, if_true, if_false, lq, Nat.reduceAdd, Nat.reduceMul, Nat.reduceSub, Nat.reduceDiv, Nat.reduceMod, cS.K, e_isIn, hb]
  · rw [if_pos rfl]
    refine up_lp (F := fun f b (x : Int32) => fX8_placesBehind_20 (nI j) (nI s) (nI a) k5 f x b S) D.K (fun b t => bk3 D E c (v j) a b t) (fun _ t => t < 2 ^ D.K) (fun t => nI t) (K := fun t => k5 (nI t) (nI (a + 1)) S) (by omega) (fun f b t hb' h => ⟨?_, bk3_lt hb' h⟩) (fun f t _ => ?_) (i0 := 0) (s := t) (Nat.zero_le _) ht
    · have := c_beh44 hD w hn hj ha hb' h (nI s) k5 (fX8_placesBehind_20 (nI j) (nI s) (nI a) k5 f)
      rw [fX8_placesBehind_20]
      unfold fX4_places
      simp (disch := omega) only [lit, lm1, nI_add, pk_mul, nm_eq, nm_eq', nm_lt, nm_lt', nm_le, nm_le', x_lt, x_le, x_eq, x_in, x_cl, x_div, x_sub, x_rem, x_min, x_max, x_and, x_or, x_xor, x_df, x_shl, bI_0, bI_1, bI_bo, lg_eq, toL_inj, ls_nI, decide_eq_false_iff_not, decide_eq_true_eq, Bool.true_eq_false, Bool.false_eq_true, bq, if_pos, if_neg, if_true, if_false, lq, Nat.reduceAdd, Nat.reduceMul, Nat.reduceSub, Nat.reduceDiv, Nat.reduceMod, cS.K, e_isIn, hb]
      exact this
    · rw [fX8_placesBehind_20]
      unfold fX4_places
      simp (disch := omega) only [lit, lm1, nI_add, pk_mul, nm_eq, nm_eq', nm_lt, nm_lt', nm_le, nm_le', x_lt, x_le, x_eq, x_in, x_cl, x_div, x_sub, x_rem, x_min, x_max, x_and, x_or, x_xor, x_df, x_shl, bI_0, bI_1, bI_bo, lg_eq, toL_inj, ls_nI, decide_eq_false_iff_not, decide_eq_true_eq, Bool.true_eq_false, Bool.false_eq_true, bq, if_pos, if_neg, if_true, if_false, lq, Nat.reduceAdd, Nat.reduceMul, Nat.reduceSub, Nat.reduceDiv, Nat.reduceMod, cS.K]
theorem c_behind (hD : D.WF) (cS : cA D E S) {c n j s : Nat} {v : Nat → Int64} (w : clw D E c n v S) (hn : n ≤ 8) (hj : j < n) (hs : s < 2 ^ D.K) : fX8_placesBehind (nI j) (nI s) S = some (nI (bk D E c (v j) s), S) := by
  have k6 := hD.k6
  refine up_lp (F := fun f a (x : Int32) => fX8_placesBehind_5 (nI j) (nI s) f x a S) D.K (fun a t => bk2 D E c (v j) s a t) (fun _ t => t < 2 ^ D.K) (fun t => nI t) (K := fun t => some (nI t, S)) (by omega) (fun f a t ha h => ⟨?_, bk2_lt h⟩) (fun f t _ => ?_) (i0 := 0) (s := 0) (Nat.zero_le _) (Nat.two_pow_pos _)
  · have := c_beh20 hD cS w hn hj ha hs h (fX8_placesBehind_5 (nI j) (nI s) f)
    rw [fX8_placesBehind_5]
    unfold fX4_places
    simp (disch := omega) only [lit, lm1, nI_add, pk_mul, nm_eq, nm_eq', nm_lt, nm_lt', nm_le, nm_le', x_lt, x_le, x_eq, x_in, x_cl, x_div, x_sub, x_rem, x_min, x_max, x_and, x_or, x_xor, x_df, x_shl, bI_0, bI_1, bI_bo, lg_eq, toL_inj, ls_nI, decide_eq_false_iff_not, decide_eq_true_eq, Bool.true_eq_false, Bool.false_eq_true, bq, if_pos, if_neg, if_true, if_false, lq, Nat.reduceAdd, Nat.reduceMul, Nat.reduceSub, Nat.reduceDiv, Nat.reduceMod, cS.K]
    exact this
  · rw [fX8_placesBehind_5]
    unfold fX4_places
    simp (disch := omega) only [lit, lm1, nI_add, pk_mul, nm_eq, nm_eq', nm_lt, nm_lt', nm_le, nm_le', x_lt, x_le, x_eq, x_in, x_cl, x_div, x_sub, x_rem, x_min, x_max, x_and, x_or, x_xor, x_df, x_shl, bI_0, bI_1, bI_bo, lg_eq, toL_inj, ls_nI, decide_eq_false_iff_not, decide_eq_true_eq, Bool.true_eq_false, Bool.false_eq_true, bq, if_pos, if_neg, if_true, if_false, lq, Nat.reduceAdd, Nat.reduceMul, Nat.reduceSub, Nat.reduceDiv, Nat.reduceMod, cS.K]
/-! people -/
def gBb (D : cpD) (E : cpE) (c : Nat) (v : Nat → Int64) (n j a i b : Nat) : Bool := ftI D E c (v j) a b i && decide (0 < rwD D E c v (n - (j + 1)) (j + 1) b)
def hb1 (D : cpD) (E : cpE) (c : Nat) (v : Nat → Int64) (n j i s a : Nat) : Bool := s.testBit a && (ff (gBb D E c v n j a i) D.K 0).isSome
def hb (D : cpD) (E : cpE) (c : Nat) (v : Nat → Int64) (n j i s : Nat) : Bool := (ff (hb1 D E c v n j i s) D.K 0).isSome
def peo (D : cpD) (E : cpE) (c : Nat) (v : Nat → Int64) (n j s : Nat) : Nat := up (fun i x => orI (hb D E c v n j i s) (2 ^ plN i ||| 2 ^ poN i) x) 28 0 0
theorem ff_iff {p : Nat → Bool} {N : Nat} : (ff p N 0).isSome = true ↔ ∃ k, k < N ∧ p k = true := by
  cases h : ff p N 0 with
  | none =>
    exact ⟨fun q => (by cases q), fun ⟨k, k1, k2⟩ => by have := (ff_none N 0).mp h k (by omega) (by omega); rw [k2] at this; cases this⟩
  | some k =>
    obtain ⟨-, k2, k3, -⟩ := (ff_some _ _ _).mp h
    exact ⟨fun _ => ⟨k, by omega, k3⟩, fun _ => rfl⟩
theorem hb_b {c n j i s : Nat} {v : Nat → Int64} : hb D E c v n j i s = true ↔ ∃ a, a < D.K ∧ s.testBit a = true ∧ ∃ b, b < D.K ∧ ftI D E c (v j) a b i = true ∧ 0 < rwD D E c v (n - (j + 1)) (j + 1) b := by
  unfold hb
  rw [ff_iff]
  constructor
  · rintro ⟨a, a1, a2⟩
    unfold hb1 at a2
    rw [Bool.and_eq_true, ff_iff] at a2
    obtain ⟨a2, b, b1, b2⟩ := a2
    unfold gBb at b2
    rw [Bool.and_eq_true, decide_eq_true_eq] at b2
    exact ⟨a, a1, a2, b, b1, b2.1, b2.2⟩
  · rintro ⟨a, a1, a2, b, b1, b2, b3⟩
    refine ⟨a, a1, ?_⟩
    unfold hb1
    rw [Bool.and_eq_true, ff_iff]
    refine ⟨a2, b, b1, ?_⟩
    unfold gBb
    rw [b2, decide_eq_true b3]; rfl
theorem c_have18 (hD : D.WF) (cS : cA D E S) {c n a j i s : Nat} {v : Nat → Int64} (w : clw D E c n v S) (hn : n ≤ 8) (hj : j < n) (ha : a < D.K) (hi : i < 28) (hs : s < 2 ^ D.K) (k3 : Int32 → cpS → Option (Int32 × cpS)) : fX8_canHaveBeen_18 (nI j) (nI i) (nI s) (nI a) k3 cpFu (nI 0) S = if hb1 D E c v n j i s a = true then some (nI 1, S) else k3 (nI (a + 1)) S := by
  have k6 := hD.k6
  have k1 := hD.k1
  have kk : 2 ^ D.K < 2 ^ 31 := Nat.pow_lt_pow_right (by decide) (by omega)
  unfold hb1
  cases hb' : s.testBit a
  · rw [show cpFu = 4999 + 1 from rfl, fX8_canHaveBeen_18]
    unfold fX4_places
    simp (disch := omega) only [lit, lm1, nI_add, pk_mul, nm_eq, nm_eq', nm_lt, nm_lt', nm_le, nm_le', x_lt, x_le, x_eq, x_in, x_cl, x_div, x_sub, x_rem, x_min, x_max, x_and, x_or, x_xor, x_df, x_shl, bI_0, bI_1, bI_bo, lg_eq, toL_inj, ls_nI, decide_eq_false_iff_not, decide_eq_true_eq, Bool.true_eq_false, Bool.false_eq_true, bq, if_pos, if_neg, if_true, if_false, lq, Nat.reduceAdd, Nat.reduceMul, Nat.reduceSub, Nat.reduceDiv, Nat.reduceMod, cS.K, e_isIn, hb', Bool.false_and]
  · rw [Bool.true_and]
    refine ff_lp (F := fun f b (T : cpS) => fX8_canHaveBeen_18 (nI j) (nI i) (nI s) (nI a) k3 f b T) D.K (gBb D E c v n j a i) (fun _ T => T = S) (fun o r => r = if o.isSome = true then some (nI 1, S) else k3 (nI (a + 1)) S) (by omega) (fun f b T hb hT hp => ⟨S, ?_, rfl⟩) (fun f b T hb hT hp => ?_) (fun f T hT => ?_) (i0 := 0) (a := S) (Nat.zero_le _) rfl
    · subst hT
      have hr := w.2.2 (j + 1) b (by omega) hb
      have hlt := rwD_lt (E := E) (c := c) (v := v) (d := n - (j + 1)) (j := j + 1) (a := b) hD (by omega)
      rw [fX8_canHaveBeen_18]
      unfold fX4_places fX8_rowsFrom
      unfold gBb at hp
      cases hf : ftI D E c (v j) a b i
      · simp (disch := omega) only [lit, lm1, nI_add, pk_mul, nm_eq, nm_eq', nm_lt, nm_lt', nm_le, nm_le', x_lt, x_le, x_eq, x_in, x_cl, x_div, x_sub, x_rem, x_min, x_max, x_and, x_or, x_xor, x_df, x_shl, bI_0, bI_1, bI_bo, lg_eq, toL_inj, ls_nI, decide_eq_false_iff_not, decide_eq_true_eq, Bool.true_eq_false, Bool.false_eq_true, bq, if_pos, if_neg, if_true, if_false, lq, Nat.reduceAdd, Nat.reduceMul, Nat.reduceSub, Nat.reduceDiv, Nat.reduceMod, cS.K, e_isIn, hb', c_wearOf hD w.1 ha hb hi, c_fits (show j < 8 by omega) (w.2.1 j hj), hf]
      · have h0 : rwD D E c v (n - (j + 1)) (j + 1) b = 0 := by
          rw [hf, Bool.true_and] at hp
          have := of_decide_eq_false hp
          omega
        rw [h0] at hr
        have hz : (lg_cmp (lN 0) (0 : Int64) ≤ nI 0) = True := eq_true (by rw [lg_0 (by decide)])
        simp (disch := omega) only [lit, lm1, nI_add, pk_mul, nm_eq, nm_eq', nm_lt, nm_lt', nm_le, nm_le', x_lt, x_le, x_eq, x_in, x_cl, x_div, x_sub, x_rem, x_min, x_max, x_and, x_or, x_xor, x_df, x_shl, bI_0, bI_1, bI_bo, lg_eq, toL_inj, ls_nI, decide_eq_false_iff_not, decide_eq_true_eq, Bool.true_eq_false, Bool.false_eq_true, bq, if_pos, if_neg, if_true, if_false, lq, Nat.reduceAdd, Nat.reduceMul, Nat.reduceSub, Nat.reduceDiv, Nat.reduceMod, cS.K, e_isIn, hb', c_wearOf hD w.1 ha hb hi, c_fits (show j < 8 by omega) (w.2.1 j hj), hf, hr, hz]
    · subst hT
      have hr := w.2.2 (j + 1) b (by omega) hb
      have hlt := rwD_lt (E := E) (c := c) (v := v) (d := n - (j + 1)) (j := j + 1) (a := b) hD (by omega)
      unfold gBb at hp
      rw [Bool.and_eq_true, decide_eq_true_eq] at hp
      have hz : (lg_cmp (lN (rwD D E c v (n - (j + 1)) (j + 1) b)) (0 : Int64) ≤ nI 0) = False := eq_false (by rw [lg_0 hlt]; omega)
      rw [fX8_canHaveBeen_18]
      unfold fX4_places fX8_rowsFrom
      simp (disch := omega) only [lit, lm1, nI_add, pk_mul, nm_eq, nm_eq', nm_lt, nm_lt', nm_le, nm_le', x_lt, x_le, x_eq, x_in, x_cl, x_div, x_sub, x_rem, x_min, x_max, x_and, x_or, x_xor, x_df, x_shl, bI_0, bI_1, bI_bo, lg_eq, toL_inj, ls_nI, decide_eq_false_iff_not, decide_eq_true_eq, Bool.true_eq_false, Bool.false_eq_true, bq, if_pos, if_neg, if_true, if_false, lq, Nat.reduceAdd, Nat.reduceMul, Nat.reduceSub, Nat.reduceDiv, Nat.reduceMod, cS.K, e_isIn, hb', c_wearOf hD w.1 ha hb hi, c_fits (show j < 8 by omega) (w.2.1 j hj), hp.1, hr, hz]
      rfl
    · subst hT
      rw [fX8_canHaveBeen_18]
      unfold fX4_places
      simp (disch := omega) only [lit, lm1, nI_add, pk_mul, nm_eq, nm_eq', nm_lt, nm_lt', nm_le, nm_le', x_lt, x_le, x_eq, x_in, x_cl, x_div, x_sub, x_rem, x_min, x_max, x_and, x_or, x_xor, x_df, x_shl, bI_0, bI_1, bI_bo, lg_eq, toL_inj, ls_nI, decide_eq_false_iff_not, decide_eq_true_eq, Bool.true_eq_false, Bool.false_eq_true, bq, if_pos, if_neg, if_true, if_false, lq, Nat.reduceAdd, Nat.reduceMul, Nat.reduceSub, Nat.reduceDiv, Nat.reduceMod, cS.K]
      rfl
theorem c_have (hD : D.WF) (cS : cA D E S) {c n j i s : Nat} {v : Nat → Int64} (w : clw D E c n v S) (hn : n ≤ 8) (hj : j < n) (hi : i < 28) (hs : s < 2 ^ D.K) : fX8_canHaveBeen (nI j) (nI i) (nI s) S = some (bI (hb D E c v n j i s), S) := by
  have k6 := hD.k6
  refine ff_lp (F := fun f a (T : cpS) => fX8_canHaveBeen_3 (nI j) (nI i) (nI s) f a T) D.K (hb1 D E c v n j i s) (fun _ T => T = S) (fun o r => r = some (bI o.isSome, S)) (by omega) (fun f a T ha hT hp => ⟨S, ?_, rfl⟩) (fun f a T ha hT hp => ?_) (fun f T hT => ?_) (i0 := 0) (a := S) (Nat.zero_le _) rfl
  · subst hT
    have := c_have18 hD cS w hn hj ha hi hs (fX8_canHaveBeen_3 (nI j) (nI i) (nI s) f)
    rw [if_neg (by rw [hp]; exact Bool.false_ne_true)] at this
    rw [fX8_canHaveBeen_3]
    unfold fX4_places
    simp (disch := omega) only [lit, lm1, nI_add, pk_mul, nm_eq, nm_eq', nm_lt, nm_lt', nm_le, nm_le', x_lt, x_le, x_eq, x_in, x_cl, x_div, x_sub, x_rem, x_min, x_max, x_and, x_or, x_xor, x_df, x_shl, bI_0, bI_1, bI_bo, lg_eq, toL_inj, ls_nI, decide_eq_false_iff_not, decide_eq_true_eq, Bool.true_eq_false, Bool.false_eq_true, bq, if_pos, if_neg, if_true, if_false, lq, Nat.reduceAdd, Nat.reduceMul, Nat.reduceSub, Nat.reduceDiv, Nat.reduceMod, cS.K]
    exact this
  · subst hT
    have := c_have18 hD cS w hn hj ha hi hs (fX8_canHaveBeen_3 (nI j) (nI i) (nI s) f)
    rw [if_pos hp] at this
    rw [fX8_canHaveBeen_3]
    unfold fX4_places
    simp (disch := omega) only [lit, lm1, nI_add, pk_mul, nm_eq, nm_eq', nm_lt, nm_lt', nm_le, nm_le', x_lt, x_le, x_eq, x_in, x_cl, x_div, x_sub, x_rem, x_min, x_max, x_and, x_or, x_xor, x_df, x_shl, bI_0, bI_1, bI_bo, lg_eq, toL_inj, ls_nI, decide_eq_false_iff_not, decide_eq_true_eq, Bool.true_eq_false, Bool.false_eq_true, bq, if_pos, if_neg, if_true, if_false, lq, Nat.reduceAdd, Nat.reduceMul, Nat.reduceSub, Nat.reduceDiv, Nat.reduceMod, cS.K]
    exact this
  · subst hT
    rw [fX8_canHaveBeen_3]
    unfold fX4_places
    simp (disch := omega) only [lit, lm1, nI_add, pk_mul, nm_eq, nm_eq', nm_lt, nm_lt', nm_le, nm_le', x_lt, x_le, x_eq, x_in, x_cl, x_div, x_sub, x_rem, x_min, x_max, x_and, x_or, x_xor, x_df, x_shl, bI_0, bI_1, bI_bo, lg_eq, toL_inj, ls_nI, decide_eq_false_iff_not, decide_eq_true_eq, Bool.true_eq_false, Bool.false_eq_true, bq, if_pos, if_neg, if_true, if_false, lq, Nat.reduceAdd, Nat.reduceMul, Nat.reduceSub, Nat.reduceDiv, Nat.reduceMod, cS.K]
    rfl
theorem c_people40 (hD : D.WF) (cS : cA D E S) {c n j s : Nat} {v : Nat → Int64} (w : clw D E c n v S) (hn : n ≤ 8) (hj : j < n) (hs : s < 2 ^ D.K) : fX8_peopleAt_40 (nI j) (nI s) cpFu (nI 0) (nI 0) S = some (nI (peo D E c v n j s), S) := by
  refine up_lp (F := fun f i (x : Int32) => fX8_peopleAt_40 (nI j) (nI s) f x i S) 28 (fun i x => orI (hb D E c v n j i s) (2 ^ plN i ||| 2 ^ poN i) x) (fun _ t => t < 2 ^ 8) (fun t => nI t) (K := fun t => some (nI t, S)) (by decide) (fun f i t hi h => ?_) (fun f t _ => ?_) (i0 := 0) (s := 0) (Nat.zero_le _) (by decide)
  · obtain ⟨g1, g2, g3, g4⟩ := p28 i hi
    have m1 : 2 ^ plN i < 2 ^ 8 := two_lt (by omega)
    have m2 : 2 ^ poN i < 2 ^ 8 := two_lt (by omega)
    have m3 : 2 ^ plN i ||| 2 ^ poN i < 2 ^ 8 := or_lt m1 m2
    refine ⟨?_, orI_lt h m3⟩
    rw [fX8_peopleAt_40]
    unfold orI
    cases hf : hb D E c v n j i s
    · simp (disch := omega) only [lit, lm1, nI_add, pk_mul, nm_eq, nm_eq', nm_lt, nm_lt', nm_le, nm_le', x_lt, x_le, x_eq, x_in, x_cl, x_div, x_sub, x_rem, x_min, x_max, x_and, x_or, x_xor, x_df, x_shl, bI_0, bI_1, bI_bo, lg_eq, toL_inj, ls_nI, decide_eq_false_iff_not, decide_eq_true_eq, Bool.true_eq_false, Bool.false_eq_true, bq, if_pos, if_neg, if_true, if_false, lq, Nat.reduceAdd, Nat.reduceMul, Nat.reduceSub, Nat.reduceDiv, Nat.reduceMod, c_have hD cS w hn hj hi hs, hf]
    · simp (disch := omega) only [lit, lm1, nI_add, pk_mul, nm_eq, nm_eq', nm_lt, nm_lt', nm_le, nm_le', x_lt, x_le, x_eq, x_in, x_cl, x_div, x_sub, x_rem, x_min, x_max, x_and, x_or, x_xor, x_df, x_shl, bI_0, bI_1, bI_bo, lg_eq, toL_inj, ls_nI, decide_eq_false_iff_not, decide_eq_true_eq, Bool.true_eq_false, Bool.false_eq_true, bq, if_pos, if_neg, if_true, if_false, lq, Nat.reduceAdd, Nat.reduceMul, Nat.reduceSub, Nat.reduceDiv, Nat.reduceMod, c_have hD cS w hn hj hi hs, hf, g1, g2]
  · rw [fX8_peopleAt_40]
    simp (disch := omega) only [lit, lm1, nI_add, pk_mul, nm_eq, nm_eq', nm_lt, nm_lt', nm_le, nm_le', x_lt, x_le, x_eq, x_in, x_cl, x_div, x_sub, x_rem, x_min, x_max, x_and, x_or, x_xor, x_df, x_shl, bI_0, bI_1, bI_bo, lg_eq, toL_inj, ls_nI, decide_eq_false_iff_not, decide_eq_true_eq, Bool.true_eq_false, Bool.false_eq_true, bq, if_pos, if_neg, if_true, if_false, lq, Nat.reduceAdd, Nat.reduceMul, Nat.reduceSub, Nat.reduceDiv, Nat.reduceMod]
theorem c_peopleAt (hD : D.WF) (cS : cA D E S) {c n i a : Nat} {v : Nat → Int64} (w : clw D E c n v S) (hn : n ≤ 8) (hi : i < n) (ha : a < D.K) : fX8_peopleAt (nI i) (nI a) S = some (nI (peo D E c v n i (us D E c v a i)), S) := by
  have k6 := hD.k6
  have : ∀ d j f, j + d = i → d < f → fX8_peopleAt_7 (nI i) f (nI (us D E c v a j)) (nI j) S = some (nI (peo D E c v n i (us D E c v a i)), S) := by
    intro d
    induction d with
    | zero =>
      intro j f h hf
      obtain ⟨f, rfl⟩ : ∃ g, f = g + 1 := ⟨f - 1, by omega⟩
      obtain rfl : j = i := by omega
      rw [fX8_peopleAt_7]
      simp (disch := omega) only [lit, lm1, nI_add, pk_mul, nm_eq, nm_eq', nm_lt, nm_lt', nm_le, nm_le', x_lt, x_le, x_eq, x_in, x_cl, x_div, x_sub, x_rem, x_min, x_max, x_and, x_or, x_xor, x_df, x_shl, bI_0, bI_1, bI_bo, lg_eq, toL_inj, ls_nI, decide_eq_false_iff_not, decide_eq_true_eq, Bool.true_eq_false, Bool.false_eq_true, bq, if_pos, if_neg, if_true, if_false, lq, Nat.reduceAdd, Nat.reduceMul, Nat.reduceSub, Nat.reduceDiv, Nat.reduceMod]
      exact c_people40 hD cS w hn hi (us_lt ha)
    | succ d ih =>
      intro j f h hf
      obtain ⟨f, rfl⟩ : ∃ g, f = g + 1 := ⟨f - 1, by omega⟩
      have := ih (j + 1) f (by omega) (by omega)
      rw [us_s] at this
      rw [fX8_peopleAt_7]
      simp (disch := omega) only [lit, lm1, nI_add, pk_mul, nm_eq, nm_eq', nm_lt, nm_lt', nm_le, nm_le', x_lt, x_le, x_eq, x_in, x_cl, x_div, x_sub, x_rem, x_min, x_max, x_and, x_or, x_xor, x_df, x_shl, bI_0, bI_1, bI_bo, lg_eq, toL_inj, ls_nI, decide_eq_false_iff_not, decide_eq_true_eq, Bool.true_eq_false, Bool.false_eq_true, bq, if_pos, if_neg, if_true, if_false, lq, Nat.reduceAdd, Nat.reduceMul, Nat.reduceSub, Nat.reduceDiv, Nat.reduceMod, c_behind hD cS w hn (show j < n by omega) (us_lt ha)]
      exact this
  unfold fX8_peopleAt
  simp (disch := omega) only [lit, lm1, nI_add, pk_mul, nm_eq, nm_eq', nm_lt, nm_lt', nm_le, nm_le', x_lt, x_le, x_eq, x_in, x_cl, x_div, x_sub, x_rem, x_min, x_max, x_and, x_or, x_xor, x_df, x_shl, bI_0, bI_1, bI_bo, lg_eq, toL_inj, ls_nI, decide_eq_false_iff_not, decide_eq_true_eq, Bool.true_eq_false, Bool.false_eq_true, bq, if_pos, if_neg, if_true, if_false, lq, Nat.reduceAdd, Nat.reduceMul, Nat.reduceSub, Nat.reduceDiv, Nat.reduceMod]
  exact this i 0 cpFu (by omega) (by show _ < 5000; omega)
end WHO
