/-! forcing, nearer and nearer -/
def ol (x y : Option Nat) : Bool := match x with
  | none => false
  | some n => match y with
    | none => true
    | some m => decide (n < m)
def ole (x y : Option Nat) : Prop := ∀ m, y = some m → ∃ m', m' ≤ m ∧ x = some m'
theorem ole.rf (x : Option Nat) : ole x x := fun m h => ⟨m, Nat.le_refl _, h⟩
theorem ole.tr {x y z : Option Nat} (h : ole x y) (g : ole y z) : ole x z := fun m hm => by
  obtain ⟨a, a1, a2⟩ := g m hm
  obtain ⟨b, b1, b2⟩ := h a a2
  exact ⟨b, by omega, b2⟩
theorem ol_le {x y : Option Nat} (h : ol x y = true) : ole x y := fun m hm => by
  unfold ol at h
  cases x with
  | none => cases h
  | some n => rw [hm] at h; exact ⟨n, Nat.le_of_lt (of_decide_eq_true h), rfl⟩
theorem nol_le {x y : Option Nat} (h : ol x y = false) : ole y x := fun m hm => by
  unfold ol at h
  rw [hm] at h
  cases y with
  | none => cases h
  | some n => have := of_decide_eq_false h; exact ⟨n, by omega, rfl⟩
theorem nol_eq {x y : Option Nat} (h : ol x y = false) (g : ole x y) : x = y := by
  cases y with
  | some m =>
    obtain ⟨m', h1, h2⟩ := g m rfl
    rw [h2] at h
    have := of_decide_eq_false (show decide (m' < m) = false from h)
    rw [h2, show m' = m by omega]
  | none =>
    cases x with
    | none => rfl
    | some n => cases h
def mnS (D : cpD) (E : cpE) (c : Nat) (w : Nat → Option Nat) (a b : Nat) (x : Option Nat) : Option Nat := if cb D E c a b then (match w b with
  | none => x
  | some n => if ol (some (n + 1)) x then some (n + 1) else x) else x
def mn (D : cpD) (E : cpE) (c : Nat) (w : Nat → Option Nat) (a : Nat) (x : Option Nat) : Option Nat := up (mnS D E c w a) D.K 0 x
def oaS (D : cpD) (E : cpE) (c : Nat) (u : Nat → Option Nat) (a b : Nat) (x : Option Nat) : Option Nat := if cb D E c a b then (match u b with
  | none => none
  | some n => match x with
    | none => none
    | some m => if n + 1 ≤ m then some m else some (n + 1)) else x
def oa (D : cpD) (E : cpE) (c : Nat) (u : Nat → Option Nat) (a : Nat) : Option Nat := up (oaS D E c u a) D.K 0 (some 0)
abbrev fzT : Type := (Nat → Option Nat) × (Nat → Option Nat) × Bool
def fs (D : cpD) (E : cpE) (c to a : Nat) (z : fzT) : fzT := if a = to then z else (fun q => if q = a then mn D E c z.2.1 a (z.1 a) else z.1 q, fun q => if q = a then (if ol (oa D E c z.1 a) (z.2.1 a) then oa D E c z.1 a else z.2.1 a) else z.2.1 q, z.2.2 || (ol (mn D E c z.2.1 a (z.1 a)) (z.1 a) || ol (oa D E c z.1 a) (z.2.1 a)))
def fP (D : cpD) (E : cpE) (c to : Nat) (z : fzT) : fzT := up (fs D E c to) D.K 0 z
section F3
variable {D : cpD} {E : cpE} {S : cpS}
theorem mn_le (w : Nat → Option Nat) (c a : Nat) (x : Option Nat) : ole (mn D E c w a x) x ∧ ∀ b, b < D.K → cb D E c a b = true → ∀ n, w b = some n → ole (mn D E c w a x) (some (n + 1)) := by
  have st : ∀ b y, ole (mnS D E c w a b y) y ∧ (cb D E c a b = true → ∀ n, w b = some n → ole (mnS D E c w a b y) (some (n + 1))) := fun b y => by
    unfold mnS
    cases hc : cb D E c a b
    · exact ⟨ole.rf y, fun h => (by cases h)⟩
    · rw [if_pos rfl]
      cases hw : w b with
      | none => exact ⟨ole.rf y, fun _ n h => (by cases h)⟩
      | some n =>
        (try dsimp only)
        cases ho : ol (some (n + 1)) y
        · rw [if_neg Bool.false_ne_true]
          exact ⟨ole.rf y, fun _ n' h => by cases h; exact nol_le ho⟩
        · rw [if_pos rfl]
          exact ⟨ol_le ho, fun _ n' h => by cases h; exact ole.rf _⟩
  refine up_inv (mnS D E c w a) D.K (fun i y => ole y x ∧ ∀ b, b < i → cb D E c a b = true → ∀ n, w b = some n → ole y (some (n + 1))) (fun i y hi q => ?_) D.K 0 x (by omega) ⟨ole.rf x, fun b hb => absurd hb (by omega)⟩
  obtain ⟨q1, q2⟩ := q
  obtain ⟨s1, s2⟩ := st i y
  refine ⟨s1.tr q1, fun b hb hc n hn => ?_⟩
  by_cases e : b = i
  · rw [e] at hc hn; exact s2 hc n hn
  · exact s1.tr (q2 b (by omega) hc n hn)
theorem mn_src (w : Nat → Option Nat) (c a : Nat) (x : Option Nat) : ∀ m, mn D E c w a x = some m → x = some m ∨ ∃ b, b < D.K ∧ cb D E c a b = true ∧ ∃ n, w b = some n ∧ m = n + 1 := by
  refine up_inv (mnS D E c w a) D.K (fun i y => ∀ m, y = some m → x = some m ∨ ∃ b, b < D.K ∧ cb D E c a b = true ∧ ∃ n, w b = some n ∧ m = n + 1) (fun i y hi q m hm => ?_) D.K 0 x (by omega) (fun m hm => Or.inl hm)
  unfold mnS at hm
  cases hc : cb D E c a i
  · rw [hc] at hm; exact q m hm
  · rw [hc, if_pos rfl] at hm
    cases hw : w i with
    | none => rw [hw] at hm; exact q m hm
    | some n =>
      rw [hw] at hm
      (try dsimp only at hm)
      split at hm
      · cases hm; exact Or.inr ⟨i, hi, hc, n, hw, rfl⟩
      · exact q m hm
theorem oa_s (u : Nat → Option Nat) (c a : Nat) : ∀ M, oa D E c u a = some M → ∀ b, b < D.K → cb D E c a b = true → ∃ n, u b = some n ∧ n + 1 ≤ M := by
  refine up_inv (oaS D E c u a) D.K (fun i y => ∀ M, y = some M → ∀ b, b < i → cb D E c a b = true → ∃ n, u b = some n ∧ n + 1 ≤ M) (fun i y hi q M hM b hb hc => ?_) D.K 0 (some 0) (by omega) (fun M hM b hb => absurd hb (by omega))
  unfold oaS at hM
  cases hci : cb D E c a i
  · rw [hci] at hM
    have e : b ≠ i := fun e => by rw [e, hci] at hc; cases hc
    exact q M hM b (by omega) hc
  · rw [hci, if_pos rfl] at hM
    cases hu : u i with
    | none => rw [hu] at hM; cases hM
    | some n =>
      rw [hu] at hM
      (try dsimp only at hM)
      cases y with
      | none => cases hM
      | some m =>
        (try dsimp only at hM)
        by_cases e : b = i
        · rw [e]
          refine ⟨n, hu, ?_⟩
          split at hM
          · cases hM; assumption
          · cases hM; omega
        · obtain ⟨n', h1, h2⟩ := q m rfl b (by omega) hc
          refine ⟨n', h1, ?_⟩
          split at hM
          · cases hM; exact h2
          · cases hM; omega
theorem oa_b {u : Nat → Option Nat} {c a p : Nat} (h : ∀ b, b < D.K → cb D E c a b = true → ∃ n, n ≤ p ∧ u b = some n) : ∃ M, M ≤ p + 1 ∧ oa D E c u a = some M := by
  refine up_inv (oaS D E c u a) D.K (fun i y => ∃ M, M ≤ p + 1 ∧ y = some M) (fun i y hi q => ?_) D.K 0 (some 0) (by omega) ⟨0, by omega, rfl⟩
  obtain ⟨M, M1, M2⟩ := q
  unfold oaS
  cases hci : cb D E c a i
  · exact ⟨M, M1, M2⟩
  · obtain ⟨n, n1, n2⟩ := h i hi hci
    rw [if_pos rfl, n2, M2]
    (try dsimp only)
    split
    · exact ⟨M, M1, rfl⟩
    · exact ⟨n + 1, by omega, rfl⟩
def fIn (D : cpD) (E : cpE) (c to p : Nat) (z : fzT) : Prop := (∀ a n, z.1 a = some n → ∃ m, m ≤ n ∧ Dm D E c to a = some m) ∧ (∀ a n, z.2.1 a = some n → ∃ m, m ≤ n ∧ Do D E c to a = some m) ∧ (∀ a n, Dm D E c to a = some n → n ≤ p → z.1 a = some n) ∧ ∀ a n, Do D E c to a = some n → n ≤ p → z.2.1 a = some n
theorem xs (hD : D.WF) {c to p a m : Nat} {z : fzT} (ht : to < D.K) (ha : a < D.K) (h : fIn D E c to p z) (hm : mn D E c z.2.1 a (z.1 a) = some m) : ∃ m', m' ≤ m ∧ Dm D E c to a = some m' := by
  rcases mn_src _ _ _ _ m hm with e | ⟨b, hb, hc, n, hn, rfl⟩
  · exact h.1 a m e
  · obtain ⟨k, k1, k2⟩ := h.2.1 b n hn
    obtain ⟨q, q1, q2⟩ := M1 hD ht ha hb hc k2
    exact ⟨q, by omega, q2⟩
theorem cb_rf (c a : Nat) : cb D E c a a = true := by unfold cb; rw [decide_eq_true rfl]; rfl
theorem ys (hD : D.WF) {c to p a M : Nat} {z : fzT} (ht : to < D.K) (ha : a < D.K) (h : fIn D E c to p z) (hM : oa D E c z.1 a = some M) : ∃ m', m' ≤ M ∧ Do D E c to a = some m' := by
  have hs := oa_s _ _ _ M hM
  obtain ⟨n0, -, hn0⟩ := hs a ha (cb_rf c a)
  obtain ⟨q, q1, q2⟩ := O1 (n := M - 1) hD ht ha (fun b hb hc => by
    obtain ⟨n, n1, n2⟩ := hs b hb hc
    obtain ⟨k, k1, k2⟩ := h.1 b n n1
    exact ⟨k, by omega, k2⟩)
  exact ⟨q, by omega, q2⟩
theorem fs_1 {c to a q : Nat} {z : fzT} (h : a ≠ to) : (fs D E c to a z).1 q = if q = a then mn D E c z.2.1 a (z.1 a) else z.1 q := by unfold fs; rw [if_neg h]
theorem fs_2 {c to a q : Nat} {z : fzT} (h : a ≠ to) : (fs D E c to a z).2.1 q = if q = a then (if ol (oa D E c z.1 a) (z.2.1 a) then oa D E c z.1 a else z.2.1 a) else z.2.1 q := by unfold fs; rw [if_neg h]
theorem wl (x y : Option Nat) : ole (if ol x y then x else y) y ∧ ole (if ol x y then x else y) x := by
  cases h : ol x y
  · rw [if_neg Bool.false_ne_true]; exact ⟨ole.rf _, nol_le h⟩
  · rw [if_pos rfl]; exact ⟨ol_le h, ole.rf _⟩
theorem wsrc {x y : Option Nat} {n : Nat} (h : (if ol x y then x else y) = some n) : x = some n ∨ y = some n := by
  split at h
  · exact Or.inl h
  · exact Or.inr h
theorem fs_ok (hD : D.WF) {c to p a : Nat} {z : fzT} (ht : to < D.K) (ha : a < D.K) (h : fIn D E c to p z) : fIn D E c to p (fs D E c to a z) ∧ (∀ q n, z.1 q = some n → Dm D E c to q = some n → (fs D E c to a z).1 q = some n) ∧ (∀ q n, z.2.1 q = some n → Do D E c to q = some n → (fs D E c to a z).2.1 q = some n) ∧ (Dm D E c to a = some (p + 1) → (fs D E c to a z).1 a = some (p + 1)) ∧ (Do D E c to a = some (p + 1) → (fs D E c to a z).2.1 a = some (p + 1)) := by
  by_cases e : a = to
  · have ez : fs D E c to a z = z := by unfold fs; rw [if_pos e]
    rw [ez]
    refine ⟨h, fun q n h1 _ => h1, fun q n h1 _ => h1, fun hd => ?_, fun hd => ?_⟩
    · rw [Dm_0.mpr e] at hd; cases hd
    · rw [Do_0.mpr e] at hd; cases hd
  · have s1 : ∀ q n, (fs D E c to a z).1 q = some n → ∃ m, m ≤ n ∧ Dm D E c to q = some m := fun q n hn => by
      rw [fs_1 e] at hn
      split at hn
      · rename_i eq; rw [eq]; exact xs hD ht ha h hn
      · exact h.1 q n hn
    have s2 : ∀ q n, (fs D E c to a z).2.1 q = some n → ∃ m, m ≤ n ∧ Do D E c to q = some m := fun q n hn => by
      rw [fs_2 e] at hn
      split at hn
      · rename_i eq
        rw [eq]
        rcases wsrc hn with hn | hn
        · exact ys hD ht ha h hn
        · exact h.2.1 a n hn
      · exact h.2.1 q n hn
    have l1 : ∀ q, ole ((fs D E c to a z).1 q) (z.1 q) := fun q => by
      rw [fs_1 e]
      split
      · rename_i eq; rw [eq]; exact (mn_le _ _ _ _).1
      · exact ole.rf _
    have l2 : ∀ q, ole ((fs D E c to a z).2.1 q) (z.2.1 q) := fun q => by
      rw [fs_2 e]
      split
      · rename_i eq; rw [eq]; exact (wl _ _).1
      · exact ole.rf _
    have k1 : ∀ q n m, ole ((fs D E c to a z).1 q) (some m) → m ≤ n → Dm D E c to q = some n → (fs D E c to a z).1 q = some n := fun q n m ho hm hd => by
      obtain ⟨m', g1, g2⟩ := ho m rfl
      obtain ⟨m'', g3, g4⟩ := s1 q m' g2
      rw [hd] at g4; cases g4
      rw [g2, show m' = n by omega]
    have k2 : ∀ q n m, ole ((fs D E c to a z).2.1 q) (some m) → m ≤ n → Do D E c to q = some n → (fs D E c to a z).2.1 q = some n := fun q n m ho hm hd => by
      obtain ⟨m', g1, g2⟩ := ho m rfl
      obtain ⟨m'', g3, g4⟩ := s2 q m' g2
      rw [hd] at g4; cases g4
      rw [g2, show m' = n by omega]
    refine ⟨⟨s1, s2, fun q n hd hn => ?_, fun q n hd hn => ?_⟩, fun q n hz hd => ?_, fun q n hz hd => ?_, fun hd => ?_, fun hd => ?_⟩
    · have := l1 q; rw [h.2.2.1 q n hd hn] at this; exact k1 q n n this (Nat.le_refl _) hd
    · have := l2 q; rw [h.2.2.2 q n hd hn] at this; exact k2 q n n this (Nat.le_refl _) hd
    · have := l1 q; rw [hz] at this; exact k1 q n n this (Nat.le_refl _) hd
    · have := l2 q; rw [hz] at this; exact k2 q n n this (Nat.le_refl _) hd
    · obtain ⟨-, -, b, hb, hc, hb2⟩ := M2 hD ht hd
      have := (mn_le (D := D) (E := E) z.2.1 c a (z.1 a)).2 b hb hc p (h.2.2.2 b p hb2 (Nat.le_refl _))
      refine k1 a (p + 1) (p + 1) ?_ (Nat.le_refl _) hd
      rw [fs_1 e, if_pos rfl]; exact this
    · obtain ⟨-, -, hall⟩ := O2 hD ht hd
      obtain ⟨M, M1, M2⟩ := oa_b (D := D) (E := E) (u := z.1) (c := c) (a := a) (p := p) (fun b hb hc => by
        obtain ⟨m, m1, m2⟩ := hall b hb hc
        exact ⟨m, m1, h.2.2.1 b m m2 m1⟩)
      refine k2 a (p + 1) M ?_ M1 hd
      rw [fs_2 e, if_pos rfl, ← M2]; exact (wl _ _).2
theorem Dm_lt (hD : D.WF) {c to a n : Nat} (ht : to < D.K) (h : Dm D E c to a = some n) : a < D.K := by
  cases n with
  | zero => rw [Dm_0.mp h]; exact ht
  | succ n => exact (M2 hD ht h).2.1
theorem Do_lt (hD : D.WF) {c to a n : Nat} (ht : to < D.K) (h : Do D E c to a = some n) : a < D.K := by
  cases n with
  | zero => rw [Do_0.mp h]; exact ht
  | succ n => exact (O2 hD ht h).2.1
theorem fP_ok (hD : D.WF) {c to p : Nat} {z : fzT} (ht : to < D.K) (h : fIn D E c to p z) : fIn D E c to (p + 1) (fP D E c to z) := by
  have := up_inv (fs D E c to) D.K (fun i t => fIn D E c to p t ∧ ∀ x, x < i → (Dm D E c to x = some (p + 1) → t.1 x = some (p + 1)) ∧ (Do D E c to x = some (p + 1) → t.2.1 x = some (p + 1))) (fun i t hi q => ?_) D.K 0 z (by omega) ⟨h, fun x hx => absurd hx (by omega)⟩
  · obtain ⟨⟨t1, t2, t3, t4⟩, t5⟩ := this
    refine ⟨t1, t2, fun a n hd hn => ?_, fun a n hd hn => ?_⟩
    · by_cases e : n ≤ p
      · exact t3 a n hd e
      · rw [show n = p + 1 by omega] at hd ⊢
        exact (t5 a (Dm_lt hD ht hd)).1 hd
    · by_cases e : n ≤ p
      · exact t4 a n hd e
      · rw [show n = p + 1 by omega] at hd ⊢
        exact (t5 a (Do_lt hD ht hd)).2 hd
  · obtain ⟨q1, q2⟩ := q
    obtain ⟨r1, r2, r3, r4, r5⟩ := fs_ok hD (a := i) ht hi q1
    refine ⟨r1, fun x hx => ⟨fun hd => ?_, fun hd => ?_⟩⟩
    · by_cases e : x = i
      · rw [e] at hd ⊢; exact r4 hd
      · exact r2 x _ ((q2 x (by omega)).1 hd) hd
    · by_cases e : x = i
      · rw [e] at hd ⊢; exact r5 hd
      · exact r3 x _ ((q2 x (by omega)).2 hd) hd
theorem fs_no {c to a : Nat} {z : fzT} (h : (fs D E c to a z).2.2 = false) : fs D E c to a z = z := by
  unfold fs at h ⊢
  split
  · rfl
  · rename_i e
    rw [if_neg e] at h
    have h : (z.2.2 || (ol (mn D E c z.2.1 a (z.1 a)) (z.1 a) || ol (oa D E c z.1 a) (z.2.1 a))) = false := h
    rw [Bool.or_eq_false_iff, Bool.or_eq_false_iff] at h
    obtain ⟨h1, h2, h3⟩ := h
    have e1 := nol_eq h2 (mn_le (D := D) (E := E) z.2.1 c a (z.1 a)).1
    refine Prod.ext (funext fun q => ?_) (Prod.ext (funext fun q => ?_) ?_)
    · show (if q = a then mn D E c z.2.1 a (z.1 a) else z.1 q) = z.1 q
      split
      · rename_i eq; rw [eq, e1]
      · rfl
    · show (if q = a then (if ol (oa D E c z.1 a) (z.2.1 a) then oa D E c z.1 a else z.2.1 a) else z.2.1 q) = z.2.1 q
      rw [h3]
      split
      · rename_i eq; rw [eq]; rfl
      · rfl
    · show (z.2.2 || (ol (mn D E c z.2.1 a (z.1 a)) (z.1 a) || ol (oa D E c z.1 a) (z.2.1 a))) = z.2.2
      rw [h1, h2, h3]; rfl
theorem fs_fl {c to a : Nat} {z : fzT} (h : (fs D E c to a z).2.2 = false) : z.2.2 = false := by
  rw [fs_no h] at h; exact h
theorem fP_no {c to : Nat} {z : fzT} (h : (fP D E c to z).2.2 = false) : fP D E c to z = z := by
  have : ∀ d i (t : fzT), (up (fs D E c to) d i t).2.2 = false → up (fs D E c to) d i t = t := by
    intro d
    induction d with
    | zero => intro i t _; rfl
    | succ d ih =>
      intro i t hf
      rw [up] at hf ⊢
      have e := ih (i + 1) (fs D E c to i t) hf
      rw [e] at hf ⊢
      exact fs_no hf
  exact this D.K 0 z h
theorem fIn_all (hD : D.WF) {c to p : Nat} {z : fzT} (ht : to < D.K) (h : fIn D E c to p z) (hz : fP D E c to z = z) : ∀ q, fIn D E c to (p + q) z := by
  intro q
  induction q with
  | zero => exact h
  | succ q ih =>
    have := fP_ok hD ht ih
    rw [hz] at this
    exact this
theorem fIn_eq {c to p : Nat} {z : fzT} (h : fIn D E c to p z) (hp : 12 ≤ p) : z.1 = Dm D E c to ∧ z.2.1 = Do D E c to := by
  refine ⟨funext fun a => ?_, funext fun a => ?_⟩
  · cases hd : Dm D E c to a with
    | some n => exact h.2.2.1 a n hd (by have := (Dm_in hd).1; omega)
    | none =>
      cases hu : z.1 a with
      | none => rfl
      | some q => obtain ⟨m', -, e1⟩ := h.1 a q hu; rw [hd] at e1; cases e1
  · cases hd : Do D E c to a with
    | some n => exact h.2.2.2 a n hd (by have := (Do_in hd).1; omega)
    | none =>
      cases hu : z.2.1 a with
      | none => rfl
      | some q => obtain ⟨m', -, e1⟩ := h.2.1 a q hu; rw [hd] at e1; cases e1
theorem ex_no (hD : D.WF) {c to p : Nat} {z : fzT} (ht : to < D.K) (h : fIn D E c to p z) (hp : 12 ≤ p) (hf : z.2.2 = false) : fP D E c to z = z := by
  obtain ⟨e1, e2⟩ := fIn_eq h hp
  refine up_inv (fs D E c to) D.K (fun _ t => t = z) (fun a t ha q => ?_) D.K 0 z (by omega) rfl
  rw [q]
  refine fs_no ?_
  unfold fs
  split
  · exact hf
  · show (z.2.2 || (ol (mn D E c z.2.1 a (z.1 a)) (z.1 a) || ol (oa D E c z.1 a) (z.2.1 a))) = false
    have h1 : ol (mn D E c z.2.1 a (z.1 a)) (z.1 a) = false := by
      cases hm : mn D E c z.2.1 a (z.1 a) with
      | none => rfl
      | some m =>
        obtain ⟨m', g1, g2⟩ := xs hD ht ha h hm
        rw [e1, g2]
        exact decide_eq_false (by omega)
    have h2 : ol (oa D E c z.1 a) (z.2.1 a) = false := by
      cases hm : oa D E c z.1 a with
      | none => rfl
      | some m =>
        obtain ⟨m', g1, g2⟩ := ys hD ht ha h hm
        rw [e2, g2]
        exact decide_eq_false (by omega)
    rw [hf, h1, h2]; rfl
end F3
