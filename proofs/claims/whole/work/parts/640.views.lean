/-! loops as folds; both sides' views at their fixed places; arguments; questions -/
def up {σ : Type} (step : Nat → σ → σ) : Nat → Nat → σ → σ
  | 0, _, s => s
  | d + 1, i, s => up step d (i + 1) (step i s)
theorem up_last {σ : Type} (step : Nat → σ → σ) : ∀ (d i : Nat) (s : σ), up step (d + 1) i s = step (i + d) (up step d i s) := by
  intro d
  induction d with
  | zero => intro i s; rfl
  | succ d ih => intro i s; rw [up, ih (i + 1) (step i s), up, show i + 1 + d = i + (d + 1) by omega]
theorem up_inv {σ : Type} (step : Nat → σ → σ) (N : Nat) (P : Nat → σ → Prop) (hs : ∀ i s, i < N → P i s → P (i + 1) (step i s)) : ∀ (d i : Nat) (s : σ), i + d = N → P i s → P N (up step d i s) := by
  intro d
  induction d with
  | zero => intro i s h hp; rw [show N = i by omega]; exact hp
  | succ d ih => intro i s h hp; exact ih (i + 1) _ (by omega) (hs i s (by omega) hp)
theorem up_congr {σ : Type} {f g : Nat → σ → σ} {N : Nat} (h : ∀ i s, i < N → f i s = g i s) : ∀ (d i : Nat) (s : σ), i + d ≤ N → up f d i s = up g d i s := by
  intro d
  induction d with
  | zero => intro i s _; rfl
  | succ d ih => intro i s hi; rw [up, up, h i s (by omega)]; exact ih (i + 1) _ (by omega)
theorem up_lpR {α β σ : Type} {F : Nat → Int32 → α → Option β} (N : Nat) (step : Nat → σ → σ) (J : Nat → σ → α → Prop) {K : α → Option β} (hN : N < 5000)
    (hs : ∀ n i s a, i < N → J i s a → ∃ a', F (n + 1) (nI i) a = F n (nI (i + 1)) a' ∧ J (i + 1) (step i s) a')
    (he : ∀ n s a, J N s a → F (n + 1) (nI N) a = K a) {i0 : Nat} {s : σ} {a : α} (hi : i0 ≤ N) (h0 : J i0 s a) : ∃ a', F cpFu (nI i0) a = K a' ∧ J N (up step (N - i0) i0 s) a' := by
  have : ∀ (d i f : Nat) (s : σ) (a : α), i + d = N → d < f → J i s a → ∃ a', F f (nI i) a = K a' ∧ J N (up step d i s) a' := by
    intro d
    induction d with
    | zero =>
      intro i f s a h hf hJ
      obtain ⟨f, rfl⟩ : ∃ g, f = g + 1 := ⟨f - 1, by omega⟩
      obtain rfl : i = N := by omega
      exact ⟨a, he f s a hJ, hJ⟩
    | succ d ih =>
      intro i f s a h hf hJ
      obtain ⟨f, rfl⟩ : ∃ g, f = g + 1 := ⟨f - 1, by omega⟩
      obtain ⟨a', h1, h2⟩ := hs f i s a (by omega) hJ
      rw [h1]
      exact ih (i + 1) f _ a' (by omega) (by omega) h2
  exact this (N - i0) i0 cpFu s a (by omega) (by show _ < 5000; omega) h0
theorem up_lp {α β σ : Type} {F : Nat → Int32 → α → Option β} (N : Nat) (step : Nat → σ → σ) (Ok : Nat → σ → Prop) (rep : σ → α) {K : σ → Option β} (hN : N < 5000)
    (hs : ∀ n i s, i < N → Ok i s → F (n + 1) (nI i) (rep s) = F n (nI (i + 1)) (rep (step i s)) ∧ Ok (i + 1) (step i s))
    (he : ∀ n s, Ok N s → F (n + 1) (nI N) (rep s) = K s) {i0 : Nat} {s : σ} (hi : i0 ≤ N) (h0 : Ok i0 s) : F cpFu (nI i0) (rep s) = K (up step (N - i0) i0 s) := by
  have : ∀ (d i f : Nat) (s : σ), i + d = N → d < f → Ok i s → F f (nI i) (rep s) = K (up step d i s) := by
    intro d
    induction d with
    | zero =>
      intro i f s h hf hJ
      obtain ⟨f, rfl⟩ : ∃ g, f = g + 1 := ⟨f - 1, by omega⟩
      obtain rfl : i = N := by omega
      exact he f s hJ
    | succ d ih =>
      intro i f s h hf hJ
      obtain ⟨f, rfl⟩ : ∃ g, f = g + 1 := ⟨f - 1, by omega⟩
      obtain ⟨h1, h2⟩ := hs f i s (by omega) hJ
      rw [h1]
      exact ih (i + 1) f _ (by omega) (by omega) h2
  exact this (N - i0) i0 cpFu s (by omega) (by show _ < 5000; omega) h0
/-- the first from i on, of d, of which p holds -/
def ff (p : Nat → Bool) : Nat → Nat → Option Nat
  | 0, _ => none
  | d + 1, i => if p i then some i else ff p d (i + 1)
theorem ff_congr {p q : Nat → Bool} {N : Nat} (h : ∀ i, i < N → p i = q i) : ∀ (d i : Nat), i + d ≤ N → ff p d i = ff q d i := by
  intro d
  induction d with
  | zero => intro i _; rfl
  | succ d ih => intro i hi; rw [ff, ff, h i (by omega), ih (i + 1) (by omega)]
theorem ff_none {p : Nat → Bool} : ∀ (d i : Nat), ff p d i = none ↔ ∀ j, i ≤ j → j < i + d → p j = false := by
  intro d
  induction d with
  | zero => intro i; exact ⟨fun _ j h1 h2 => absurd h2 (by omega), fun _ => rfl⟩
  | succ d ih =>
    intro i
    rw [ff]
    by_cases h : p i = true
    · rw [if_pos h]
      exact ⟨fun k => absurd k (by simp), fun k => by have := k i (by omega) (by omega); rw [h] at this; cases this⟩
    · rw [if_neg h, ih]
      refine ⟨fun k j h1 h2 => ?_, fun k j h1 h2 => k j (by omega) (by omega)⟩
      by_cases e : j = i
      · subst e; simpa using h
      · exact k j (by omega) (by omega)
theorem ff_some {p : Nat → Bool} : ∀ (d i k : Nat), ff p d i = some k ↔ (i ≤ k ∧ k < i + d ∧ p k = true ∧ ∀ j, i ≤ j → j < k → p j = false) := by
  intro d
  induction d with
  | zero => intro i k; exact ⟨fun h => (by cases h), fun h => absurd h.1 (by omega)⟩
  | succ d ih =>
    intro i k
    rw [ff]
    by_cases h : p i = true
    · rw [if_pos h]
      refine ⟨fun e => ?_, fun ⟨h1, h2, h3, h4⟩ => ?_⟩
      · cases e
        exact ⟨by omega, by omega, h, fun j h1 h2 => by omega⟩
      · by_cases e : k = i
        · rw [e]
        · have := h4 i (by omega) (by omega); rw [h] at this; cases this
    · rw [if_neg h, ih]
      refine ⟨fun ⟨h1, h2, h3, h4⟩ => ⟨by omega, by omega, h3, fun j j1 j2 => ?_⟩, fun ⟨h1, h2, h3, h4⟩ => ⟨?_, by omega, h3, fun j j1 j2 => h4 j (by omega) j2⟩⟩
      · by_cases e : j = i
        · subst e; simpa using h
        · exact h4 j (by omega) j2
      · by_cases e : k = i
        · subst e; exact absurd h3 h
        · omega
theorem ff_lp {α β : Type} {F : Nat → Int32 → α → Option β} (N : Nat) (p : Nat → Bool) (J : Nat → α → Prop) (G : Option Nat → Option β → Prop) (hN : N < 5000)
    (hs : ∀ n i a, i < N → J i a → p i = false → ∃ a', F (n + 1) (nI i) a = F n (nI (i + 1)) a' ∧ J (i + 1) a')
    (ht : ∀ n i a, i < N → J i a → p i = true → G (some i) (F (n + 1) (nI i) a))
    (he : ∀ n a, J N a → G none (F (n + 1) (nI N) a)) {i0 : Nat} {a : α} (hi : i0 ≤ N) (h0 : J i0 a) : G (ff p (N - i0) i0) (F cpFu (nI i0) a) := by
  have : ∀ (d i f : Nat) (a : α), i + d = N → d < f → J i a → G (ff p d i) (F f (nI i) a) := by
    intro d
    induction d with
    | zero =>
      intro i f a h hf hJ
      obtain ⟨f, rfl⟩ : ∃ g, f = g + 1 := ⟨f - 1, by omega⟩
      obtain rfl : i = N := by omega
      exact he f a hJ
    | succ d ih =>
      intro i f a h hf hJ
      obtain ⟨f, rfl⟩ : ∃ g, f = g + 1 := ⟨f - 1, by omega⟩
      rw [ff]
      by_cases hp : p i = true
      · rw [if_pos hp]; exact ht f i a (by omega) hJ hp
      · rw [if_neg hp]
        obtain ⟨a', h1, h2⟩ := hs f i a (by omega) hJ (by simpa using hp)
        rw [h1]
        exact ih (i + 1) f a' (by omega) (by omega) h2
  exact this (N - i0) i0 cpFu a (by omega) (by show _ < 5000; omega) h0
/-! arguments -/
theorem arg_out {x : Int32} (n m : Nat) (hm : n = m + 1) (hn : n < 2 ^ 31) (h : cpLs' x n = false) : (x < nI 0) = True ∨ ((x < nI 0) = False ∧ (x ≤ nI m) = False ∧ (nI m < x) = True ∧ (x < nI n) = False ∧ (nI n ≤ x) = True) := by
  have h1 : ¬ (0 ≤ x.toInt ∧ x.toInt < n) := of_decide_eq_false h
  have z : (nI 0).toInt = 0 := by decide
  by_cases h0 : x < nI 0
  · exact Or.inl (eq_true h0)
  · have h2 : (n : Int) ≤ x.toInt := by rw [i_lt, z] at h0; omega
    refine Or.inr ⟨eq_false h0, eq_false ?_, eq_true ?_, eq_false ?_, eq_true ?_⟩
    · rw [i_le, nI_toInt (by omega)]; omega
    · rw [i_lt, nI_toInt (by omega)]; omega
    · rw [i_lt, nI_toInt (by omega)]; omega
    · rw [i_le, nI_toInt (by omega)]; omega
theorem arg_ne {x : Int32} {n : Nat} (p : Nat) (h : cpLs' x n = false) (hp : p < n) (hn : n < 2 ^ 31) : (x = nI p) = False := eq_false (fun e => by rw [e, ls_nI (by omega)] at h; exact absurd hp (of_decide_eq_false h))
/-! views -/
def cA (D : cpD) (E : cpE) (S : cpS) : Prop := cW D S 1 ∧ cN E S 57
def mA (D : cpD) (E : cpE) (S : cpS) : Prop := mW D S 0 ∧ mN E S 62
section VIEWS
variable {D : cpD} {E : cpE} {S : cpS}
theorem cA.K (c : cA D E S) : S.1 1 0 = nI D.K := c.1.K
theorem cA.ln (c : cA D E S) : S.1 1 2 = D.ln := c.1.ln
theorem cA.R (c : cA D E S) : S.1 1 3 = nI D.R := c.1.R
theorem cA.P (c : cA D E S) : S.1 1 7 = nI D.P := c.1.P
theorem cA.C (c : cA D E S) : S.1 1 11 = nI D.C := c.1.C
theorem cA.r1 (c : cA D E S) : ∀ r, r < D.R → S.1 2 r = nI (D.rd r).1 := fun r h => (c.1.rd r h).1
theorem cA.r2 (c : cA D E S) : ∀ r, r < D.R → S.1 3 r = nI (D.rd r).2.1 := fun r h => (c.1.rd r h).2.1
theorem cA.r3 (c : cA D E S) : ∀ r, r < D.R → S.1 4 r = nI (D.rd r).2.2 := fun r h => (c.1.rd r h).2.2
theorem cA.hm (c : cA D E S) : ∀ p, p < D.P → S.1 5 p = nI (D.hm p) := fun r h => (c.1.hm r h).1
theorem cA.st (c : cA D E S) : ∀ p, p < D.P → S.1 6 p = nI (D.st p) := fun r h => (c.1.hm r h).2
theorem cA.wt (c : cA D E S) : ∀ p, p < D.C → S.1 9 p = nI (D.wt p) := fun r h => (c.1.wt r h).1
theorem cA.wo (c : cA D E S) : ∀ p, p < D.C → S.1 10 p = nI (D.wo p) := fun r h => (c.1.wt r h).2
theorem cA.far (c : cA D E S) : ∀ a b, a < D.K → b < D.K → S.1 11 (6 * a + b) = nI (cpFar D.rd D.R a b) := c.1.far
theorem cA.at' (c : cA D E S) : ∀ p, p < 4 → S.1 58 p = nI (E.at' p) := c.2.at'
theorem cA.rim (c : cA D E S) : ∀ p, p < 4 → S.1 59 p = E.rim p := c.2.rim
theorem cA.fd (c : cA D E S) : ∀ p, p < 8 → S.1 60 p = nI (E.fd p) := c.2.fd
theorem cA.h (c : cA D E S) : S.1 57 3 = nI E.h := c.2.h
theorem cA.ca (c : cA D E S) : S.1 57 4 = E.ca := c.2.ca
theorem mA.ln (m : mA D E S) : S.1 151 0 = D.ln := m.1.ln
theorem mA.K (m : mA D E S) : S.1 151 1 = nI D.K := m.1.K
theorem mA.R (m : mA D E S) : S.1 151 2 = nI D.R := m.1.R
theorem mA.P (m : mA D E S) : S.1 151 3 = nI D.P := m.1.P
theorem mA.C (m : mA D E S) : S.1 151 4 = nI D.C := m.1.C
theorem mA.r1 (m : mA D E S) : ∀ r, r < D.R → S.1 151 (11 + 3 * r) = nI (D.rd r).1 := fun r h => by have := (m.1.rd r h).1; rwa [Nat.zero_add] at this
theorem mA.r2 (m : mA D E S) : ∀ r, r < D.R → S.1 151 (11 + 3 * r + 1) = nI (D.rd r).2.1 := fun r h => by have := (m.1.rd r h).2.1; rwa [Nat.zero_add] at this
theorem mA.r3 (m : mA D E S) : ∀ r, r < D.R → S.1 151 (11 + 3 * r + 2) = nI (D.rd r).2.2 := fun r h => by have := (m.1.rd r h).2.2; rwa [Nat.zero_add] at this
theorem mA.hm (m : mA D E S) : ∀ p, p < D.P → S.1 151 (38 + p) = nI (D.hm p) := fun r h => by have := (m.1.hm r h).1; rwa [Nat.zero_add] at this
theorem mA.st (m : mA D E S) : ∀ p, p < D.P → S.1 151 (46 + p) = nI (D.st p) := fun r h => by have := (m.1.hm r h).2; rwa [Nat.zero_add] at this
theorem mA.wt (m : mA D E S) : ∀ p, p < D.C → S.1 151 (54 + p) = nI (D.wt p) := fun r h => by have := (m.1.wt r h).1; rwa [Nat.zero_add] at this
theorem mA.wo (m : mA D E S) : ∀ p, p < D.C → S.1 151 (58 + p) = nI (D.wo p) := fun r h => by have := (m.1.wt r h).2; rwa [Nat.zero_add] at this
theorem mA.at' (m : mA D E S) : ∀ p, p < 4 → S.1 151 (62 + p) = nI (E.at' p) := m.2.at'
theorem mA.rim (m : mA D E S) : ∀ p, p < 4 → S.1 151 (66 + p) = E.rim p := m.2.rim
theorem mA.fd (m : mA D E S) : ∀ p, p < 8 → S.1 151 (70 + p) = nI (E.fd p) := m.2.fd
theorem mA.h (m : mA D E S) : S.1 151 78 = nI E.h := m.2.h
theorem mA.ca (m : mA D E S) : S.1 151 79 = E.ca := m.2.ca
end VIEWS
def kC (k j : Nat) : Prop := cpScr k j ∧ k < 150
def kM (k j : Nat) : Prop := cpScr k j ∧ 150 ≤ k
theorem core_now {q : Nat} (h1 : 57 ≤ q) (h2 : q ≤ 60) : cpCore q = true := by unfold cpCore; simp; omega
theorem cA.kp {D : cpD} {E : cpE} {S T : cpS} (c : cA D E S) {f : Nat → Nat → Prop} (g : Kp f S T) (hf : ∀ k j, f k j → cpCore k = false ∨ 150 ≤ k) : cA D E T := by
  refine ⟨c.1.kp g (fun k j h1 h2 q => ?_), c.2.kp g (fun k j h1 h2 q => ?_)⟩
  · rcases hf k j q with e | e
    · rw [core_val h1 (by omega)] at e; cases e
    · omega
  · rcases hf k j q with e | e
    · rw [core_now h1 h2] at e; cases e
    · omega
theorem mA.kp {D : cpD} {E : cpE} {S T : cpS} (m : mA D E S) (hD : D.WF) {f : Nat → Nat → Prop} (g : Kp f S T) (hf : ∀ k j, f k j → k ≠ 151) : mA D E T :=
  ⟨m.1.kp hD g (fun j _ _ _ q => hf _ _ q rfl), m.2.kp g (fun j _ _ q => hf _ _ q rfl)⟩
theorem kM_ne {k j : Nat} (h : kM k j) : k ≠ 151 := fun e => by have := h.1.1; rw [e] at this; exact absurd this (by decide)
theorem kC_co {k j : Nat} (h : kC k j) : cpCore k = false ∨ 150 ≤ k := Or.inl h.1.1
theorem kM_thr (S : cpS) (x : Int32) : Kp kM S (cpI S 150 0 x) := Kp.rf.I (by exact ⟨scr_thr, by decide⟩)
theorem mA.thr {D : cpD} {E : cpE} {S : cpS} (m : mA D E S) (hD : D.WF) (x : Int32) : mA D E (cpI S 150 0 x) := m.kp hD (kM_thr S x) (fun _ _ => kM_ne)
theorem cA.cc {D : cpD} {E : cpE} {S T : cpS} (c : cA D E S) (g : Kp kC S T) : cA D E T := c.kp g (fun _ _ => kC_co)
theorem mA.mm {D : cpD} {E : cpE} {S T : cpS} (m : mA D E S) (hD : D.WF) (g : Kp kM S T) : mA D E T := m.kp hD g (fun _ _ => kM_ne)
/-- a question: what the class answers is told by what is, and so is what the reference answers -/
theorem q1 {ρ : Type} {S : cpS} {F G : cpS → Option (ρ × cpS)} (hR : cpRl S) (h : ∀ (D : cpD) (E : cpE), D.WF → E.WF D → ∃ r, (∀ S, cA D E S → ∃ T, F S = some (r, T) ∧ Kp kC S T) ∧ ∀ S, mA D E S → ∃ U, G S = some (r, U) ∧ Kp kM S U) : ∃ (r : ρ) (S1 S2 : cpS), F S = some (r, S1) ∧ G S1 = some (r, S2) ∧ cpRl S2 := by
  obtain ⟨D, E, hD, hE, c, m, n, w⟩ := hR.2.2.2.1.un
  obtain ⟨r, h1, h2⟩ := h D E hD hE
  obtain ⟨T, t1, t2⟩ := h1 S ⟨c, n⟩
  have m0 : mA D E S := ⟨m, w⟩
  have mT : mA D E T := m0.kp hD t2 (fun k j q e => by have := q.2; omega)
  obtain ⟨U, u1, u2⟩ := h2 T mT
  exact ⟨r, T, U, t1, u1, hR.kp ((t2.le (fun k j q => q.1)).tr (u2.le (fun k j q => q.1))) (fun k j q => q)⟩
theorem q0 {ρ : Type} {S : cpS} {F G : cpS → Option (ρ × cpS)} (hR : cpRl S) (h : ∀ (D : cpD) (E : cpE), D.WF → E.WF D → ∃ r, (∀ S, cA D E S → F S = some (r, S)) ∧ ∀ S, mA D E (cpI S 150 0 (nI 0)) → G S = some (r, cpI S 150 0 (nI 0))) : ∃ (r : ρ) (S1 S2 : cpS), F S = some (r, S1) ∧ G S1 = some (r, S2) ∧ cpRl S2 :=
  q1 hR (fun D E hD hE => by
    obtain ⟨r, h1, h2⟩ := h D E hD hE
    exact ⟨r, fun S c => ⟨S, h1 S c, Kp.rf⟩, fun S m => ⟨_, h2 S (m.thr hD (nI 0)), kM_thr S (nI 0)⟩⟩)
/-! both sides' small questions by views -/
section SV
variable {D : cpD} {E : cpE} {S : cpS}
theorem cA.hasPerson (c : cA D E S) (hD : D.WF) (x : Int32) : fX10_hasPerson 1 x S = some (bI (cpLs' x D.P), S) := c_hasPerson hD c.1 x
theorem cA.hasCoin (c : cA D E S) (hD : D.WF) (x : Int32) : fX10_hasCoin 1 x S = some (bI (cpLs' x D.C), S) := c_hasCoin hD c.1 x
theorem cA.hasPlace (c : cA D E S) (hD : D.WF) (x : Int32) : fX10_hasPlace 1 x S = some (bI (cpLs' x D.K), S) := c_hasPlace hD c.1 x
theorem mA.isPerson (m : mA D E S) (hD : D.WF) (x : Int32) : fX12_isPerson (Int32.toInt64 x) S = some (bI (cpLs' x D.P), S) := m_isPerson hD m.1 x
theorem mA.isCoin (m : mA D E S) (hD : D.WF) (x : Int32) : fX12_isCoin (Int32.toInt64 x) S = some (bI (cpLs' x D.C), S) := m_isCoin hD m.1 x
theorem mA.isPlace (m : mA D E S) (hD : D.WF) (x : Int32) : fX12_isPlace (Int32.toInt64 x) S = some (bI (cpLs' x D.K), S) := m_isPlace hD m.1 x
theorem cA.feuding (c : cA D E S) (hD : D.WF) (hE : E.WF D) {p q : Nat} (hp : p < 8) (hq : q < 8) : fX5_feuding 57 (nI p) (nI q) S = some (bI ((E.fd p).testBit q), S) := c_feuding hD hE c.2 hp hq
theorem mA.quarrelled (m : mA D E S) (hD : D.WF) (hE : E.WF D) {p q : Nat} (hp : p < 8) (hq : q < 8) : fX12_haveQuarrelled (nI p) (nI q) S = some (bI ((E.fd p).testBit q), S) := m_quarrelled hD hE m.2 hp hq
end SV
theorem ls_t {p n : Nat} (h : p < n) (hn : n < 2 ^ 31) : bI (cpLs' (nI p) n) = nI 1 := by rw [cpLs_of h hn]; rfl
theorem ls_f {x : Int32} {n : Nat} (h : cpLs' x n = false) : bI (cpLs' x n) = nI 0 := by rw [h]; rfl
theorem bI_t : bI true = nI 1 := rfl
theorem bI_f : bI false = nI 0 := rfl
