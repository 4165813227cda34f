/-! THE PURE PART. The invariant of contents between two calls: class and reference agree -/
/-- where coins are, how worn, quarrels, hour, how many carried: a Now at n, and the reference's stretch from w on -/
def rN (S : cpS) (n w : Nat) : Prop := (∀ c, c < 4 → S.1 (n + 1) c = S.1 151 (w + c)) ∧ (∀ c, c < 4 → S.1 (n + 2) c = S.1 151 (w + 4 + c)) ∧ (∀ p, p < 8 → S.1 (n + 3) p = S.1 151 (w + 8 + p)) ∧ S.1 n 3 = S.1 151 (w + 16) ∧ S.1 n 4 = S.1 151 (w + 17)
/-- a Now is sound for K places, P people, C coins -/
def nW (S : cpS) (n K P C : Nat) : Prop := (∀ c, c < C → ∃ a, a < K ∧ S.1 (n + 1) c = nI a) ∧ (∀ c, C ≤ c → c < 4 → S.1 (n + 1) c = 0 ∧ S.1 (n + 2) c = 0) ∧ (∃ fd : Nat → Nat, (∀ p, p < 8 → S.1 (n + 3) p = nI (fd p) ∧ fd p < 2 ^ P) ∧ (∀ p q, p < 8 → q < 8 → (fd p).testBit q = (fd q).testBit p) ∧ (∀ p, p < 8 → (fd p).testBit p = false) ∧ ∀ p, P ≤ p → p < 8 → fd p = 0) ∧ ∃ h, h ≤ 9 ∧ S.1 n 3 = nI h
/-- the reference's number of an operation of the class's code -/
def cpOp (k : Nat) : Nat := if k < 2000 then k else if k < 2006 then k + 1000 else if k = 2006 then 3007 else if k = 2007 then 3008 else if k = 2008 then 3006 else 3009
/-- kinds on the stack (true: a truth) behind an operation; none: it can't stand there -/
def cpTyp (k : Nat) (st : List Bool) : Option (List Bool) :=
  if k < 1006 then some (false :: st)
  else if k = 2000 ∨ k = 2001 ∨ k = 2002 then (match st with | false :: false :: t => some (false :: t) | _ => none)
  else if k = 2003 ∨ k = 2004 ∨ k = 2005 then (match st with | false :: false :: t => some (true :: t) | _ => none)
  else if k = 2006 ∨ k = 2007 then (match st with | true :: true :: t => some (true :: t) | _ => none)
  else if k = 2008 then (match st with | true :: t => some (true :: t) | _ => none)
  else if k = 2009 then (match st with | false :: false :: true :: t => some (false :: t) | _ => none)
  else none
/-- a code is sound from a stack of kinds on to another one, never more than 90 high -/
def cpSnd : List Nat → List Bool → List Bool → Prop
  | [], st, en => st = en
  | k :: l, st, en => st.length < 90 ∧ ∃ t, cpTyp k st = some t ∧ cpSnd l t en
/-- a law: the class's stretch of code from .. to, the reference's told, from, many; t: true for may -/
def lW (S : cpS) (v o : Nat) (t : Bool) : Prop := ∃ (l : List Nat) (a : Nat), a + l.length ≤ 900 ∧ l ≠ [] ∧
  S.1 (v + 11) (if t then 2 else 4) = nI a ∧ S.1 (v + 11) (if t then 3 else 5) = nI (a + l.length) ∧ (∀ j, j < l.length → S.1 (v + 12) (a + j) = nI (l.getD j 0)) ∧ (∀ j, j < l.length → l.getD j 0 < 2010) ∧ cpSnd l [] [t] ∧
  ((S.1 151 (o + 5 + (if t then 0 else 1)) = 0 ∧ l = (if t then [1000, 1001, 2004, 2008] else [1003])) ∨
   (S.1 151 (o + 5 + (if t then 0 else 1)) = 1 ∧ ∃ f, f + l.length ≤ 900 ∧ S.1 151 (o + 7 + (if t then 0 else 1)) = nI f ∧ S.1 151 (o + 9 + (if t then 0 else 1)) = nI l.length ∧ ∀ j, j < l.length → S.1 151 (o + 262 + f + j) = nI (cpOp (l.getD j 0))))
/-- distances among K places by R roads: the least of all ways' lengths, 99 if there is none -/
def cpNear (d : Nat → Nat → Nat) (a b n : Nat) : Nat → Nat → Nat := fun x y => if x = a ∧ y = b ∧ n < d x y then n else d x y
def cpFar0 : Nat → Nat → Nat := fun a b => if a = b then 0 else 99
def cpFarR (rd : Nat → Nat × Nat × Nat) : Nat → Nat → Nat → Nat
  | 0 => cpFar0
  | r + 1 => cpNear (cpNear (cpFarR rd r) (rd r).1 (rd r).2.1 (rd r).2.2) (rd r).2.1 (rd r).1 (rd r).2.2
def cpFarB (d : Nat → Nat → Nat) (k a : Nat) : Nat → Nat → Nat → Nat
  | 0 => d
  | b + 1 => fun x y => cpNear (cpFarB d k a b) a b (cpFarB d k a b a k + cpFarB d k a b k b) x y
def cpFarA (d : Nat → Nat → Nat) (k : Nat) : Nat → Nat → Nat → Nat
  | 0 => d
  | a + 1 => cpFarB (cpFarA d k a) k a 6
def cpFarK (d : Nat → Nat → Nat) : Nat → Nat → Nat → Nat
  | 0 => d
  | k + 1 => cpFarA (cpFarK d k) k 6
def cpFar (rd : Nat → Nat × Nat × Nat) (R : Nat) : Nat → Nat → Nat := cpFarK (cpFarR rd R) 6
/-- a Valley at v with its Now at n, and the reference's block at o -/
def rV (S : cpS) (v n o : Nat) : Prop := ∃ K R P C : Nat, ∃ rd : Nat → Nat × Nat × Nat, (1 ≤ K ∧ K ≤ 6) ∧ R ≤ 9 ∧ P ≤ 8 ∧ C ≤ 4 ∧
  (S.1 v 0 = nI K ∧ S.1 151 (o + 1) = nI K) ∧ (S.1 v 3 = nI R ∧ S.1 151 (o + 2) = nI R) ∧ (S.1 v 7 = nI P ∧ S.1 151 (o + 3) = nI P) ∧ (S.1 v 11 = nI C ∧ S.1 151 (o + 4) = nI C) ∧ S.1 v 2 = S.1 151 (o + 0) ∧
  (∀ r, r < R → (rd r).1 < K ∧ (rd r).2.1 < K ∧ (rd r).1 ≠ (rd r).2.1 ∧ 1 ≤ (rd r).2.2 ∧ (rd r).2.2 ≤ 9 ∧ S.1 (v + 1) r = nI (rd r).1 ∧ S.1 (v + 2) r = nI (rd r).2.1 ∧ S.1 (v + 3) r = nI (rd r).2.2 ∧ S.1 151 (o + 11 + 3 * r) = nI (rd r).1 ∧ S.1 151 (o + 11 + 3 * r + 1) = nI (rd r).2.1 ∧ S.1 151 (o + 11 + 3 * r + 2) = nI (rd r).2.2) ∧
  (∀ p, p < P → (∃ h, h < K ∧ S.1 (v + 4) p = nI h ∧ S.1 151 (o + 38 + p) = nI h) ∧ ∃ t, t ≤ 9 ∧ S.1 (v + 5) p = nI t ∧ S.1 151 (o + 46 + p) = nI t) ∧
  (∀ c, c < C → (∃ h, h ≤ 99 ∧ S.1 (v + 8) c = nI h ∧ S.1 151 (o + 54 + c) = nI h) ∧ ∃ t, t ≤ 99 ∧ S.1 (v + 9) c = nI t ∧ S.1 151 (o + 58 + c) = nI t) ∧
  (∀ a b, a < K → b < K → S.1 (v + 10) (6 * a + b) = nI (cpFar rd R a b)) ∧
  lW S v o true ∧ lW S v o false ∧ nW S n K P C ∧ rN S n (o + 62)
/-- what can be undone: sound for the valley that is -/
def rP (S : cpS) : Prop := ∃ z x : Nat, z ≤ 10 ∧ x < 10 ∧ S.1 113 2 = nI z ∧ S.1 151 80 = nI z ∧ S.1 113 1 = nI x ∧ ∀ i, i < z → rN S (65 + 4 * ((x + 9 - i) % 10)) (81 + 18 * (z - 1 - i)) ∧ ∀ K P C : Nat, K ≤ 6 → P ≤ 8 → C ≤ 4 → S.1 1 0 = nI K → S.1 1 7 = nI P → S.1 1 11 = nI C → nW S (65 + 4 * ((x + 9 - i) % 10)) K P C
def rI (S : cpS) : Prop := ∀ i, i < 2 → S.1 149 i = S.1 152 i ∧ (S.1 149 i = 0 ∨ S.1 149 i = 1) ∧ (S.1 149 i = 1 → rV S (29 + 14 * i) (105 + 4 * i) (1162 * (i + 1)))
def rF (S : cpS) : Prop := S.1 115 3 = S.1 150 13 ∧ S.1 115 4 = S.1 150 14
def rT (S : cpS) : Prop := ∃ n : Nat, n ≤ 900 ∧ S.1 115 1 = nI n ∧ S.1 150 5 = nI n ∧ ∀ j, j < n → S.1 153 j = S.1 116 j ∧ ∃ b, b < 256 ∧ S.1 116 j = nI b
def rY (S : cpS) : Prop := ∀ t, t < 4 → S.1 (139 + 2 * t) 2 = S.1 171 t ∧ (S.1 171 t = -1 ∨ (∃ q, q < 4 ∧ S.1 171 t = nI q) ∧ ∃ n, n ≤ 40 ∧ S.1 (139 + 2 * t) 1 = nI n ∧ S.1 172 t = nI n ∧ ∀ j, j < n → S.2 173 (40 * t + j) = S.2 (140 + 2 * t) j)
def cpRl (S : cpS) : Prop := rT S ∧ rF S ∧ rY S ∧ rV S 1 57 0 ∧ rP S ∧ rI S
/-! stores, read again -/
theorem sI1 {S : cpS} {k j : Nat} {x : Int32} : (cpI S k j x).1 k j = x := by simp [cpI, upd]
theorem sIn {S : cpS} {k j k' j' : Nat} {x : Int32} (h : k' ≠ k ∨ j' ≠ j) : (cpI S k j x).1 k' j' = S.1 k' j' := by
  unfold cpI
  by_cases hk : k' = k
  · subst hk
    have hj : j' ≠ j := by rcases h with h | h; exact absurd rfl h; exact h
    simp [upd, hj]
  · simp [hk]
theorem sIr {S : cpS} {k j k' : Nat} {x : Int32} (h : k' ≠ k) : (cpI S k j x).1 k' = S.1 k' := by unfold cpI; simp [h]
theorem sI2 {S : cpS} {k j k' : Nat} {x : Int32} : (cpI S k j x).2 k' = S.2 k' := rfl
theorem sL1 {S : cpS} {k j : Nat} {x : Int64} : (cpL S k j x).2 k j = x := by simp [cpL, vp_updL]
theorem sLn {S : cpS} {k j k' j' : Nat} {x : Int64} (h : k' ≠ k ∨ j' ≠ j) : (cpL S k j x).2 k' j' = S.2 k' j' := by
  unfold cpL
  by_cases hk : k' = k
  · subst hk
    have hj : j' ≠ j := by rcases h with h | h; exact absurd rfl h; exact h
    simp [vp_updL, hj]
  · simp [hk]
theorem sLr {S : cpS} {k j k' : Nat} {x : Int64} (h : k' ≠ k) : (cpL S k j x).2 k' = S.2 k' := by unfold cpL; simp [h]
theorem sL2 {S : cpS} {k j k' : Nat} {x : Int64} : (cpL S k j x).1 k' = S.1 k' := rfl
/-! the cells that the invariant speaks of -/
def cpCore (k : Nat) : Bool := (1 ≤ k && k ≤ 13) || (29 ≤ k && k ≤ 41) || (43 ≤ k && k ≤ 55) || (57 ≤ k && k ≤ 60) || (65 ≤ k && k ≤ 114) || k == 116 || (139 ≤ k && k ≤ 146) || k == 149 || k == 151 || k == 152 || k == 153 || (171 ≤ k && k ≤ 173)
/-- the cells of D, and six numbers of the readers, are as they were -/
def cpAg (D : Nat → Bool) (S S' : cpS) : Prop := (∀ k, D k = true → S'.1 k = S.1 k ∧ S'.2 k = S.2 k) ∧ S'.1 115 1 = S.1 115 1 ∧ S'.1 115 3 = S.1 115 3 ∧ S'.1 115 4 = S.1 115 4 ∧ S'.1 150 5 = S.1 150 5 ∧ S'.1 150 13 = S.1 150 13 ∧ S'.1 150 14 = S.1 150 14
section RAG
variable {D : Nat → Bool}
theorem cpAg.rf (S : cpS) : cpAg D S S := ⟨fun _ _ => ⟨rfl, rfl⟩, rfl, rfl, rfl, rfl, rfl, rfl⟩
theorem cpAg.tr {S T U : cpS} (h : cpAg D S T) (g : cpAg D T U) : cpAg D S U := ⟨fun k hk => ⟨(g.1 k hk).1.trans (h.1 k hk).1, (g.1 k hk).2.trans (h.1 k hk).2⟩, g.2.1.trans h.2.1, g.2.2.1.trans h.2.2.1, g.2.2.2.1.trans h.2.2.2.1, g.2.2.2.2.1.trans h.2.2.2.2.1, g.2.2.2.2.2.1.trans h.2.2.2.2.2.1, g.2.2.2.2.2.2.trans h.2.2.2.2.2.2⟩
theorem cpAg.sy {S T : cpS} (h : cpAg D S T) : cpAg D T S := ⟨fun k hk => ⟨(h.1 k hk).1.symm, (h.1 k hk).2.symm⟩, h.2.1.symm, h.2.2.1.symm, h.2.2.2.1.symm, h.2.2.2.2.1.symm, h.2.2.2.2.2.1.symm, h.2.2.2.2.2.2.symm⟩
theorem cpAg.le {E : Nat → Bool} {S T : cpS} (h : cpAg D S T) (hE : ∀ k, E k = true → D k = true) : cpAg E S T := ⟨fun k hk => h.1 k (hE k hk), h.2⟩
theorem cpAg.i {S S' : cpS} (h : cpAg D S S') {k : Nat} (hk : D k = true) (j : Nat) : S'.1 k j = S.1 k j := by rw [(h.1 k hk).1]
theorem cpAg.l {S S' : cpS} (h : cpAg D S S') {k : Nat} (hk : D k = true) (j : Nat) : S'.2 k j = S.2 k j := by rw [(h.1 k hk).2]
/-- a store into a cell that is none of them -/
theorem cpAg.I {S S' : cpS} (h : cpAg D S S') {k j : Nat} {x : Int32} (hk : D k = false) (h1 : k ≠ 115 ∨ (j ≠ 1 ∧ j ≠ 3 ∧ j ≠ 4)) (h2 : k ≠ 150 ∨ (j ≠ 5 ∧ j ≠ 13 ∧ j ≠ 14)) : cpAg D S (cpI S' k j x) := by
  refine h.tr ⟨fun q hq => ⟨sIr (fun e => by rw [e, hk] at hq; cases hq), rfl⟩, ?_, ?_, ?_, ?_, ?_, ?_⟩ <;> refine sIn ?_ <;> omega
theorem cpAg.L {S S' : cpS} (h : cpAg D S S') {k j : Nat} {x : Int64} (hk : D k = false) : cpAg D S (cpL S' k j x) :=
  h.tr ⟨fun q hq => ⟨rfl, sLr (fun e => by rw [e, hk] at hq; cases hq)⟩, rfl, rfl, rfl, rfl, rfl, rfl⟩
/-- longs of another cell -/
theorem cpAg.fL {S S' T : cpS} (h : cpAg D S S') {k : Nat} (hk : D k = false) (h1 : T.1 = S'.1) (h2 : ∀ q, q ≠ k → T.2 q = S'.2 q) : cpAg D S T :=
  h.tr ⟨fun q hq => ⟨by rw [h1], h2 q (fun e => by rw [e, hk] at hq; cases hq)⟩, by rw [h1], by rw [h1], by rw [h1], by rw [h1], by rw [h1], by rw [h1]⟩
/-! the invariant rests on these alone -/
theorem rN.ag {S S' : cpS} {n w : Nat} (h : rN S n w) (d : D 151 = true) (hn : D n = true ∧ D (n + 1) = true ∧ D (n + 2) = true ∧ D (n + 3) = true) (g : cpAg D S S') : rN S' n w := by
  obtain ⟨h1, h2, h3, h4, h5⟩ := h
  have e := fun j => g.i (k := 151) d j
  refine ⟨fun c hc => ?_, fun c hc => ?_, fun c hc => ?_, ?_, ?_⟩
  · rw [g.i hn.2.1, e]; exact h1 c hc
  · rw [g.i hn.2.2.1, e]; exact h2 c hc
  · rw [g.i hn.2.2.2, e]; exact h3 c hc
  · rw [g.i hn.1, e]; exact h4
  · rw [g.i hn.1, e]; exact h5
theorem nW.ag {S S' : cpS} {n K P C : Nat} (h : nW S n K P C) (hn : D n = true ∧ D (n + 1) = true ∧ D (n + 2) = true ∧ D (n + 3) = true) (g : cpAg D S S') : nW S' n K P C := by
  obtain ⟨h1, h2, ⟨fd, h3, h4, h5, h6⟩, h7⟩ := h
  refine ⟨fun c hc => ?_, fun c hc hd => ?_, ⟨fd, fun p hp => ?_, h4, h5, h6⟩, ?_⟩
  · rw [g.i hn.2.1]; exact h1 c hc
  · rw [g.i hn.2.1, g.i hn.2.2.1]; exact h2 c hc hd
  · rw [g.i hn.2.2.2]; exact h3 p hp
  · rw [g.i hn.1]; exact h7
theorem lW.ag {S S' : cpS} {v o : Nat} {t : Bool} (h : lW S v o t) (d : D 151 = true) (h1 : D (v + 11) = true) (h2 : D (v + 12) = true) (g : cpAg D S S') : lW S' v o t := by
  have e := fun j => g.i (k := 151) d j
  have e1 := fun j => g.i h1 j
  have e2 := fun j => g.i h2 j
  unfold lW
  simp only [e, e1, e2]
  exact h
theorem rV.ag {S S' : cpS} {v n o : Nat} (h : rV S v n o) (d : D 151 = true) (hv : ∀ j, j < 13 → D (v + j) = true) (hn : D n = true ∧ D (n + 1) = true ∧ D (n + 2) = true ∧ D (n + 3) = true) (g : cpAg D S S') : rV S' v n o := by
  obtain ⟨K, R, P, C, rd, h1, h2, h3, h4, h5, h6, h7, h8, h9, h10, h11, h12, h13, h14, h15, h16, h17⟩ := h
  have e := fun j => g.i (k := 151) d j
  have e0 := fun j => g.i (hv 0 (by decide)) j
  have e1 := fun j => g.i (hv 1 (by decide)) j
  have e2 := fun j => g.i (hv 2 (by decide)) j
  have e3 := fun j => g.i (hv 3 (by decide)) j
  have e4 := fun j => g.i (hv 4 (by decide)) j
  have e5 := fun j => g.i (hv 5 (by decide)) j
  have e8 := fun j => g.i (hv 8 (by decide)) j
  have e9 := fun j => g.i (hv 9 (by decide)) j
  have e10 := fun j => g.i (hv 10 (by decide)) j
  simp only [Nat.add_zero] at e0
  refine ⟨K, R, P, C, rd, h1, h2, h3, h4, ?_, ?_, ?_, ?_, ?_, ?_, ?_, ?_, ?_, h14.ag d (hv 11 (by decide)) (hv 12 (by decide)) g, h15.ag d (hv 11 (by decide)) (hv 12 (by decide)) g, h16.ag hn g, h17.ag d hn g⟩
  · simp only [e, e0]; exact h5
  · simp only [e, e0]; exact h6
  · simp only [e, e0]; exact h7
  · simp only [e, e0]; exact h8
  · simp only [e, e0]; exact h9
  · simp only [e, e1, e2, e3]; exact h10
  · simp only [e, e4, e5]; exact h11
  · simp only [e, e8, e9]; exact h12
  · simp only [e10]; exact h13
theorem rT.ag {S S' : cpS} (h : rT S) (d1 : D 116 = true) (d2 : D 153 = true) (g : cpAg D S S') : rT S' := by
  obtain ⟨n, h1, h2, h3, h4⟩ := h
  exact ⟨n, h1, by rw [g.2.1]; exact h2, by rw [g.2.2.2.2.1]; exact h3, fun j hj => by rw [g.i d2, g.i d1]; exact h4 j hj⟩
theorem rF.ag {S S' : cpS} (h : rF S) (g : cpAg D S S') : rF S' := ⟨by rw [g.2.2.1, g.2.2.2.2.2.1]; exact h.1, by rw [g.2.2.2.1, g.2.2.2.2.2.2]; exact h.2⟩
theorem rY.ag {S S' : cpS} (h : rY S) (d : ∀ t, t < 4 → D (139 + 2 * t) = true ∧ D (140 + 2 * t) = true) (d1 : D 171 = true) (d2 : D 172 = true) (d3 : D 173 = true) (g : cpAg D S S') : rY S' := by
  intro t ht
  have e1 := fun j => g.i (d t ht).1 j
  have e2 := fun j => g.l (d t ht).2 j
  have e3 := fun j => g.i d1 j
  have e4 := fun j => g.i d2 j
  have e5 := fun j => g.l d3 j
  simp only [e1, e2, e3, e4, e5]
  exact h t ht
theorem rP.ag {S S' : cpS} (h : rP S) (d : D 151 = true) (d1 : D 1 = true) (d2 : D 113 = true) (hc : ∀ q : Nat, q < 10 → D (65 + 4 * q) = true ∧ D (65 + 4 * q + 1) = true ∧ D (65 + 4 * q + 2) = true ∧ D (65 + 4 * q + 3) = true) (g : cpAg D S S') : rP S' := by
  obtain ⟨z, x, h1, h2, h3, h4, h5, h6⟩ := h
  refine ⟨z, x, h1, h2, by rw [g.i d2]; exact h3, by rw [g.i d]; exact h4, by rw [g.i d2]; exact h5, fun i hi => ?_⟩
  have hm : (x + 9 - i) % 10 < 10 := Nat.mod_lt _ (by decide)
  refine ⟨(h6 i hi).1.ag d (hc _ hm) g, fun K P C k1 k2 k3 k4 k5 k6 => ?_⟩
  rw [g.i d1] at k4 k5 k6
  exact ((h6 i hi).2 K P C k1 k2 k3 k4 k5 k6).ag (hc _ hm) g
theorem rI.ag {S S' : cpS} (h : rI S) (d : D 151 = true) (d1 : D 149 = true) (d2 : D 152 = true) (hv : ∀ i, i < 2 → ∀ j, j < 13 → D (29 + 14 * i + j) = true) (hn : ∀ i, i < 2 → D (105 + 4 * i) = true ∧ D (105 + 4 * i + 1) = true ∧ D (105 + 4 * i + 2) = true ∧ D (105 + 4 * i + 3) = true) (g : cpAg D S S') : rI S' := by
  intro i hi
  obtain ⟨h1, h2, h3⟩ := h i hi
  rw [g.i d1, g.i d2]
  exact ⟨h1, h2, fun h => (h3 h).ag d (hv i hi) (hn i hi) g⟩
end RAG
theorem cpAg.thrown (S : cpS) : cpAg cpCore S (cpI S 150 0 0) := (cpAg.rf S).I (by decide) (Or.inl (by decide)) (Or.inr (by decide))
theorem cpRl.ag {S S' : cpS} (h : cpRl S) (g : cpAg cpCore S S') : cpRl S' := by
  obtain ⟨hT, hF, hY, hV, hP, hI⟩ := h
  exact ⟨hT.ag (by decide) (by decide) g, hF.ag g, hY.ag (by decide) (by decide) (by decide) (by decide) g, hV.ag (by decide) (by decide) (by decide) g, hP.ag (by decide) (by decide) (by decide) (by decide) g, hI.ag (by decide) (by decide) (by decide) (by decide) (by decide) g⟩
/-- all but the trays -/
def cpCoreY (k : Nat) : Bool := cpCore k && !((139 ≤ k && k ≤ 146) || (171 ≤ k && k ≤ 173))
theorem cpRl.agY {S S' : cpS} (h : cpRl S) (g : cpAg cpCoreY S S') (hY : rY S') : cpRl S' := by
  obtain ⟨hT, hF, -, hV, hP, hI⟩ := h
  exact ⟨hT.ag (by decide) (by decide) g, hF.ag g, hY, hV.ag (by decide) (by decide) (by decide) g, hP.ag (by decide) (by decide) (by decide) (by decide) g, hI.ag (by decide) (by decide) (by decide) (by decide) (by decide) g⟩
