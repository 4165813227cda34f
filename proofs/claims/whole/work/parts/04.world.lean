/-! the world of the class and of the reference: 174 cells, their shapes fixed; contents: numbers by cell and place -/
abbrev cpS : Type := (Nat → Nat → Int32) × (Nat → Nat → Int64)
def cpI (S : cpS) (k j : Nat) (x : Int32) : cpS := (fun a => if a = k then upd (S.1 k) j x else S.1 a, S.2)
def cpL (S : cpS) (k j : Nat) (x : Int64) : cpS := (S.1, fun a => if a = k then vp_updL (S.2 k) j x else S.2 a)
def cpRI (S : cpS) (k : Nat) (f : Nat → Int32) : cpS := (fun a => if a = k then f else S.1 a, S.2)
def cpRL (S : cpS) (k : Nat) (f : Nat → Int64) : cpS := (S.1, fun a => if a = k then f else S.2 a)
abbrev cpSh : Type := Nat × Nat × List (Option Nat)
def cpTab0 : List cpSh := [(0, 11, [some 1, some 57, some 61, some 113, some 115, some 117, some 119, some 127, some 130, some 134, some 138, some 147, some 148, some 149, none]), (0, 10, [none, none, none, none, some 2, some 3, some 4, none, some 5, some 6, some 7, none, some 8, some 9, some 10, some 11, some 12]), (1, 9, []), (1, 9, []), (1, 9, []), (1, 8, []), (1, 8, []), (1, 8, []), (1, 4, []), (1, 4, []), (1, 4, []), (1, 36, []), (0, 3, [some 13, none, none, none, none, none, some 14]), (1, 900, []), (1, 102, []), (0, 10, [none, none, none, none, some 16, some 17, some 18, none, some 19, some 20, some 21, none, some 22, some 23, some 24, some 25, some 26]), (1, 9, []), (1, 9, []), (1, 9, []), (1, 8, []), (1, 8, []), (1, 8, []), (1, 4, []), (1, 4, []), (1, 4, [])]
def cpTab1 : List cpSh := [(1, 36, []), (0, 3, [some 27, none, none, none, none, none, some 28]), (1, 900, []), (1, 102, []), (0, 10, [none, none, none, none, some 30, some 31, some 32, none, some 33, some 34, some 35, none, some 36, some 37, some 38, some 39, some 40]), (1, 9, []), (1, 9, []), (1, 9, []), (1, 8, []), (1, 8, []), (1, 8, []), (1, 4, []), (1, 4, []), (1, 4, []), (1, 36, []), (0, 3, [some 41, none, none, none, none, none, some 42]), (1, 900, []), (1, 102, []), (0, 10, [none, none, none, none, some 44, some 45, some 46, none, some 47, some 48, some 49, none, some 50, some 51, some 52, some 53, some 54]), (1, 9, []), (1, 9, []), (1, 9, []), (1, 8, []), (1, 8, []), (1, 8, [])]
def cpTab2 : List cpSh := [(1, 4, []), (1, 4, []), (1, 4, []), (1, 36, []), (0, 3, [some 55, none, none, none, none, none, some 56]), (1, 900, []), (1, 102, []), (0, 5, [some 58, some 59, some 60, none, none]), (1, 4, []), (1, 4, []), (1, 8, []), (0, 5, [some 62, some 63, some 64, none, none]), (1, 4, []), (1, 4, []), (1, 8, []), (0, 5, [some 66, some 67, some 68, none, none]), (1, 4, []), (1, 4, []), (1, 8, []), (0, 5, [some 70, some 71, some 72, none, none]), (1, 4, []), (1, 4, []), (1, 8, []), (0, 5, [some 74, some 75, some 76, none, none]), (1, 4, [])]
def cpTab3 : List cpSh := [(1, 4, []), (1, 8, []), (0, 5, [some 78, some 79, some 80, none, none]), (1, 4, []), (1, 4, []), (1, 8, []), (0, 5, [some 82, some 83, some 84, none, none]), (1, 4, []), (1, 4, []), (1, 8, []), (0, 5, [some 86, some 87, some 88, none, none]), (1, 4, []), (1, 4, []), (1, 8, []), (0, 5, [some 90, some 91, some 92, none, none]), (1, 4, []), (1, 4, []), (1, 8, []), (0, 5, [some 94, some 95, some 96, none, none]), (1, 4, []), (1, 4, []), (1, 8, []), (0, 5, [some 98, some 99, some 100, none, none]), (1, 4, []), (1, 4, [])]
def cpTab4 : List cpSh := [(1, 8, []), (0, 5, [some 102, some 103, some 104, none, none]), (1, 4, []), (1, 4, []), (1, 8, []), (0, 5, [some 106, some 107, some 108, none, none]), (1, 4, []), (1, 4, []), (1, 8, []), (0, 5, [some 110, some 111, some 112, none, none]), (1, 4, []), (1, 4, []), (1, 8, []), (0, 6, [some 114, none, none]), (5, 10, [some 65, some 69, some 73, some 77, some 81, some 85, some 89, some 93, some 97, some 101]), (0, 7, [some 116, none, some 15, none, none, none, none, none, none, none, none, none]), (2, 900, []), (0, 0, [some 1, some 57, some 118]), (1, 6, []), (0, 4, [some 117, some 120, some 121, some 122, some 123, some 124, some 125, some 126]), (1, 1008, []), (1, 36, []), (1, 6, []), (4, 6, []), (4, 6, [])]
def cpTab5 : List cpSh := [(1, 4, []), (1, 4, []), (0, 1, [some 1, some 57, some 128, some 129, none, none, none]), (1, 256, []), (1, 8, []), (0, 8, [some 119, some 117, some 131, some 132, some 133]), (4, 54, []), (1, 11, []), (4, 8, []), (0, 2, [some 119, some 1, some 135, some 136, some 137, none]), (1, 6, []), (1, 36, []), (3, 18, []), (6, 4, [some 139, some 141, some 143, some 145]), (0, 9, [some 140, none, none]), (4, 40, []), (0, 9, [some 142, none, none]), (4, 40, []), (0, 9, [some 144, none, none]), (4, 40, []), (0, 9, [some 146, none, none]), (4, 40, []), (7, 2, [some 29, some 43]), (5, 2, [some 105, some 109]), (3, 2, [])]
def cpTab6 : List cpSh := [(0, 12, [none, some 151, some 152, some 153, some 154, none, none, none, none, none, none, none, none, none, none, none, some 155, some 156, some 157, none, some 158, none, none, some 159, some 160, some 161, some 162, some 163, some 164, some 165, some 166, some 167, some 168, none, some 169, some 170, some 171, some 172, some 173]), (1, 3486, []), (3, 2, []), (1, 900, []), (1, 1162, []), (1, 36, []), (1, 900, []), (1, 6, []), (1, 18, []), (1, 36, []), (1, 6, []), (1, 6, []), (4, 6, []), (4, 6, []), (1, 4, []), (1, 4, []), (1, 256, []), (4, 54, []), (1, 168, []), (1, 11, []), (4, 36, []), (1, 4, []), (1, 4, []), (4, 160, [])]
def cpTab : List cpSh := cpTab0 ++ cpTab1 ++ cpTab2 ++ cpTab3 ++ cpTab4 ++ cpTab5 ++ cpTab6
abbrev cpN : Nat := 174
def cpShp (k : Nat) : cpSh := cpTab.getD k (9, 0, [])
abbrev cpW : Type := va_G × (Nat → Nat) × (Nat → ClassId) × (Nat → Nat) × (Nat → Nat) × (Nat → Nat) × Option Nat
def cpFs (ad : Nat → Nat) (f : Nat → Int32) : Nat → List (Option Nat) → List Value
  | _, [] => []
  | j, none :: l => .int (f j) :: cpFs ad f (j + 1) l
  | j, some d :: l => .ref (ad d) :: cpFs ad f (j + 1) l
def cpCellOf (w : cpW) (S : cpS) (k : Nat) (t : cpSh) : va_E := match t with
  | (0, ci, fs) => .inr (ci, cpFs w.2.1 (S.1 k) 0 fs)
  | (4, n, _) => .inl (w.2.2.1 4, n, .inr (.inl (S.2 k)))
  | (5, n, l) => .inl (w.2.2.1 5, n, .inr (.inr (.inr (.inr (fun j => (l.getD j none).map w.2.1)))))
  | (6, n, l) => .inl (w.2.2.1 6, n, .inr (.inr (.inr (.inr (fun j => (l.getD j none).map w.2.1)))))
  | (7, n, l) => .inl (w.2.2.1 7, n, .inr (.inr (.inr (.inr (fun j => (l.getD j none).map w.2.1)))))
  | (t + 1, n, _) => .inl (w.2.2.1 (t + 1), n, .inl (S.1 k))
def cpCell (w : cpW) (S : cpS) (k : Nat) : va_E := cpCellOf w S k (cpShp k)
def cpWd (w : cpW) (S : cpS) : va_W := (List.range cpN).map (fun k => (w.2.1 k, cpCell w S k))
abbrev cpTys (w : cpW) : List (ClassId × FieldType) := [(w.2.2.1 0, .int), (w.2.2.1 1, .int), (w.2.2.1 2, .char), (w.2.2.1 3, .boolean), (w.2.2.1 4, .long), (w.2.2.1 5, .object "CoinPairs$Now"), (w.2.2.1 6, .object "CoinPairs$Tray"), (w.2.2.1 7, .object "CoinPairs$Valley")]
theorem cpWd_at {w : cpW} {S : cpS} {k : Nat} (h : k < cpN) : (cpWd w S)[k]? = some (w.2.1 k, cpCell w S k) := by
  simp [cpWd, List.getElem?_map, List.getElem?_range h]
theorem cpWd_len (w : cpW) (S : cpS) : (cpWd w S).length = cpN := by simp [cpWd]
theorem cpWd_set {w : cpW} {S S' : cpS} {k : Nat} {e : va_E} (h1 : cpCell w S' k = e) (h2 : ∀ j, j ≠ k → cpCell w S' j = cpCell w S j) : (cpWd w S).set k (w.2.1 k, e) = cpWd w S' := by
  apply List.ext_getElem?
  intro j
  by_cases hj : j < cpN
  · rw [cpWd_at hj, List.getElem?_set, cpWd_len, cpWd_at hj]
    by_cases hk : k = j
    · subst hk
      simp [hj, h1]
    · rw [if_neg hk, h2 j (fun h => hk h.symm)]
  · rw [List.getElem?_eq_none (by rw [List.length_set, cpWd_len]; omega), List.getElem?_eq_none (by rw [cpWd_len]; omega)]
def cpDist (w : cpW) (A : Nat → Prop) : Prop := (∀ i j, i < cpN → j < cpN → w.2.1 i = w.2.1 j → i = j) ∧ ∀ i, i < cpN → A (w.2.1 i)
theorem cpDist.D {w : cpW} {A : Nat → Prop} (h : cpDist w A) (S : cpS) : va_D A (cpWd w S) := by
  have key : ∀ (i : Nat) (q : Nat × va_E), (cpWd w S)[i]? = some q → i < cpN ∧ w.2.1 i = q.1 := by
    intro i q hi
    have hl : i < cpN := by
      have := (List.getElem?_eq_some_iff.mp hi).1
      rwa [cpWd_len] at this
    rw [cpWd_at hl] at hi
    cases hi
    exact ⟨hl, rfl⟩
  refine ⟨fun i j p q hi hj e => ?_, fun k q hk => ?_⟩
  · obtain ⟨h1, e1⟩ := key i p hi
    obtain ⟨h2, e2⟩ := key j q hj
    exact h.1 i j h1 h2 (by rw [e1, e2, e])
  · obtain ⟨h1, e1⟩ := key k q hk
    rw [← e1]; exact h.2 k h1
/-- a cell with its shape -/
def cpO (k t n : Nat) (l : List (Option Nat)) : Prop := k < cpN ∧ cpShp k = (t, n, l)
theorem cpO.obj {k ci : Nat} {fs : List (Option Nat)} (h : cpO k 0 ci fs) (w : cpW) (S : cpS) : (cpWd w S)[k]? = some (w.2.1 k, .inr (ci, cpFs w.2.1 (S.1 k) 0 fs)) := by
  rw [cpWd_at h.1]; unfold cpCell; rw [h.2]; rfl
theorem cpO.ints {k t n : Nat} (ht : t = 1 ∨ t = 2 ∨ t = 3) {l : List (Option Nat)} (h : cpO k t n l) (w : cpW) (S : cpS) : (cpWd w S)[k]? = some (w.2.1 k, .inl (w.2.2.1 t, n, .inl (S.1 k))) := by
  rw [cpWd_at h.1]; unfold cpCell; rw [h.2]; rcases ht with rfl | rfl | rfl <;> rfl
theorem cpO.longs {k n : Nat} {l : List (Option Nat)} (h : cpO k 4 n l) (w : cpW) (S : cpS) : (cpWd w S)[k]? = some (w.2.1 k, .inl (w.2.2.1 4, n, .inr (.inl (S.2 k)))) := by
  rw [cpWd_at h.1]; unfold cpCell; rw [h.2]; rfl
theorem cpO.refs {k t n : Nat} (ht : t = 5 ∨ t = 6 ∨ t = 7) {l : List (Option Nat)} (h : cpO k t n l) (w : cpW) (S : cpS) : (cpWd w S)[k]? = some (w.2.1 k, .inl (w.2.2.1 t, n, .inr (.inr (.inr (.inr (fun j => (l.getD j none).map w.2.1)))))) := by
  rw [cpWd_at h.1]; unfold cpCell; rw [h.2]; rcases ht with rfl | rfl | rfl <;> rfl
theorem cpFs_len (ad : Nat → Nat) (f : Nat → Int32) (fs : List (Option Nat)) : ∀ j, (cpFs ad f j fs).length = fs.length := by
  induction fs with
  | nil => intro j; rfl
  | cons o l ih => intro j; cases o <;> simp [cpFs, ih]
theorem cpFs_int {ad : Nat → Nat} {f : Nat → Int32} {fs : List (Option Nat)} : ∀ {i j : Nat}, fs[j]? = some none → (cpFs ad f i fs)[j]? = some (.int (f (i + j))) := by
  induction fs with
  | nil => intro i j h; simp at h
  | cons o l ih =>
    intro i j h
    cases j with
    | zero => simp at h; subst h; rfl
    | succ j =>
      have := ih (i := i + 1) (j := j) (by simpa using h)
      cases o <;> simpa [cpFs, Nat.add_assoc, Nat.add_comm 1 j] using this
theorem cpFs_ref {ad : Nat → Nat} {f : Nat → Int32} {d : Nat} {fs : List (Option Nat)} : ∀ {i j : Nat}, fs[j]? = some (some d) → (cpFs ad f i fs)[j]? = some (.ref (ad d)) := by
  induction fs with
  | nil => intro i j h; simp at h
  | cons o l ih =>
    intro i j h
    cases j with
    | zero => simp at h; subst h; rfl
    | succ j =>
      have := ih (i := i + 1) (j := j) (by simpa using h)
      cases o <;> simpa [cpFs] using this
theorem cpFs_set {ad : Nat → Nat} {f : Nat → Int32} {x : Int32} {fs : List (Option Nat)} : ∀ {i j : Nat}, fs[j]? = some none → (cpFs ad f i fs).set j (.int x) = cpFs ad (upd f (i + j) x) i fs := by
  induction fs with
  | nil => intro i j h; simp at h
  | cons o l ih =>
    intro i j h
    have hne : ∀ (l : List (Option Nat)) (i k : Nat), k < i → cpFs ad (upd f k x) i l = cpFs ad f i l := by
      intro l
      induction l with
      | nil => intro i k _; rfl
      | cons o l ihl =>
        intro i k hk
        have h1 := ihl (i + 1) k (by omega)
        cases o
        · simp only [cpFs, h1]; congr 2; exact pk_un (by omega)
        · simp only [cpFs, h1]
    cases j with
    | zero =>
      simp at h; subst h
      simp only [cpFs, List.set_cons_zero, Nat.add_zero]
      rw [hne l (i + 1) i (by omega)]
      congr 2; exact pk_us.symm
    | succ j =>
      have := ih (i := i + 1) (j := j) (by simpa using h)
      have e : i + (j + 1) = i + 1 + j := by omega
      rw [e]
      cases o
      · simp only [cpFs, List.set_cons_succ, this]; congr 2; exact (pk_un (by omega)).symm
      · simp only [cpFs, List.set_cons_succ, this]
/-! what a store does to the cells -/
theorem cpCellOf_I {w : cpW} {S : cpS} {k j a : Nat} {x : Int32} (t : cpSh) (h : a ≠ k) : cpCellOf w (cpI S k j x) a t = cpCellOf w S a t := by
  unfold cpCellOf cpI
  simp only [if_neg h]
theorem cpCellOf_RI {w : cpW} {S : cpS} {k a : Nat} {f : Nat → Int32} (t : cpSh) (h : a ≠ k) : cpCellOf w (cpRI S k f) a t = cpCellOf w S a t := by
  unfold cpCellOf cpRI
  simp only [if_neg h]
theorem cpCellOf_L {w : cpW} {S : cpS} {k j a : Nat} {x : Int64} (t : cpSh) (h : a ≠ k) : cpCellOf w (cpL S k j x) a t = cpCellOf w S a t := by
  unfold cpCellOf cpL
  simp only [if_neg h]
theorem cpCellOf_RL {w : cpW} {S : cpS} {k a : Nat} {f : Nat → Int64} (t : cpSh) (h : a ≠ k) : cpCellOf w (cpRL S k f) a t = cpCellOf w S a t := by
  unfold cpCellOf cpRL
  simp only [if_neg h]
theorem cpWd_putF {w : cpW} {S : cpS} {k ci j : Nat} {x : Int32} {fs : List (Option Nat)} (h : cpO k 0 ci fs) (hj : fs[j]? = some none) : (cpWd w S).set k (w.2.1 k, .inr (ci, (cpFs w.2.1 (S.1 k) 0 fs).set j (.int x))) = cpWd w (cpI S k j x) := by
  refine cpWd_set ?_ (fun a ha => cpCellOf_I _ ha)
  unfold cpCell; rw [h.2, cpFs_set hj]; simp [cpCellOf, cpI]
theorem cpWd_putI {w : cpW} {S : cpS} {k t n j : Nat} {x : Int32} (ht : t = 1 ∨ t = 2 ∨ t = 3) {l : List (Option Nat)} (h : cpO k t n l) : (cpWd w S).set k (w.2.1 k, .inl (w.2.2.1 t, n, .inl (upd (S.1 k) j x))) = cpWd w (cpI S k j x) := by
  refine cpWd_set ?_ (fun a ha => cpCellOf_I _ ha)
  unfold cpCell; rw [h.2]; rcases ht with rfl | rfl | rfl <;> simp [cpCellOf, cpI]
theorem cpWd_putL {w : cpW} {S : cpS} {k n j : Nat} {x : Int64} {l : List (Option Nat)} (h : cpO k 4 n l) : (cpWd w S).set k (w.2.1 k, .inl (w.2.2.1 4, n, .inr (.inl (vp_updL (S.2 k) j x)))) = cpWd w (cpL S k j x) := by
  refine cpWd_set ?_ (fun a ha => cpCellOf_L _ ha)
  unfold cpCell; rw [h.2]; simp [cpCellOf, cpL]
theorem cpWd_rowI {w : cpW} {S : cpS} {k t n : Nat} {f : Nat → Int32} (ht : t = 1 ∨ t = 2 ∨ t = 3) {l : List (Option Nat)} (h : cpO k t n l) : (cpWd w S).set k (w.2.1 k, .inl (w.2.2.1 t, n, .inl f)) = cpWd w (cpRI S k f) := by
  refine cpWd_set ?_ (fun a ha => cpCellOf_RI _ ha)
  unfold cpCell; rw [h.2]; rcases ht with rfl | rfl | rfl <;> simp [cpCellOf, cpRI]
theorem cpWd_rowL {w : cpW} {S : cpS} {k n : Nat} {f : Nat → Int64} {l : List (Option Nat)} (h : cpO k 4 n l) : (cpWd w S).set k (w.2.1 k, .inl (w.2.2.1 4, n, .inr (.inl f))) = cpWd w (cpRL S k f) := by
  refine cpWd_set ?_ (fun a ha => cpCellOf_RL _ ha)
  unfold cpCell; rw [h.2]; simp [cpCellOf, cpRL]
