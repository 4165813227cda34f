/-! the judgement: at pc, with locals lv, stack st, contents S, the machine comes to Q -/
def cpLv (ls : Array Slot) (nL : Nat) (lv : List (Option Value)) : Prop := ls.size = nL ∧ lv_wf ls ∧ ∀ (i : Nat) (v : Value), lv[i]? = some (some v) → ls[i]? = some (.val v)
def cpEn : Nat → List (Option Value) → List (Nat × Value)
  | _, [] => []
  | i, none :: t => cpEn (i + 1) t
  | i, some v :: t => (i, v) :: cpEn (i + 1) t
theorem cpEn_mem {lv : List (Option Value)} : ∀ {i : Nat} {q : Nat × Value}, q ∈ cpEn i lv ↔ ∃ j, q.1 = i + j ∧ lv[j]? = some (some q.2) := by
  induction lv with
  | nil => intro i q; simp [cpEn]
  | cons o t ih =>
    intro i q
    constructor
    · intro h
      cases o with
      | none =>
        obtain ⟨j, h1, h2⟩ := ih.mp (show q ∈ cpEn (i + 1) t from h)
        exact ⟨j + 1, by omega, by simpa using h2⟩
      | some v =>
        rcases List.mem_cons.mp (show q ∈ (i, v) :: cpEn (i + 1) t from h) with h | h
        · subst h; exact ⟨0, rfl, rfl⟩
        · obtain ⟨j, h1, h2⟩ := ih.mp h
          exact ⟨j + 1, by omega, by simpa using h2⟩
    · rintro ⟨j, h1, h2⟩
      cases j with
      | zero =>
        simp at h2; subst h2
        show q ∈ (i, q.2) :: cpEn (i + 1) t
        exact List.mem_cons.mpr (Or.inl (Prod.ext h1 rfl))
      | succ j =>
        have h3 : q ∈ cpEn (i + 1) t := ih.mpr ⟨j, by omega, by simpa using h2⟩
        cases o
        · exact h3
        · exact List.mem_cons_of_mem _ h3
theorem cpLv.has {ls : Array Slot} {nL : Nat} {lv : List (Option Value)} (h : cpLv ls nL lv) : lv_has ls nL (cpEn 0 lv) := by
  refine ⟨h.1, h.2.1, fun q hq => ?_⟩
  obtain ⟨j, h1, h2⟩ := cpEn_mem.mp hq
  rw [Nat.zero_add] at h1
  rw [h1]; exact h.2.2 j _ h2
theorem cpLv.of {ls : Array Slot} {nL : Nat} {lv : List (Option Value)} {l : List (Nat × Value)} (h : lv_has ls nL l) (hq : ∀ (i : Nat) (v : Value), lv[i]? = some (some v) → (i, v) ∈ l) : cpLv ls nL lv := ⟨h.1, h.2.1, fun i v hi => h.2.2 (i, v) (hq i v hi)⟩
/-- nothing two words wide ends in the place i -/
def cpOk (lv : List (Option Value)) : Nat → Bool
  | 0 => true
  | i + 1 => match lv[i]? with
    | some (some v) => v.category != 2
    | _ => true
theorem cpOk_ne {lv : List (Option Value)} {i : Nat} (h : cpOk lv i = true) {j : Nat} {v : Value} (hj : lv[j]? = some (some v)) (e : j + 1 = i) : (v.category == 2) = false := by
  subst e
  simp only [cpOk, hj] at h
  simpa using h
theorem cpLv.set1 {ls : Array Slot} {nL i : Nat} {lv : List (Option Value)} {v : Value} (h : lv_has ls nL ((i, v) :: (cpEn 0 lv).filter (fun q => !(q.1 == i) && !(q.1 + 1 == i && q.2.category == 2)))) (ho : cpOk lv i = true) : cpLv ls nL (lv.set i (some v)) := by
  refine cpLv.of h (fun j x hj => ?_)
  rw [List.getElem?_set] at hj
  by_cases hji : i = j
  · subst hji
    by_cases hl : i < lv.length
    · simp [hl] at hj; subst hj; exact List.mem_cons_self
    · simp [hl] at hj
  · rw [if_neg hji] at hj
    refine List.mem_cons_of_mem _ (List.mem_filter.mpr ⟨cpEn_mem.mpr ⟨j, by simp, hj⟩, ?_⟩)
    have h1 : (j == i) = false := by simpa using fun h => hji h.symm
    by_cases he : j + 1 = i
    · simp [h1, cpOk_ne ho hj he]
    · have h2 : (j + 1 == i) = false := by simpa using he
      simp [h1, h2]
theorem cpLv.set2 {ls : Array Slot} {nL i : Nat} {lv : List (Option Value)} {v : Value} (h : lv_has ls nL ((i, v) :: (cpEn 0 lv).filter (fun q => !(q.1 == i) && (!(q.1 == i + 1) && !(q.1 + 1 == i && q.2.category == 2))))) (ho : cpOk lv i = true) : cpLv ls nL ((lv.set (i + 1) none).set i (some v)) := by
  refine cpLv.of h (fun j x hj => ?_)
  rw [List.getElem?_set] at hj
  by_cases hji : i = j
  · subst hji
    by_cases hl : i < (lv.set (i + 1) none).length
    · rw [if_pos rfl, if_pos hl] at hj; cases hj; exact List.mem_cons_self
    · rw [if_pos rfl, if_neg hl] at hj; cases hj
  · rw [if_neg hji, List.getElem?_set] at hj
    by_cases hj1 : i + 1 = j
    · rw [if_pos hj1] at hj
      split at hj <;> cases hj
    · rw [if_neg hj1] at hj
      refine List.mem_cons_of_mem _ (List.mem_filter.mpr ⟨cpEn_mem.mpr ⟨j, by simp, hj⟩, ?_⟩)
      have h1 : (j == i) = false := by simpa using fun h => hji h.symm
      have h3 : (j == i + 1) = false := by simpa using fun h => hj1 h.symm
      by_cases he : j + 1 = i
      · simp [h1, h3, cpOk_ne ho hj he]
      · have h2 : (j + 1 == i) = false := by simpa using he
        simp [h1, h2, h3]
theorem cpLv.weak {ls : Array Slot} {nL : Nat} {lv lv' : List (Option Value)} (h : cpLv ls nL lv) (hq : ∀ (i : Nat) (v : Value), lv'[i]? = some (some v) → lv[i]? = some (some v)) : cpLv ls nL lv' := ⟨h.1, h.2.1, fun i v hi => h.2.2 i v (hq i v hi)⟩
def cpIn (i : Int32) (n : Nat) : Bool := decide (¬ (i < 0 ∨ n ≤ i.toNatClampNeg))
theorem cpIn_vp {i : Int32} {n : Nat} (h : cpIn i n = true) : vp_in i n := of_decide_eq_true (p := ¬ (i < 0 ∨ n ≤ i.toNatClampNeg)) h
/-! what the statement's start gives of statics, literals and nest mates, at any state -/
def cpNM : List (String × Nat × MethodName × String) := [("CoinPairs$Rims", 99, yX11_isIn, "CoinPairs"), ("CoinPairs$Rims", 88, yX11_deedOf, "CoinPairs"), ("CoinPairs$Now", 49, yX11_isIn, "CoinPairs"), ("CoinPairs$Moves", 122, yX11_isIn, "CoinPairs"), ("CoinPairs$Moves", 109, yX11_deedOf, "CoinPairs"), ("CoinPairs$Games", 55, yX11_isIn, "CoinPairs"), ("CoinPairs$Company", 51, yX11_isIn, "CoinPairs")]
def cpNF : List (String × Nat × String) := [("CoinPairs$Rims", 85, "OTHER_ONE"), ("CoinPairs$Rims", 82, "LESSER_ONE"), ("CoinPairs$Moves", 77, "LESSER_ONE"), ("CoinPairs$Moves", 70, "OTHER_ONE"), ("CoinPairs$Carriers", 91, "OTHER_ONE"), ("CoinPairs$Carriers", 88, "LESSER_ONE")]
def cpLO : List Int32 := [0, 0, 0, 0, 0, 0, 0, 1, 1, 1, 1, 1, 1, 2, 2, 2, 2, 2, 3, 3, 3, 3, 4, 4, 4, 5, 5, 6]
def cpOO : List Int32 := [1, 2, 3, 4, 5, 6, 7, 2, 3, 4, 5, 6, 7, 3, 4, 5, 6, 7, 4, 5, 6, 7, 5, 6, 7, 6, 7, 7]
def cpLs (j : Nat) : Int32 := cpLO.getD j 0
def cpOs (j : Nat) : Int32 := cpOO.getD j 0
def cpSt : List (String × Nat × String × Nat) := [("CoinPairs$Reader", 259, ";:+-*()[]=<>", 0), ("CoinPairs$Reader", 60, "valley", 1), ("CoinPairs$Reader", 66, "places", 2), ("CoinPairs$Reader", 77, "hour", 3), ("CoinPairs$Reader", 89, "road", 4), ("CoinPairs$Reader", 136, "long", 5), ("CoinPairs$Reader", 97, "person", 6), ("CoinPairs$Reader", 144, "at", 7), ("CoinPairs$Reader", 149, "strong", 8), ("CoinPairs$Reader", 102, "quarrel", 9), ("CoinPairs$Reader", 107, "coin", 10), ("CoinPairs$Reader", 163, "weight", 11), ("CoinPairs$Reader", 167, "worth", 12), ("CoinPairs$Reader", 112, "may", 13), ("CoinPairs$Reader", 211, "not", 14), ("CoinPairs$Reader", 228, "if", 15), ("CoinPairs$Reader", 239, "then", 16), ("CoinPairs$Reader", 241, "else", 17), ("CoinPairs$Reader", 243, "end", 18), ("CoinPairs$Reader", 244, "far", 19), ("CoinPairs$Reader", 246, "lesser", 20), ("CoinPairs$Reader", 209, "and", 21), ("CoinPairs$Reader", 201, "or", 22), ("CoinPairs$Reader", 117, "wears", 23), ("CoinPairsModel", 98, " valley places hour road long person at strong quarrel coin weight worth may wears if then else end far lesser and or not ", 24), ("CoinPairsModel", 136, ";:+-*()[]=<>", 0)]
def cpLen : List Nat := [12, 6, 6, 4, 4, 4, 6, 2, 6, 7, 4, 6, 5, 3, 3, 2, 4, 4, 3, 3, 6, 3, 2, 5, 122]
def cpByt : List (List Int32) := [[59, 58, 43, 45, 42, 40, 41, 91, 93, 61, 60, 62], [118, 97, 108, 108, 101, 121], [112, 108, 97, 99, 101, 115], [104, 111, 117, 114], [114, 111, 97, 100], [108, 111, 110, 103], [112, 101, 114, 115, 111, 110], [97, 116], [115, 116, 114, 111, 110, 103], [113, 117, 97, 114, 114, 101, 108], [99, 111, 105, 110], [119, 101, 105, 103, 104, 116], [119, 111, 114, 116, 104], [109, 97, 121], [110, 111, 116], [105, 102], [116, 104, 101, 110], [101, 108, 115, 101], [101, 110, 100], [102, 97, 114], [108, 101, 115, 115, 101, 114], [97, 110, 100], [111, 114], [119, 101, 97, 114, 115], [32, 118, 97, 108, 108, 101, 121, 32, 112, 108, 97, 99, 101, 115, 32, 104, 111, 117, 114, 32, 114, 111, 97, 100, 32, 108, 111, 110, 103, 32, 112, 101, 114, 115, 111, 110, 32, 97, 116, 32, 115, 116, 114, 111, 110, 103, 32, 113, 117, 97, 114, 114, 101, 108, 32, 99, 111, 105, 110, 32, 119, 101, 105, 103, 104, 116, 32, 119, 111, 114, 116, 104, 32, 109, 97, 121, 32, 119, 101, 97, 114, 115, 32, 105, 102, 32, 116, 104, 101, 110, 32, 101, 108, 115, 101, 32, 101, 110, 100, 32, 102, 97, 114, 32, 108, 101, 115, 115, 101, 114, 32, 97, 110, 100, 32, 111, 114, 32, 110, 111, 116, 32]]
def cpStrK (w : cpW) (A : Nat → Prop) (U : State) : Prop := (∀ q ∈ cpSt, vk_R q.1 q.2.1 q.2.2.1 (w.2.2.2.2.1 q.2.2.2) U) ∧ vk_S 25 cpLen cpByt w.2.2.2.2.1 w.2.2.2.2.2.1 A U U.heap ∧ va_Z "java/lang/String" "COMPACT_STRINGS" "Z" (.int 1) A U U.heap ∧ va_Z "jdk/internal/util/Preconditions" "SIOOBE_FORMATTER" "Ljava/util/function/BiFunction;" (va_rf w.2.2.2.2.2.2) A U U.heap
def cpKn (w : cpW) (A : Nat → Prop) (U : State) : Prop :=
  va_K w.1 vwCl (cpTys w) U ∧ (∀ q ∈ cpNM, va_Nw (.methodLinkNest q.1 q.2.1 q.2.2.1 q.2.2.2) U) ∧ (∀ q ∈ cpNF, va_Nw (.fieldLinkNest q.1 q.2.1 "CoinPairs" q.2.2 "[I" "CoinPairs") U) ∧
  va_Z "CoinPairs" "LESSER_ONE" "[I" (.ref (w.2.2.2.1 0)) A U U.heap ∧ va_Z "CoinPairs" "OTHER_ONE" "[I" (.ref (w.2.2.2.1 1)) A U U.heap ∧
  va_T .int (w.2.2.2.1 0) 28 (fun j => .int (cpLs j)) A U U.heap ∧ va_T .int (w.2.2.2.1 1) 28 (fun j => .int (cpOs j)) A U U.heap ∧ cpStrK w A U
theorem cpKn.call {w : cpW} {A : Nat → Prop} {s U : State} {H : Heap} {locs : List Loc} (h : cpKn w A s) (hS : va_S A s.heap H locs) (hU : U.heap = H) (hW : s.WarmedH U.vm) : cpKn w A U := by
  obtain ⟨h1, h2, h3, h4, h5, h6, h7, h8, h9, h10, h11⟩ := h
  have hq : ∀ a : Nat, a < s.heap.size → ¬ A a → U.heap[a]? = s.heap[a]? := fun a k1 k2 => by rw [hU]; exact hS.2.1 a k1 k2
  exact ⟨va_K.moved hW.alike h1, fun q hq => va_Nw.warmM hW (h2 q hq), fun q hq => va_Nw.warmF hW (h3 q hq), va_Z.kept (va_Z.moved hW.alike h4) hq, va_Z.kept (va_Z.moved hW.alike h5) hq, va_T.kept (va_T.moved hW.alike h6) hq, va_T.kept (va_T.moved hW.alike h7) hq, fun q hq => vk_R.warm hW (h8 q hq), vk_S.kept (vk_S.moved hW.alike h9) hq, va_Z.kept (va_Z.moved hW.alike h10) hq, va_Z.kept (va_Z.moved hW.alike h11) hq⟩
theorem cpKn.same {w : cpW} {A : Nat → Prop} {U V : State} (h : cpKn w A U) (hv : U.vm = V.vm) (hh : U.heap = V.heap) (ha : U.vm.Alike V.vm) : cpKn w A V := by
  obtain ⟨h1, h2, h3, h4, h5, h6, h7, h8, h9, h10, h11⟩ := h
  rw [hh] at h4 h5 h6 h7 h9 h10 h11
  exact ⟨va_K.moved ha h1, fun q hq => va_Nw.same rfl hv (h2 q hq), fun q hq => va_Nw.same rfl hv (h3 q hq), va_Z.moved ha h4, va_Z.moved ha h5, va_T.moved ha h6, va_T.moved ha h7, fun q hq => vk_R.same hv.symm (h8 q hq), vk_S.moved ha h9, va_Z.moved ha h10, va_Z.moved ha h11⟩
/-- a state's world -/
def cpWorld (w : cpW) (A : Nat → Prop) (S : cpS) (U : State) : Prop := va_P w.1 vwCl (cpWd w S) U.heap ∧ cpKn w A U ∧ cpDist w A
section CPJ
variable {p : Program} {l : Launch} {e : Env} {R : Room} {s : State} {m : MethodId} {args : Array Value} {below : List Frame} {meth : Method} {c : Code} {Q : State → Prop} {w : cpW} {A : Nat → Prop} {cc : ByteArray} {own : String} {nL : Nat}
def cpJ (p : Program) (l : Launch) (e : Env) (R : Room) (s : State) (m : MethodId) (args : Array Value) (below : List Frame) (meth : Method) (c : Code) (Q : State → Prop) (w : cpW) (A : Nat → Prop) (nL : Nat) (pc : Nat) (lv : List (Option Value)) (st : List Value) (S : cpS) : Prop :=
  ∀ (H : Heap) (locs : List Loc) (ls : Array Slot), va_P w.1 vwCl (cpWd w S) H → va_S A s.heap H locs → cpLv ls nL lv → W p l e R s m args below meth c H locs 0 0 Q (F0 m pc ls st)
def cpCx (p : Program) (s : State) (m : MethodId) (args : Array Value) (meth : Method) (c : Code) (w : cpW) (A : Nat → Prop) (cc : ByteArray) (own : String) (nL : Nat) : Prop :=
  p.tables.exec = Jvm.exec ∧ c.code = cc ∧ c.maxLocals = nL ∧ s.vm.findClass own = some m.cls ∧ (∀ q ∈ wsL_law, q.before args s = true) ∧ cpKn w A s ∧ cpDist w A ∧ meth.locks = false

theorem cj_iload_n (C : cpCx p s m args meth c w A cc own nL) {pc : Nat} {lv : List (Option Value)} {st : List Value} {S : cpS} {k : Fin 4} {i : Nat} {x : Int32} (hdg : decode cc pc = .ok (.iload_n k, 1)) (hi : (k : Nat) = i) (hl : lv[i]? = some (some (.int x))) (kk : cpJ p l e R s m args below meth c Q w A nL (pc + 1) lv (.int x :: st) S) : cpJ p l e R s m args below meth c Q w A nL pc lv st S :=
  fun H locs ls hP hS hL => lv_iload_n C.1 C.2.1 hdg hi (hL.2.2 i _ hl) (kk H locs ls hP hS hL)
theorem cj_iload (C : cpCx p s m args meth c w A cc own nL) {pc : Nat} {lv : List (Option Value)} {st : List Value} {S : cpS} {i : Nat} {x : Int32} (hdg : decode cc pc = .ok (.iload i, 2)) (hl : lv[i]? = some (some (.int x))) (kk : cpJ p l e R s m args below meth c Q w A nL (pc + 2) lv (.int x :: st) S) : cpJ p l e R s m args below meth c Q w A nL pc lv st S :=
  fun H locs ls hP hS hL => lv_iload C.1 C.2.1 hdg (hL.2.2 i _ hl) (kk H locs ls hP hS hL)
theorem cj_lload_n (C : cpCx p s m args meth c w A cc own nL) {pc : Nat} {lv : List (Option Value)} {st : List Value} {S : cpS} {k : Fin 4} {i : Nat} {x : Int64} (hdg : decode cc pc = .ok (.lload_n k, 1)) (hi : (k : Nat) = i) (hl : lv[i]? = some (some (.long x))) (kk : cpJ p l e R s m args below meth c Q w A nL (pc + 1) lv (.long x :: st) S) : cpJ p l e R s m args below meth c Q w A nL pc lv st S :=
  fun H locs ls hP hS hL => lv_lload_n C.1 C.2.1 hdg hi (hL.2.2 i _ hl) (kk H locs ls hP hS hL)
theorem cj_lload (C : cpCx p s m args meth c w A cc own nL) {pc : Nat} {lv : List (Option Value)} {st : List Value} {S : cpS} {i : Nat} {x : Int64} (hdg : decode cc pc = .ok (.lload i, 2)) (hl : lv[i]? = some (some (.long x))) (kk : cpJ p l e R s m args below meth c Q w A nL (pc + 2) lv (.long x :: st) S) : cpJ p l e R s m args below meth c Q w A nL pc lv st S :=
  fun H locs ls hP hS hL => lv_lload C.1 C.2.1 hdg (hL.2.2 i _ hl) (kk H locs ls hP hS hL)
theorem cj_aload_n (C : cpCx p s m args meth c w A cc own nL) {pc : Nat} {lv : List (Option Value)} {st : List Value} {S : cpS} {k : Fin 4} {i : Nat} {x : Nat} (hdg : decode cc pc = .ok (.aload_n k, 1)) (hi : (k : Nat) = i) (hl : lv[i]? = some (some (.ref x))) (kk : cpJ p l e R s m args below meth c Q w A nL (pc + 1) lv (.ref x :: st) S) : cpJ p l e R s m args below meth c Q w A nL pc lv st S :=
  fun H locs ls hP hS hL => lv_aload_n C.1 C.2.1 hdg hi (hL.2.2 i _ hl) (kk H locs ls hP hS hL)
theorem cj_aload (C : cpCx p s m args meth c w A cc own nL) {pc : Nat} {lv : List (Option Value)} {st : List Value} {S : cpS} {i : Nat} {x : Nat} (hdg : decode cc pc = .ok (.aload i, 2)) (hl : lv[i]? = some (some (.ref x))) (kk : cpJ p l e R s m args below meth c Q w A nL (pc + 2) lv (.ref x :: st) S) : cpJ p l e R s m args below meth c Q w A nL pc lv st S :=
  fun H locs ls hP hS hL => lv_aload C.1 C.2.1 hdg (hL.2.2 i _ hl) (kk H locs ls hP hS hL)
theorem cj_istore_n (C : cpCx p s m args meth c w A cc own nL) {pc : Nat} {lv : List (Option Value)} {st : List Value} {S : cpS} {k : Fin 4} {i : Nat} {x : Int32} {lv' : List (Option Value)} (hdg : decode cc pc = .ok (.istore_n k, 1)) (hi : (k : Nat) = i) (hn : i < nL) (ho : cpOk lv i = true) (hl : lv.set i (some (.int x)) = lv') (kk : cpJ p l e R s m args below meth c Q w A nL (pc + 1) lv' st S) : cpJ p l e R s m args below meth c Q w A nL pc lv (.int x :: st) S :=
  fun H locs ls hP hS hL => lv_istore_n C.1 C.2.1 hdg hi hL.has hn rfl (fun ls h => kk H locs ls hP hS (hl ▸ cpLv.set1 h ho))
theorem cj_istore (C : cpCx p s m args meth c w A cc own nL) {pc : Nat} {lv : List (Option Value)} {st : List Value} {S : cpS} {i : Nat} {x : Int32} {lv' : List (Option Value)} (hdg : decode cc pc = .ok (.istore i, 2)) (hn : i < nL) (ho : cpOk lv i = true) (hl : lv.set i (some (.int x)) = lv') (kk : cpJ p l e R s m args below meth c Q w A nL (pc + 2) lv' st S) : cpJ p l e R s m args below meth c Q w A nL pc lv (.int x :: st) S :=
  fun H locs ls hP hS hL => lv_istore C.1 C.2.1 hdg hL.has hn rfl (fun ls h => kk H locs ls hP hS (hl ▸ cpLv.set1 h ho))
theorem cj_lstore_n (C : cpCx p s m args meth c w A cc own nL) {pc : Nat} {lv : List (Option Value)} {st : List Value} {S : cpS} {k : Fin 4} {i : Nat} {x : Int64} {lv' : List (Option Value)} (hdg : decode cc pc = .ok (.lstore_n k, 1)) (hi : (k : Nat) = i) (hn : i + 1 < nL) (ho : cpOk lv i = true) (hl : (lv.set (i + 1) none).set i (some (.long x)) = lv') (kk : cpJ p l e R s m args below meth c Q w A nL (pc + 1) lv' st S) : cpJ p l e R s m args below meth c Q w A nL pc lv (.long x :: st) S :=
  fun H locs ls hP hS hL => lv_lstore_n C.1 C.2.1 hdg hi hL.has hn rfl (fun ls h => kk H locs ls hP hS (hl ▸ cpLv.set2 h ho))
theorem cj_lstore (C : cpCx p s m args meth c w A cc own nL) {pc : Nat} {lv : List (Option Value)} {st : List Value} {S : cpS} {i : Nat} {x : Int64} {lv' : List (Option Value)} (hdg : decode cc pc = .ok (.lstore i, 2)) (hn : i + 1 < nL) (ho : cpOk lv i = true) (hl : (lv.set (i + 1) none).set i (some (.long x)) = lv') (kk : cpJ p l e R s m args below meth c Q w A nL (pc + 2) lv' st S) : cpJ p l e R s m args below meth c Q w A nL pc lv (.long x :: st) S :=
  fun H locs ls hP hS hL => lv_lstore C.1 C.2.1 hdg hL.has hn rfl (fun ls h => kk H locs ls hP hS (hl ▸ cpLv.set2 h ho))
theorem cj_iinc (C : cpCx p s m args meth c w A cc own nL) {pc : Nat} {lv : List (Option Value)} {st : List Value} {S : cpS} {i : Nat} {n : Int} {x v : Int32} {lv' : List (Option Value)} (hdg : decode cc pc = .ok (.iinc i n, 3)) (hx : lv[i]? = some (some (.int x))) (hv : x + Int32.ofInt n = v) (hn : i < nL) (ho : cpOk lv i = true) (hl : lv.set i (some (.int v)) = lv') (kk : cpJ p l e R s m args below meth c Q w A nL (pc + 3) lv' st S) : cpJ p l e R s m args below meth c Q w A nL pc lv st S := fun H locs ls hP hS hL => by
  obtain ⟨k, hk⟩ := List.mem_iff_getElem?.mp (cpEn_mem.mpr ⟨i, by simp, hx⟩ : (i, Value.int x) ∈ cpEn 0 lv)
  exact lv_iinc C.1 C.2.1 hdg hL.has hk hv hn rfl (fun ls h => kk H locs ls hP hS (hl ▸ cpLv.set1 h ho))
theorem cj_iconst (C : cpCx p s m args meth c w A cc own nL) {pc : Nat} {lv : List (Option Value)} {st : List Value} {S : cpS} {n : Int} {v : Int32} (hdg : decode cc pc = .ok (.iconst n, 1)) (hv : Int32.ofInt n = v) (kk : cpJ p l e R s m args below meth c Q w A nL (pc + 1) lv (.int v :: st) S) : cpJ p l e R s m args below meth c Q w A nL pc lv st S :=
  fun H locs ls hP hS hL => lv_iconst C.1 C.2.1 hdg hv (kk H locs ls hP hS hL)
theorem cj_bipush (C : cpCx p s m args meth c w A cc own nL) {pc : Nat} {lv : List (Option Value)} {st : List Value} {S : cpS} {n : Int} {v : Int32} (hdg : decode cc pc = .ok (.bipush n, 2)) (hv : (Int8.ofInt n).toInt32 = v) (kk : cpJ p l e R s m args below meth c Q w A nL (pc + 2) lv (.int v :: st) S) : cpJ p l e R s m args below meth c Q w A nL pc lv st S :=
  fun H locs ls hP hS hL => lv_bipush C.1 C.2.1 hdg hv (kk H locs ls hP hS hL)
theorem cj_sipush (C : cpCx p s m args meth c w A cc own nL) {pc : Nat} {lv : List (Option Value)} {st : List Value} {S : cpS} {n : Int} {v : Int32} (hdg : decode cc pc = .ok (.sipush n, 3)) (hv : (Int16.ofInt n).toInt32 = v) (kk : cpJ p l e R s m args below meth c Q w A nL (pc + 3) lv (.int v :: st) S) : cpJ p l e R s m args below meth c Q w A nL pc lv st S :=
  fun H locs ls hP hS hL => lv_sipush C.1 C.2.1 hdg hv (kk H locs ls hP hS hL)
theorem cj_lconst (C : cpCx p s m args meth c w A cc own nL) {pc : Nat} {lv : List (Option Value)} {st : List Value} {S : cpS} {n : Fin 2} {v : Int64} (hdg : decode cc pc = .ok (.lconst n, 1)) (hv : Int64.ofNat (n : Nat) = v) (kk : cpJ p l e R s m args below meth c Q w A nL (pc + 1) lv (.long v :: st) S) : cpJ p l e R s m args below meth c Q w A nL pc lv st S :=
  fun H locs ls hP hS hL => lv_lconst C.1 C.2.1 hdg hv (kk H locs ls hP hS hL)
theorem cj_ldc (C : cpCx p s m args meth c w A cc own nL) {pc : Nat} {lv : List (Option Value)} {st : List Value} {S : cpS} {i : Nat} {v : Int32} (hc : Cond.constant own i v ∈ wsL_law) (hdg : decode cc pc = .ok (.ldc i, 2)) (kk : cpJ p l e R s m args below meth c Q w A nL (pc + 2) lv (.int v :: st) S) : cpJ p l e R s m args below meth c Q w A nL pc lv st S :=
  fun H locs ls hP hS hL => lv_ldc C.1 C.2.1 C.2.2.2.1 (C.2.2.2.2.1 _ hc) hdg (kk H locs ls hP hS hL)
theorem cj_ldcw (C : cpCx p s m args meth c w A cc own nL) {pc : Nat} {lv : List (Option Value)} {st : List Value} {S : cpS} {i : Nat} {v : Int32} (hc : Cond.constant own i v ∈ wsL_law) (hdg : decode cc pc = .ok (.ldc_w i, 3)) (kk : cpJ p l e R s m args below meth c Q w A nL (pc + 3) lv (.int v :: st) S) : cpJ p l e R s m args below meth c Q w A nL pc lv st S :=
  fun H locs ls hP hS hL => lv_ldcw C.1 C.2.1 C.2.2.2.1 (C.2.2.2.2.1 _ hc) hdg (kk H locs ls hP hS hL)
theorem cj_ldc2 (C : cpCx p s m args meth c w A cc own nL) {pc : Nat} {lv : List (Option Value)} {st : List Value} {S : cpS} {i : Nat} {v : Int64} (hc : Cond.constantLong own i v ∈ wsL_law) (hdg : decode cc pc = .ok (.ldc2_w i, 3)) (kk : cpJ p l e R s m args below meth c Q w A nL (pc + 3) lv (.long v :: st) S) : cpJ p l e R s m args below meth c Q w A nL pc lv st S :=
  fun H locs ls hP hS hL => lv_ldc2 C.1 C.2.1 C.2.2.2.1 (C.2.2.2.2.1 _ hc) hdg (kk H locs ls hP hS hL)
theorem cj_iadd (C : cpCx p s m args meth c w A cc own nL) {pc : Nat} {lv : List (Option Value)} {st : List Value} {S : cpS} {x y : Int32} (hdg : decode cc pc = .ok (.iadd, 1)) (kk : cpJ p l e R s m args below meth c Q w A nL (pc + 1) lv (.int (x + y) :: st) S) : cpJ p l e R s m args below meth c Q w A nL pc lv (.int y :: .int x :: st) S :=
  fun H locs ls hP hS hL => lv_iadd C.1 C.2.1 hdg (kk H locs ls hP hS hL)
theorem cj_isub (C : cpCx p s m args meth c w A cc own nL) {pc : Nat} {lv : List (Option Value)} {st : List Value} {S : cpS} {x y : Int32} (hdg : decode cc pc = .ok (.isub, 1)) (kk : cpJ p l e R s m args below meth c Q w A nL (pc + 1) lv (.int (x - y) :: st) S) : cpJ p l e R s m args below meth c Q w A nL pc lv (.int y :: .int x :: st) S :=
  fun H locs ls hP hS hL => lv_isub C.1 C.2.1 hdg (kk H locs ls hP hS hL)
theorem cj_imul (C : cpCx p s m args meth c w A cc own nL) {pc : Nat} {lv : List (Option Value)} {st : List Value} {S : cpS} {x y : Int32} (hdg : decode cc pc = .ok (.imul, 1)) (kk : cpJ p l e R s m args below meth c Q w A nL (pc + 1) lv (.int (x * y) :: st) S) : cpJ p l e R s m args below meth c Q w A nL pc lv (.int y :: .int x :: st) S :=
  fun H locs ls hP hS hL => lv_imul C.1 C.2.1 hdg (kk H locs ls hP hS hL)
theorem cj_iand (C : cpCx p s m args meth c w A cc own nL) {pc : Nat} {lv : List (Option Value)} {st : List Value} {S : cpS} {x y : Int32} (hdg : decode cc pc = .ok (.iand, 1)) (kk : cpJ p l e R s m args below meth c Q w A nL (pc + 1) lv (.int (x &&& y) :: st) S) : cpJ p l e R s m args below meth c Q w A nL pc lv (.int y :: .int x :: st) S :=
  fun H locs ls hP hS hL => lv_iand C.1 C.2.1 hdg (kk H locs ls hP hS hL)
theorem cj_ior (C : cpCx p s m args meth c w A cc own nL) {pc : Nat} {lv : List (Option Value)} {st : List Value} {S : cpS} {x y : Int32} (hdg : decode cc pc = .ok (.ior, 1)) (kk : cpJ p l e R s m args below meth c Q w A nL (pc + 1) lv (.int (x ||| y) :: st) S) : cpJ p l e R s m args below meth c Q w A nL pc lv (.int y :: .int x :: st) S :=
  fun H locs ls hP hS hL => lv_ior C.1 C.2.1 hdg (kk H locs ls hP hS hL)
theorem cj_ixor (C : cpCx p s m args meth c w A cc own nL) {pc : Nat} {lv : List (Option Value)} {st : List Value} {S : cpS} {x y : Int32} (hdg : decode cc pc = .ok (.ixor, 1)) (kk : cpJ p l e R s m args below meth c Q w A nL (pc + 1) lv (.int (x ^^^ y) :: st) S) : cpJ p l e R s m args below meth c Q w A nL pc lv (.int y :: .int x :: st) S :=
  fun H locs ls hP hS hL => lv_ixor C.1 C.2.1 hdg (kk H locs ls hP hS hL)
theorem cj_ishl (C : cpCx p s m args meth c w A cc own nL) {pc : Nat} {lv : List (Option Value)} {st : List Value} {S : cpS} {x y : Int32} (hdg : decode cc pc = .ok (.ishl, 1)) (kk : cpJ p l e R s m args below meth c Q w A nL (pc + 1) lv (.int (x <<< (y &&& 31)) :: st) S) : cpJ p l e R s m args below meth c Q w A nL pc lv (.int y :: .int x :: st) S :=
  fun H locs ls hP hS hL => lv_ishl C.1 C.2.1 hdg (kk H locs ls hP hS hL)
theorem cj_ishr (C : cpCx p s m args meth c w A cc own nL) {pc : Nat} {lv : List (Option Value)} {st : List Value} {S : cpS} {x y : Int32} (hdg : decode cc pc = .ok (.ishr, 1)) (kk : cpJ p l e R s m args below meth c Q w A nL (pc + 1) lv (.int (x >>> (y &&& 31)) :: st) S) : cpJ p l e R s m args below meth c Q w A nL pc lv (.int y :: .int x :: st) S :=
  fun H locs ls hP hS hL => lv_ishr C.1 C.2.1 hdg (kk H locs ls hP hS hL)
theorem cj_idiv (C : cpCx p s m args meth c w A cc own nL) {pc : Nat} {lv : List (Option Value)} {st : List Value} {S : cpS} {x y : Int32} (hdg : decode cc pc = .ok (.idiv, 1)) (hne : ¬ y = 0) (kk : cpJ p l e R s m args below meth c Q w A nL (pc + 1) lv (.int (x / y) :: st) S) : cpJ p l e R s m args below meth c Q w A nL pc lv (.int y :: .int x :: st) S :=
  fun H locs ls hP hS hL => lv_idiv C.1 C.2.1 hdg hne (kk H locs ls hP hS hL)
theorem cj_irem (C : cpCx p s m args meth c w A cc own nL) {pc : Nat} {lv : List (Option Value)} {st : List Value} {S : cpS} {x y : Int32} (hdg : decode cc pc = .ok (.irem, 1)) (hne : ¬ y = 0) (kk : cpJ p l e R s m args below meth c Q w A nL (pc + 1) lv (.int (x - x / y * y) :: st) S) : cpJ p l e R s m args below meth c Q w A nL pc lv (.int y :: .int x :: st) S :=
  fun H locs ls hP hS hL => lv_irem C.1 C.2.1 hdg hne (kk H locs ls hP hS hL)
theorem cj_iushr (C : cpCx p s m args meth c w A cc own nL) {pc : Nat} {lv : List (Option Value)} {st : List Value} {S : cpS} {x y : Int32} (hdg : decode cc pc = .ok (.iushr, 1)) (kk : cpJ p l e R s m args below meth c Q w A nL (pc + 1) lv (.int ((x.toUInt32 >>> (y.toUInt32 &&& Int32.toUInt32 31)).toInt32) :: st) S) : cpJ p l e R s m args below meth c Q w A nL pc lv (.int y :: .int x :: st) S :=
  fun H locs ls hP hS hL => lv_iushr C.1 C.2.1 hdg rfl (kk H locs ls hP hS hL)
theorem cj_ineg (C : cpCx p s m args meth c w A cc own nL) {pc : Nat} {lv : List (Option Value)} {st : List Value} {S : cpS} {x : Int32} (hdg : decode cc pc = .ok (.ineg, 1)) (kk : cpJ p l e R s m args below meth c Q w A nL (pc + 1) lv (.int (-x) :: st) S) : cpJ p l e R s m args below meth c Q w A nL pc lv (.int x :: st) S :=
  fun H locs ls hP hS hL => lv_ineg C.1 C.2.1 hdg (kk H locs ls hP hS hL)
theorem cj_ladd (C : cpCx p s m args meth c w A cc own nL) {pc : Nat} {lv : List (Option Value)} {st : List Value} {S : cpS} {x y : Int64} (hdg : decode cc pc = .ok (.ladd, 1)) (kk : cpJ p l e R s m args below meth c Q w A nL (pc + 1) lv (.long (x + y) :: st) S) : cpJ p l e R s m args below meth c Q w A nL pc lv (.long y :: .long x :: st) S :=
  fun H locs ls hP hS hL => lv_ladd C.1 C.2.1 hdg (kk H locs ls hP hS hL)
theorem cj_lsub (C : cpCx p s m args meth c w A cc own nL) {pc : Nat} {lv : List (Option Value)} {st : List Value} {S : cpS} {x y : Int64} (hdg : decode cc pc = .ok (.lsub, 1)) (kk : cpJ p l e R s m args below meth c Q w A nL (pc + 1) lv (.long (x - y) :: st) S) : cpJ p l e R s m args below meth c Q w A nL pc lv (.long y :: .long x :: st) S :=
  fun H locs ls hP hS hL => lv_lsub C.1 C.2.1 hdg (kk H locs ls hP hS hL)
theorem cj_lmul (C : cpCx p s m args meth c w A cc own nL) {pc : Nat} {lv : List (Option Value)} {st : List Value} {S : cpS} {x y : Int64} (hdg : decode cc pc = .ok (.lmul, 1)) (kk : cpJ p l e R s m args below meth c Q w A nL (pc + 1) lv (.long (x * y) :: st) S) : cpJ p l e R s m args below meth c Q w A nL pc lv (.long y :: .long x :: st) S :=
  fun H locs ls hP hS hL => lv_lmul C.1 C.2.1 hdg (kk H locs ls hP hS hL)
theorem cj_land (C : cpCx p s m args meth c w A cc own nL) {pc : Nat} {lv : List (Option Value)} {st : List Value} {S : cpS} {x y : Int64} (hdg : decode cc pc = .ok (.land, 1)) (kk : cpJ p l e R s m args below meth c Q w A nL (pc + 1) lv (.long (x &&& y) :: st) S) : cpJ p l e R s m args below meth c Q w A nL pc lv (.long y :: .long x :: st) S :=
  fun H locs ls hP hS hL => lv_land C.1 C.2.1 hdg (kk H locs ls hP hS hL)
theorem cj_lor (C : cpCx p s m args meth c w A cc own nL) {pc : Nat} {lv : List (Option Value)} {st : List Value} {S : cpS} {x y : Int64} (hdg : decode cc pc = .ok (.lor, 1)) (kk : cpJ p l e R s m args below meth c Q w A nL (pc + 1) lv (.long (x ||| y) :: st) S) : cpJ p l e R s m args below meth c Q w A nL pc lv (.long y :: .long x :: st) S :=
  fun H locs ls hP hS hL => lv_lor C.1 C.2.1 hdg (kk H locs ls hP hS hL)
theorem cj_ldiv (C : cpCx p s m args meth c w A cc own nL) {pc : Nat} {lv : List (Option Value)} {st : List Value} {S : cpS} {x y : Int64} (hdg : decode cc pc = .ok (.ldiv, 1)) (hne : ¬ y = 0) (kk : cpJ p l e R s m args below meth c Q w A nL (pc + 1) lv (.long (x / y) :: st) S) : cpJ p l e R s m args below meth c Q w A nL pc lv (.long y :: .long x :: st) S :=
  fun H locs ls hP hS hL => lv_ldiv C.1 C.2.1 hdg hne (kk H locs ls hP hS hL)
theorem cj_lrem (C : cpCx p s m args meth c w A cc own nL) {pc : Nat} {lv : List (Option Value)} {st : List Value} {S : cpS} {x y : Int64} (hdg : decode cc pc = .ok (.lrem, 1)) (hne : ¬ y = 0) (kk : cpJ p l e R s m args below meth c Q w A nL (pc + 1) lv (.long (x - x / y * y) :: st) S) : cpJ p l e R s m args below meth c Q w A nL pc lv (.long y :: .long x :: st) S :=
  fun H locs ls hP hS hL => lv_lrem C.1 C.2.1 hdg hne (kk H locs ls hP hS hL)
theorem cj_lshr (C : cpCx p s m args meth c w A cc own nL) {pc : Nat} {lv : List (Option Value)} {st : List Value} {S : cpS} {x : Int64} {y : Int32} (hdg : decode cc pc = .ok (.lshr, 1)) (kk : cpJ p l e R s m args below meth c Q w A nL (pc + 1) lv (.long (x >>> (y.toInt64 &&& 63)) :: st) S) : cpJ p l e R s m args below meth c Q w A nL pc lv (.int y :: .long x :: st) S :=
  fun H locs ls hP hS hL => lv_lshr C.1 C.2.1 hdg rfl (kk H locs ls hP hS hL)
theorem cj_lshl (C : cpCx p s m args meth c w A cc own nL) {pc : Nat} {lv : List (Option Value)} {st : List Value} {S : cpS} {x : Int64} {y : Int32} (hdg : decode cc pc = .ok (.lshl, 1)) (kk : cpJ p l e R s m args below meth c Q w A nL (pc + 1) lv (.long (x <<< (y.toInt64 &&& 63)) :: st) S) : cpJ p l e R s m args below meth c Q w A nL pc lv (.int y :: .long x :: st) S :=
  fun H locs ls hP hS hL => lv_lshl C.1 C.2.1 hdg rfl (kk H locs ls hP hS hL)
theorem cj_lcmp (C : cpCx p s m args meth c w A cc own nL) {pc : Nat} {lv : List (Option Value)} {st : List Value} {S : cpS} {x y : Int64} (hdg : decode cc pc = .ok (.lcmp, 1)) (kk : cpJ p l e R s m args below meth c Q w A nL (pc + 1) lv (.int (lg_cmp x y) :: st) S) : cpJ p l e R s m args below meth c Q w A nL pc lv (.long y :: .long x :: st) S :=
  fun H locs ls hP hS hL => W.lcmp C.1 C.2.1 hdg (kk H locs ls hP hS hL)
theorem cj_i2l (C : cpCx p s m args meth c w A cc own nL) {pc : Nat} {lv : List (Option Value)} {st : List Value} {S : cpS} {x : Int32} (hdg : decode cc pc = .ok (.i2l, 1)) (kk : cpJ p l e R s m args below meth c Q w A nL (pc + 1) lv (.long x.toInt64 :: st) S) : cpJ p l e R s m args below meth c Q w A nL pc lv (.int x :: st) S :=
  fun H locs ls hP hS hL => lv_i2l C.1 C.2.1 hdg rfl (kk H locs ls hP hS hL)
theorem cj_l2i (C : cpCx p s m args meth c w A cc own nL) {pc : Nat} {lv : List (Option Value)} {st : List Value} {S : cpS} {x : Int64} (hdg : decode cc pc = .ok (.l2i, 1)) (kk : cpJ p l e R s m args below meth c Q w A nL (pc + 1) lv (.int x.toInt32 :: st) S) : cpJ p l e R s m args below meth c Q w A nL pc lv (.long x :: st) S :=
  fun H locs ls hP hS hL => lv_l2i C.1 C.2.1 hdg rfl (kk H locs ls hP hS hL)
theorem cj_i2b (C : cpCx p s m args meth c w A cc own nL) {pc : Nat} {lv : List (Option Value)} {st : List Value} {S : cpS} {x : Int32} (hdg : decode cc pc = .ok (.i2b, 1)) (kk : cpJ p l e R s m args below meth c Q w A nL (pc + 1) lv (.int (x.toInt8.toInt32) :: st) S) : cpJ p l e R s m args below meth c Q w A nL pc lv (.int x :: st) S :=
  fun H locs ls hP hS hL => lv_i2b C.1 C.2.1 hdg rfl (kk H locs ls hP hS hL)
theorem cj_i2s (C : cpCx p s m args meth c w A cc own nL) {pc : Nat} {lv : List (Option Value)} {st : List Value} {S : cpS} {x : Int32} (hdg : decode cc pc = .ok (.i2s, 1)) (kk : cpJ p l e R s m args below meth c Q w A nL (pc + 1) lv (.int (x.toInt16.toInt32) :: st) S) : cpJ p l e R s m args below meth c Q w A nL pc lv (.int x :: st) S :=
  fun H locs ls hP hS hL => lv_i2s C.1 C.2.1 hdg rfl (kk H locs ls hP hS hL)
theorem cj_i2c (C : cpCx p s m args meth c w A cc own nL) {pc : Nat} {lv : List (Option Value)} {st : List Value} {S : cpS} {x : Int32} (hdg : decode cc pc = .ok (.i2c, 1)) (kk : cpJ p l e R s m args below meth c Q w A nL (pc + 1) lv (.int ((x.toUInt32 % 65536).toInt32) :: st) S) : cpJ p l e R s m args below meth c Q w A nL pc lv (.int x :: st) S :=
  fun H locs ls hP hS hL => lv_i2c C.1 C.2.1 hdg rfl (kk H locs ls hP hS hL)
theorem cj_dup (C : cpCx p s m args meth c w A cc own nL) {pc : Nat} {lv : List (Option Value)} {st : List Value} {S : cpS} {a : Value} (hdg : decode cc pc = .ok (.dup, 1)) (ha : a.category = 1) (kk : cpJ p l e R s m args below meth c Q w A nL (pc + 1) lv (a :: a :: st) S) : cpJ p l e R s m args below meth c Q w A nL pc lv (a :: st) S :=
  fun H locs ls hP hS hL => lv_dup C.1 C.2.1 hdg ha (kk H locs ls hP hS hL)
theorem cj_pop (C : cpCx p s m args meth c w A cc own nL) {pc : Nat} {lv : List (Option Value)} {st : List Value} {S : cpS} {a : Value} (hdg : decode cc pc = .ok (.pop, 1)) (ha : a.category = 1) (kk : cpJ p l e R s m args below meth c Q w A nL (pc + 1) lv st S) : cpJ p l e R s m args below meth c Q w A nL pc lv (a :: st) S :=
  fun H locs ls hP hS hL => lv_pop C.1 C.2.1 hdg ha (kk H locs ls hP hS hL)
theorem cj_pop2 (C : cpCx p s m args meth c w A cc own nL) {pc : Nat} {lv : List (Option Value)} {st : List Value} {S : cpS} {a : Value} (hdg : decode cc pc = .ok (.pop2, 1)) (ha : a.category = 2) (kk : cpJ p l e R s m args below meth c Q w A nL (pc + 1) lv st S) : cpJ p l e R s m args below meth c Q w A nL pc lv (a :: st) S :=
  fun H locs ls hP hS hL => lv_pop2_2 C.1 C.2.1 hdg ha (kk H locs ls hP hS hL)
theorem cj_dup2 (C : cpCx p s m args meth c w A cc own nL) {pc : Nat} {lv : List (Option Value)} {st : List Value} {S : cpS} {a b : Value} (hdg : decode cc pc = .ok (.dup2, 1)) (ha : a.category = 1) (hb : b.category = 1) (kk : cpJ p l e R s m args below meth c Q w A nL (pc + 1) lv (a :: b :: a :: b :: st) S) : cpJ p l e R s m args below meth c Q w A nL pc lv (a :: b :: st) S :=
  fun H locs ls hP hS hL => lv_dup2_11 C.1 C.2.1 hdg ha hb (kk H locs ls hP hS hL)
theorem cj_if_eq (C : cpCx p s m args meth c w A cc own nL) {pc : Nat} {lv : List (Option Value)} {st : List Value} {S : cpS} {x : Int32} {ρ : Type} {a b : Option ρ} {r : ρ} {off : Int} {tgt : Nat} (hdg : decode cc pc = .ok (.ifCond .eq off, 3)) (ht : (pc : Int) + off = (tgt : Int)) (h : (if x = 0 then a else b) = some r) (kt : x = 0 → a = some r → cpJ p l e R s m args below meth c Q w A nL tgt lv st S) (kf : ¬ x = 0 → b = some r → cpJ p l e R s m args below meth c Q w A nL (pc + 3) lv st S) : cpJ p l e R s m args below meth c Q w A nL pc lv (.int x :: st) S :=
  fun H locs ls hP hS hL => lv_if_eq C.1 C.2.1 hdg ht (fun k => kt k (by rw [if_pos k] at h; exact h) H locs ls hP hS hL) (fun k => kf k (by rw [if_neg k] at h; exact h) H locs ls hP hS hL)
theorem cj_if_ne (C : cpCx p s m args meth c w A cc own nL) {pc : Nat} {lv : List (Option Value)} {st : List Value} {S : cpS} {x : Int32} {ρ : Type} {a b : Option ρ} {r : ρ} {off : Int} {tgt : Nat} (hdg : decode cc pc = .ok (.ifCond .ne off, 3)) (ht : (pc : Int) + off = (tgt : Int)) (h : (if x = 0 then a else b) = some r) (kf : x = 0 → a = some r → cpJ p l e R s m args below meth c Q w A nL (pc + 3) lv st S) (kt : ¬ x = 0 → b = some r → cpJ p l e R s m args below meth c Q w A nL tgt lv st S) : cpJ p l e R s m args below meth c Q w A nL pc lv (.int x :: st) S :=
  fun H locs ls hP hS hL => lv_if_ne C.1 C.2.1 hdg ht (fun k => kt k (by rw [if_neg k] at h; exact h) H locs ls hP hS hL) (fun k => kf k (by rw [if_pos k] at h; exact h) H locs ls hP hS hL)
theorem cj_if_lt (C : cpCx p s m args meth c w A cc own nL) {pc : Nat} {lv : List (Option Value)} {st : List Value} {S : cpS} {x : Int32} {ρ : Type} {a b : Option ρ} {r : ρ} {off : Int} {tgt : Nat} (hdg : decode cc pc = .ok (.ifCond .lt off, 3)) (ht : (pc : Int) + off = (tgt : Int)) (h : (if x < 0 then a else b) = some r) (kt : x < 0 → a = some r → cpJ p l e R s m args below meth c Q w A nL tgt lv st S) (kf : ¬ x < 0 → b = some r → cpJ p l e R s m args below meth c Q w A nL (pc + 3) lv st S) : cpJ p l e R s m args below meth c Q w A nL pc lv (.int x :: st) S :=
  fun H locs ls hP hS hL => lv_if_lt C.1 C.2.1 hdg ht (fun k => kt k (by rw [if_pos k] at h; exact h) H locs ls hP hS hL) (fun k => kf k (by rw [if_neg k] at h; exact h) H locs ls hP hS hL)
theorem cj_if_ge (C : cpCx p s m args meth c w A cc own nL) {pc : Nat} {lv : List (Option Value)} {st : List Value} {S : cpS} {x : Int32} {ρ : Type} {a b : Option ρ} {r : ρ} {off : Int} {tgt : Nat} (hdg : decode cc pc = .ok (.ifCond .ge off, 3)) (ht : (pc : Int) + off = (tgt : Int)) (h : (if 0 ≤ x then a else b) = some r) (kt : 0 ≤ x → a = some r → cpJ p l e R s m args below meth c Q w A nL tgt lv st S) (kf : ¬ 0 ≤ x → b = some r → cpJ p l e R s m args below meth c Q w A nL (pc + 3) lv st S) : cpJ p l e R s m args below meth c Q w A nL pc lv (.int x :: st) S :=
  fun H locs ls hP hS hL => lv_if_ge C.1 C.2.1 hdg ht (fun k => kt k (by rw [if_pos k] at h; exact h) H locs ls hP hS hL) (fun k => kf k (by rw [if_neg k] at h; exact h) H locs ls hP hS hL)
theorem cj_if_gt (C : cpCx p s m args meth c w A cc own nL) {pc : Nat} {lv : List (Option Value)} {st : List Value} {S : cpS} {x : Int32} {ρ : Type} {a b : Option ρ} {r : ρ} {off : Int} {tgt : Nat} (hdg : decode cc pc = .ok (.ifCond .gt off, 3)) (ht : (pc : Int) + off = (tgt : Int)) (h : (if 0 < x then a else b) = some r) (kt : 0 < x → a = some r → cpJ p l e R s m args below meth c Q w A nL tgt lv st S) (kf : ¬ 0 < x → b = some r → cpJ p l e R s m args below meth c Q w A nL (pc + 3) lv st S) : cpJ p l e R s m args below meth c Q w A nL pc lv (.int x :: st) S :=
  fun H locs ls hP hS hL => lv_if_gt C.1 C.2.1 hdg ht (fun k => kt k (by rw [if_pos k] at h; exact h) H locs ls hP hS hL) (fun k => kf k (by rw [if_neg k] at h; exact h) H locs ls hP hS hL)
theorem cj_if_le (C : cpCx p s m args meth c w A cc own nL) {pc : Nat} {lv : List (Option Value)} {st : List Value} {S : cpS} {x : Int32} {ρ : Type} {a b : Option ρ} {r : ρ} {off : Int} {tgt : Nat} (hdg : decode cc pc = .ok (.ifCond .le off, 3)) (ht : (pc : Int) + off = (tgt : Int)) (h : (if x ≤ 0 then a else b) = some r) (kt : x ≤ 0 → a = some r → cpJ p l e R s m args below meth c Q w A nL tgt lv st S) (kf : ¬ x ≤ 0 → b = some r → cpJ p l e R s m args below meth c Q w A nL (pc + 3) lv st S) : cpJ p l e R s m args below meth c Q w A nL pc lv (.int x :: st) S :=
  fun H locs ls hP hS hL => lv_if_le C.1 C.2.1 hdg ht (fun k => kt k (by rw [if_pos k] at h; exact h) H locs ls hP hS hL) (fun k => kf k (by rw [if_neg k] at h; exact h) H locs ls hP hS hL)
theorem cj_icmp_eq (C : cpCx p s m args meth c w A cc own nL) {pc : Nat} {lv : List (Option Value)} {st : List Value} {S : cpS} {x y : Int32} {ρ : Type} {a b : Option ρ} {r : ρ} {off : Int} {tgt : Nat} (hdg : decode cc pc = .ok (.if_icmp .eq off, 3)) (ht : (pc : Int) + off = (tgt : Int)) (h : (if x = y then a else b) = some r) (kt : x = y → a = some r → cpJ p l e R s m args below meth c Q w A nL tgt lv st S) (kf : ¬ x = y → b = some r → cpJ p l e R s m args below meth c Q w A nL (pc + 3) lv st S) : cpJ p l e R s m args below meth c Q w A nL pc lv (.int y :: .int x :: st) S :=
  fun H locs ls hP hS hL => lv_icmp_eq C.1 C.2.1 hdg ht (fun k => kt k (by rw [if_pos k] at h; exact h) H locs ls hP hS hL) (fun k => kf k (by rw [if_neg k] at h; exact h) H locs ls hP hS hL)
theorem cj_icmp_ne (C : cpCx p s m args meth c w A cc own nL) {pc : Nat} {lv : List (Option Value)} {st : List Value} {S : cpS} {x y : Int32} {ρ : Type} {a b : Option ρ} {r : ρ} {off : Int} {tgt : Nat} (hdg : decode cc pc = .ok (.if_icmp .ne off, 3)) (ht : (pc : Int) + off = (tgt : Int)) (h : (if x = y then a else b) = some r) (kf : x = y → a = some r → cpJ p l e R s m args below meth c Q w A nL (pc + 3) lv st S) (kt : ¬ x = y → b = some r → cpJ p l e R s m args below meth c Q w A nL tgt lv st S) : cpJ p l e R s m args below meth c Q w A nL pc lv (.int y :: .int x :: st) S :=
  fun H locs ls hP hS hL => lv_icmp_ne C.1 C.2.1 hdg ht (fun k => kt k (by rw [if_neg k] at h; exact h) H locs ls hP hS hL) (fun k => kf k (by rw [if_pos k] at h; exact h) H locs ls hP hS hL)
theorem cj_icmp_lt (C : cpCx p s m args meth c w A cc own nL) {pc : Nat} {lv : List (Option Value)} {st : List Value} {S : cpS} {x y : Int32} {ρ : Type} {a b : Option ρ} {r : ρ} {off : Int} {tgt : Nat} (hdg : decode cc pc = .ok (.if_icmp .lt off, 3)) (ht : (pc : Int) + off = (tgt : Int)) (h : (if x < y then a else b) = some r) (kt : x < y → a = some r → cpJ p l e R s m args below meth c Q w A nL tgt lv st S) (kf : ¬ x < y → b = some r → cpJ p l e R s m args below meth c Q w A nL (pc + 3) lv st S) : cpJ p l e R s m args below meth c Q w A nL pc lv (.int y :: .int x :: st) S :=
  fun H locs ls hP hS hL => lv_icmp_lt C.1 C.2.1 hdg ht (fun k => kt k (by rw [if_pos k] at h; exact h) H locs ls hP hS hL) (fun k => kf k (by rw [if_neg k] at h; exact h) H locs ls hP hS hL)
theorem cj_icmp_ge (C : cpCx p s m args meth c w A cc own nL) {pc : Nat} {lv : List (Option Value)} {st : List Value} {S : cpS} {x y : Int32} {ρ : Type} {a b : Option ρ} {r : ρ} {off : Int} {tgt : Nat} (hdg : decode cc pc = .ok (.if_icmp .ge off, 3)) (ht : (pc : Int) + off = (tgt : Int)) (h : (if y ≤ x then a else b) = some r) (kt : y ≤ x → a = some r → cpJ p l e R s m args below meth c Q w A nL tgt lv st S) (kf : ¬ y ≤ x → b = some r → cpJ p l e R s m args below meth c Q w A nL (pc + 3) lv st S) : cpJ p l e R s m args below meth c Q w A nL pc lv (.int y :: .int x :: st) S :=
  fun H locs ls hP hS hL => lv_icmp_ge C.1 C.2.1 hdg ht (fun k => kt k (by rw [if_pos k] at h; exact h) H locs ls hP hS hL) (fun k => kf k (by rw [if_neg k] at h; exact h) H locs ls hP hS hL)
theorem cj_icmp_gt (C : cpCx p s m args meth c w A cc own nL) {pc : Nat} {lv : List (Option Value)} {st : List Value} {S : cpS} {x y : Int32} {ρ : Type} {a b : Option ρ} {r : ρ} {off : Int} {tgt : Nat} (hdg : decode cc pc = .ok (.if_icmp .gt off, 3)) (ht : (pc : Int) + off = (tgt : Int)) (h : (if y < x then a else b) = some r) (kt : y < x → a = some r → cpJ p l e R s m args below meth c Q w A nL tgt lv st S) (kf : ¬ y < x → b = some r → cpJ p l e R s m args below meth c Q w A nL (pc + 3) lv st S) : cpJ p l e R s m args below meth c Q w A nL pc lv (.int y :: .int x :: st) S :=
  fun H locs ls hP hS hL => lv_icmp_gt C.1 C.2.1 hdg ht (fun k => kt k (by rw [if_pos k] at h; exact h) H locs ls hP hS hL) (fun k => kf k (by rw [if_neg k] at h; exact h) H locs ls hP hS hL)
theorem cj_icmp_le (C : cpCx p s m args meth c w A cc own nL) {pc : Nat} {lv : List (Option Value)} {st : List Value} {S : cpS} {x y : Int32} {ρ : Type} {a b : Option ρ} {r : ρ} {off : Int} {tgt : Nat} (hdg : decode cc pc = .ok (.if_icmp .le off, 3)) (ht : (pc : Int) + off = (tgt : Int)) (h : (if x ≤ y then a else b) = some r) (kt : x ≤ y → a = some r → cpJ p l e R s m args below meth c Q w A nL tgt lv st S) (kf : ¬ x ≤ y → b = some r → cpJ p l e R s m args below meth c Q w A nL (pc + 3) lv st S) : cpJ p l e R s m args below meth c Q w A nL pc lv (.int y :: .int x :: st) S :=
  fun H locs ls hP hS hL => lv_icmp_le C.1 C.2.1 hdg ht (fun k => kt k (by rw [if_pos k] at h; exact h) H locs ls hP hS hL) (fun k => kf k (by rw [if_neg k] at h; exact h) H locs ls hP hS hL)
theorem cj_goto (C : cpCx p s m args meth c w A cc own nL) {pc : Nat} {lv : List (Option Value)} {st : List Value} {S : cpS} {off : Int} {tgt : Nat} (hdg : decode cc pc = .ok (.goto off, 3)) (ht : (pc : Int) + off = (tgt : Int)) (kk : cpJ p l e R s m args below meth c Q w A nL tgt lv st S) : cpJ p l e R s m args below meth c Q w A nL pc lv st S :=
  fun H locs ls hP hS hL => lv_goto C.1 C.2.1 hdg ht (kk H locs ls hP hS hL)
theorem cj_weak (C : cpCx p s m args meth c w A cc own nL) {pc : Nat} {lv : List (Option Value)} {st : List Value} {S : cpS} {lv' : List (Option Value)} (hq : ∀ (i : Nat) (v : Value), lv'[i]? = some (some v) → lv[i]? = some (some v)) (kk : cpJ p l e R s m args below meth c Q w A nL pc lv' st S) : cpJ p l e R s m args below meth c Q w A nL pc lv st S :=
  fun H locs ls hP hS hL => kk H locs ls hP hS (hL.weak hq)
theorem cj_tableIn (C : cpCx p s m args meth c w A cc own nL) {pc : Nat} {lv : List (Option Value)} {st : List Value} {S : cpS} {dflt lo hi : Int} {offs : Array Int} {len : Nat} {x : Int32} {off : Int} {tgt : Nat} (hdg : decode cc pc = .ok (.tableswitch dflt lo hi offs, len)) (h1 : ¬ x.toInt < lo) (h2 : ¬ hi < x.toInt) (ho : offs[(x.toInt - lo).toNat]? = some off) (ht : (pc : Int) + off = (tgt : Int)) (kk : cpJ p l e R s m args below meth c Q w A nL tgt lv st S) : cpJ p l e R s m args below meth c Q w A nL pc lv (.int x :: st) S :=
  fun H locs ls hP hS hL => lv_tableIn C.1 C.2.1 hdg h1 h2 ho ht (kk H locs ls hP hS hL)
theorem cj_tableOut (C : cpCx p s m args meth c w A cc own nL) {pc : Nat} {lv : List (Option Value)} {st : List Value} {S : cpS} {dflt lo hi : Int} {offs : Array Int} {len : Nat} {x : Int32} {tgt : Nat} (hdg : decode cc pc = .ok (.tableswitch dflt lo hi offs, len)) (h : x.toInt < lo ∨ hi < x.toInt) (ht : (pc : Int) + dflt = (tgt : Int)) (kk : cpJ p l e R s m args below meth c Q w A nL tgt lv st S) : cpJ p l e R s m args below meth c Q w A nL pc lv (.int x :: st) S :=
  fun H locs ls hP hS hL => lv_tableOut C.1 C.2.1 hdg h ht (kk H locs ls hP hS hL)
end CPJ
/-! fields -/
def cpGF (own : String) (idx ci j : Nat) : Prop := ∃ (Cn : String) (T : u_T) (Nf : Nat), vwCl[ci]? = some (Cn, T, Nf) ∧ (∀ q ∈ u_ws Cn T Nf, q ∈ wsL_law) ∧ j < Nf ∧ Cond.fieldLink own idx (T j).1 (T j).2.1 (T j).2.2.1 ∈ wsL_law
def cpPF (own : String) (idx ci j : Nat) (ty : FieldType) : Prop := ∃ (Cn : String) (T : u_T) (Nf : Nat) (ty0 : Nat → FieldType), vwCl[ci]? = some (Cn, T, Nf) ∧ (∀ q ∈ u_ws Cn T Nf, q ∈ wsL_law) ∧ j < Nf ∧ Cond.fieldLink own idx (T j).1 (T j).2.1 (T j).2.2.1 ∈ wsL_law ∧ (∀ k, k < Nf → parseFieldDescriptor (T k).2.2.1 = some (ty0 k)) ∧ (∀ a, a < Nf → ∀ b, b < Nf → a ≠ b → (T a).2.1 ≠ (T b).2.1) ∧ (T j).2.2.2 = false ∧ parseFieldDescriptor (T j).2.2.1 = some ty
section CPK
variable {p : Program} {l : Launch} {e : Env} {R : Room} {s : State} {m : MethodId} {args : Array Value} {below : List Frame} {meth : Method} {c : Code} {Q : State → Prop} {w : cpW} {A : Nat → Prop} {cc : ByteArray} {own : String} {nL : Nat}
theorem cj_getI (C : cpCx p s m args meth c w A cc own nL) {pc : Nat} {lv : List (Option Value)} {st : List Value} {S : cpS} {k ci j idx : Nat} {fs : List (Option Nat)} (hO : cpO k 0 ci fs) (hj : fs[j]? = some none) (hG : cpGF own idx ci j) (hdg : decode cc pc = .ok (.getfield idx, 3)) (kk : cpJ p l e R s m args below meth c Q w A nL (pc + 3) lv (.int (S.1 k j) :: st) S) : cpJ p l e R s m args below meth c Q w A nL pc lv (.ref (w.2.1 k) :: st) S := fun H locs ls hP hS hL => by
  obtain ⟨Cn, T, Nf, h1, h2, h3, h4⟩ := hG
  have hv := cpFs_int (ad := w.2.1) (f := S.1 k) (i := 0) hj
  rw [Nat.zero_add] at hv
  exact va_get C.1 C.2.1 C.2.2.2.2.1 h2 C.2.2.2.1 C.2.2.2.2.2.1.1 hP k (hO.obj w S) h1 j h3 (C.2.2.2.2.1 _ h4) (fun _ h9 => h9) hv hdg (kk H locs ls hP hS hL)
theorem cj_getR (C : cpCx p s m args meth c w A cc own nL) {pc : Nat} {lv : List (Option Value)} {st : List Value} {S : cpS} {k ci j d idx : Nat} {fs : List (Option Nat)} (hO : cpO k 0 ci fs) (hj : fs[j]? = some (some d)) (hG : cpGF own idx ci j) (hdg : decode cc pc = .ok (.getfield idx, 3)) (kk : cpJ p l e R s m args below meth c Q w A nL (pc + 3) lv (.ref (w.2.1 d) :: st) S) : cpJ p l e R s m args below meth c Q w A nL pc lv (.ref (w.2.1 k) :: st) S := fun H locs ls hP hS hL => by
  obtain ⟨Cn, T, Nf, h1, h2, h3, h4⟩ := hG
  exact va_get C.1 C.2.1 C.2.2.2.2.1 h2 C.2.2.2.1 C.2.2.2.2.2.1.1 hP k (hO.obj w S) h1 j h3 (C.2.2.2.2.1 _ h4) (fun _ h9 => h9) (cpFs_ref hj) hdg (kk H locs ls hP hS hL)
theorem cj_put (C : cpCx p s m args meth c w A cc own nL) {pc : Nat} {lv : List (Option Value)} {st : List Value} {S : cpS} {k ci j idx : Nat} {fs : List (Option Nat)} {x : Int32} {ty : FieldType} (hO : cpO k 0 ci fs) (hj : fs[j]? = some none) (hG : cpPF own idx ci j ty) (hn : narrow ty (.int x) = .int x) (hfit : fits ty (.int x) = true) (hdg : decode cc pc = .ok (.putfield idx, 3)) (kk : cpJ p l e R s m args below meth c Q w A nL (pc + 3) lv st (cpI S k j x)) : cpJ p l e R s m args below meth c Q w A nL pc lv (.int x :: .ref (w.2.1 k) :: st) S := fun H locs ls hP hS hL => by
  obtain ⟨Cn, T, Nf, ty0, h1, h2, h3, h4, h5, h6, h7, h8⟩ := hG
  refine va_put C.1 C.2.1 C.2.2.2.2.1 h2 ty0 h5 h6 C.2.2.2.1 C.2.2.2.2.2.1.1 hP (C.2.2.2.2.2.2.1.D S) hS k (hO.obj w S) h1 j h3 (C.2.2.2.2.1 _ h4) (fun _ h9 => h9) h7 h8 hn hfit (by rw [cpFs_len]; exact (List.getElem?_eq_some_iff.mp hj).1) hdg (fun H1 locs1 hP1 _ hS1 => ?_)
  rw [cpWd_putF hO hj] at hP1
  exact kk H1 locs1 ls hP1 hS1 hL
theorem cj_iaload (C : cpCx p s m args meth c w A cc own nL) {pc : Nat} {lv : List (Option Value)} {st : List Value} {S : cpS} {k n : Nat} {lo : List (Option Nat)} {i : Int32} {ρ : Type} {a : Option ρ} {r : ρ} (hO : cpO k 1 n lo) (h : (if cpIn i n then a else none) = some r) (hdg : decode cc pc = .ok (.iaload, 1)) (kk : a = some r → cpJ p l e R s m args below meth c Q w A nL (pc + 1) lv (.int (S.1 k i.toNatClampNeg) :: st) S) : cpJ p l e R s m args below meth c Q w A nL pc lv (.int i :: .ref (w.2.1 k) :: st) S := fun H locs ls hP hS hL => by
  by_cases hi : cpIn i n = true
  · rw [if_pos hi] at h
    exact va_iald C.1 C.2.1 C.2.2.2.2.2.1.1 hP k 1 (hO.ints (by decide) w S) rfl (cpIn_vp hi) hdg (kk h H locs ls hP hS hL)
  · rw [if_neg hi] at h; cases h
theorem cj_ialoadC (C : cpCx p s m args meth c w A cc own nL) {pc : Nat} {lv : List (Option Value)} {st : List Value} {S : cpS} {k n : Nat} {lo : List (Option Nat)} {i : Int32} {j : Nat} (hO : cpO k 1 n lo) (hi : cpIn i n = true) (hj : i.toNatClampNeg = j) (hdg : decode cc pc = .ok (.iaload, 1)) (kk : cpJ p l e R s m args below meth c Q w A nL (pc + 1) lv (.int (S.1 k j) :: st) S) : cpJ p l e R s m args below meth c Q w A nL pc lv (.int i :: .ref (w.2.1 k) :: st) S := fun H locs ls hP hS hL => by
  subst hj
  exact va_iald C.1 C.2.1 C.2.2.2.2.2.1.1 hP k 1 (hO.ints (by decide) w S) rfl (cpIn_vp hi) hdg (kk H locs ls hP hS hL)
theorem cj_caload (C : cpCx p s m args meth c w A cc own nL) {pc : Nat} {lv : List (Option Value)} {st : List Value} {S : cpS} {k n : Nat} {lo : List (Option Nat)} {i : Int32} {ρ : Type} {a : Option ρ} {r : ρ} (hO : cpO k 2 n lo) (h : (if cpIn i n then a else none) = some r) (hdg : decode cc pc = .ok (.caload, 1)) (kk : a = some r → cpJ p l e R s m args below meth c Q w A nL (pc + 1) lv (.int (S.1 k i.toNatClampNeg) :: st) S) : cpJ p l e R s m args below meth c Q w A nL pc lv (.int i :: .ref (w.2.1 k) :: st) S := fun H locs ls hP hS hL => by
  by_cases hi : cpIn i n = true
  · rw [if_pos hi] at h
    exact va_cald C.1 C.2.1 C.2.2.2.2.2.1.1 hP k 2 (hO.ints (by decide) w S) rfl (cpIn_vp hi) hdg (kk h H locs ls hP hS hL)
  · rw [if_neg hi] at h; cases h
theorem cj_caloadC (C : cpCx p s m args meth c w A cc own nL) {pc : Nat} {lv : List (Option Value)} {st : List Value} {S : cpS} {k n : Nat} {lo : List (Option Nat)} {i : Int32} {j : Nat} (hO : cpO k 2 n lo) (hi : cpIn i n = true) (hj : i.toNatClampNeg = j) (hdg : decode cc pc = .ok (.caload, 1)) (kk : cpJ p l e R s m args below meth c Q w A nL (pc + 1) lv (.int (S.1 k j) :: st) S) : cpJ p l e R s m args below meth c Q w A nL pc lv (.int i :: .ref (w.2.1 k) :: st) S := fun H locs ls hP hS hL => by
  subst hj
  exact va_cald C.1 C.2.1 C.2.2.2.2.2.1.1 hP k 2 (hO.ints (by decide) w S) rfl (cpIn_vp hi) hdg (kk H locs ls hP hS hL)
theorem cj_baload (C : cpCx p s m args meth c w A cc own nL) {pc : Nat} {lv : List (Option Value)} {st : List Value} {S : cpS} {k n : Nat} {lo : List (Option Nat)} {i : Int32} {ρ : Type} {a : Option ρ} {r : ρ} (hO : cpO k 3 n lo) (h : (if cpIn i n then a else none) = some r) (hdg : decode cc pc = .ok (.baload, 1)) (kk : a = some r → cpJ p l e R s m args below meth c Q w A nL (pc + 1) lv (.int (S.1 k i.toNatClampNeg) :: st) S) : cpJ p l e R s m args below meth c Q w A nL pc lv (.int i :: .ref (w.2.1 k) :: st) S := fun H locs ls hP hS hL => by
  by_cases hi : cpIn i n = true
  · rw [if_pos hi] at h
    exact va_zald C.1 C.2.1 C.2.2.2.2.2.1.1 hP k 3 (hO.ints (by decide) w S) rfl (cpIn_vp hi) hdg (kk h H locs ls hP hS hL)
  · rw [if_neg hi] at h; cases h
theorem cj_baloadC (C : cpCx p s m args meth c w A cc own nL) {pc : Nat} {lv : List (Option Value)} {st : List Value} {S : cpS} {k n : Nat} {lo : List (Option Nat)} {i : Int32} {j : Nat} (hO : cpO k 3 n lo) (hi : cpIn i n = true) (hj : i.toNatClampNeg = j) (hdg : decode cc pc = .ok (.baload, 1)) (kk : cpJ p l e R s m args below meth c Q w A nL (pc + 1) lv (.int (S.1 k j) :: st) S) : cpJ p l e R s m args below meth c Q w A nL pc lv (.int i :: .ref (w.2.1 k) :: st) S := fun H locs ls hP hS hL => by
  subst hj
  exact va_zald C.1 C.2.1 C.2.2.2.2.2.1.1 hP k 3 (hO.ints (by decide) w S) rfl (cpIn_vp hi) hdg (kk H locs ls hP hS hL)
theorem cj_laload (C : cpCx p s m args meth c w A cc own nL) {pc : Nat} {lv : List (Option Value)} {st : List Value} {S : cpS} {k n : Nat} {lo : List (Option Nat)} {i : Int32} {ρ : Type} {a : Option ρ} {r : ρ} (hO : cpO k 4 n lo) (h : (if cpIn i n then a else none) = some r) (hdg : decode cc pc = .ok (.laload, 1)) (kk : a = some r → cpJ p l e R s m args below meth c Q w A nL (pc + 1) lv (.long (S.2 k i.toNatClampNeg) :: st) S) : cpJ p l e R s m args below meth c Q w A nL pc lv (.int i :: .ref (w.2.1 k) :: st) S := fun H locs ls hP hS hL => by
  by_cases hi : cpIn i n = true
  · rw [if_pos hi] at h
    exact va_lald C.1 C.2.1 C.2.2.2.2.2.1.1 hP k 4 (hO.longs w S) rfl (cpIn_vp hi) hdg (kk h H locs ls hP hS hL)
  · rw [if_neg hi] at h; cases h
theorem cj_laloadC (C : cpCx p s m args meth c w A cc own nL) {pc : Nat} {lv : List (Option Value)} {st : List Value} {S : cpS} {k n : Nat} {lo : List (Option Nat)} {i : Int32} {j : Nat} (hO : cpO k 4 n lo) (hi : cpIn i n = true) (hj : i.toNatClampNeg = j) (hdg : decode cc pc = .ok (.laload, 1)) (kk : cpJ p l e R s m args below meth c Q w A nL (pc + 1) lv (.long (S.2 k j) :: st) S) : cpJ p l e R s m args below meth c Q w A nL pc lv (.int i :: .ref (w.2.1 k) :: st) S := fun H locs ls hP hS hL => by
  subst hj
  exact va_lald C.1 C.2.1 C.2.2.2.2.2.1.1 hP k 4 (hO.longs w S) rfl (cpIn_vp hi) hdg (kk H locs ls hP hS hL)
theorem cj_aaload (C : cpCx p s m args meth c w A cc own nL) {pc : Nat} {lv : List (Option Value)} {st : List Value} {S : cpS} {k t n d : Nat} {lo : List (Option Nat)} {i : Int32} {Cn : String} {ρ : Type} {a : Option ρ} {r : ρ} (ht : t = 5 ∨ t = 6 ∨ t = 7) (hO : cpO k t n lo) (hty : (cpTys w)[t]? = some (w.2.2.1 t, .object Cn)) (h : (if cpIn i n then a else none) = some r) (hd : cpIn i n = true → lo.getD i.toNatClampNeg none = some d) (hdg : decode cc pc = .ok (.aaload, 1)) (kk : cpIn i n = true → a = some r → cpJ p l e R s m args below meth c Q w A nL (pc + 1) lv (.ref (w.2.1 d) :: st) S) : cpJ p l e R s m args below meth c Q w A nL pc lv (.int i :: .ref (w.2.1 k) :: st) S := fun H locs ls hP hS hL => by
  by_cases hi : cpIn i n = true
  · rw [if_pos hi] at h
    refine va_aldq C.1 C.2.1 C.2.2.2.2.2.1.1 hP k t (hO.refs ht w S) hty (cpIn_vp hi) hdg ?_
    rw [hd hi]
    exact kk hi h H locs ls hP hS hL
  · rw [if_neg hi] at h; cases h
theorem cj_iastore (C : cpCx p s m args meth c w A cc own nL) {pc : Nat} {lv : List (Option Value)} {st : List Value} {S : cpS} {k n : Nat} {lo : List (Option Nat)} {i x : Int32} {ρ : Type} {a : Option ρ} {r : ρ} (hO : cpO k 1 n lo) (h : (if cpIn i n then a else none) = some r) (hdg : decode cc pc = .ok (.iastore, 1)) (kk : a = some r → cpJ p l e R s m args below meth c Q w A nL (pc + 1) lv st (cpI S k i.toNatClampNeg x)) : cpJ p l e R s m args below meth c Q w A nL pc lv (.int x :: .int i :: .ref (w.2.1 k) :: st) S := fun H locs ls hP hS hL => by
  by_cases hi : cpIn i n = true
  · rw [if_pos hi] at h
    refine va_iast C.1 C.2.1 C.2.2.2.2.2.1.1 hP (C.2.2.2.2.2.2.1.D S) hS k 1 (hO.ints (by decide) w S) rfl (cpIn_vp hi) hdg (fun H1 locs1 hP1 _ hS1 => ?_)
    rw [cpWd_putI (by decide) hO] at hP1
    exact kk h H1 locs1 ls hP1 hS1 hL
  · rw [if_neg hi] at h; cases h
theorem cj_iastoreC (C : cpCx p s m args meth c w A cc own nL) {pc : Nat} {lv : List (Option Value)} {st : List Value} {S : cpS} {k n : Nat} {lo : List (Option Nat)} {i x : Int32} {j : Nat} (hO : cpO k 1 n lo) (hi : cpIn i n = true) (hj : i.toNatClampNeg = j) (hdg : decode cc pc = .ok (.iastore, 1)) (kk : cpJ p l e R s m args below meth c Q w A nL (pc + 1) lv st (cpI S k j x)) : cpJ p l e R s m args below meth c Q w A nL pc lv (.int x :: .int i :: .ref (w.2.1 k) :: st) S := fun H locs ls hP hS hL => by
  subst hj
  refine va_iast C.1 C.2.1 C.2.2.2.2.2.1.1 hP (C.2.2.2.2.2.2.1.D S) hS k 1 (hO.ints (by decide) w S) rfl (cpIn_vp hi) hdg (fun H1 locs1 hP1 _ hS1 => ?_)
  rw [cpWd_putI (by decide) hO] at hP1
  exact kk H1 locs1 ls hP1 hS1 hL
theorem cj_castore (C : cpCx p s m args meth c w A cc own nL) {pc : Nat} {lv : List (Option Value)} {st : List Value} {S : cpS} {k n : Nat} {lo : List (Option Nat)} {i x : Int32} {ρ : Type} {a : Option ρ} {r : ρ} (hO : cpO k 2 n lo) (h : (if cpIn i n then a else none) = some r) (hdg : decode cc pc = .ok (.castore, 1)) (kk : a = some r → cpJ p l e R s m args below meth c Q w A nL (pc + 1) lv st (cpI S k i.toNatClampNeg (vp_nar .char x))) : cpJ p l e R s m args below meth c Q w A nL pc lv (.int x :: .int i :: .ref (w.2.1 k) :: st) S := fun H locs ls hP hS hL => by
  by_cases hi : cpIn i n = true
  · rw [if_pos hi] at h
    refine va_cast C.1 C.2.1 C.2.2.2.2.2.1.1 hP (C.2.2.2.2.2.2.1.D S) hS k 2 (hO.ints (by decide) w S) rfl (cpIn_vp hi) hdg (fun H1 locs1 hP1 _ hS1 => ?_)
    rw [cpWd_putI (by decide) hO] at hP1
    exact kk h H1 locs1 ls hP1 hS1 hL
  · rw [if_neg hi] at h; cases h
theorem cj_castoreC (C : cpCx p s m args meth c w A cc own nL) {pc : Nat} {lv : List (Option Value)} {st : List Value} {S : cpS} {k n : Nat} {lo : List (Option Nat)} {i x : Int32} {j : Nat} (hO : cpO k 2 n lo) (hi : cpIn i n = true) (hj : i.toNatClampNeg = j) (hdg : decode cc pc = .ok (.castore, 1)) (kk : cpJ p l e R s m args below meth c Q w A nL (pc + 1) lv st (cpI S k j (vp_nar .char x))) : cpJ p l e R s m args below meth c Q w A nL pc lv (.int x :: .int i :: .ref (w.2.1 k) :: st) S := fun H locs ls hP hS hL => by
  subst hj
  refine va_cast C.1 C.2.1 C.2.2.2.2.2.1.1 hP (C.2.2.2.2.2.2.1.D S) hS k 2 (hO.ints (by decide) w S) rfl (cpIn_vp hi) hdg (fun H1 locs1 hP1 _ hS1 => ?_)
  rw [cpWd_putI (by decide) hO] at hP1
  exact kk H1 locs1 ls hP1 hS1 hL
theorem cj_bastore (C : cpCx p s m args meth c w A cc own nL) {pc : Nat} {lv : List (Option Value)} {st : List Value} {S : cpS} {k n : Nat} {lo : List (Option Nat)} {i x : Int32} {ρ : Type} {a : Option ρ} {r : ρ} (hO : cpO k 3 n lo) (h : (if cpIn i n then a else none) = some r) (hdg : decode cc pc = .ok (.bastore, 1)) (kk : a = some r → cpJ p l e R s m args below meth c Q w A nL (pc + 1) lv st (cpI S k i.toNatClampNeg (vp_nar .boolean x))) : cpJ p l e R s m args below meth c Q w A nL pc lv (.int x :: .int i :: .ref (w.2.1 k) :: st) S := fun H locs ls hP hS hL => by
  by_cases hi : cpIn i n = true
  · rw [if_pos hi] at h
    refine va_zast C.1 C.2.1 C.2.2.2.2.2.1.1 hP (C.2.2.2.2.2.2.1.D S) hS k 3 (hO.ints (by decide) w S) rfl (cpIn_vp hi) hdg (fun H1 locs1 hP1 _ hS1 => ?_)
    rw [cpWd_putI (by decide) hO] at hP1
    exact kk h H1 locs1 ls hP1 hS1 hL
  · rw [if_neg hi] at h; cases h
theorem cj_bastoreC (C : cpCx p s m args meth c w A cc own nL) {pc : Nat} {lv : List (Option Value)} {st : List Value} {S : cpS} {k n : Nat} {lo : List (Option Nat)} {i x : Int32} {j : Nat} (hO : cpO k 3 n lo) (hi : cpIn i n = true) (hj : i.toNatClampNeg = j) (hdg : decode cc pc = .ok (.bastore, 1)) (kk : cpJ p l e R s m args below meth c Q w A nL (pc + 1) lv st (cpI S k j (vp_nar .boolean x))) : cpJ p l e R s m args below meth c Q w A nL pc lv (.int x :: .int i :: .ref (w.2.1 k) :: st) S := fun H locs ls hP hS hL => by
  subst hj
  refine va_zast C.1 C.2.1 C.2.2.2.2.2.1.1 hP (C.2.2.2.2.2.2.1.D S) hS k 3 (hO.ints (by decide) w S) rfl (cpIn_vp hi) hdg (fun H1 locs1 hP1 _ hS1 => ?_)
  rw [cpWd_putI (by decide) hO] at hP1
  exact kk H1 locs1 ls hP1 hS1 hL
theorem cj_lastore (C : cpCx p s m args meth c w A cc own nL) {pc : Nat} {lv : List (Option Value)} {st : List Value} {S : cpS} {k n : Nat} {lo : List (Option Nat)} {i : Int32} {x : Int64} {ρ : Type} {a : Option ρ} {r : ρ} (hO : cpO k 4 n lo) (h : (if cpIn i n then a else none) = some r) (hdg : decode cc pc = .ok (.lastore, 1)) (kk : a = some r → cpJ p l e R s m args below meth c Q w A nL (pc + 1) lv st (cpL S k i.toNatClampNeg x)) : cpJ p l e R s m args below meth c Q w A nL pc lv (.long x :: .int i :: .ref (w.2.1 k) :: st) S := fun H locs ls hP hS hL => by
  by_cases hi : cpIn i n = true
  · rw [if_pos hi] at h
    refine va_last C.1 C.2.1 C.2.2.2.2.2.1.1 hP (C.2.2.2.2.2.2.1.D S) hS k 4 (hO.longs w S) rfl (cpIn_vp hi) hdg (fun H1 locs1 hP1 _ hS1 => ?_)
    rw [cpWd_putL hO] at hP1
    exact kk h H1 locs1 ls hP1 hS1 hL
  · rw [if_neg hi] at h; cases h
theorem cj_lastoreC (C : cpCx p s m args meth c w A cc own nL) {pc : Nat} {lv : List (Option Value)} {st : List Value} {S : cpS} {k n : Nat} {lo : List (Option Nat)} {i : Int32} {x : Int64} {j : Nat} (hO : cpO k 4 n lo) (hi : cpIn i n = true) (hj : i.toNatClampNeg = j) (hdg : decode cc pc = .ok (.lastore, 1)) (kk : cpJ p l e R s m args below meth c Q w A nL (pc + 1) lv st (cpL S k j x)) : cpJ p l e R s m args below meth c Q w A nL pc lv (.long x :: .int i :: .ref (w.2.1 k) :: st) S := fun H locs ls hP hS hL => by
  subst hj
  refine va_last C.1 C.2.1 C.2.2.2.2.2.1.1 hP (C.2.2.2.2.2.2.1.D S) hS k 4 (hO.longs w S) rfl (cpIn_vp hi) hdg (fun H1 locs1 hP1 _ hS1 => ?_)
  rw [cpWd_putL hO] at hP1
  exact kk H1 locs1 ls hP1 hS1 hL
theorem cj_gets0 (C : cpCx p s m args meth c w A cc own nL) {pc : Nat} {lv : List (Option Value)} {st : List Value} {S : cpS} {idx : Nat} (hl : Cond.fieldLink own idx "CoinPairs" "LESSER_ONE" "[I" ∈ wsL_law) (hdg : decode cc pc = .ok (.getstatic idx, 3)) (kk : cpJ p l e R s m args below meth c Q w A nL (pc + 3) lv (.ref (w.2.2.2.1 0) :: st) S) : cpJ p l e R s m args below meth c Q w A nL pc lv st S :=
  fun H locs ls hP hS hL => va_gets C.1 C.2.1 C.2.2.2.2.2.1.2.2.2.1 hS C.2.2.2.1 (C.2.2.2.2.1 _ hl) (fun _ h => h) hdg (kk H locs ls hP hS hL)
theorem cj_getsN0 (C : cpCx p s m args meth c w A cc own nL) {pc : Nat} {lv : List (Option Value)} {st : List Value} {S : cpS} {idx : Nat} (hl : (own, idx, "LESSER_ONE") ∈ cpNF) (hdg : decode cc pc = .ok (.getstatic idx, 3)) (kk : cpJ p l e R s m args below meth c Q w A nL (pc + 3) lv (.ref (w.2.2.2.1 0) :: st) S) : cpJ p l e R s m args below meth c Q w A nL pc lv st S :=
  fun H locs ls hP hS hL => va_getsN C.1 C.2.1 C.2.2.2.2.2.1.2.2.2.1 hS C.2.2.2.1 (va_Nw.use rfl (C.2.2.2.2.2.1.2.2.1 _ hl)) (fun _ h => h) hdg (kk H locs ls hP hS hL)
theorem cj_tab0 (C : cpCx p s m args meth c w A cc own nL) {pc : Nat} {lv : List (Option Value)} {st : List Value} {S : cpS} {i : Int32} {ρ : Type} {a : Option ρ} {r : ρ} (h : (if cpIn i 28 then a else none) = some r) (hdg : decode cc pc = .ok (.iaload, 1)) (kk : a = some r → cpJ p l e R s m args below meth c Q w A nL (pc + 1) lv (.int (cpLs i.toNatClampNeg) :: st) S) : cpJ p l e R s m args below meth c Q w A nL pc lv (.int i :: .ref (w.2.2.2.1 0) :: st) S := fun H locs ls hP hS hL => by
  by_cases hi : cpIn i 28 = true
  · rw [if_pos hi] at h
    exact va_ti C.1 C.2.1 C.2.2.2.2.2.1.2.2.2.2.2.1 hS (cpIn_vp hi) rfl hdg (kk h H locs ls hP hS hL)
  · rw [if_neg hi] at h; cases h
theorem cj_gets1 (C : cpCx p s m args meth c w A cc own nL) {pc : Nat} {lv : List (Option Value)} {st : List Value} {S : cpS} {idx : Nat} (hl : Cond.fieldLink own idx "CoinPairs" "OTHER_ONE" "[I" ∈ wsL_law) (hdg : decode cc pc = .ok (.getstatic idx, 3)) (kk : cpJ p l e R s m args below meth c Q w A nL (pc + 3) lv (.ref (w.2.2.2.1 1) :: st) S) : cpJ p l e R s m args below meth c Q w A nL pc lv st S :=
  fun H locs ls hP hS hL => va_gets C.1 C.2.1 C.2.2.2.2.2.1.2.2.2.2.1 hS C.2.2.2.1 (C.2.2.2.2.1 _ hl) (fun _ h => h) hdg (kk H locs ls hP hS hL)
theorem cj_getsN1 (C : cpCx p s m args meth c w A cc own nL) {pc : Nat} {lv : List (Option Value)} {st : List Value} {S : cpS} {idx : Nat} (hl : (own, idx, "OTHER_ONE") ∈ cpNF) (hdg : decode cc pc = .ok (.getstatic idx, 3)) (kk : cpJ p l e R s m args below meth c Q w A nL (pc + 3) lv (.ref (w.2.2.2.1 1) :: st) S) : cpJ p l e R s m args below meth c Q w A nL pc lv st S :=
  fun H locs ls hP hS hL => va_getsN C.1 C.2.1 C.2.2.2.2.2.1.2.2.2.2.1 hS C.2.2.2.1 (va_Nw.use rfl (C.2.2.2.2.2.1.2.2.1 _ hl)) (fun _ h => h) hdg (kk H locs ls hP hS hL)
theorem cj_tab1 (C : cpCx p s m args meth c w A cc own nL) {pc : Nat} {lv : List (Option Value)} {st : List Value} {S : cpS} {i : Int32} {ρ : Type} {a : Option ρ} {r : ρ} (h : (if cpIn i 28 then a else none) = some r) (hdg : decode cc pc = .ok (.iaload, 1)) (kk : a = some r → cpJ p l e R s m args below meth c Q w A nL (pc + 1) lv (.int (cpOs i.toNatClampNeg) :: st) S) : cpJ p l e R s m args below meth c Q w A nL pc lv (.int i :: .ref (w.2.2.2.1 1) :: st) S := fun H locs ls hP hS hL => by
  by_cases hi : cpIn i 28 = true
  · rw [if_pos hi] at h
    exact va_ti C.1 C.2.1 C.2.2.2.2.2.1.2.2.2.2.2.2.1 hS (cpIn_vp hi) rfl hdg (kk h H locs ls hP hS hL)
  · rw [if_neg hi] at h; cases h
theorem cj_mmax (C : cpCx p s m args meth c w A cc own nL) {pc : Nat} {lv : List (Option Value)} {st : List Value} {S : cpS} {idx : Nat} {x y : Int32} (hl : Cond.methodLink own idx Lib.Math.max.name ∈ wsL_law) (hs : Cond.static Lib.Math.max.name ∈ wsL_law) (hi : Cond.initialized "java/lang/Math" ∈ wsL_law) (hc : Cond.code Lib.Math.max.name Lib.Math.max.code 2 (some .int) ∈ wsL_law) (hf : 1 ≤ R.frames) (hr : (st.map fun v => v.category).sum + 13 ≤ R.locals) (hdg : decode cc pc = .ok (.invokestatic idx, 3)) (kk : cpJ p l e R s m args below meth c Q w A nL (pc + 3) lv (.int (if x < y then y else x) :: st) S) : cpJ p l e R s m args below meth c Q w A nL pc lv (.int y :: .int x :: st) S :=
  fun H locs ls hP hS hL => va_mmax C.1 C.2.1 (C.2.2.1.trans hL.1.symm) C.2.2.2.1 (C.2.2.2.2.1 _ hl) (C.2.2.2.2.1 _ hs) (C.2.2.2.2.1 _ hi) (C.2.2.2.2.1 _ hc) hf hr (Nat.zero_le _) (Nat.zero_le _) hdg (kk H locs ls hP hS hL)
theorem cj_mmin (C : cpCx p s m args meth c w A cc own nL) {pc : Nat} {lv : List (Option Value)} {st : List Value} {S : cpS} {idx : Nat} {x y : Int32} (hl : Cond.methodLink own idx Lib.Math.min.name ∈ wsL_law) (hs : Cond.static Lib.Math.min.name ∈ wsL_law) (hi : Cond.initialized "java/lang/Math" ∈ wsL_law) (hc : Cond.code Lib.Math.min.name Lib.Math.min.code 2 (some .int) ∈ wsL_law) (hf : 1 ≤ R.frames) (hr : (st.map fun v => v.category).sum + 13 ≤ R.locals) (hdg : decode cc pc = .ok (.invokestatic idx, 3)) (kk : cpJ p l e R s m args below meth c Q w A nL (pc + 3) lv (.int (if y < x then y else x) :: st) S) : cpJ p l e R s m args below meth c Q w A nL pc lv (.int y :: .int x :: st) S :=
  fun H locs ls hP hS hL => va_mmin C.1 C.2.1 (C.2.2.1.trans hL.1.symm) C.2.2.2.1 (C.2.2.2.2.1 _ hl) (C.2.2.2.2.1 _ hs) (C.2.2.2.2.1 _ hi) (C.2.2.2.2.1 _ hc) hf hr (Nat.zero_le _) (Nat.zero_le _) hdg (kk H locs ls hP hS hL)
theorem cj_copyi (C : cpCx p s m args meth c w A cc own nL) {pc : Nat} {lv : List (Option Value)} {st : List Value} {S : cpS} {k0 k1 n0 n1 idx : Nat} {lo0 lo1 : List (Option Nat)} {sp dp n : Int32} (hO0 : cpO k0 1 n0 lo0) (hO1 : cpO k1 1 n1 lo1) (hl : Cond.methodLink own idx arraycopyName ∈ wsL_law) (hnat : Cond.native arraycopyName ∈ wsL_law) (hst : Cond.static arraycopyName ∈ wsL_law) (hini : Cond.initialized "java/lang/System" ∈ wsL_law) (h1 : ¬ sp < 0) (h2 : ¬ dp < 0) (h3 : ¬ n < 0) (h4 : sp.toNatClampNeg + n.toNatClampNeg ≤ n0) (h5 : dp.toNatClampNeg + n.toNatClampNeg ≤ n1) (hf : 1 ≤ R.frames) (hr : (st.map fun v => v.category).sum + (nativeFrameWords "java/lang/System" "arraycopy" 5 + 11) ≤ R.locals) (hdg : decode cc pc = .ok (.invokestatic idx, 3)) (kk : cpJ p l e R s m args below meth c Q w A nL (pc + 3) lv st (cpRI S k1 (va_cpy (S.1 k0) (S.1 k1) sp.toNatClampNeg dp.toNatClampNeg n.toNatClampNeg))) : cpJ p l e R s m args below meth c Q w A nL pc lv (.int n :: .int dp :: .ref (w.2.1 k1) :: .int sp :: .ref (w.2.1 k0) :: st) S := fun H locs ls hP hS hL => by
  refine va_copyi C.1 C.2.1 (C.2.2.1.trans hL.1.symm) C.2.2.2.1 (C.2.2.2.2.1 _ hl) (C.2.2.2.2.1 _ hnat) (C.2.2.2.2.1 _ hst) (C.2.2.2.2.1 _ hini) C.2.2.2.2.2.1.1 hP (C.2.2.2.2.2.2.1.D S) hS k0 k1 1 1 (hO0.ints (by decide) w S) (hO1.ints (by decide) w S) rfl rfl rfl h1 h2 h3 h4 h5 (fun _ _ => rfl) hf hr hdg (fun H1 locs1 hP1 _ hS1 => ?_)
  rw [cpWd_rowI (by decide) hO1] at hP1
  exact kk H1 locs1 ls hP1 hS1 hL
end CPK
