set_option maxRecDepth 100000 in
theorem cpGood : GoodIn wsL_law wsL_law := goodIn_sub (fun _ h => h) (by decide +kernel)
def cpRm (d : Nat) : Room := { frames := d, cells := 0, slots := 0, locals := 41 * d }
theorem cpRm_ok {a b mL : Nat} (h : a + 1 ≤ b) (hm : mL ≤ 22) : (cpRm a).frames + 1 ≤ (cpRm b).frames ∧ 8 + (mL + 11) + (cpRm a).locals ≤ (cpRm b).locals := ⟨h, by show 8 + (mL + 11) + 41 * a ≤ 41 * b; omega⟩
/-- a value computed, then what follows -/
def cpB {ρ τ : Type} (o : Option (ρ × cpS)) (g : ρ → cpS → Option τ) : Option τ := match o with
  | none => none
  | some q => g q.1 q.2
theorem cpB_some {ρ τ : Type} {o : Option (ρ × cpS)} {g : ρ → cpS → Option τ} {r : τ} (h : cpB o g = some r) : ∃ x S, o = some (x, S) ∧ g x S = some r := by
  cases o with
  | none => cases h
  | some q => exact ⟨q.1, q.2, rfl, h⟩
theorem cpB_eq {ρ τ : Type} {x : ρ} {S : cpS} {g : ρ → cpS → Option τ} : cpB (some (x, S)) g = g x S := rfl
def cpMi (l : Launch) (y : MethodName) (b : ByteArray) (mL : Nat) (ret : Option FieldType) (d : Nat) (w : cpW) (A : Nat → Prop) (as : List Value) (S : cpS) (r : Int32 × cpS) : Prop := Met l y (.code y b mL ret :: wsL_law) (cpRm d) (va_Pc as (cpWorld w A S)) (va_Qi (fun x S' => (x, S') = r) (cpWorld w A) A) 0 0 A
def cpMl (l : Launch) (y : MethodName) (b : ByteArray) (mL : Nat) (ret : Option FieldType) (d : Nat) (w : cpW) (A : Nat → Prop) (as : List Value) (S : cpS) (r : Int64 × cpS) : Prop := Met l y (.code y b mL ret :: wsL_law) (cpRm d) (va_Pc as (cpWorld w A S)) (va_Ql (fun x S' => (x, S') = r) (cpWorld w A) A) 0 0 A
def cpMv (l : Launch) (y : MethodName) (b : ByteArray) (mL : Nat) (ret : Option FieldType) (d : Nat) (w : cpW) (A : Nat → Prop) (as : List Value) (S : cpS) (r : Unit × cpS) : Prop := Met l y (.code y b mL ret :: wsL_law) (cpRm d) (va_Pc as (cpWorld w A S)) (va_Qv (fun S' => ((), S') = r) (cpWorld w A) A) 0 0 A
theorem cpBlind (as : List Value) (w : cpW) (A : Nat → Prop) (S : cpS) : FrameBlind (va_Pc as (cpWorld w A S)) := by
  intro a U g mk q
  obtain ⟨q0, qP, qK, qD⟩ := q
  exact ⟨q0, qP, qK.same rfl rfl (Vm.Alike.refl U.vm), qD⟩
def cpArgs : List Value → List (Option Value)
  | [] => []
  | v :: vs => if v.category = 2 then some v :: none :: cpArgs vs else some v :: cpArgs vs
theorem cpArgs_in {vs : List Value} : ∀ {i j : Nat} {v : Value}, (cpArgs vs)[j]? = some (some v) → (i + j, v) ∈ lv_args i vs := by
  induction vs with
  | nil => intro i j v h; simp [cpArgs] at h
  | cons x t ih =>
    intro i j v h
    unfold cpArgs at h
    unfold lv_args
    by_cases hx : x.category = 2
    · rw [if_pos hx] at h ⊢
      match j, h with
      | 0, h => simp at h; subst h; exact List.mem_cons_self
      | 1, h => simp at h
      | j + 2, h =>
        have := ih (i := i + 2) (j := j) (by simpa using h)
        exact List.mem_cons_of_mem _ (by rw [show i + (j + 2) = i + 2 + j by omega]; exact this)
    · rw [if_neg hx] at h ⊢
      match j, h with
      | 0, h => simp at h; subst h; exact List.mem_cons_self
      | j + 1, h =>
        have := ih (i := i + 1) (j := j) (by simpa using h)
        exact List.mem_cons_of_mem _ (by rw [show i + (j + 1) = i + 1 + j by omega]; exact this)
theorem cpArgs_entry {as : List Value} {mL : Nat} {lv : List (Option Value)} (hlv : cpArgs as ++ List.replicate (mL - (cpArgs as).length) none = lv) {ls : Array Slot} (h : lv_has ls mL (lv_args 0 as)) : cpLv ls mL lv := by
  refine cpLv.of h (fun i v hi => ?_)
  rw [← hlv] at hi
  by_cases hl : i < (cpArgs as).length
  · rw [List.getElem?_append_left hl] at hi
    have := cpArgs_in (i := 0) hi
    rwa [Nat.zero_add] at this
  · rw [List.getElem?_append_right (by omega), List.getElem?_replicate] at hi
    split at hi <;> cases hi
theorem cpMi.of {l : Launch} {y : MethodName} {b : ByteArray} {mL : Nat} {ret : Option FieldType} {d : Nat} {w : cpW} {A : Nat → Prop} {as : List Value} {S : cpS} {r : Int32 × cpS} {lv : List (Option Value)} (hy : plainName y.cls = true) (hlg : (lg_sl as).length ≤ mL) (hlv : cpArgs as ++ List.replicate (mL - (cpArgs as).length) none = lv)
    (body : ∀ (p : Program) (e : Env) (s : State) (m : MethodId) (args : Array Value) (below : List Frame) (meth : Method) (c : Code), cpCx p s m args meth c w A b y.cls mL → meth.sig.returnType = ret → cpJ p l e (cpRm d) s m args below meth c (MQ below (va_Qi (fun x S' => (x, S') = r) (cpWorld w A) A) args s 0 0 A) w A mL 0 lv [] S) : cpMi l y b mL ret d w A as S r := by
  refine Met.ofW (cc := b) (maxL := mL) (ret := ret) hy rfl ?_
  intro p e s m args below meth c s₁ B hml hv
  obtain ⟨rfl, hP, hK, hD⟩ := hv
  have hts := atoms_spec (ws := Cond.code y b mL ret :: wsL_law) B.pre
  rw [lg_entry_eq]
  exact body p e s m _ below meth c ⟨B.exec, B.bytes, hml, findClass_of_methodNamed B.named, fun q hq => hts q (List.mem_cons_of_mem _ hq), hK, hD, B.notSynchronized⟩ B.returns s.heap [] _ hP va_S.rf (cpArgs_entry hlv (lv_entry as hlg))
theorem cpMl.of {l : Launch} {y : MethodName} {b : ByteArray} {mL : Nat} {ret : Option FieldType} {d : Nat} {w : cpW} {A : Nat → Prop} {as : List Value} {S : cpS} {r : Int64 × cpS} {lv : List (Option Value)} (hy : plainName y.cls = true) (hlg : (lg_sl as).length ≤ mL) (hlv : cpArgs as ++ List.replicate (mL - (cpArgs as).length) none = lv)
    (body : ∀ (p : Program) (e : Env) (s : State) (m : MethodId) (args : Array Value) (below : List Frame) (meth : Method) (c : Code), cpCx p s m args meth c w A b y.cls mL → meth.sig.returnType = ret → cpJ p l e (cpRm d) s m args below meth c (MQ below (va_Ql (fun x S' => (x, S') = r) (cpWorld w A) A) args s 0 0 A) w A mL 0 lv [] S) : cpMl l y b mL ret d w A as S r := by
  refine Met.ofW (cc := b) (maxL := mL) (ret := ret) hy rfl ?_
  intro p e s m args below meth c s₁ B hml hv
  obtain ⟨rfl, hP, hK, hD⟩ := hv
  have hts := atoms_spec (ws := Cond.code y b mL ret :: wsL_law) B.pre
  rw [lg_entry_eq]
  exact body p e s m _ below meth c ⟨B.exec, B.bytes, hml, findClass_of_methodNamed B.named, fun q hq => hts q (List.mem_cons_of_mem _ hq), hK, hD, B.notSynchronized⟩ B.returns s.heap [] _ hP va_S.rf (cpArgs_entry hlv (lv_entry as hlg))
theorem cpMv.of {l : Launch} {y : MethodName} {b : ByteArray} {mL : Nat} {ret : Option FieldType} {d : Nat} {w : cpW} {A : Nat → Prop} {as : List Value} {S : cpS} {r : Unit × cpS} {lv : List (Option Value)} (hy : plainName y.cls = true) (hlg : (lg_sl as).length ≤ mL) (hlv : cpArgs as ++ List.replicate (mL - (cpArgs as).length) none = lv)
    (body : ∀ (p : Program) (e : Env) (s : State) (m : MethodId) (args : Array Value) (below : List Frame) (meth : Method) (c : Code), cpCx p s m args meth c w A b y.cls mL → meth.sig.returnType = ret → cpJ p l e (cpRm d) s m args below meth c (MQ below (va_Qv (fun S' => ((), S') = r) (cpWorld w A) A) args s 0 0 A) w A mL 0 lv [] S) : cpMv l y b mL ret d w A as S r := by
  refine Met.ofW (cc := b) (maxL := mL) (ret := ret) hy rfl ?_
  intro p e s m args below meth c s₁ B hml hv
  obtain ⟨rfl, hP, hK, hD⟩ := hv
  have hts := atoms_spec (ws := Cond.code y b mL ret :: wsL_law) B.pre
  rw [lg_entry_eq]
  exact body p e s m _ below meth c ⟨B.exec, B.bytes, hml, findClass_of_methodNamed B.named, fun q hq => hts q (List.mem_cons_of_mem _ hq), hK, hD, B.notSynchronized⟩ B.returns s.heap [] _ hP va_S.rf (cpArgs_entry hlv (lv_entry as hlg))
/-- what a call of an instance method needs of its callee -/
def cpCal (y : MethodName) (b : ByteArray) (mL : Nat) (ret : Option FieldType) (n : Nat) : Prop := Cond.instanceMethod y ∈ wsL_law ∧ Cond.selects y.cls y y ∈ wsL_law ∧ Cond.initialized y.cls ∈ wsL_law ∧ Cond.code y b mL ret ∈ wsL_law ∧ (y.cls ≠ "java/lang/invoke/MethodHandle" ∧ y.cls ≠ "java/lang/invoke/VarHandle" ∧ (parseMethodDescriptor y.desc).map (fun d => d.parameters.length) = some n) ∧ mL ≤ 22
/-- of a static one -/
def cpCas (y : MethodName) (b : ByteArray) (mL : Nat) (ret : Option FieldType) (n : Nat) : Prop := Cond.static y ∈ wsL_law ∧ Cond.initialized y.cls ∈ wsL_law ∧ Cond.code y b mL ret ∈ wsL_law ∧ (y.cls ≠ "java/lang/invoke/MethodHandle" ∧ y.cls ≠ "java/lang/invoke/VarHandle" ∧ (parseMethodDescriptor y.desc).map (fun d => d.parameters.length) = some n) ∧ mL ≤ 22
theorem cpGV {own : String} {idx : Nat} {y : MethodName} {b : ByteArray} {mL : Nat} {ret : Option FieldType} {n : Nat} (h : cpCal y b mL ret n) (hl : Cond.methodLink own idx y ∈ wsL_law) : GoodIn wsL_law (wsV own idx y.cls y (.code y b mL ret :: wsL_law)) := by
  intro q hq
  have hm : q ∈ wsL_law := by
    rcases List.mem_append.mp hq with h1 | h1
    · simp only [List.mem_cons, List.not_mem_nil, or_false] at h1
      rcases h1 with rfl | rfl | rfl | rfl
      · exact hl
      · exact h.1
      · exact h.2.1
      · exact h.2.2.1
    · rcases List.mem_cons.mp h1 with rfl | h1
      · exact h.2.2.2.1
      · exact h1
  exact cpGood q hm
theorem cpGS {own : String} {idx : Nat} {y : MethodName} {b : ByteArray} {mL : Nat} {ret : Option FieldType} {n : Nat} (h : cpCas y b mL ret n) (hl : Cond.methodLink own idx y ∈ wsL_law) : GoodIn wsL_law (va_wsS own idx y (.code y b mL ret :: wsL_law)) := by
  intro q hq
  have hm : q ∈ wsL_law := by
    rcases List.mem_append.mp hq with h1 | h1
    · simp only [List.mem_cons, List.not_mem_nil, or_false] at h1
      rcases h1 with rfl | rfl | rfl
      · exact hl
      · exact h.1
      · exact h.2.1
    · rcases List.mem_cons.mp h1 with rfl | h1
      · exact h.2.2.1
      · exact h1
  exact cpGood q hm
theorem cpGN {y : MethodName} {b : ByteArray} {mL : Nat} {ret : Option FieldType} {n : Nat} (h : cpCas y b mL ret n) : GoodIn wsL_law (.code y b mL ret :: wsL_law) := by
  intro q hq
  rcases List.mem_cons.mp hq with rfl | h1
  · exact cpGood _ h.2.2.1
  · exact cpGood _ h1
section CPC
variable {p : Program} {l : Launch} {e : Env} {dR : Nat} {s : State} {m : MethodId} {args : Array Value} {below : List Frame} {meth : Method} {c : Code} {Q : State → Prop} {w : cpW} {A : Nat → Prop} {cc : ByteArray} {own : String} {nL : Nat}
theorem cj_callVi (C : cpCx p s m args meth c w A cc own nL) {pc : Nat} {lv : List (Option Value)} {st : List Value} {S : cpS} {y : MethodName} {b : ByteArray} {mL n idx d : Nat} {ret : Option FieldType} {As rest : List Value} {f : Option (Int32 × cpS)} {ρ : Type} {g : Int32 → cpS → Option ρ} {r : ρ} {k ci Nf : Nat} {fs : List (Option Nat)} {Tt : u_T} (hq : cpCal y b mL ret n) (hl : Cond.methodLink own idx y ∈ wsL_law) (hO : cpO k 0 ci fs) (hcl : vwCl[ci]? = some (y.cls, Tt, Nf)) (hst : st = As.reverse ++ .ref (w.2.1 k) :: rest) (hn : As.length = n) (hW : (rest.map fun v => v.category).sum ≤ 8) (hd : d + 1 ≤ dR) (hdg : decode cc pc = .ok (.invokevirtual idx, 3)) (h : cpB f g = some r) (hM : ∀ x S', f = some (x, S') → cpMi l y b mL ret d w A (.ref (w.2.1 k) :: As) S (x, S')) (kk : ∀ x S', g x S' = some r → cpJ p l e (cpRm dR) s m args below meth c Q w A nL (pc + 3) lv (.int x :: rest) S') : cpJ p l e (cpRm dR) s m args below meth c Q w A nL pc lv st S := fun H locs ls hP hS hL => by
  obtain ⟨x, S', hf, hg⟩ := cpB_some h
  refine va_calli (va_runV (As := As) (rest := rest) ⟨C.1, C.2.1, C.2.2.1, C.2.2.2.1, C.2.2.2.2.1⟩ (hM x S' hf) (cwV n C.2.2.2.2.1 (cpGV hq hl) rfl rfl rfl ⟨rfl, hq.2.2.2.2.1⟩ (cpRm_ok hd hq.2.2.2.2.2)) ⟨cpBlind _ w A S, va_recv C.2.2.2.2.2.1.1 hP hcl (hO.obj w S), fun U hU hW => ⟨rfl, by rw [hU]; exact hP, C.2.2.2.2.2.1.call hS hU hW, C.2.2.2.2.2.2.1⟩⟩ rfl hn hL.1 hst (lv_room hW) hdg ⟨Nat.zero_le _, Nat.zero_le _⟩) hS (fun q _ h => h) (fun q h => h) (fun r u t H1 locs1 ht hvm hw hB _ _ hS1 => ?_)
  cases hw
  obtain ⟨hP1, -, -⟩ := hB
  rw [ht] at hP1
  exact kk _ _ hg H1 locs1 ls hP1 hS1 hL
theorem cj_callSi (C : cpCx p s m args meth c w A cc own nL) {pc : Nat} {lv : List (Option Value)} {st : List Value} {S : cpS} {y : MethodName} {b : ByteArray} {mL n idx d : Nat} {ret : Option FieldType} {As rest : List Value} {f : Option (Int32 × cpS)} {ρ : Type} {g : Int32 → cpS → Option ρ} {r : ρ} (hq : cpCas y b mL ret n) (hl : Cond.methodLink own idx y ∈ wsL_law) (hst : st = As.reverse ++ rest) (hn : As.length = n) (hW : (rest.map fun v => v.category).sum ≤ 8) (hd : d + 1 ≤ dR) (hdg : decode cc pc = .ok (.invokestatic idx, 3)) (h : cpB f g = some r) (hM : ∀ x S', f = some (x, S') → cpMi l y b mL ret d w A (As) S (x, S')) (kk : ∀ x S', g x S' = some r → cpJ p l e (cpRm dR) s m args below meth c Q w A nL (pc + 3) lv (.int x :: rest) S') : cpJ p l e (cpRm dR) s m args below meth c Q w A nL pc lv st S := fun H locs ls hP hS hL => by
  obtain ⟨x, S', hf, hg⟩ := cpB_some h
  refine va_calli (va_runS (As := As) (rest := rest) ⟨C.1, C.2.1, C.2.2.1, C.2.2.2.1, C.2.2.2.2.1⟩ (hM x S' hf) (va_cwS n C.2.2.2.2.1 (cpGS hq hl) rfl rfl rfl hq.2.2.2.1 (cpRm_ok hd hq.2.2.2.2)) ⟨cpBlind _ w A S, fun U hU hW => ⟨rfl, by rw [hU]; exact hP, C.2.2.2.2.2.1.call hS hU hW, C.2.2.2.2.2.2.1⟩⟩ rfl hn hL.1 hst (lv_room hW) hdg ⟨Nat.zero_le _, Nat.zero_le _⟩) hS (fun q _ h => h) (fun q h => h) (fun r u t H1 locs1 ht hvm hw hB _ _ hS1 => ?_)
  cases hw
  obtain ⟨hP1, -, -⟩ := hB
  rw [ht] at hP1
  exact kk _ _ hg H1 locs1 ls hP1 hS1 hL
theorem cj_callNi (C : cpCx p s m args meth c w A cc own nL) {pc : Nat} {lv : List (Option Value)} {st : List Value} {S : cpS} {y : MethodName} {b : ByteArray} {mL n idx d : Nat} {ret : Option FieldType} {As rest : List Value} {f : Option (Int32 × cpS)} {ρ : Type} {g : Int32 → cpS → Option ρ} {r : ρ} {host : String} (hq : cpCas y b mL ret n) (hl : (own, idx, y, host) ∈ cpNM) (hst : st = As.reverse ++ rest) (hn : As.length = n) (hW : (rest.map fun v => v.category).sum ≤ 8) (hd : d + 1 ≤ dR) (hdg : decode cc pc = .ok (.invokestatic idx, 3)) (h : cpB f g = some r) (hM : ∀ x S', f = some (x, S') → cpMi l y b mL ret d w A (As) S (x, S')) (kk : ∀ x S', g x S' = some r → cpJ p l e (cpRm dR) s m args below meth c Q w A nL (pc + 3) lv (.int x :: rest) S') : cpJ p l e (cpRm dR) s m args below meth c Q w A nL pc lv st S := fun H locs ls hP hS hL => by
  obtain ⟨x, S', hf, hg⟩ := cpB_some h
  refine va_calli (va_runSN (As := As) (rest := rest) ⟨C.1, C.2.1, C.2.2.1, C.2.2.2.1, C.2.2.2.2.1⟩ (hM x S' hf) ⟨va_cnB n C.2.2.2.2.1 (cpGN hq) rfl rfl rfl (C.2.2.2.2.2.1.2.1 _ hl) (C.2.2.2.2.1 _ hq.2.1) hq.2.2.2.1 (cpRm_ok hd hq.2.2.2.2), C.2.2.2.2.1 _ hq.1, trivial⟩ ⟨cpBlind _ w A S, fun U hU hW => ⟨rfl, by rw [hU]; exact hP, C.2.2.2.2.2.1.call hS hU hW, C.2.2.2.2.2.2.1⟩⟩ rfl hn hL.1 hst (lv_room hW) hdg ⟨Nat.zero_le _, Nat.zero_le _⟩) hS (fun q _ h => h) (fun q h => h) (fun r u t H1 locs1 ht hvm hw hB _ _ hS1 => ?_)
  cases hw
  obtain ⟨hP1, -, -⟩ := hB
  rw [ht] at hP1
  exact kk _ _ hg H1 locs1 ls hP1 hS1 hL
theorem cj_callVl (C : cpCx p s m args meth c w A cc own nL) {pc : Nat} {lv : List (Option Value)} {st : List Value} {S : cpS} {y : MethodName} {b : ByteArray} {mL n idx d : Nat} {ret : Option FieldType} {As rest : List Value} {f : Option (Int64 × cpS)} {ρ : Type} {g : Int64 → cpS → Option ρ} {r : ρ} {k ci Nf : Nat} {fs : List (Option Nat)} {Tt : u_T} (hq : cpCal y b mL ret n) (hl : Cond.methodLink own idx y ∈ wsL_law) (hO : cpO k 0 ci fs) (hcl : vwCl[ci]? = some (y.cls, Tt, Nf)) (hst : st = As.reverse ++ .ref (w.2.1 k) :: rest) (hn : As.length = n) (hW : (rest.map fun v => v.category).sum ≤ 8) (hd : d + 1 ≤ dR) (hdg : decode cc pc = .ok (.invokevirtual idx, 3)) (h : cpB f g = some r) (hM : ∀ x S', f = some (x, S') → cpMl l y b mL ret d w A (.ref (w.2.1 k) :: As) S (x, S')) (kk : ∀ x S', g x S' = some r → cpJ p l e (cpRm dR) s m args below meth c Q w A nL (pc + 3) lv (.long x :: rest) S') : cpJ p l e (cpRm dR) s m args below meth c Q w A nL pc lv st S := fun H locs ls hP hS hL => by
  obtain ⟨x, S', hf, hg⟩ := cpB_some h
  refine va_calll (va_runV (As := As) (rest := rest) ⟨C.1, C.2.1, C.2.2.1, C.2.2.2.1, C.2.2.2.2.1⟩ (hM x S' hf) (cwV n C.2.2.2.2.1 (cpGV hq hl) rfl rfl rfl ⟨rfl, hq.2.2.2.2.1⟩ (cpRm_ok hd hq.2.2.2.2.2)) ⟨cpBlind _ w A S, va_recv C.2.2.2.2.2.1.1 hP hcl (hO.obj w S), fun U hU hW => ⟨rfl, by rw [hU]; exact hP, C.2.2.2.2.2.1.call hS hU hW, C.2.2.2.2.2.2.1⟩⟩ rfl hn hL.1 hst (lv_room hW) hdg ⟨Nat.zero_le _, Nat.zero_le _⟩) hS (fun q _ h => h) (fun q h => h) (fun r u t H1 locs1 ht hvm hw hB _ _ hS1 => ?_)
  cases hw
  obtain ⟨hP1, -, -⟩ := hB
  rw [ht] at hP1
  exact kk _ _ hg H1 locs1 ls hP1 hS1 hL
theorem cj_callSl (C : cpCx p s m args meth c w A cc own nL) {pc : Nat} {lv : List (Option Value)} {st : List Value} {S : cpS} {y : MethodName} {b : ByteArray} {mL n idx d : Nat} {ret : Option FieldType} {As rest : List Value} {f : Option (Int64 × cpS)} {ρ : Type} {g : Int64 → cpS → Option ρ} {r : ρ} (hq : cpCas y b mL ret n) (hl : Cond.methodLink own idx y ∈ wsL_law) (hst : st = As.reverse ++ rest) (hn : As.length = n) (hW : (rest.map fun v => v.category).sum ≤ 8) (hd : d + 1 ≤ dR) (hdg : decode cc pc = .ok (.invokestatic idx, 3)) (h : cpB f g = some r) (hM : ∀ x S', f = some (x, S') → cpMl l y b mL ret d w A (As) S (x, S')) (kk : ∀ x S', g x S' = some r → cpJ p l e (cpRm dR) s m args below meth c Q w A nL (pc + 3) lv (.long x :: rest) S') : cpJ p l e (cpRm dR) s m args below meth c Q w A nL pc lv st S := fun H locs ls hP hS hL => by
  obtain ⟨x, S', hf, hg⟩ := cpB_some h
  refine va_calll (va_runS (As := As) (rest := rest) ⟨C.1, C.2.1, C.2.2.1, C.2.2.2.1, C.2.2.2.2.1⟩ (hM x S' hf) (va_cwS n C.2.2.2.2.1 (cpGS hq hl) rfl rfl rfl hq.2.2.2.1 (cpRm_ok hd hq.2.2.2.2)) ⟨cpBlind _ w A S, fun U hU hW => ⟨rfl, by rw [hU]; exact hP, C.2.2.2.2.2.1.call hS hU hW, C.2.2.2.2.2.2.1⟩⟩ rfl hn hL.1 hst (lv_room hW) hdg ⟨Nat.zero_le _, Nat.zero_le _⟩) hS (fun q _ h => h) (fun q h => h) (fun r u t H1 locs1 ht hvm hw hB _ _ hS1 => ?_)
  cases hw
  obtain ⟨hP1, -, -⟩ := hB
  rw [ht] at hP1
  exact kk _ _ hg H1 locs1 ls hP1 hS1 hL
theorem cj_callNl (C : cpCx p s m args meth c w A cc own nL) {pc : Nat} {lv : List (Option Value)} {st : List Value} {S : cpS} {y : MethodName} {b : ByteArray} {mL n idx d : Nat} {ret : Option FieldType} {As rest : List Value} {f : Option (Int64 × cpS)} {ρ : Type} {g : Int64 → cpS → Option ρ} {r : ρ} {host : String} (hq : cpCas y b mL ret n) (hl : (own, idx, y, host) ∈ cpNM) (hst : st = As.reverse ++ rest) (hn : As.length = n) (hW : (rest.map fun v => v.category).sum ≤ 8) (hd : d + 1 ≤ dR) (hdg : decode cc pc = .ok (.invokestatic idx, 3)) (h : cpB f g = some r) (hM : ∀ x S', f = some (x, S') → cpMl l y b mL ret d w A (As) S (x, S')) (kk : ∀ x S', g x S' = some r → cpJ p l e (cpRm dR) s m args below meth c Q w A nL (pc + 3) lv (.long x :: rest) S') : cpJ p l e (cpRm dR) s m args below meth c Q w A nL pc lv st S := fun H locs ls hP hS hL => by
  obtain ⟨x, S', hf, hg⟩ := cpB_some h
  refine va_calll (va_runSN (As := As) (rest := rest) ⟨C.1, C.2.1, C.2.2.1, C.2.2.2.1, C.2.2.2.2.1⟩ (hM x S' hf) ⟨va_cnB n C.2.2.2.2.1 (cpGN hq) rfl rfl rfl (C.2.2.2.2.2.1.2.1 _ hl) (C.2.2.2.2.1 _ hq.2.1) hq.2.2.2.1 (cpRm_ok hd hq.2.2.2.2), C.2.2.2.2.1 _ hq.1, trivial⟩ ⟨cpBlind _ w A S, fun U hU hW => ⟨rfl, by rw [hU]; exact hP, C.2.2.2.2.2.1.call hS hU hW, C.2.2.2.2.2.2.1⟩⟩ rfl hn hL.1 hst (lv_room hW) hdg ⟨Nat.zero_le _, Nat.zero_le _⟩) hS (fun q _ h => h) (fun q h => h) (fun r u t H1 locs1 ht hvm hw hB _ _ hS1 => ?_)
  cases hw
  obtain ⟨hP1, -, -⟩ := hB
  rw [ht] at hP1
  exact kk _ _ hg H1 locs1 ls hP1 hS1 hL
theorem cj_callVv (C : cpCx p s m args meth c w A cc own nL) {pc : Nat} {lv : List (Option Value)} {st : List Value} {S : cpS} {y : MethodName} {b : ByteArray} {mL n idx d : Nat} {ret : Option FieldType} {As rest : List Value} {f : Option (Unit × cpS)} {ρ : Type} {g : Unit → cpS → Option ρ} {r : ρ} {k ci Nf : Nat} {fs : List (Option Nat)} {Tt : u_T} (hq : cpCal y b mL ret n) (hl : Cond.methodLink own idx y ∈ wsL_law) (hO : cpO k 0 ci fs) (hcl : vwCl[ci]? = some (y.cls, Tt, Nf)) (hst : st = As.reverse ++ .ref (w.2.1 k) :: rest) (hn : As.length = n) (hW : (rest.map fun v => v.category).sum ≤ 8) (hd : d + 1 ≤ dR) (hdg : decode cc pc = .ok (.invokevirtual idx, 3)) (h : cpB f g = some r) (hM : ∀ x S', f = some (x, S') → cpMv l y b mL ret d w A (.ref (w.2.1 k) :: As) S (x, S')) (kk : ∀ x S', g x S' = some r → cpJ p l e (cpRm dR) s m args below meth c Q w A nL (pc + 3) lv (rest) S') : cpJ p l e (cpRm dR) s m args below meth c Q w A nL pc lv st S := fun H locs ls hP hS hL => by
  obtain ⟨x, S', hf, hg⟩ := cpB_some h
  refine va_callv (va_runV (As := As) (rest := rest) ⟨C.1, C.2.1, C.2.2.1, C.2.2.2.1, C.2.2.2.2.1⟩ (hM x S' hf) (cwV n C.2.2.2.2.1 (cpGV hq hl) rfl rfl rfl ⟨rfl, hq.2.2.2.2.1⟩ (cpRm_ok hd hq.2.2.2.2.2)) ⟨cpBlind _ w A S, va_recv C.2.2.2.2.2.1.1 hP hcl (hO.obj w S), fun U hU hW => ⟨rfl, by rw [hU]; exact hP, C.2.2.2.2.2.1.call hS hU hW, C.2.2.2.2.2.2.1⟩⟩ rfl hn hL.1 hst (lv_room hW) hdg ⟨Nat.zero_le _, Nat.zero_le _⟩) hS (fun q _ h => h) (fun q h => h) (fun u t H1 locs1 ht hvm hw hB _ _ hS1 => ?_)
  cases hw
  obtain ⟨hP1, -, -⟩ := hB
  rw [ht] at hP1
  exact kk _ _ hg H1 locs1 ls hP1 hS1 hL
theorem cj_callSv (C : cpCx p s m args meth c w A cc own nL) {pc : Nat} {lv : List (Option Value)} {st : List Value} {S : cpS} {y : MethodName} {b : ByteArray} {mL n idx d : Nat} {ret : Option FieldType} {As rest : List Value} {f : Option (Unit × cpS)} {ρ : Type} {g : Unit → cpS → Option ρ} {r : ρ} (hq : cpCas y b mL ret n) (hl : Cond.methodLink own idx y ∈ wsL_law) (hst : st = As.reverse ++ rest) (hn : As.length = n) (hW : (rest.map fun v => v.category).sum ≤ 8) (hd : d + 1 ≤ dR) (hdg : decode cc pc = .ok (.invokestatic idx, 3)) (h : cpB f g = some r) (hM : ∀ x S', f = some (x, S') → cpMv l y b mL ret d w A (As) S (x, S')) (kk : ∀ x S', g x S' = some r → cpJ p l e (cpRm dR) s m args below meth c Q w A nL (pc + 3) lv (rest) S') : cpJ p l e (cpRm dR) s m args below meth c Q w A nL pc lv st S := fun H locs ls hP hS hL => by
  obtain ⟨x, S', hf, hg⟩ := cpB_some h
  refine va_callv (va_runS (As := As) (rest := rest) ⟨C.1, C.2.1, C.2.2.1, C.2.2.2.1, C.2.2.2.2.1⟩ (hM x S' hf) (va_cwS n C.2.2.2.2.1 (cpGS hq hl) rfl rfl rfl hq.2.2.2.1 (cpRm_ok hd hq.2.2.2.2)) ⟨cpBlind _ w A S, fun U hU hW => ⟨rfl, by rw [hU]; exact hP, C.2.2.2.2.2.1.call hS hU hW, C.2.2.2.2.2.2.1⟩⟩ rfl hn hL.1 hst (lv_room hW) hdg ⟨Nat.zero_le _, Nat.zero_le _⟩) hS (fun q _ h => h) (fun q h => h) (fun u t H1 locs1 ht hvm hw hB _ _ hS1 => ?_)
  cases hw
  obtain ⟨hP1, -, -⟩ := hB
  rw [ht] at hP1
  exact kk _ _ hg H1 locs1 ls hP1 hS1 hL
theorem cj_callNv (C : cpCx p s m args meth c w A cc own nL) {pc : Nat} {lv : List (Option Value)} {st : List Value} {S : cpS} {y : MethodName} {b : ByteArray} {mL n idx d : Nat} {ret : Option FieldType} {As rest : List Value} {f : Option (Unit × cpS)} {ρ : Type} {g : Unit → cpS → Option ρ} {r : ρ} {host : String} (hq : cpCas y b mL ret n) (hl : (own, idx, y, host) ∈ cpNM) (hst : st = As.reverse ++ rest) (hn : As.length = n) (hW : (rest.map fun v => v.category).sum ≤ 8) (hd : d + 1 ≤ dR) (hdg : decode cc pc = .ok (.invokestatic idx, 3)) (h : cpB f g = some r) (hM : ∀ x S', f = some (x, S') → cpMv l y b mL ret d w A (As) S (x, S')) (kk : ∀ x S', g x S' = some r → cpJ p l e (cpRm dR) s m args below meth c Q w A nL (pc + 3) lv (rest) S') : cpJ p l e (cpRm dR) s m args below meth c Q w A nL pc lv st S := fun H locs ls hP hS hL => by
  obtain ⟨x, S', hf, hg⟩ := cpB_some h
  refine va_callv (va_runSN (As := As) (rest := rest) ⟨C.1, C.2.1, C.2.2.1, C.2.2.2.1, C.2.2.2.2.1⟩ (hM x S' hf) ⟨va_cnB n C.2.2.2.2.1 (cpGN hq) rfl rfl rfl (C.2.2.2.2.2.1.2.1 _ hl) (C.2.2.2.2.1 _ hq.2.1) hq.2.2.2.1 (cpRm_ok hd hq.2.2.2.2), C.2.2.2.2.1 _ hq.1, trivial⟩ ⟨cpBlind _ w A S, fun U hU hW => ⟨rfl, by rw [hU]; exact hP, C.2.2.2.2.2.1.call hS hU hW, C.2.2.2.2.2.2.1⟩⟩ rfl hn hL.1 hst (lv_room hW) hdg ⟨Nat.zero_le _, Nat.zero_le _⟩) hS (fun q _ h => h) (fun q h => h) (fun u t H1 locs1 ht hvm hw hB _ _ hS1 => ?_)
  cases hw
  obtain ⟨hP1, -, -⟩ := hB
  rw [ht] at hP1
  exact kk _ _ hg H1 locs1 ls hP1 hS1 hL
theorem cj_ireturn (C : cpCx p s m args meth c w A cc own nL) {pc : Nat} {lv : List (Option Value)} {S : cpS} {R : Room} {r : Int32 × cpS} {v : Int32} (hr : meth.sig.returnType = some .int) (h : some (v, S) = some r) (hdg : decode cc pc = .ok (.ireturn, 1)) : cpJ p l e R s m args below meth c (MQ below (va_Qi (fun x S' => (x, S') = r) (cpWorld w A) A) args s 0 0 A) w A nL pc lv ([.int v]) S := fun H locs ls hP hS hL =>
  W.iret C.1 C.2.1 hr (fun t ht hW => ⟨⟨v, S, rfl, Option.some.inj h, by rw [ht]; exact hP, C.2.2.2.2.2.1.call hS ht hW, C.2.2.2.2.2.2.1⟩, hS.F ht⟩) hS.2.2 hdg C.2.2.2.2.2.2.2
theorem cj_zreturn (C : cpCx p s m args meth c w A cc own nL) {pc : Nat} {lv : List (Option Value)} {S : cpS} {R : Room} {r : Int32 × cpS} {v : Int32} {ty : FieldType} (hr : meth.sig.returnType = some ty) (hn : narrow ty (.int v) = .int v) (h : some (v, S) = some r) (hdg : decode cc pc = .ok (.ireturn, 1)) : cpJ p l e R s m args below meth c (MQ below (va_Qi (fun x S' => (x, S') = r) (cpWorld w A) A) args s 0 0 A) w A nL pc lv ([.int v]) S := fun H locs ls hP hS hL =>
  W.zret C.1 C.2.1 hr hn (fun t ht hW => ⟨⟨v, S, rfl, Option.some.inj h, by rw [ht]; exact hP, C.2.2.2.2.2.1.call hS ht hW, C.2.2.2.2.2.2.1⟩, hS.F ht⟩) hS.2.2 hdg C.2.2.2.2.2.2.2
theorem cj_lreturn (C : cpCx p s m args meth c w A cc own nL) {pc : Nat} {lv : List (Option Value)} {S : cpS} {R : Room} {r : Int64 × cpS} {v : Int64} (hr : meth.sig.returnType = some .long) (h : some (v, S) = some r) (hdg : decode cc pc = .ok (.lreturn, 1)) : cpJ p l e R s m args below meth c (MQ below (va_Ql (fun x S' => (x, S') = r) (cpWorld w A) A) args s 0 0 A) w A nL pc lv ([.long v]) S := fun H locs ls hP hS hL =>
  W.lret C.1 C.2.1 hr (fun t ht hW => ⟨⟨v, S, rfl, Option.some.inj h, by rw [ht]; exact hP, C.2.2.2.2.2.1.call hS ht hW, C.2.2.2.2.2.2.1⟩, hS.F ht⟩) hS.2.2 hdg C.2.2.2.2.2.2.2
theorem cj_vreturn (C : cpCx p s m args meth c w A cc own nL) {pc : Nat} {lv : List (Option Value)} {S : cpS} {R : Room} {r : Unit × cpS} (hr : meth.sig.returnType = none) (h : some ((), S) = some r) (hdg : decode cc pc = .ok (.return_, 1)) : cpJ p l e R s m args below meth c (MQ below (va_Qv (fun S' => ((), S') = r) (cpWorld w A) A) args s 0 0 A) w A nL pc lv ([]) S := fun H locs ls hP hS hL =>
  W.vret C.1 C.2.1 hr (fun t ht hW => ⟨⟨S, rfl, Option.some.inj h, by rw [ht]; exact hP, C.2.2.2.2.2.1.call hS ht hW, C.2.2.2.2.2.2.1⟩, hS.F ht⟩) hS.2.2 hdg C.2.2.2.2.2.2.2
theorem cpGuard {ρ : Type} {P : Prop} [Decidable P] {a : Option ρ} {r : ρ} (h : (if P then a else none) = some r) : P ∧ a = some r := by
  by_cases hp : P
  · rw [if_pos hp] at h; exact ⟨hp, h⟩
  · rw [if_neg hp] at h; cases h
/-- 0 or 1 -/
def cpBo (v : Int32) : Bool := v == 0 || v == 1
theorem cpBo_n {v : Int32} (h : cpBo v = true) : narrow .boolean (.int v) = .int v := by
  unfold cpBo at h
  rcases (Bool.or_eq_true _ _).mp h with h | h
  · rw [eq_of_beq h]; rfl
  · rw [eq_of_beq h]; rfl
end CPC
