/-! objects made: the judgement over a list of cells -/
def cgNM : List (String × Nat × MethodName × String) := [("CoinPairs", 9, yX10_init, "CoinPairs"), ("CoinPairs", 18, yX5_init, "CoinPairs"), ("CoinPairs$Past", 17, yX5_init, "CoinPairs"), ("CoinPairs", 35, yX7_init, "CoinPairs"), ("CoinPairs$Reader", 17, yX10_init, "CoinPairs"), ("CoinPairs", 99, yX9_init, "CoinPairs")]
def cgKn (w : cpW) (U : State) : Prop := va_K w.1 vwCl (cpTys w) U ∧ (∀ q ∈ cgNM, va_Nw (.methodLinkNest q.1 q.2.1 q.2.2.1 q.2.2.2) U) ∧ va_AO "CoinPairs$Now" U ∧ va_AO "CoinPairs$Tray" U ∧ va_AO "CoinPairs$Valley" U
theorem cgKn.call {w : cpW} {s U : State} (h : cgKn w s) (hW : s.WarmedH U.vm) : cgKn w U := ⟨va_K.moved hW.alike h.1, fun q hq => va_Nw.warmM hW (h.2.1 q hq), va_AO.moved hW.alike h.2.2.1, va_AO.moved hW.alike h.2.2.2.1, va_AO.moved hW.alike h.2.2.2.2⟩
theorem cgKn.same {w : cpW} {U V : State} (h : cgKn w U) (hv : U.vm = V.vm) (ha : U.vm.Alike V.vm) : cgKn w V := ⟨va_K.moved ha h.1, fun q hq => va_Nw.same rfl hv (h.2.1 q hq), va_AO.moved ha h.2.2.1, va_AO.moved ha h.2.2.2.1, va_AO.moved ha h.2.2.2.2⟩
section CGJ
variable {p : Program} {l : Launch} {e : Env} {R : Room} {s : State} {m : MethodId} {args : Array Value} {below : List Frame} {meth : Method} {c : Code} {Q : State → Prop} {w : cpW} {A : Nat → Prop} {cc : ByteArray} {own : String} {nL : Nat}
def cpG (p : Program) (l : Launch) (e : Env) (R : Room) (s : State) (m : MethodId) (args : Array Value) (below : List Frame) (meth : Method) (c : Code) (Q : State → Prop) (w : cpW) (A : Nat → Prop) (nL : Nat) (cells slots pc : Nat) (lv : List (Option Value)) (st : List Value) (ws : va_W) : Prop :=
  ∀ (H : Heap) (locs : List Loc) (ls : Array Slot), va_P w.1 vwCl ws H → va_D A ws → va_S A s.heap H locs → cpLv ls nL lv → W p l e R s m args below meth c H locs cells slots Q (F0 m pc ls st)
def cgCx (p : Program) (s : State) (m : MethodId) (args : Array Value) (meth : Method) (c : Code) (w : cpW) (A : Nat → Prop) (cc : ByteArray) (own : String) (nL : Nat) : Prop :=
  p.tables.exec = Jvm.exec ∧ c.code = cc ∧ c.maxLocals = nL ∧ s.vm.findClass own = some m.cls ∧ (∀ q ∈ wsL_law, q.before args s = true) ∧ cgKn w s ∧ (∀ q, s.heap.size ≤ q → A q) ∧ meth.locks = false
theorem cg_iload_n (C : cgCx p s m args meth c w A cc own nL) {cells slots pc : Nat} {lv : List (Option Value)} {st : List Value} {ws : va_W} {k : Fin 4} {i : Nat} {x : Int32} (hdg : decode cc pc = .ok (.iload_n k, 1)) (hi : (k : Nat) = i) (hl : lv[i]? = some (some (.int x))) (kk : cpG p l e R s m args below meth c Q w A nL cells slots (pc + 1) lv (.int x :: st) ws) : cpG p l e R s m args below meth c Q w A nL cells slots pc lv st ws :=
  fun H locs ls hP hD hS hL => lv_iload_n C.1 C.2.1 hdg hi (hL.2.2 i _ hl) (kk H locs ls hP hD hS hL)
theorem cg_aload_n (C : cgCx p s m args meth c w A cc own nL) {cells slots pc : Nat} {lv : List (Option Value)} {st : List Value} {ws : va_W} {k : Fin 4} {i : Nat} {x : Nat} (hdg : decode cc pc = .ok (.aload_n k, 1)) (hi : (k : Nat) = i) (hl : lv[i]? = some (some (.ref x))) (kk : cpG p l e R s m args below meth c Q w A nL cells slots (pc + 1) lv (.ref x :: st) ws) : cpG p l e R s m args below meth c Q w A nL cells slots pc lv st ws :=
  fun H locs ls hP hD hS hL => lv_aload_n C.1 C.2.1 hdg hi (hL.2.2 i _ hl) (kk H locs ls hP hD hS hL)
theorem cg_istore_n (C : cgCx p s m args meth c w A cc own nL) {cells slots pc : Nat} {lv : List (Option Value)} {st : List Value} {ws : va_W} {k : Fin 4} {i : Nat} {x : Int32} {lv' : List (Option Value)} (hdg : decode cc pc = .ok (.istore_n k, 1)) (hi : (k : Nat) = i) (hn : i < nL) (ho : cpOk lv i = true) (hl : lv.set i (some (.int x)) = lv') (kk : cpG p l e R s m args below meth c Q w A nL cells slots (pc + 1) lv' st ws) : cpG p l e R s m args below meth c Q w A nL cells slots pc lv (.int x :: st) ws :=
  fun H locs ls hP hD hS hL => lv_istore_n C.1 C.2.1 hdg hi hL.has hn rfl (fun ls h => kk H locs ls hP hD hS (hl ▸ cpLv.set1 h ho))
theorem cg_iinc (C : cgCx p s m args meth c w A cc own nL) {cells slots pc : Nat} {lv : List (Option Value)} {st : List Value} {ws : va_W} {i : Nat} {n : Int} {x v : Int32} {lv' : List (Option Value)} (hdg : decode cc pc = .ok (.iinc i n, 3)) (hx : lv[i]? = some (some (.int x))) (hv : x + Int32.ofInt n = v) (hn : i < nL) (ho : cpOk lv i = true) (hl : lv.set i (some (.int v)) = lv') (kk : cpG p l e R s m args below meth c Q w A nL cells slots (pc + 3) lv' st ws) : cpG p l e R s m args below meth c Q w A nL cells slots pc lv st ws := fun H locs ls hP hD hS hL => by
  obtain ⟨k, hk⟩ := List.mem_iff_getElem?.mp (cpEn_mem.mpr ⟨i, by simp, hx⟩ : (i, Value.int x) ∈ cpEn 0 lv)
  exact lv_iinc C.1 C.2.1 hdg hL.has hk hv hn rfl (fun ls h => kk H locs ls hP hD hS (hl ▸ cpLv.set1 h ho))
theorem cg_iconst (C : cgCx p s m args meth c w A cc own nL) {cells slots pc : Nat} {lv : List (Option Value)} {st : List Value} {ws : va_W} {n : Int} {v : Int32} (hdg : decode cc pc = .ok (.iconst n, 1)) (hv : Int32.ofInt n = v) (kk : cpG p l e R s m args below meth c Q w A nL cells slots (pc + 1) lv (.int v :: st) ws) : cpG p l e R s m args below meth c Q w A nL cells slots pc lv st ws :=
  fun H locs ls hP hD hS hL => lv_iconst C.1 C.2.1 hdg hv (kk H locs ls hP hD hS hL)
theorem cg_bipush (C : cgCx p s m args meth c w A cc own nL) {cells slots pc : Nat} {lv : List (Option Value)} {st : List Value} {ws : va_W} {n : Int} {v : Int32} (hdg : decode cc pc = .ok (.bipush n, 2)) (hv : (Int8.ofInt n).toInt32 = v) (kk : cpG p l e R s m args below meth c Q w A nL cells slots (pc + 2) lv (.int v :: st) ws) : cpG p l e R s m args below meth c Q w A nL cells slots pc lv st ws :=
  fun H locs ls hP hD hS hL => lv_bipush C.1 C.2.1 hdg hv (kk H locs ls hP hD hS hL)
theorem cg_sipush (C : cgCx p s m args meth c w A cc own nL) {cells slots pc : Nat} {lv : List (Option Value)} {st : List Value} {ws : va_W} {n : Int} {v : Int32} (hdg : decode cc pc = .ok (.sipush n, 3)) (hv : (Int16.ofInt n).toInt32 = v) (kk : cpG p l e R s m args below meth c Q w A nL cells slots (pc + 3) lv (.int v :: st) ws) : cpG p l e R s m args below meth c Q w A nL cells slots pc lv st ws :=
  fun H locs ls hP hD hS hL => lv_sipush C.1 C.2.1 hdg hv (kk H locs ls hP hD hS hL)
theorem cg_dup (C : cgCx p s m args meth c w A cc own nL) {cells slots pc : Nat} {lv : List (Option Value)} {st : List Value} {ws : va_W} {a : Value} (hdg : decode cc pc = .ok (.dup, 1)) (ha : a.category = 1) (kk : cpG p l e R s m args below meth c Q w A nL cells slots (pc + 1) lv (a :: a :: st) ws) : cpG p l e R s m args below meth c Q w A nL cells slots pc lv (a :: st) ws :=
  fun H locs ls hP hD hS hL => lv_dup C.1 C.2.1 hdg ha (kk H locs ls hP hD hS hL)
theorem cg_goto (C : cgCx p s m args meth c w A cc own nL) {cells slots pc : Nat} {lv : List (Option Value)} {st : List Value} {ws : va_W} {off : Int} {tgt : Nat} (hdg : decode cc pc = .ok (.goto off, 3)) (ht : (pc : Int) + off = (tgt : Int)) (kk : cpG p l e R s m args below meth c Q w A nL cells slots tgt lv st ws) : cpG p l e R s m args below meth c Q w A nL cells slots pc lv st ws :=
  fun H locs ls hP hD hS hL => lv_goto C.1 C.2.1 hdg ht (kk H locs ls hP hD hS hL)
theorem cg_geT (C : cgCx p s m args meth c w A cc own nL) {cells slots pc : Nat} {lv : List (Option Value)} {st : List Value} {ws : va_W} {x y : Int32} {off : Int} {tgt : Nat} (hdg : decode cc pc = .ok (.if_icmp .ge off, 3)) (ht : (pc : Int) + off = (tgt : Int)) (hc : y ≤ x) (kk : cpG p l e R s m args below meth c Q w A nL cells slots tgt lv st ws) : cpG p l e R s m args below meth c Q w A nL cells slots pc lv (.int y :: .int x :: st) ws :=
  fun H locs ls hP hD hS hL => lv_icmp_ge C.1 C.2.1 hdg ht (fun _ => kk H locs ls hP hD hS hL) (fun h => absurd hc h)
theorem cg_geF (C : cgCx p s m args meth c w A cc own nL) {cells slots pc : Nat} {lv : List (Option Value)} {st : List Value} {ws : va_W} {x y : Int32} {off : Int} (tgt : Nat) (hdg : decode cc pc = .ok (.if_icmp .ge off, 3)) (ht : (pc : Int) + off = (tgt : Int)) (hc : ¬ y ≤ x) (kk : cpG p l e R s m args below meth c Q w A nL cells slots (pc + 3) lv st ws) : cpG p l e R s m args below meth c Q w A nL cells slots pc lv (.int y :: .int x :: st) ws :=
  fun H locs ls hP hD hS hL => lv_icmp_ge C.1 C.2.1 hdg ht (fun h => absurd h hc) (fun _ => kk H locs ls hP hD hS hL)
theorem cg_ws (C : cgCx p s m args meth c w A cc own nL) {cells slots pc : Nat} {lv : List (Option Value)} {st : List Value} {ws : va_W} {ws' : va_W} (hw : ws = ws') (kk : cpG p l e R s m args below meth c Q w A nL cells slots pc lv st ws') : cpG p l e R s m args below meth c Q w A nL cells slots pc lv st ws :=
  fun H locs ls hP hD hS hL => kk H locs ls (hw ▸ hP) (hw ▸ hD) hS hL
theorem cg_perm (C : cgCx p s m args meth c w A cc own nL) {cells slots pc : Nat} {lv : List (Option Value)} {st : List Value} {ws : va_W} {ws' : va_W} (is : List Nat) (hn : va_nd is = true) (h1 : is.filterMap (fun i => ws[i]?) = ws') (h2 : is.map (fun i => ws[i]?) = ws'.map some) (kk : cpG p l e R s m args below meth c Q w A nL cells slots pc lv st ws') : cpG p l e R s m args below meth c Q w A nL cells slots pc lv st ws :=
  fun H locs ls hP hD hS hL => kk H locs ls (hP.sub is h1) (hD.sub is hn h2) hS hL
theorem cg_obj (C : cgCx p s m args meth c w A cc own nL) {cells slots pc : Nat} {lv : List (Option Value)} {st : List Value} {ws : va_W} {idx a : Nat} (hl : Cond.methodLink own idx objectInit ∈ wsL_law) (hi : Cond.instanceMethod objectInit ∈ wsL_law) (hc : Cond.code objectInit ⟨#[0xb1]⟩ 1 none ∈ wsL_law) (hf : 1 ≤ R.frames) (hr : (st.map fun v => v.category).sum + 12 ≤ R.locals) (hdg : decode cc pc = .ok (.invokespecial idx, 3)) (kk : cpG p l e R s m args below meth c Q w A nL cells slots (pc + 3) lv st ws) : cpG p l e R s m args below meth c Q w A nL cells slots pc lv (.ref a :: st) ws :=
  fun H locs ls hP hD hS hL => W.objInit C.1 C.2.1 C.2.2.2.1 (C.2.2.2.2.1 _ hl) (C.2.2.2.2.1 _ hi) (C.2.2.2.2.1 _ hc) rfl (by rw [C.2.2.1]; exact hL.1) rfl hdg hf (by show 2 * 0 + _ + 12 ≤ _; omega) (kk H locs ls hP hD hS hL)
def cgNew (own : String) (idx ci nf : Nat) (fs : List Value) : Prop := ∃ (Cn : String) (T : u_T) (ty : Nat → FieldType), vwCl[ci]? = some (Cn, T, nf) ∧ (∀ q ∈ u_ws Cn T nf, q ∈ wsL_law) ∧ (∀ k, k < nf → parseFieldDescriptor (T k).2.2.1 = some (ty k)) ∧ Cond.classLink own idx Cn ∈ wsL_law ∧ Cond.instantiable Cn nf ∈ wsL_law ∧ Cond.initialized Cn ∈ wsL_law ∧ ∀ j, j < nf → defaultValue (ty j) = vp_V fs j
theorem cg_new (C : cgCx p s m args meth c w A cc own nL) {cells slots pc : Nat} {lv : List (Option Value)} {st : List Value} {ws : va_W} {ws' : Nat → va_W} {idx ci nf : Nat} {fs : List Value} (hN : cgNew own idx ci nf fs) (hc : cells + 1 ≤ R.cells) (hs : slots + nf ≤ R.slots) (hdg : decode cc pc = .ok (.new idx, 3)) (hw : ∀ q, ws ++ [(q, .inr (ci, fs))] = ws' q) (kk : ∀ q : Nat, cpG p l e R s m args below meth c Q w A nL (cells + 1) (slots + nf) (pc + 3) lv (.ref q :: st) (ws' q)) : cpG p l e R s m args below meth c Q w A nL cells slots pc lv st ws := fun H locs ls hP hD hS hL => by
  obtain ⟨Cn, T, ty, h1, h2, h3, h4, h5, h6, h7⟩ := hN
  exact va_new C.1 C.2.1 C.2.2.2.2.1 h2 ty h3 C.2.2.2.1 (C.2.2.2.2.1 _ h4) (C.2.2.2.2.1 _ h5) (C.2.2.2.2.1 _ h6) C.2.2.2.2.2.1.1 hP hD hS C.2.2.2.2.2.2.1 h1 h7 hc hs hdg (fun q H1 hP1 hD1 hS1 => kk q H1 locs ls (hw q ▸ hP1) (hw q ▸ hD1) hS1 hL)
theorem cg_newa1 (C : cgCx p s m args meth c w A cc own nL) {cells slots pc : Nat} {lv : List (Option Value)} {st : List Value} {ws : va_W} {ws' : Nat → va_W} {n : Int32} {N' : Nat} (ha : Cond.arrayClass .int ∈ wsL_law) (hn : ¬ n < 0) (hN : n.toNatClampNeg = N') (hb : N' * componentBytes .int ≤ 536870912) (hc : cells + 1 ≤ R.cells) (hs : slots + N' ≤ R.slots) (hdg : decode cc pc = .ok (.newarray .int, 2)) (hw : ∀ q, ws ++ [(q, .inl (w.2.2.1 1, N', .inl (fun _ => 0)))] = ws' q) (kk : ∀ q : Nat, cpG p l e R s m args below meth c Q w A nL (cells + 1) (slots + N') (pc + 2) lv (.ref q :: st) (ws' q)) : cpG p l e R s m args below meth c Q w A nL cells slots pc lv (.int n :: st) ws := fun H locs ls hP hD hS hL => by
  refine va_newa (atype := .int) C.1 C.2.1 (C.2.2.2.2.1 _ ha) (ty := .int) rfl C.2.2.2.2.2.1.1 hP hD hS C.2.2.2.2.2.2.1 (a0 := (N', .inl (fun _ => 0))) (fun _ => rfl) hn hN hb hc hs hdg (fun q cA H1 hK1 hP1 hD1 hS1 => ?_)
  have e1 : s.vm.findClass ("[" ++ FieldType.toString .int) = some cA := (hK1.2 8 (cA, .int) rfl).2
  have e2 : s.vm.findClass ("[" ++ FieldType.toString .int) = some (w.2.2.1 1) := (C.2.2.2.2.2.1.1.2 1 (w.2.2.1 1, .int) rfl).2
  have e3 : cA = w.2.2.1 1 := Option.some.inj (e1.symm.trans e2)
  subst e3
  exact kk q H1 locs ls (hw q ▸ hP1) (hw q ▸ hD1) hS1 hL
theorem cg_newa2 (C : cgCx p s m args meth c w A cc own nL) {cells slots pc : Nat} {lv : List (Option Value)} {st : List Value} {ws : va_W} {ws' : Nat → va_W} {n : Int32} {N' : Nat} (ha : Cond.arrayClass .char ∈ wsL_law) (hn : ¬ n < 0) (hN : n.toNatClampNeg = N') (hb : N' * componentBytes .char ≤ 536870912) (hc : cells + 1 ≤ R.cells) (hs : slots + N' ≤ R.slots) (hdg : decode cc pc = .ok (.newarray .char, 2)) (hw : ∀ q, ws ++ [(q, .inl (w.2.2.1 2, N', .inl (fun _ => 0)))] = ws' q) (kk : ∀ q : Nat, cpG p l e R s m args below meth c Q w A nL (cells + 1) (slots + N') (pc + 2) lv (.ref q :: st) (ws' q)) : cpG p l e R s m args below meth c Q w A nL cells slots pc lv (.int n :: st) ws := fun H locs ls hP hD hS hL => by
  refine va_newa (atype := .char) C.1 C.2.1 (C.2.2.2.2.1 _ ha) (ty := .char) rfl C.2.2.2.2.2.1.1 hP hD hS C.2.2.2.2.2.2.1 (a0 := (N', .inl (fun _ => 0))) (fun _ => rfl) hn hN hb hc hs hdg (fun q cA H1 hK1 hP1 hD1 hS1 => ?_)
  have e1 : s.vm.findClass ("[" ++ FieldType.toString .char) = some cA := (hK1.2 8 (cA, .char) rfl).2
  have e2 : s.vm.findClass ("[" ++ FieldType.toString .char) = some (w.2.2.1 2) := (C.2.2.2.2.2.1.1.2 2 (w.2.2.1 2, .char) rfl).2
  have e3 : cA = w.2.2.1 2 := Option.some.inj (e1.symm.trans e2)
  subst e3
  exact kk q H1 locs ls (hw q ▸ hP1) (hw q ▸ hD1) hS1 hL
theorem cg_newa3 (C : cgCx p s m args meth c w A cc own nL) {cells slots pc : Nat} {lv : List (Option Value)} {st : List Value} {ws : va_W} {ws' : Nat → va_W} {n : Int32} {N' : Nat} (ha : Cond.arrayClass .boolean ∈ wsL_law) (hn : ¬ n < 0) (hN : n.toNatClampNeg = N') (hb : N' * componentBytes .boolean ≤ 536870912) (hc : cells + 1 ≤ R.cells) (hs : slots + N' ≤ R.slots) (hdg : decode cc pc = .ok (.newarray .boolean, 2)) (hw : ∀ q, ws ++ [(q, .inl (w.2.2.1 3, N', .inl (fun _ => 0)))] = ws' q) (kk : ∀ q : Nat, cpG p l e R s m args below meth c Q w A nL (cells + 1) (slots + N') (pc + 2) lv (.ref q :: st) (ws' q)) : cpG p l e R s m args below meth c Q w A nL cells slots pc lv (.int n :: st) ws := fun H locs ls hP hD hS hL => by
  refine va_newa (atype := .boolean) C.1 C.2.1 (C.2.2.2.2.1 _ ha) (ty := .boolean) rfl C.2.2.2.2.2.1.1 hP hD hS C.2.2.2.2.2.2.1 (a0 := (N', .inl (fun _ => 0))) (fun _ => rfl) hn hN hb hc hs hdg (fun q cA H1 hK1 hP1 hD1 hS1 => ?_)
  have e1 : s.vm.findClass ("[" ++ FieldType.toString .boolean) = some cA := (hK1.2 8 (cA, .boolean) rfl).2
  have e2 : s.vm.findClass ("[" ++ FieldType.toString .boolean) = some (w.2.2.1 3) := (C.2.2.2.2.2.1.1.2 3 (w.2.2.1 3, .boolean) rfl).2
  have e3 : cA = w.2.2.1 3 := Option.some.inj (e1.symm.trans e2)
  subst e3
  exact kk q H1 locs ls (hw q ▸ hP1) (hw q ▸ hD1) hS1 hL
theorem cg_newa4 (C : cgCx p s m args meth c w A cc own nL) {cells slots pc : Nat} {lv : List (Option Value)} {st : List Value} {ws : va_W} {ws' : Nat → va_W} {n : Int32} {N' : Nat} (ha : Cond.arrayClass .long ∈ wsL_law) (hn : ¬ n < 0) (hN : n.toNatClampNeg = N') (hb : N' * componentBytes .long ≤ 536870912) (hc : cells + 1 ≤ R.cells) (hs : slots + N' ≤ R.slots) (hdg : decode cc pc = .ok (.newarray .long, 2)) (hw : ∀ q, ws ++ [(q, .inl (w.2.2.1 4, N', .inr (.inl (fun _ => 0))))] = ws' q) (kk : ∀ q : Nat, cpG p l e R s m args below meth c Q w A nL (cells + 1) (slots + N') (pc + 2) lv (.ref q :: st) (ws' q)) : cpG p l e R s m args below meth c Q w A nL cells slots pc lv (.int n :: st) ws := fun H locs ls hP hD hS hL => by
  refine va_newa (atype := .long) C.1 C.2.1 (C.2.2.2.2.1 _ ha) (ty := .long) rfl C.2.2.2.2.2.1.1 hP hD hS C.2.2.2.2.2.2.1 (a0 := (N', .inr (.inl (fun _ => 0)))) (fun _ => rfl) hn hN hb hc hs hdg (fun q cA H1 hK1 hP1 hD1 hS1 => ?_)
  have e1 : s.vm.findClass ("[" ++ FieldType.toString .long) = some cA := (hK1.2 8 (cA, .long) rfl).2
  have e2 : s.vm.findClass ("[" ++ FieldType.toString .long) = some (w.2.2.1 4) := (C.2.2.2.2.2.1.1.2 4 (w.2.2.1 4, .long) rfl).2
  have e3 : cA = w.2.2.1 4 := Option.some.inj (e1.symm.trans e2)
  subst e3
  exact kk q H1 locs ls (hw q ▸ hP1) (hw q ▸ hD1) hS1 hL
theorem cg_newq5 (C : cgCx p s m args meth c w A cc own nL) {cells slots pc : Nat} {lv : List (Option Value)} {st : List Value} {ws : va_W} {ws' : Nat → va_W} {n : Int32} {N' idx : Nat} (hl : Cond.classLink own idx "CoinPairs$Now" ∈ wsL_law) (hn : ¬ n < 0) (hN : n.toNatClampNeg = N') (hb : N' * 4 ≤ 536870912) (hc : cells + 1 ≤ R.cells) (hs : slots + N' ≤ R.slots) (hdg : decode cc pc = .ok (.anewarray idx, 3)) (hw : ∀ q, ws ++ [(q, .inl (w.2.2.1 5, N', .inr (.inr (.inr (.inr (fun _ => none))))))] = ws' q) (kk : ∀ q : Nat, cpG p l e R s m args below meth c Q w A nL (cells + 1) (slots + N') (pc + 3) lv (.ref q :: st) (ws' q)) : cpG p l e R s m args below meth c Q w A nL cells slots pc lv (.int n :: st) ws := fun H locs ls hP hD hS hL => by
  refine va_newq C.1 C.2.1 C.2.2.2.1 (C.2.2.2.2.1 _ hl) C.2.2.2.2.2.1.2.2.1 C.2.2.2.2.2.1.1 hP hD hS C.2.2.2.2.2.2.1 hn hN hb hc hs hdg (fun q cA H1 hK1 hP1 hD1 hS1 => ?_)
  obtain ⟨_, _, _, _, _, e1⟩ := (hK1.2 8 (cA, .object "CoinPairs$Now") rfl).2
  obtain ⟨_, _, _, _, _, e2⟩ := (C.2.2.2.2.2.1.1.2 5 (w.2.2.1 5, .object "CoinPairs$Now") rfl).2
  have e3 : cA = w.2.2.1 5 := Option.some.inj (e1.symm.trans e2)
  subst e3
  exact kk q H1 locs ls (hw q ▸ hP1) (hw q ▸ hD1) hS1 hL
theorem cg_newq6 (C : cgCx p s m args meth c w A cc own nL) {cells slots pc : Nat} {lv : List (Option Value)} {st : List Value} {ws : va_W} {ws' : Nat → va_W} {n : Int32} {N' idx : Nat} (hl : Cond.classLink own idx "CoinPairs$Tray" ∈ wsL_law) (hn : ¬ n < 0) (hN : n.toNatClampNeg = N') (hb : N' * 4 ≤ 536870912) (hc : cells + 1 ≤ R.cells) (hs : slots + N' ≤ R.slots) (hdg : decode cc pc = .ok (.anewarray idx, 3)) (hw : ∀ q, ws ++ [(q, .inl (w.2.2.1 6, N', .inr (.inr (.inr (.inr (fun _ => none))))))] = ws' q) (kk : ∀ q : Nat, cpG p l e R s m args below meth c Q w A nL (cells + 1) (slots + N') (pc + 3) lv (.ref q :: st) (ws' q)) : cpG p l e R s m args below meth c Q w A nL cells slots pc lv (.int n :: st) ws := fun H locs ls hP hD hS hL => by
  refine va_newq C.1 C.2.1 C.2.2.2.1 (C.2.2.2.2.1 _ hl) C.2.2.2.2.2.1.2.2.2.1 C.2.2.2.2.2.1.1 hP hD hS C.2.2.2.2.2.2.1 hn hN hb hc hs hdg (fun q cA H1 hK1 hP1 hD1 hS1 => ?_)
  obtain ⟨_, _, _, _, _, e1⟩ := (hK1.2 8 (cA, .object "CoinPairs$Tray") rfl).2
  obtain ⟨_, _, _, _, _, e2⟩ := (C.2.2.2.2.2.1.1.2 6 (w.2.2.1 6, .object "CoinPairs$Tray") rfl).2
  have e3 : cA = w.2.2.1 6 := Option.some.inj (e1.symm.trans e2)
  subst e3
  exact kk q H1 locs ls (hw q ▸ hP1) (hw q ▸ hD1) hS1 hL
theorem cg_newq7 (C : cgCx p s m args meth c w A cc own nL) {cells slots pc : Nat} {lv : List (Option Value)} {st : List Value} {ws : va_W} {ws' : Nat → va_W} {n : Int32} {N' idx : Nat} (hl : Cond.classLink own idx "CoinPairs$Valley" ∈ wsL_law) (hn : ¬ n < 0) (hN : n.toNatClampNeg = N') (hb : N' * 4 ≤ 536870912) (hc : cells + 1 ≤ R.cells) (hs : slots + N' ≤ R.slots) (hdg : decode cc pc = .ok (.anewarray idx, 3)) (hw : ∀ q, ws ++ [(q, .inl (w.2.2.1 7, N', .inr (.inr (.inr (.inr (fun _ => none))))))] = ws' q) (kk : ∀ q : Nat, cpG p l e R s m args below meth c Q w A nL (cells + 1) (slots + N') (pc + 3) lv (.ref q :: st) (ws' q)) : cpG p l e R s m args below meth c Q w A nL cells slots pc lv (.int n :: st) ws := fun H locs ls hP hD hS hL => by
  refine va_newq C.1 C.2.1 C.2.2.2.1 (C.2.2.2.2.1 _ hl) C.2.2.2.2.2.1.2.2.2.2 C.2.2.2.2.2.1.1 hP hD hS C.2.2.2.2.2.2.1 hn hN hb hc hs hdg (fun q cA H1 hK1 hP1 hD1 hS1 => ?_)
  obtain ⟨_, _, _, _, _, e1⟩ := (hK1.2 8 (cA, .object "CoinPairs$Valley") rfl).2
  obtain ⟨_, _, _, _, _, e2⟩ := (C.2.2.2.2.2.1.1.2 7 (w.2.2.1 7, .object "CoinPairs$Valley") rfl).2
  have e3 : cA = w.2.2.1 7 := Option.some.inj (e1.symm.trans e2)
  subst e3
  exact kk q H1 locs ls (hw q ▸ hP1) (hw q ▸ hD1) hS1 hL
def cgPF (own : String) (idx ci j : Nat) (ty : FieldType) : Prop := ∃ (Cn : String) (T : u_T) (Nf : Nat) (ty0 : Nat → FieldType), vwCl[ci]? = some (Cn, T, Nf) ∧ (∀ q ∈ u_ws Cn T Nf, q ∈ wsL_law) ∧ j < Nf ∧ Cond.fieldLink own idx (T j).1 (T j).2.1 (T j).2.2.1 ∈ wsL_law ∧ (∀ k, k < Nf → parseFieldDescriptor (T k).2.2.1 = some (ty0 k)) ∧ (∀ a, a < Nf → ∀ b, b < Nf → a ≠ b → (T a).2.1 ≠ (T b).2.1) ∧ (T j).2.2.2 = true ∧ (T j).1 = own ∧ parseFieldDescriptor (T j).2.2.1 = some ty
theorem cg_putF (C : cgCx p s m args meth c w A cc own nL) {cells slots pc : Nat} {lv : List (Option Value)} {st : List Value} {ws : va_W} {ws' : va_W} {k a ci j idx : Nat} {fs : List Value} {v : Value} {ty : FieldType} (hin : meth.name = "<init>") (hk : ws[k]? = some (a, .inr (ci, fs))) (hG : cgPF own idx ci j ty) (hn : narrow ty v = v) (hfit : fits ty v = true) (hl : j < fs.length) (hdg : decode cc pc = .ok (.putfield idx, 3)) (hw : ws.set k (a, .inr (ci, fs.set j v)) = ws') (kk : cpG p l e R s m args below meth c Q w A nL cells slots (pc + 3) lv st ws') : cpG p l e R s m args below meth c Q w A nL cells slots pc lv (v :: .ref a :: st) ws := fun H locs ls hP hD hS hL => by
  obtain ⟨Cn, T, Nf, ty0, h1, h2, h3, h4, h5, h6, h7, h9, h8⟩ := hG
  exact va_putF C.1 C.2.1 C.2.2.2.2.1 h2 ty0 h5 h6 C.2.2.2.1 C.2.2.2.2.2.1.1 hP hD hS k hk h1 j h3 (C.2.2.2.2.1 _ h4) (fun _ h => h) h7 hin h9 h8 hn hfit hl hdg (fun H1 locs1 hP1 hD1 hS1 => kk H1 locs1 ls (hw ▸ hP1) (hw ▸ hD1) hS1 hL)
theorem cg_put (C : cgCx p s m args meth c w A cc own nL) {cells slots pc : Nat} {lv : List (Option Value)} {st : List Value} {ws : va_W} {ws' : va_W} {k a ci j idx : Nat} {fs : List Value} {v : Value} {ty : FieldType} (hk : ws[k]? = some (a, .inr (ci, fs))) (hG : cpPF own idx ci j ty) (hn : narrow ty v = v) (hfit : fits ty v = true) (hl : j < fs.length) (hdg : decode cc pc = .ok (.putfield idx, 3)) (hw : ws.set k (a, .inr (ci, fs.set j v)) = ws') (kk : cpG p l e R s m args below meth c Q w A nL cells slots (pc + 3) lv st ws') : cpG p l e R s m args below meth c Q w A nL cells slots pc lv (v :: .ref a :: st) ws := fun H locs ls hP hD hS hL => by
  obtain ⟨Cn, T, Nf, ty0, h1, h2, h3, h4, h5, h6, h7, h8⟩ := hG
  exact va_put C.1 C.2.1 C.2.2.2.2.1 h2 ty0 h5 h6 C.2.2.2.1 C.2.2.2.2.2.1.1 hP hD hS k hk h1 j h3 (C.2.2.2.2.1 _ h4) (fun _ h => h) h7 h8 hn hfit hl hdg (fun H1 locs1 hP1 hD1 hS1 => kk H1 locs1 ls (hw ▸ hP1) (hw ▸ hD1) hS1 hL)
theorem cg_get (C : cgCx p s m args meth c w A cc own nL) {cells slots pc : Nat} {lv : List (Option Value)} {st : List Value} {ws : va_W} {k a ci j idx : Nat} {fs : List Value} {v : Value} (hk : ws[k]? = some (a, .inr (ci, fs))) (hv : fs[j]? = some v) (hG : cpGF own idx ci j) (hdg : decode cc pc = .ok (.getfield idx, 3)) (kk : cpG p l e R s m args below meth c Q w A nL cells slots (pc + 3) lv (v :: st) ws) : cpG p l e R s m args below meth c Q w A nL cells slots pc lv (.ref a :: st) ws := fun H locs ls hP hD hS hL => by
  obtain ⟨Cn, T, Nf, h1, h2, h3, h4⟩ := hG
  exact va_get C.1 C.2.1 C.2.2.2.2.1 h2 C.2.2.2.1 C.2.2.2.2.2.1.1 hP k hk h1 j h3 (C.2.2.2.2.1 _ h4) (fun _ h9 => h9) hv hdg (kk H locs ls hP hD hS hL)
theorem cg_iastore (C : cgCx p s m args meth c w A cc own nL) {cells slots pc : Nat} {lv : List (Option Value)} {st : List Value} {ws : va_W} {ws' : va_W} {k a n j : Nat} {f : Nat → Int32} {i x : Int32} (hk : ws[k]? = some (a, .inl (w.2.2.1 1, n, .inl f))) (hi : cpIn i n = true) (hj : i.toNatClampNeg = j) (hdg : decode cc pc = .ok (.iastore, 1)) (hw : ws.set k (a, .inl (w.2.2.1 1, n, .inl (upd f j x))) = ws') (kk : cpG p l e R s m args below meth c Q w A nL cells slots (pc + 1) lv st ws') : cpG p l e R s m args below meth c Q w A nL cells slots pc lv (.int x :: .int i :: .ref a :: st) ws := fun H locs ls hP hD hS hL => by
  subst hj
  exact va_iast C.1 C.2.1 C.2.2.2.2.2.1.1 hP hD hS k 1 hk rfl (cpIn_vp hi) hdg (fun H1 locs1 hP1 hD1 hS1 => kk H1 locs1 ls (hw ▸ hP1) (hw ▸ hD1) hS1 hL)
theorem cg_aastore (C : cgCx p s m args meth c w A cc own nL) {cells slots pc : Nat} {lv : List (Option Value)} {st : List Value} {ws : va_W} {ws' : va_W} {k kv a v t n j ci : Nat} {q : vw_C} {f : Nat → Option Nat} {vs : List Value} {i : Int32} (hk : ws[k]? = some (a, .inl (w.2.2.1 t, n, .inr (.inr (.inr (.inr f)))))) (ht : (cpTys w)[t]? = some (w.2.2.1 t, .object q.1)) (hv : ws[kv]? = some (v, .inr (ci, vs))) (hq : vwCl[ci]? = some q) (hi : cpIn i n = true) (hj : i.toNatClampNeg = j) (hdg : decode cc pc = .ok (.aastore, 1)) (hw : ws.set k (a, .inl (w.2.2.1 t, n, .inr (.inr (.inr (.inr (va_up f j (some v))))))) = ws') (kk : cpG p l e R s m args below meth c Q w A nL cells slots (pc + 1) lv st ws') : cpG p l e R s m args below meth c Q w A nL cells slots pc lv (.ref v :: .int i :: .ref a :: st) ws := fun H locs ls hP hD hS hL => by
  subst hj
  exact va_astq C.1 C.2.1 C.2.2.2.2.2.1.1 hP hD hS k t kv ci hk ht hv hq (cpIn_vp hi) hdg (fun H1 locs1 hP1 hD1 hS1 => kk H1 locs1 ls (hw ▸ hP1) (hw ▸ hD1) hS1 hL)
end CGJ
def cgRm (d mc ms : Nat) : Room := { frames := d, cells := mc, slots := ms, locals := 41 * d }
theorem cgRm_ok {a b mL mc ms mc' ms' : Nat} (h : a + 1 ≤ b) (hm : mL ≤ 22) : (cgRm a mc ms).frames + 1 ≤ (cgRm b mc' ms').frames ∧ 8 + (mL + 11) + (cgRm a mc ms).locals ≤ (cgRm b mc' ms').locals := ⟨h, by show 8 + (mL + 11) + 41 * a ≤ 41 * b; omega⟩
/-- the contract of a method that makes or fills cells: from the cells pre to the cells post u, u the addresses -/
def cgM (l : Launch) (y : MethodName) (b : ByteArray) (mL : Nat) (d mc ms : Nat) (w : cpW) (as : List Value) (pre : va_W) (g : (Nat → Nat) → Prop) (post : (Nat → Nat) → va_W) : Prop := ∀ sz : Nat, Met l y (.code y b mL none :: wsL_law) (cgRm d mc ms) (va_Pc as (fun U => U.heap.size = sz ∧ va_P w.1 vwCl pre U.heap ∧ cgKn w U ∧ va_D (fun _ => True) pre)) (va_Qv g (fun u t => va_P w.1 vwCl (post u) t.heap ∧ va_D (va_A pre sz) (post u)) (va_A pre sz)) mc ms (va_A pre sz)
theorem cgM.of {l : Launch} {y : MethodName} {b : ByteArray} {mL d mc ms : Nat} {w : cpW} {as : List Value} {pre : va_W} {g : (Nat → Nat) → Prop} {post : (Nat → Nat) → va_W} {lv : List (Option Value)} (hy : plainName y.cls = true) (hlg : (lg_sl as).length ≤ mL) (hlv : cpArgs as ++ List.replicate (mL - (cpArgs as).length) none = lv)
    (body : ∀ (p : Program) (e : Env) (s : State) (m : MethodId) (args : Array Value) (below : List Frame) (meth : Method) (c : Code) (A : Nat → Prop), cgCx p s m args meth c w A b y.cls mL → meth.sig.returnType = none → meth.name = y.name → cpG p l e (cgRm d mc ms) s m args below meth c (MQ below (va_Qv g (fun u t => va_P w.1 vwCl (post u) t.heap ∧ va_D A (post u)) A) args s mc ms A) w A mL 0 0 0 lv [] pre) : cgM l y b mL d mc ms w as pre g post := by
  intro sz
  refine Met.ofW (cc := b) (maxL := mL) (ret := none) hy rfl ?_
  intro p e s m args below meth c s₁ B hml hv
  obtain ⟨rfl, hsz, hP, hK, hD⟩ := hv
  subst hsz
  have hts := atoms_spec (ws := Cond.code y b mL none :: wsL_law) B.pre
  rw [lg_entry_eq]
  exact body p e s m _ below meth c (va_A pre s.heap.size) ⟨B.exec, B.bytes, hml, findClass_of_methodNamed B.named, fun q hq => hts q (List.mem_cons_of_mem _ hq), hK, fun q h => Or.inr h, B.notSynchronized⟩ B.returns (name_of_methodNamed B.named B.method).1 s.heap [] _ hP hD.self va_S.rf (cpArgs_entry hlv (lv_entry as hlg))
theorem cgBlind (as : List Value) (w : cpW) (pre : va_W) (sz : Nat) : FrameBlind (va_Pc as (fun U => U.heap.size = sz ∧ va_P w.1 vwCl pre U.heap ∧ cgKn w U ∧ va_D (fun _ => True) pre)) := by
  intro a U g mk q
  obtain ⟨q0, q1, qP, qK, qD⟩ := q
  exact ⟨q0, q1, qP, qK.same rfl (Vm.Alike.refl U.vm), qD⟩
def cgCal (y : MethodName) (b : ByteArray) (mL n : Nat) : Prop := Cond.instanceMethod y ∈ wsL_law ∧ Cond.initialized y.cls ∈ wsL_law ∧ Cond.code y b mL none ∈ wsL_law ∧ y.name = "<init>" ∧ (y.cls ≠ "java/lang/invoke/MethodHandle" ∧ y.cls ≠ "java/lang/invoke/VarHandle" ∧ (parseMethodDescriptor y.desc).map (fun d => d.parameters.length) = some n) ∧ mL ≤ 22
theorem cgGood {y : MethodName} {b : ByteArray} {mL : Nat} {ret : Option FieldType} (h : Cond.code y b mL ret ∈ wsL_law) : GoodIn wsL_law (.code y b mL ret :: wsL_law) := by
  intro q hq
  rcases List.mem_cons.mp hq with rfl | h1
  · exact cpGood _ h
  · exact cpGood _ h1
section CGC
variable {p : Program} {l : Launch} {e : Env} {R : Room} {s : State} {m : MethodId} {args : Array Value} {below : List Frame} {meth : Method} {c : Code} {Q : State → Prop} {w : cpW} {A : Nat → Prop} {cc : ByteArray} {own : String} {nL : Nat}
theorem cg_init (C : cgCx p s m args meth c w A cc own nL) {cells slots pc : Nat} {lv : List (Option Value)} {st : List Value} {ws : va_W} {y : MethodName} {b : ByteArray} {mL n idx d mc ms a : Nat} {As rest : List Value} {pre wr : va_W} {g : (Nat → Nat) → Prop} {post ws' : (Nat → Nat) → va_W} (hq : cgCal y b mL n) (hl : Cond.methodLink own idx y ∈ wsL_law) (hM : cgM l y b mL d mc ms w (.ref a :: As) pre g post) (isC isR : List Nat) (hC : isC.map (fun i => ws[i]?) = pre.map some) (hC2 : isC.filterMap (fun i => ws[i]?) = pre) (hCn : va_nd isC = true) (hR : isR.map (fun i => ws[i]?) = wr.map some) (hRn : va_nd isR = true) (hdis : ∀ i ∈ isR, i ∉ isC) (hst : st = As.reverse ++ .ref a :: rest) (hn : As.length = n) (hW : (rest.map fun v => v.category).sum ≤ 8) (hRm : (cgRm d mc ms).frames + 1 ≤ R.frames ∧ 8 + (mL + 11) + (cgRm d mc ms).locals ≤ R.locals) (hf : cells + mc ≤ R.cells ∧ slots + ms ≤ R.slots) (hdg : decode cc pc = .ok (.invokespecial idx, 3)) (hw : ∀ u, wr ++ post u = ws' u) (kk : ∀ u, g u → cpG p l e R s m args below meth c Q w A nL (cells + mc) (slots + ms) (pc + 3) lv rest (ws' u)) : cpG p l e R s m args below meth c Q w A nL cells slots pc lv st ws := fun H locs ls hP hD hS hL => by
  have hFc := va_free (wc := pre) hD hS C.2.2.2.2.2.2.1 isC hC
  refine va_callv (va_runI (As := As) (rest := rest) (b := a) ⟨C.1, C.2.1, C.2.2.1, C.2.2.2.1, C.2.2.2.2.1⟩ (hM H.size) (cwI n C.2.2.2.2.1 (cgGood hq.2.2.1) rfl rfl rfl (C.2.2.2.2.1 _ hq.2.1) (C.2.2.2.2.1 _ hl) (C.2.2.2.2.1 _ hq.1) hq.2.2.2.1 hq.2.2.2.2.1 hRm) ⟨cgBlind _ w pre H.size, fun U hU hW => ⟨rfl, by rw [hU], by rw [hU]; exact hP.sub isC hC2, C.2.2.2.2.2.1.call hW, (hD.sub isC hCn hC).weaken (fun _ _ _ _ => trivial)⟩⟩ rfl hn hL.1 hst (lv_room hW) hdg hf) hS (fun q _ h => hFc q h) hFc (fun u t H1 locs1 ht hvm hg hB _ hk1 hS1 => ?_)
  obtain ⟨hP1, hD1⟩ := hB
  rw [ht] at hP1
  obtain ⟨hP2, hD2⟩ := va_join (wr := wr) (w1 := post u) hP hD isC isR hC hR hRn hdis hk1 hFc hP1 hD1
  exact kk u hg H1 locs1 ls (hw u ▸ hP2) (hw u ▸ hD2) hS1 hL
theorem cg_initN (C : cgCx p s m args meth c w A cc own nL) {cells slots pc : Nat} {lv : List (Option Value)} {st : List Value} {ws : va_W} {y : MethodName} {b : ByteArray} {mL n idx d mc ms a : Nat} {As rest : List Value} {pre wr : va_W} {g : (Nat → Nat) → Prop} {post ws' : (Nat → Nat) → va_W} {host : String} (hq : cgCal y b mL n) (hl : (own, idx, y, host) ∈ cgNM) (hM : cgM l y b mL d mc ms w (.ref a :: As) pre g post) (isC isR : List Nat) (hC : isC.map (fun i => ws[i]?) = pre.map some) (hC2 : isC.filterMap (fun i => ws[i]?) = pre) (hCn : va_nd isC = true) (hR : isR.map (fun i => ws[i]?) = wr.map some) (hRn : va_nd isR = true) (hdis : ∀ i ∈ isR, i ∉ isC) (hst : st = As.reverse ++ .ref a :: rest) (hn : As.length = n) (hW : (rest.map fun v => v.category).sum ≤ 8) (hRm : (cgRm d mc ms).frames + 1 ≤ R.frames ∧ 8 + (mL + 11) + (cgRm d mc ms).locals ≤ R.locals) (hf : cells + mc ≤ R.cells ∧ slots + ms ≤ R.slots) (hdg : decode cc pc = .ok (.invokespecial idx, 3)) (hw : ∀ u, wr ++ post u = ws' u) (kk : ∀ u, g u → cpG p l e R s m args below meth c Q w A nL (cells + mc) (slots + ms) (pc + 3) lv rest (ws' u)) : cpG p l e R s m args below meth c Q w A nL cells slots pc lv st ws := fun H locs ls hP hD hS hL => by
  have hFc := va_free (wc := pre) hD hS C.2.2.2.2.2.2.1 isC hC
  refine va_callv (va_runIN (As := As) (rest := rest) (b := a) ⟨C.1, C.2.1, C.2.2.1, C.2.2.2.1, C.2.2.2.2.1⟩ (hM H.size) ⟨va_cnB n C.2.2.2.2.1 (cgGood hq.2.2.1) rfl rfl rfl (C.2.2.2.2.2.1.2.1 _ hl) (C.2.2.2.2.1 _ hq.2.1) hq.2.2.2.2.1 hRm, hq.2.2.2.1, C.2.2.2.2.1 _ hq.1⟩ ⟨cgBlind _ w pre H.size, fun U hU hW => ⟨rfl, by rw [hU], by rw [hU]; exact hP.sub isC hC2, C.2.2.2.2.2.1.call hW, (hD.sub isC hCn hC).weaken (fun _ _ _ _ => trivial)⟩⟩ rfl hn hL.1 hst (lv_room hW) hdg hf) hS (fun q _ h => hFc q h) hFc (fun u t H1 locs1 ht hvm hg hB _ hk1 hS1 => ?_)
  obtain ⟨hP1, hD1⟩ := hB
  rw [ht] at hP1
  obtain ⟨hP2, hD2⟩ := va_join (wr := wr) (w1 := post u) hP hD isC isR hC hR hRn hdis hk1 hFc hP1 hD1
  exact kk u hg H1 locs1 ls (hw u ▸ hP2) (hw u ▸ hD2) hS1 hL
theorem cg_callS (C : cgCx p s m args meth c w A cc own nL) {cells slots pc : Nat} {lv : List (Option Value)} {st : List Value} {ws : va_W} {y : MethodName} {b : ByteArray} {mL n idx d mc ms : Nat} {As rest : List Value} {pre wr : va_W} {g : (Nat → Nat) → Prop} {post ws' : (Nat → Nat) → va_W} (hq : cpCas y b mL none n) (hl : Cond.methodLink own idx y ∈ wsL_law) (hM : cgM l y b mL d mc ms w (As) pre g post) (isC isR : List Nat) (hC : isC.map (fun i => ws[i]?) = pre.map some) (hC2 : isC.filterMap (fun i => ws[i]?) = pre) (hCn : va_nd isC = true) (hR : isR.map (fun i => ws[i]?) = wr.map some) (hRn : va_nd isR = true) (hdis : ∀ i ∈ isR, i ∉ isC) (hst : st = As.reverse ++ rest) (hn : As.length = n) (hW : (rest.map fun v => v.category).sum ≤ 8) (hRm : (cgRm d mc ms).frames + 1 ≤ R.frames ∧ 8 + (mL + 11) + (cgRm d mc ms).locals ≤ R.locals) (hf : cells + mc ≤ R.cells ∧ slots + ms ≤ R.slots) (hdg : decode cc pc = .ok (.invokestatic idx, 3)) (hw : ∀ u, wr ++ post u = ws' u) (kk : ∀ u, g u → cpG p l e R s m args below meth c Q w A nL (cells + mc) (slots + ms) (pc + 3) lv rest (ws' u)) : cpG p l e R s m args below meth c Q w A nL cells slots pc lv st ws := fun H locs ls hP hD hS hL => by
  have hFc := va_free (wc := pre) hD hS C.2.2.2.2.2.2.1 isC hC
  refine va_callv (va_runS (As := As) (rest := rest) ⟨C.1, C.2.1, C.2.2.1, C.2.2.2.1, C.2.2.2.2.1⟩ (hM H.size) (va_cwS n C.2.2.2.2.1 (cpGS hq hl) rfl rfl rfl hq.2.2.2.1 hRm) ⟨cgBlind _ w pre H.size, fun U hU hW => ⟨rfl, by rw [hU], by rw [hU]; exact hP.sub isC hC2, C.2.2.2.2.2.1.call hW, (hD.sub isC hCn hC).weaken (fun _ _ _ _ => trivial)⟩⟩ rfl hn hL.1 hst (lv_room hW) hdg hf) hS (fun q _ h => hFc q h) hFc (fun u t H1 locs1 ht hvm hg hB _ hk1 hS1 => ?_)
  obtain ⟨hP1, hD1⟩ := hB
  rw [ht] at hP1
  obtain ⟨hP2, hD2⟩ := va_join (wr := wr) (w1 := post u) hP hD isC isR hC hR hRn hdis hk1 hFc hP1 hD1
  exact kk u hg H1 locs1 ls (hw u ▸ hP2) (hw u ▸ hD2) hS1 hL
theorem cg_callV (C : cgCx p s m args meth c w A cc own nL) {cells slots pc : Nat} {lv : List (Option Value)} {st : List Value} {ws : va_W} {y : MethodName} {b : ByteArray} {mL n idx d mc ms a : Nat} {As rest : List Value} {pre wr : va_W} {g : (Nat → Nat) → Prop} {post ws' : (Nat → Nat) → va_W} {k0 ci Nf : Nat} {fs : List Value} {Tt : u_T} (hq : cpCal y b mL none n) (hl : Cond.methodLink own idx y ∈ wsL_law) (hcl : vwCl[ci]? = some (y.cls, Tt, Nf)) (hr0 : pre[k0]? = some (a, .inr (ci, fs))) (hM : cgM l y b mL d mc ms w (.ref a :: As) pre g post) (isC isR : List Nat) (hC : isC.map (fun i => ws[i]?) = pre.map some) (hC2 : isC.filterMap (fun i => ws[i]?) = pre) (hCn : va_nd isC = true) (hR : isR.map (fun i => ws[i]?) = wr.map some) (hRn : va_nd isR = true) (hdis : ∀ i ∈ isR, i ∉ isC) (hst : st = As.reverse ++ .ref a :: rest) (hn : As.length = n) (hW : (rest.map fun v => v.category).sum ≤ 8) (hRm : (cgRm d mc ms).frames + 1 ≤ R.frames ∧ 8 + (mL + 11) + (cgRm d mc ms).locals ≤ R.locals) (hf : cells + mc ≤ R.cells ∧ slots + ms ≤ R.slots) (hdg : decode cc pc = .ok (.invokevirtual idx, 3)) (hw : ∀ u, wr ++ post u = ws' u) (kk : ∀ u, g u → cpG p l e R s m args below meth c Q w A nL (cells + mc) (slots + ms) (pc + 3) lv rest (ws' u)) : cpG p l e R s m args below meth c Q w A nL cells slots pc lv st ws := fun H locs ls hP hD hS hL => by
  have hFc := va_free (wc := pre) hD hS C.2.2.2.2.2.2.1 isC hC
  refine va_callv (va_runV (As := As) (rest := rest) (b := a) ⟨C.1, C.2.1, C.2.2.1, C.2.2.2.1, C.2.2.2.2.1⟩ (hM H.size) (cwV n C.2.2.2.2.1 (cpGV hq hl) rfl rfl rfl ⟨rfl, hq.2.2.2.2.1⟩ hRm) ⟨cgBlind _ w pre H.size, va_recv C.2.2.2.2.2.1.1 (hP.sub isC hC2) hcl hr0, fun U hU hW => ⟨rfl, by rw [hU], by rw [hU]; exact hP.sub isC hC2, C.2.2.2.2.2.1.call hW, (hD.sub isC hCn hC).weaken (fun _ _ _ _ => trivial)⟩⟩ rfl hn hL.1 hst (lv_room hW) hdg hf) hS (fun q _ h => hFc q h) hFc (fun u t H1 locs1 ht hvm hg hB _ hk1 hS1 => ?_)
  obtain ⟨hP1, hD1⟩ := hB
  rw [ht] at hP1
  obtain ⟨hP2, hD2⟩ := va_join (wr := wr) (w1 := post u) hP hD isC isR hC hR hRn hdis hk1 hFc hP1 hD1
  exact kk u hg H1 locs1 ls (hw u ▸ hP2) (hw u ▸ hD2) hS1 hL
theorem cg_ndr : ∀ n : Nat, va_nd (List.range n) = true := by
  have key : ∀ l : List Nat, l.Nodup → va_nd l = true := by
    intro l
    induction l with
    | nil => intro _; rfl
    | cons a t ih =>
      intro h
      obtain ⟨h1, h2⟩ := List.nodup_cons.mp h
      simp [va_nd, ih h2, h1]
  exact fun n => key _ List.nodup_range
theorem cg_rng {α : Type} (wr wc : List α) : (List.range wr.length).map (fun i => (wr ++ wc)[i]?) = wr.map some := by
  apply List.ext_getElem?
  intro i
  by_cases hi : i < wr.length
  · rw [List.getElem?_map, List.getElem?_range hi, List.getElem?_map, Option.map_some, List.getElem?_append_left hi, List.getElem?_eq_getElem hi]; rfl
  · rw [List.getElem?_eq_none (by simp; omega), List.getElem?_eq_none (by simp; omega)]
theorem cg_lst {α : Type} (wr : List α) (x : α) : (wr ++ [x])[wr.length]? = some x := by simp
theorem cg_initL (C : cgCx p s m args meth c w A cc own nL) {cells slots pc : Nat} {lv : List (Option Value)} {st : List Value} {ws : va_W} {y : MethodName} {b : ByteArray} {mL n idx d mc ms a : Nat} {As rest : List Value} {wr : va_W} {ee : va_E} {g : (Nat → Nat) → Prop} {post ws' : (Nat → Nat) → va_W} (hq : cgCal y b mL n) (hl : Cond.methodLink own idx y ∈ wsL_law) (hM : cgM l y b mL d mc ms w (.ref a :: As) [(a, ee)] g post) (hws : ws = wr ++ [(a, ee)]) (hst : st = As.reverse ++ .ref a :: rest) (hn : As.length = n) (hW : (rest.map fun v => v.category).sum ≤ 8) (hRm : (cgRm d mc ms).frames + 1 ≤ R.frames ∧ 8 + (mL + 11) + (cgRm d mc ms).locals ≤ R.locals) (hf : cells + mc ≤ R.cells ∧ slots + ms ≤ R.slots) (hdg : decode cc pc = .ok (.invokespecial idx, 3)) (hw : ∀ u, wr ++ post u = ws' u) (kk : ∀ u, g u → cpG p l e R s m args below meth c Q w A nL (cells + mc) (slots + ms) (pc + 3) lv rest (ws' u)) : cpG p l e R s m args below meth c Q w A nL cells slots pc lv st ws := by
  subst hws
  exact cg_init C hq hl hM [wr.length] (List.range wr.length) (by simp) (by simp) (by simp [va_nd]) (cg_rng wr _) (cg_ndr _) (by intro i hi; simp at hi ⊢; omega) hst hn hW hRm hf hdg hw kk
theorem cg_initLN (C : cgCx p s m args meth c w A cc own nL) {cells slots pc : Nat} {lv : List (Option Value)} {st : List Value} {ws : va_W} {y : MethodName} {b : ByteArray} {mL n idx d mc ms a : Nat} {As rest : List Value} {wr : va_W} {ee : va_E} {g : (Nat → Nat) → Prop} {post ws' : (Nat → Nat) → va_W} {host : String} (hq : cgCal y b mL n) (hl : (own, idx, y, host) ∈ cgNM) (hM : cgM l y b mL d mc ms w (.ref a :: As) [(a, ee)] g post) (hws : ws = wr ++ [(a, ee)]) (hst : st = As.reverse ++ .ref a :: rest) (hn : As.length = n) (hW : (rest.map fun v => v.category).sum ≤ 8) (hRm : (cgRm d mc ms).frames + 1 ≤ R.frames ∧ 8 + (mL + 11) + (cgRm d mc ms).locals ≤ R.locals) (hf : cells + mc ≤ R.cells ∧ slots + ms ≤ R.slots) (hdg : decode cc pc = .ok (.invokespecial idx, 3)) (hw : ∀ u, wr ++ post u = ws' u) (kk : ∀ u, g u → cpG p l e R s m args below meth c Q w A nL (cells + mc) (slots + ms) (pc + 3) lv rest (ws' u)) : cpG p l e R s m args below meth c Q w A nL cells slots pc lv st ws := by
  subst hws
  exact cg_initN C hq hl hM [wr.length] (List.range wr.length) (by simp) (by simp) (by simp [va_nd]) (cg_rng wr _) (cg_ndr _) (by intro i hi; simp at hi ⊢; omega) hst hn hW hRm hf hdg hw kk
theorem cg_retE (C : cgCx p s m args meth c w A cc own nL) {cells slots pc : Nat} {lv : List (Option Value)} {ws : va_W} {g : (Nat → Nat) → Prop} {post : (Nat → Nat) → va_W} (hr : meth.sig.returnType = none) (u : Nat → Nat) (hg : g u) (h1 : ws = post u) (hdg : decode cc pc = .ok (.return_, 1)) : cpG p l e R s m args below meth c (MQ below (va_Qv g (fun u t => va_P w.1 vwCl (post u) t.heap ∧ va_D A (post u)) A) args s cells slots A) w A nL cells slots pc lv [] ws := fun H locs ls hP hD hS hL =>
  W.vret C.1 C.2.1 hr (fun t ht hW => ⟨⟨u, rfl, hg, by rw [ht]; exact h1 ▸ hP, h1 ▸ hD⟩, hS.F ht⟩) hS.2.2 hdg C.2.2.2.2.2.2.2
theorem cg_ret (C : cgCx p s m args meth c w A cc own nL) {cells slots pc : Nat} {lv : List (Option Value)} {ws : va_W} {g : (Nat → Nat) → Prop} {post : (Nat → Nat) → va_W} (hr : meth.sig.returnType = none) (u : Nat → Nat) (hg : g u) (is : List Nat) (hn : va_nd is = true) (h1 : is.filterMap (fun i => ws[i]?) = post u) (h2 : is.map (fun i => ws[i]?) = (post u).map some) (hdg : decode cc pc = .ok (.return_, 1)) : cpG p l e R s m args below meth c (MQ below (va_Qv g (fun u t => va_P w.1 vwCl (post u) t.heap ∧ va_D A (post u)) A) args s cells slots A) w A nL cells slots pc lv [] ws := fun H locs ls hP hD hS hL =>
  W.vret C.1 C.2.1 hr (fun t ht hW => ⟨⟨u, rfl, hg, by rw [ht]; exact hP.sub is h1, hD.sub is hn h2⟩, hS.F ht⟩) hS.2.2 hdg C.2.2.2.2.2.2.2
end CGC
def cpCode0 : Nat → Int32 := upd (upd (upd (upd (upd (fun _ => 0) 0 1000) 1 1001) 2 2004) 3 2008) 4 1003
def cpAll0 : Nat → Int32 := fun j => if j = 1 then 1 else 0
def cpMin4 : Nat → Int32 := upd (upd (upd (upd (fun _ => 0) 0 (-1)) 1 (-1)) 2 (-1)) 3 (-1)
def bX3 (w : cpW) (u : Nat → Nat) : va_W := [((u 0), .inr (3, [.ref (u 1), .int 5, .int 0, .int 4, .int 4, .int 5, .ref (u 2)])), ((u 1), .inl (w.2.2.1 1, 900, .inl cpCode0)), ((u 2), .inl (w.2.2.1 1, 102, .inl (fun _ => 0)))]
def bX10 (w : cpW) (u : Nat → Nat) : va_W := [((u 0), .inr (10, [.int 1, .int 0, .int 0, .int 0, .ref (u 1), .ref (u 2), .ref (u 3), .int 0, .ref (u 4), .ref (u 5), .ref (u 6), .int 0, .ref (u 7), .ref (u 8), .ref (u 9), .ref (u 10), .ref (u 11)])), ((u 1), .inl (w.2.2.1 1, 9, .inl (fun _ => 0))), ((u 2), .inl (w.2.2.1 1, 9, .inl (fun _ => 0))), ((u 3), .inl (w.2.2.1 1, 9, .inl (fun _ => 0))), ((u 4), .inl (w.2.2.1 1, 8, .inl (fun _ => 0))), ((u 5), .inl (w.2.2.1 1, 8, .inl (fun _ => 0))), ((u 6), .inl (w.2.2.1 1, 8, .inl (fun _ => 0))), ((u 7), .inl (w.2.2.1 1, 4, .inl (fun _ => 0))), ((u 8), .inl (w.2.2.1 1, 4, .inl (fun _ => 0))), ((u 9), .inl (w.2.2.1 1, 4, .inl (fun _ => 0))), ((u 10), .inl (w.2.2.1 1, 36, .inl (fun _ => 0))), ((u 11), .inr (3, [.ref (u 12), .int 5, .int 0, .int 4, .int 4, .int 5, .ref (u 13)])), ((u 12), .inl (w.2.2.1 1, 900, .inl cpCode0)), ((u 13), .inl (w.2.2.1 1, 102, .inl (fun _ => 0)))]
def bX5 (w : cpW) (u : Nat → Nat) : va_W := [((u 0), .inr (5, [.ref (u 1), .ref (u 2), .ref (u 3), .int 0, .int 0])), ((u 1), .inl (w.2.2.1 1, 4, .inl (fun _ => 0))), ((u 2), .inl (w.2.2.1 1, 4, .inl (fun _ => 0))), ((u 3), .inl (w.2.2.1 1, 8, .inl (fun _ => 0)))]
def bX9 (w : cpW) (u : Nat → Nat) : va_W := [((u 0), .inr (9, [.ref (u 1), .int 0, .int (-1)])), ((u 1), .inl (w.2.2.1 4, 40, .inr (.inl (fun _ => 0))))]
def bX12 (w : cpW) (u : Nat → Nat) : va_W := [((u 0), .inr (12, [.int 0, .ref (u 1), .ref (u 2), .ref (u 3), .ref (u 4), .int 0, .int 0, .int 0, .int 0, .int 0, .int 0, .int 0, .int 0, .int 0, .int (-1), .int 0, .ref (u 5), .ref (u 6), .ref (u 7), .int 0, .ref (u 8), .int 0, .int 0, .ref (u 9), .ref (u 10), .ref (u 11), .ref (u 12), .ref (u 13), .ref (u 14), .ref (u 15), .ref (u 16), .ref (u 17), .ref (u 18), .int 0, .ref (u 19), .ref (u 20), .ref (u 21), .ref (u 22), .ref (u 23)])), ((u 1), .inl (w.2.2.1 1, 3486, .inl cpAll0)), ((u 2), .inl (w.2.2.1 3, 2, .inl (fun _ => 0))), ((u 3), .inl (w.2.2.1 1, 900, .inl (fun _ => 0))), ((u 4), .inl (w.2.2.1 1, 1162, .inl (fun _ => 0))), ((u 5), .inl (w.2.2.1 1, 36, .inl (fun _ => 0))), ((u 6), .inl (w.2.2.1 1, 900, .inl (fun _ => 0))), ((u 7), .inl (w.2.2.1 1, 6, .inl (fun _ => 0))), ((u 8), .inl (w.2.2.1 1, 18, .inl (fun _ => 0))), ((u 9), .inl (w.2.2.1 1, 36, .inl (fun _ => 0))), ((u 10), .inl (w.2.2.1 1, 6, .inl (fun _ => 0))), ((u 11), .inl (w.2.2.1 1, 6, .inl (fun _ => 0))), ((u 12), .inl (w.2.2.1 4, 6, .inr (.inl (fun _ => 0)))), ((u 13), .inl (w.2.2.1 4, 6, .inr (.inl (fun _ => 0)))), ((u 14), .inl (w.2.2.1 1, 4, .inl (fun _ => 0))), ((u 15), .inl (w.2.2.1 1, 4, .inl (fun _ => 0))), ((u 16), .inl (w.2.2.1 1, 256, .inl (fun _ => 0))), ((u 17), .inl (w.2.2.1 4, 54, .inr (.inl (fun _ => 0)))), ((u 18), .inl (w.2.2.1 1, 168, .inl (fun _ => 0))), ((u 19), .inl (w.2.2.1 1, 11, .inl (fun _ => 0))), ((u 20), .inl (w.2.2.1 4, 36, .inr (.inl (fun _ => 0)))), ((u 21), .inl (w.2.2.1 1, 4, .inl cpMin4)), ((u 22), .inl (w.2.2.1 1, 4, .inl (fun _ => 0))), ((u 23), .inl (w.2.2.1 4, 160, .inr (.inl (fun _ => 0))))]
def bX7 (w : cpW) (u : Nat → Nat) : va_W := [((u 0), .inr (7, [.ref (u 1), .int 0, .ref (u 2), .int 0, .int (-1), .int 0, .int 0, .int 0, .int 0, .int 0, .int 0, .int 0])), ((u 1), .inl (w.2.2.1 2, 900, .inl (fun _ => 0))), ((u 2), .inr (10, [.int 1, .int 0, .int 0, .int 0, .ref (u 3), .ref (u 4), .ref (u 5), .int 0, .ref (u 6), .ref (u 7), .ref (u 8), .int 0, .ref (u 9), .ref (u 10), .ref (u 11), .ref (u 12), .ref (u 13)])), ((u 3), .inl (w.2.2.1 1, 9, .inl (fun _ => 0))), ((u 4), .inl (w.2.2.1 1, 9, .inl (fun _ => 0))), ((u 5), .inl (w.2.2.1 1, 9, .inl (fun _ => 0))), ((u 6), .inl (w.2.2.1 1, 8, .inl (fun _ => 0))), ((u 7), .inl (w.2.2.1 1, 8, .inl (fun _ => 0))), ((u 8), .inl (w.2.2.1 1, 8, .inl (fun _ => 0))), ((u 9), .inl (w.2.2.1 1, 4, .inl (fun _ => 0))), ((u 10), .inl (w.2.2.1 1, 4, .inl (fun _ => 0))), ((u 11), .inl (w.2.2.1 1, 4, .inl (fun _ => 0))), ((u 12), .inl (w.2.2.1 1, 36, .inl (fun _ => 0))), ((u 13), .inr (3, [.ref (u 14), .int 5, .int 0, .int 4, .int 4, .int 5, .ref (u 15)])), ((u 14), .inl (w.2.2.1 1, 900, .inl cpCode0)), ((u 15), .inl (w.2.2.1 1, 102, .inl (fun _ => 0)))]
def bX6 (w : cpW) (u : Nat → Nat) : va_W := [((u 0), .inr (6, [.ref (u 1), .int 0, .int 0])), ((u 1), .inl (w.2.2.1 5, 10, .inr (.inr (.inr (.inr (va_up (va_up (va_up (va_up (va_up (va_up (va_up (va_up (va_up (va_up (fun _ => none) 0 (some (u 2))) 1 (some (u 6))) 2 (some (u 10))) 3 (some (u 14))) 4 (some (u 18))) 5 (some (u 22))) 6 (some (u 26))) 7 (some (u 30))) 8 (some (u 34))) 9 (some (u 38)))))))), ((u 2), .inr (5, [.ref (u 3), .ref (u 4), .ref (u 5), .int 0, .int 0])), ((u 3), .inl (w.2.2.1 1, 4, .inl (fun _ => 0))), ((u 4), .inl (w.2.2.1 1, 4, .inl (fun _ => 0))), ((u 5), .inl (w.2.2.1 1, 8, .inl (fun _ => 0))), ((u 6), .inr (5, [.ref (u 7), .ref (u 8), .ref (u 9), .int 0, .int 0])), ((u 7), .inl (w.2.2.1 1, 4, .inl (fun _ => 0))), ((u 8), .inl (w.2.2.1 1, 4, .inl (fun _ => 0))), ((u 9), .inl (w.2.2.1 1, 8, .inl (fun _ => 0))), ((u 10), .inr (5, [.ref (u 11), .ref (u 12), .ref (u 13), .int 0, .int 0])), ((u 11), .inl (w.2.2.1 1, 4, .inl (fun _ => 0))), ((u 12), .inl (w.2.2.1 1, 4, .inl (fun _ => 0))), ((u 13), .inl (w.2.2.1 1, 8, .inl (fun _ => 0))), ((u 14), .inr (5, [.ref (u 15), .ref (u 16), .ref (u 17), .int 0, .int 0])), ((u 15), .inl (w.2.2.1 1, 4, .inl (fun _ => 0))), ((u 16), .inl (w.2.2.1 1, 4, .inl (fun _ => 0))), ((u 17), .inl (w.2.2.1 1, 8, .inl (fun _ => 0))), ((u 18), .inr (5, [.ref (u 19), .ref (u 20), .ref (u 21), .int 0, .int 0])), ((u 19), .inl (w.2.2.1 1, 4, .inl (fun _ => 0))), ((u 20), .inl (w.2.2.1 1, 4, .inl (fun _ => 0))), ((u 21), .inl (w.2.2.1 1, 8, .inl (fun _ => 0))), ((u 22), .inr (5, [.ref (u 23), .ref (u 24), .ref (u 25), .int 0, .int 0])), ((u 23), .inl (w.2.2.1 1, 4, .inl (fun _ => 0))), ((u 24), .inl (w.2.2.1 1, 4, .inl (fun _ => 0))), ((u 25), .inl (w.2.2.1 1, 8, .inl (fun _ => 0))), ((u 26), .inr (5, [.ref (u 27), .ref (u 28), .ref (u 29), .int 0, .int 0])), ((u 27), .inl (w.2.2.1 1, 4, .inl (fun _ => 0))), ((u 28), .inl (w.2.2.1 1, 4, .inl (fun _ => 0))), ((u 29), .inl (w.2.2.1 1, 8, .inl (fun _ => 0))), ((u 30), .inr (5, [.ref (u 31), .ref (u 32), .ref (u 33), .int 0, .int 0])), ((u 31), .inl (w.2.2.1 1, 4, .inl (fun _ => 0))), ((u 32), .inl (w.2.2.1 1, 4, .inl (fun _ => 0))), ((u 33), .inl (w.2.2.1 1, 8, .inl (fun _ => 0))), ((u 34), .inr (5, [.ref (u 35), .ref (u 36), .ref (u 37), .int 0, .int 0])), ((u 35), .inl (w.2.2.1 1, 4, .inl (fun _ => 0))), ((u 36), .inl (w.2.2.1 1, 4, .inl (fun _ => 0))), ((u 37), .inl (w.2.2.1 1, 8, .inl (fun _ => 0))), ((u 38), .inr (5, [.ref (u 39), .ref (u 40), .ref (u 41), .int 0, .int 0])), ((u 39), .inl (w.2.2.1 1, 4, .inl (fun _ => 0))), ((u 40), .inl (w.2.2.1 1, 4, .inl (fun _ => 0))), ((u 41), .inl (w.2.2.1 1, 8, .inl (fun _ => 0)))]
def bX0 (w : cpW) (va na : Nat) (u : Nat → Nat) : va_W := [((u 0), .inr (0, [.ref va, .ref na, .ref (u 1)])), ((u 1), .inl (w.2.2.1 1, 6, .inl (fun _ => 0)))]
def bX1 (w : cpW) (va na : Nat) (u : Nat → Nat) : va_W := [((u 0), .inr (1, [.ref va, .ref na, .ref (u 1), .ref (u 2), .int 0, .int 0, .int 0])), ((u 1), .inl (w.2.2.1 1, 256, .inl (fun _ => 0))), ((u 2), .inl (w.2.2.1 1, 8, .inl (fun _ => 0)))]
def bX4 (w : cpW) (ca : Nat) (u : Nat → Nat) : va_W := [((u 0), .inr (4, [.ref ca, .ref (u 1), .ref (u 2), .ref (u 3), .ref (u 4), .ref (u 5), .ref (u 6), .ref (u 7)])), ((u 1), .inl (w.2.2.1 1, 1008, .inl (fun _ => 0))), ((u 2), .inl (w.2.2.1 1, 36, .inl (fun _ => 0))), ((u 3), .inl (w.2.2.1 1, 6, .inl (fun _ => 0))), ((u 4), .inl (w.2.2.1 4, 6, .inr (.inl (fun _ => 0)))), ((u 5), .inl (w.2.2.1 4, 6, .inr (.inl (fun _ => 0)))), ((u 6), .inl (w.2.2.1 1, 4, .inl (fun _ => 0))), ((u 7), .inl (w.2.2.1 1, 4, .inl (fun _ => 0)))]
def bX8 (w : cpW) (mo ca : Nat) (u : Nat → Nat) : va_W := [((u 0), .inr (8, [.ref mo, .ref ca, .ref (u 1), .ref (u 2), .ref (u 3)])), ((u 1), .inl (w.2.2.1 4, 54, .inr (.inl (fun _ => 0)))), ((u 2), .inl (w.2.2.1 1, 11, .inl (fun _ => 0))), ((u 3), .inl (w.2.2.1 4, 8, .inr (.inl (fun _ => 0))))]
def bX2 (w : cpW) (mo va : Nat) (u : Nat → Nat) : va_W := [((u 0), .inr (2, [.ref mo, .ref va, .ref (u 1), .ref (u 2), .ref (u 3), .int 0])), ((u 1), .inl (w.2.2.1 1, 6, .inl (fun _ => 0))), ((u 2), .inl (w.2.2.1 1, 36, .inl (fun _ => 0))), ((u 3), .inl (w.2.2.1 3, 18, .inl (fun _ => 0)))]
theorem mw_1_8 : Cond.instanceMethod yX11_init ∈ wsL_law := mr_1 _ (List.mem_of_getElem? (i := 8) rfl)
theorem mw_1_9 : Cond.code yX11_init cX11_init 2 none ∈ wsL_law := mr_1 _ (List.mem_of_getElem? (i := 9) rfl)
theorem mw_1_10 : Cond.methodLink RX11 1 objectInit ∈ wsL_law := mr_1 _ (List.mem_of_getElem? (i := 10) rfl)
theorem mw_1_11 : Cond.instanceMethod objectInit ∈ wsL_law := mr_1 _ (List.mem_of_getElem? (i := 11) rfl)
theorem mw_1_12 : Cond.code objectInit ⟨#[0xb1]⟩ 1 none ∈ wsL_law := mr_1 _ (List.mem_of_getElem? (i := 12) rfl)
theorem mw_1_13 : Cond.classLink RX11 7 RX10 ∈ wsL_law := mr_1 _ (List.mem_of_getElem? (i := 13) rfl)
theorem mw_1_14 : Cond.instantiable RX10 17 ∈ wsL_law := mr_1 _ (List.mem_of_getElem? (i := 14) rfl)
theorem mw_1_17 : Cond.classLink RX11 16 RX5 ∈ wsL_law := mr_1 _ (List.mem_of_getElem? (i := 17) rfl)
theorem mw_1_18 : Cond.instantiable RX5 5 ∈ wsL_law := mr_1 _ (List.mem_of_getElem? (i := 18) rfl)
theorem mw_1_22 : Cond.classLink RX11 26 RX6 ∈ wsL_law := mr_1 _ (List.mem_of_getElem? (i := 22) rfl)
theorem mw_1_23 : Cond.instantiable RX6 3 ∈ wsL_law := mr_1 _ (List.mem_of_getElem? (i := 23) rfl)
theorem mw_2_2 : Cond.classLink RX11 33 RX7 ∈ wsL_law := mr_2 _ (List.mem_of_getElem? (i := 2) rfl)
theorem mw_2_3 : Cond.instantiable RX7 12 ∈ wsL_law := mr_2 _ (List.mem_of_getElem? (i := 3) rfl)
theorem mw_2_6 : Cond.classLink RX11 40 RX0 ∈ wsL_law := mr_2 _ (List.mem_of_getElem? (i := 6) rfl)
theorem mw_2_7 : Cond.instantiable RX0 3 ∈ wsL_law := mr_2 _ (List.mem_of_getElem? (i := 7) rfl)
theorem mw_2_10 : Cond.classLink RX11 49 RX4 ∈ wsL_law := mr_2 _ (List.mem_of_getElem? (i := 10) rfl)
theorem mw_2_11 : Cond.instantiable RX4 8 ∈ wsL_law := mr_2 _ (List.mem_of_getElem? (i := 11) rfl)
theorem mw_2_14 : Cond.classLink RX11 58 RX1 ∈ wsL_law := mr_2 _ (List.mem_of_getElem? (i := 14) rfl)
theorem mw_2_15 : Cond.instantiable RX1 7 ∈ wsL_law := mr_2 _ (List.mem_of_getElem? (i := 15) rfl)
theorem mw_2_18 : Cond.classLink RX11 65 RX8 ∈ wsL_law := mr_2 _ (List.mem_of_getElem? (i := 18) rfl)
theorem mw_2_19 : Cond.instantiable RX8 5 ∈ wsL_law := mr_2 _ (List.mem_of_getElem? (i := 19) rfl)
theorem mw_2_22 : Cond.classLink RX11 74 RX2 ∈ wsL_law := mr_2 _ (List.mem_of_getElem? (i := 22) rfl)
theorem mw_2_23 : Cond.instantiable RX2 6 ∈ wsL_law := mr_2 _ (List.mem_of_getElem? (i := 23) rfl)
theorem mw_3_2 : Cond.classLink RX11 81 RX9 ∈ wsL_law := mr_3 _ (List.mem_of_getElem? (i := 2) rfl)
theorem mw_3_6 : Cond.arrayClass .boolean ∈ wsL_law := mr_3 _ (List.mem_of_getElem? (i := 6) rfl)
theorem mw_3_8 : Cond.instantiable RX9 3 ∈ wsL_law := mr_3 _ (List.mem_of_getElem? (i := 8) rfl)
theorem mw_3_10 : Cond.instanceMethod yX10_init ∈ wsL_law := mr_3 _ (List.mem_of_getElem? (i := 10) rfl)
theorem mw_3_11 : Cond.code yX10_init cX10_init 1 none ∈ wsL_law := mr_3 _ (List.mem_of_getElem? (i := 11) rfl)
theorem mw_3_12 : Cond.methodLink RX10 3 objectInit ∈ wsL_law := mr_3 _ (List.mem_of_getElem? (i := 12) rfl)
theorem mw_3_14 : Cond.arrayClass .int ∈ wsL_law := mr_3 _ (List.mem_of_getElem? (i := 14) rfl)
theorem mw_4_1 : Cond.classLink RX10 46 RX3 ∈ wsL_law := mr_4 _ (List.mem_of_getElem? (i := 1) rfl)
theorem mw_4_2 : Cond.instantiable RX3 7 ∈ wsL_law := mr_4 _ (List.mem_of_getElem? (i := 2) rfl)
theorem mw_4_5 : Cond.methodLink RX10 48 yX3_init ∈ wsL_law := mr_4 _ (List.mem_of_getElem? (i := 5) rfl)
theorem mw_4_6 : Cond.instanceMethod yX3_init ∈ wsL_law := mr_4 _ (List.mem_of_getElem? (i := 6) rfl)
theorem mw_4_7 : Cond.code yX3_init cX3_init 1 none ∈ wsL_law := mr_4 _ (List.mem_of_getElem? (i := 7) rfl)
theorem mw_4_8 : Cond.methodLink RX3 3 objectInit ∈ wsL_law := mr_4 _ (List.mem_of_getElem? (i := 8) rfl)
theorem mw_4_11 : Cond.methodLink RX3 18 yX3_clear ∈ wsL_law := mr_4 _ (List.mem_of_getElem? (i := 11) rfl)
theorem mw_4_20 : Cond.instanceMethod yX5_init ∈ wsL_law := mr_4 _ (List.mem_of_getElem? (i := 20) rfl)
theorem mw_4_21 : Cond.code yX5_init cX5_init 1 none ∈ wsL_law := mr_4 _ (List.mem_of_getElem? (i := 21) rfl)
theorem mw_4_22 : Cond.methodLink RX5 3 objectInit ∈ wsL_law := mr_4 _ (List.mem_of_getElem? (i := 22) rfl)
theorem mw_5_2 : Cond.methodLink RX11 28 yX6_init ∈ wsL_law := mr_5 _ (List.mem_of_getElem? (i := 2) rfl)
theorem mw_5_3 : Cond.instanceMethod yX6_init ∈ wsL_law := mr_5 _ (List.mem_of_getElem? (i := 3) rfl)
theorem mw_5_4 : Cond.code yX6_init cX6_init 2 none ∈ wsL_law := mr_5 _ (List.mem_of_getElem? (i := 4) rfl)
theorem mw_5_5 : Cond.methodLink RX6 3 objectInit ∈ wsL_law := mr_5 _ (List.mem_of_getElem? (i := 5) rfl)
theorem mw_5_6 : Cond.classLink RX6 9 RX5 ∈ wsL_law := mr_5 _ (List.mem_of_getElem? (i := 6) rfl)
theorem mw_5_8 : Cond.instanceMethod yX7_init ∈ wsL_law := mr_5 _ (List.mem_of_getElem? (i := 8) rfl)
theorem mw_5_9 : Cond.code yX7_init cX7_init 1 none ∈ wsL_law := mr_5 _ (List.mem_of_getElem? (i := 9) rfl)
theorem mw_5_10 : Cond.methodLink RX7 3 objectInit ∈ wsL_law := mr_5 _ (List.mem_of_getElem? (i := 10) rfl)
theorem mw_5_11 : Cond.arrayClass .char ∈ wsL_law := mr_5 _ (List.mem_of_getElem? (i := 11) rfl)
theorem mw_5_13 : Cond.classLink RX7 15 RX10 ∈ wsL_law := mr_5 _ (List.mem_of_getElem? (i := 13) rfl)
theorem mw_5_16 : Cond.methodLink RX11 42 yX0_init ∈ wsL_law := mr_5 _ (List.mem_of_getElem? (i := 16) rfl)
theorem mw_5_17 : Cond.instanceMethod yX0_init ∈ wsL_law := mr_5 _ (List.mem_of_getElem? (i := 17) rfl)
theorem mw_5_18 : Cond.code yX0_init cX0_init 3 none ∈ wsL_law := mr_5 _ (List.mem_of_getElem? (i := 18) rfl)
theorem mw_5_19 : Cond.methodLink RX0 3 objectInit ∈ wsL_law := mr_5 _ (List.mem_of_getElem? (i := 19) rfl)
theorem mw_5_23 : Cond.methodLink RX11 51 yX4_init ∈ wsL_law := mr_5 _ (List.mem_of_getElem? (i := 23) rfl)
theorem mw_6_0 : Cond.instanceMethod yX4_init ∈ wsL_law := mr_6 _ (List.mem_of_getElem? (i := 0) rfl)
theorem mw_6_1 : Cond.code yX4_init cX4_init 2 none ∈ wsL_law := mr_6 _ (List.mem_of_getElem? (i := 1) rfl)
theorem mw_6_2 : Cond.methodLink RX4 3 objectInit ∈ wsL_law := mr_6 _ (List.mem_of_getElem? (i := 2) rfl)
theorem mw_6_6 : Cond.arrayClass .long ∈ wsL_law := mr_6 _ (List.mem_of_getElem? (i := 6) rfl)
theorem mw_6_12 : Cond.methodLink RX11 60 yX1_init ∈ wsL_law := mr_6 _ (List.mem_of_getElem? (i := 12) rfl)
theorem mw_6_13 : Cond.instanceMethod yX1_init ∈ wsL_law := mr_6 _ (List.mem_of_getElem? (i := 13) rfl)
theorem mw_6_14 : Cond.code yX1_init cX1_init 3 none ∈ wsL_law := mr_6 _ (List.mem_of_getElem? (i := 14) rfl)
theorem mw_6_15 : Cond.methodLink RX1 3 objectInit ∈ wsL_law := mr_6 _ (List.mem_of_getElem? (i := 15) rfl)
theorem mw_6_20 : Cond.methodLink RX11 67 yX8_init ∈ wsL_law := mr_6 _ (List.mem_of_getElem? (i := 20) rfl)
theorem mw_6_21 : Cond.instanceMethod yX8_init ∈ wsL_law := mr_6 _ (List.mem_of_getElem? (i := 21) rfl)
theorem mw_6_22 : Cond.code yX8_init cX8_init 2 none ∈ wsL_law := mr_6 _ (List.mem_of_getElem? (i := 22) rfl)
theorem mw_6_23 : Cond.methodLink RX8 3 objectInit ∈ wsL_law := mr_6 _ (List.mem_of_getElem? (i := 23) rfl)
theorem mw_7_4 : Cond.fieldLink RX8 26 "CoinPairs$Moves" "carriers" "LCoinPairs$Carriers;" ∈ wsL_law := mr_7 _ (List.mem_of_getElem? (i := 4) rfl)
theorem mw_7_6 : Cond.methodLink RX11 76 yX2_init ∈ wsL_law := mr_7 _ (List.mem_of_getElem? (i := 6) rfl)
theorem mw_7_7 : Cond.instanceMethod yX2_init ∈ wsL_law := mr_7 _ (List.mem_of_getElem? (i := 7) rfl)
theorem mw_7_8 : Cond.code yX2_init cX2_init 2 none ∈ wsL_law := mr_7 _ (List.mem_of_getElem? (i := 8) rfl)
theorem mw_7_9 : Cond.methodLink RX2 3 objectInit ∈ wsL_law := mr_7 _ (List.mem_of_getElem? (i := 9) rfl)
theorem mw_7_15 : Cond.fieldLink RX2 32 "CoinPairs$Carriers" "valley" "LCoinPairs$Valley;" ∈ wsL_law := mr_7 _ (List.mem_of_getElem? (i := 15) rfl)
theorem mw_7_17 : Cond.instanceMethod yX9_init ∈ wsL_law := mr_7 _ (List.mem_of_getElem? (i := 17) rfl)
theorem mw_7_18 : Cond.code yX9_init cX9_init 1 none ∈ wsL_law := mr_7 _ (List.mem_of_getElem? (i := 18) rfl)
theorem mw_7_19 : Cond.methodLink RX9 3 objectInit ∈ wsL_law := mr_7 _ (List.mem_of_getElem? (i := 19) rfl)
theorem mw_7_23 : Cond.instanceMethod yX12_init ∈ wsL_law := mr_7 _ (List.mem_of_getElem? (i := 23) rfl)
theorem mw_8_0 : Cond.code yX12_init cX12_init 1 none ∈ wsL_law := mr_8 _ (List.mem_of_getElem? (i := 0) rfl)
theorem mw_8_1 : Cond.methodLink RX12 7 objectInit ∈ wsL_law := mr_8 _ (List.mem_of_getElem? (i := 1) rfl)
theorem gnX10_46 : cgNew RX10 46 3 7 [.null, .int 0, .int 0, .int 0, .int 0, .int 0, .null] := ⟨RX3, TX3, tyX3, rfl, inlX3, tyX3_ok, mw_4_1, mw_4_2, mw_4_3, fun j hj => by
  rcases (show j = 0 ∨ j = 1 ∨ j = 2 ∨ j = 3 ∨ j = 4 ∨ j = 5 ∨ j = 6 by omega) with rfl | rfl | rfl | rfl | rfl | rfl | rfl <;> rfl⟩
theorem gnX11_7 : cgNew RX11 7 10 17 [.int 0, .int 0, .int 0, .int 0, .null, .null, .null, .int 0, .null, .null, .null, .int 0, .null, .null, .null, .null, .null] := ⟨RX10, TX10, tyX10, rfl, inlX10, tyX10_ok, mw_1_13, mw_1_14, mw_1_15, fun j hj => by
  rcases (show j = 0 ∨ j = 1 ∨ j = 2 ∨ j = 3 ∨ j = 4 ∨ j = 5 ∨ j = 6 ∨ j = 7 ∨ j = 8 ∨ j = 9 ∨ j = 10 ∨ j = 11 ∨ j = 12 ∨ j = 13 ∨ j = 14 ∨ j = 15 ∨ j = 16 by omega) with rfl | rfl | rfl | rfl | rfl | rfl | rfl | rfl | rfl | rfl | rfl | rfl | rfl | rfl | rfl | rfl | rfl <;> rfl⟩
theorem gnX11_16 : cgNew RX11 16 5 5 [.null, .null, .null, .int 0, .int 0] := ⟨RX5, TX5, tyX5, rfl, inlX5, tyX5_ok, mw_1_17, mw_1_18, mw_1_19, fun j hj => by
  rcases (show j = 0 ∨ j = 1 ∨ j = 2 ∨ j = 3 ∨ j = 4 by omega) with rfl | rfl | rfl | rfl | rfl <;> rfl⟩
theorem gnX11_26 : cgNew RX11 26 6 3 [.null, .int 0, .int 0] := ⟨RX6, TX6, tyX6, rfl, inlX6, tyX6_ok, mw_1_22, mw_1_23, mw_2_0, fun j hj => by
  rcases (show j = 0 ∨ j = 1 ∨ j = 2 by omega) with rfl | rfl | rfl <;> rfl⟩
theorem gnX11_33 : cgNew RX11 33 7 12 [.null, .int 0, .null, .int 0, .int 0, .int 0, .int 0, .int 0, .int 0, .int 0, .int 0, .int 0] := ⟨RX7, TX7, tyX7, rfl, inlX7, tyX7_ok, mw_2_2, mw_2_3, mw_2_4, fun j hj => by
  rcases (show j = 0 ∨ j = 1 ∨ j = 2 ∨ j = 3 ∨ j = 4 ∨ j = 5 ∨ j = 6 ∨ j = 7 ∨ j = 8 ∨ j = 9 ∨ j = 10 ∨ j = 11 by omega) with rfl | rfl | rfl | rfl | rfl | rfl | rfl | rfl | rfl | rfl | rfl | rfl <;> rfl⟩
theorem gnX11_40 : cgNew RX11 40 0 3 [.null, .null, .null] := ⟨RX0, TX0, tyX0, rfl, inlX0, tyX0_ok, mw_2_6, mw_2_7, mw_2_8, fun j hj => by
  rcases (show j = 0 ∨ j = 1 ∨ j = 2 by omega) with rfl | rfl | rfl <;> rfl⟩
theorem gnX11_49 : cgNew RX11 49 4 8 [.null, .null, .null, .null, .null, .null, .null, .null] := ⟨RX4, TX4, tyX4, rfl, inlX4, tyX4_ok, mw_2_10, mw_2_11, mw_2_12, fun j hj => by
  rcases (show j = 0 ∨ j = 1 ∨ j = 2 ∨ j = 3 ∨ j = 4 ∨ j = 5 ∨ j = 6 ∨ j = 7 by omega) with rfl | rfl | rfl | rfl | rfl | rfl | rfl | rfl <;> rfl⟩
theorem gnX11_58 : cgNew RX11 58 1 7 [.null, .null, .null, .null, .int 0, .int 0, .int 0] := ⟨RX1, TX1, tyX1, rfl, inlX1, tyX1_ok, mw_2_14, mw_2_15, mw_2_16, fun j hj => by
  rcases (show j = 0 ∨ j = 1 ∨ j = 2 ∨ j = 3 ∨ j = 4 ∨ j = 5 ∨ j = 6 by omega) with rfl | rfl | rfl | rfl | rfl | rfl | rfl <;> rfl⟩
theorem gnX11_65 : cgNew RX11 65 8 5 [.null, .null, .null, .null, .null] := ⟨RX8, TX8, tyX8, rfl, inlX8, tyX8_ok, mw_2_18, mw_2_19, mw_2_20, fun j hj => by
  rcases (show j = 0 ∨ j = 1 ∨ j = 2 ∨ j = 3 ∨ j = 4 by omega) with rfl | rfl | rfl | rfl | rfl <;> rfl⟩
theorem gnX11_74 : cgNew RX11 74 2 6 [.null, .null, .null, .null, .null, .int 0] := ⟨RX2, TX2, tyX2, rfl, inlX2, tyX2_ok, mw_2_22, mw_2_23, mw_3_0, fun j hj => by
  rcases (show j = 0 ∨ j = 1 ∨ j = 2 ∨ j = 3 ∨ j = 4 ∨ j = 5 by omega) with rfl | rfl | rfl | rfl | rfl | rfl <;> rfl⟩
theorem gnX11_81 : cgNew RX11 81 9 3 [.null, .int 0, .int 0] := ⟨RX9, TX9, tyX9, rfl, inlX9, tyX9_ok, mw_3_2, mw_3_8, mw_3_9, fun j hj => by
  rcases (show j = 0 ∨ j = 1 ∨ j = 2 by omega) with rfl | rfl | rfl <;> rfl⟩
theorem gnX6_9 : cgNew RX6 9 5 5 [.null, .null, .null, .int 0, .int 0] := ⟨RX5, TX5, tyX5, rfl, inlX5, tyX5_ok, mw_5_6, mw_1_18, mw_1_19, fun j hj => by
  rcases (show j = 0 ∨ j = 1 ∨ j = 2 ∨ j = 3 ∨ j = 4 by omega) with rfl | rfl | rfl | rfl | rfl <;> rfl⟩
theorem gnX7_15 : cgNew RX7 15 10 17 [.int 0, .int 0, .int 0, .int 0, .null, .null, .null, .int 0, .null, .null, .null, .int 0, .null, .null, .null, .null, .null] := ⟨RX10, TX10, tyX10, rfl, inlX10, tyX10_ok, mw_5_13, mw_1_14, mw_1_15, fun j hj => by
  rcases (show j = 0 ∨ j = 1 ∨ j = 2 ∨ j = 3 ∨ j = 4 ∨ j = 5 ∨ j = 6 ∨ j = 7 ∨ j = 8 ∨ j = 9 ∨ j = 10 ∨ j = 11 ∨ j = 12 ∨ j = 13 ∨ j = 14 ∨ j = 15 ∨ j = 16 by omega) with rfl | rfl | rfl | rfl | rfl | rfl | rfl | rfl | rfl | rfl | rfl | rfl | rfl | rfl | rfl | rfl | rfl <;> rfl⟩
theorem gpX0_11 : cgPF RX0 11 0 2 (.array .int) := ⟨RX0, TX0, 3, tyX0, rfl, inlX0, by decide, mw_5_20, tyX0_ok, nmX0, rfl, rfl, by decide +kernel⟩
theorem gpX0_17 : cgPF RX0 17 0 0 (.object "CoinPairs$Valley") := ⟨RX0, TX0, 3, tyX0, rfl, inlX0, by decide, mw_5_21, tyX0_ok, nmX0, rfl, rfl, by decide +kernel⟩
theorem gpX0_21 : cgPF RX0 21 0 1 (.object "CoinPairs$Now") := ⟨RX0, TX0, 3, tyX0, rfl, inlX0, by decide, mw_5_22, tyX0_ok, nmX0, rfl, rfl, by decide +kernel⟩
theorem gpX1_9 : cgPF RX1 9 1 2 (.array .int) := ⟨RX1, TX1, 7, tyX1, rfl, inlX1, by decide, mw_6_16, tyX1_ok, nmX1, rfl, rfl, by decide +kernel⟩
theorem gpX1_15 : cgPF RX1 15 1 3 (.array .int) := ⟨RX1, TX1, 7, tyX1, rfl, inlX1, by decide, mw_6_17, tyX1_ok, nmX1, rfl, rfl, by decide +kernel⟩
theorem gpX1_18 : cgPF RX1 18 1 0 (.object "CoinPairs$Valley") := ⟨RX1, TX1, 7, tyX1, rfl, inlX1, by decide, mw_6_18, tyX1_ok, nmX1, rfl, rfl, by decide +kernel⟩
theorem gpX1_22 : cgPF RX1 22 1 1 (.object "CoinPairs$Now") := ⟨RX1, TX1, 7, tyX1, rfl, inlX1, by decide, mw_6_19, tyX1_ok, nmX1, rfl, rfl, by decide +kernel⟩
theorem gpX10_15 : cgPF RX10 15 10 4 (.array .int) := ⟨RX10, TX10, 17, tyX10, rfl, inlX10, by decide, mw_3_15, tyX10_ok, nmX10, rfl, rfl, by decide +kernel⟩
theorem gpX10_19 : cgPF RX10 19 10 5 (.array .int) := ⟨RX10, TX10, 17, tyX10, rfl, inlX10, by decide, mw_3_16, tyX10_ok, nmX10, rfl, rfl, by decide +kernel⟩
theorem gpX10_22 : cgPF RX10 22 10 6 (.array .int) := ⟨RX10, TX10, 17, tyX10, rfl, inlX10, by decide, mw_3_17, tyX10_ok, nmX10, rfl, rfl, by decide +kernel⟩
theorem gpX10_25 : cgPF RX10 25 10 8 (.array .int) := ⟨RX10, TX10, 17, tyX10, rfl, inlX10, by decide, mw_3_18, tyX10_ok, nmX10, rfl, rfl, by decide +kernel⟩
theorem gpX10_28 : cgPF RX10 28 10 9 (.array .int) := ⟨RX10, TX10, 17, tyX10, rfl, inlX10, by decide, mw_3_19, tyX10_ok, nmX10, rfl, rfl, by decide +kernel⟩
theorem gpX10_31 : cgPF RX10 31 10 10 (.array .int) := ⟨RX10, TX10, 17, tyX10, rfl, inlX10, by decide, mw_3_20, tyX10_ok, nmX10, rfl, rfl, by decide +kernel⟩
theorem gpX10_34 : cgPF RX10 34 10 12 (.array .int) := ⟨RX10, TX10, 17, tyX10, rfl, inlX10, by decide, mw_3_21, tyX10_ok, nmX10, rfl, rfl, by decide +kernel⟩
theorem gpX10_37 : cgPF RX10 37 10 13 (.array .int) := ⟨RX10, TX10, 17, tyX10, rfl, inlX10, by decide, mw_3_22, tyX10_ok, nmX10, rfl, rfl, by decide +kernel⟩
theorem gpX10_40 : cgPF RX10 40 10 14 (.array .int) := ⟨RX10, TX10, 17, tyX10, rfl, inlX10, by decide, mw_3_23, tyX10_ok, nmX10, rfl, rfl, by decide +kernel⟩
theorem gpX10_43 : cgPF RX10 43 10 15 (.array .int) := ⟨RX10, TX10, 17, tyX10, rfl, inlX10, by decide, mw_4_0, tyX10_ok, nmX10, rfl, rfl, by decide +kernel⟩
theorem gpX10_49 : cgPF RX10 49 10 16 (.object "CoinPairs$Laws") := ⟨RX10, TX10, 17, tyX10, rfl, inlX10, by decide, mw_4_4, tyX10_ok, nmX10, rfl, rfl, by decide +kernel⟩
theorem gpX11_10 : cgPF RX11 10 11 0 (.object "CoinPairs$Valley") := ⟨RX11, TX11, 15, tyX11, rfl, inlX11, by decide, mw_1_16, tyX11_ok, nmX11, rfl, rfl, by decide +kernel⟩
theorem gpX11_19 : cgPF RX11 19 11 1 (.object "CoinPairs$Now") := ⟨RX11, TX11, 15, tyX11, rfl, inlX11, by decide, mw_1_20, tyX11_ok, nmX11, rfl, rfl, by decide +kernel⟩
theorem gpX11_23 : cgPF RX11 23 11 2 (.object "CoinPairs$Now") := ⟨RX11, TX11, 15, tyX11, rfl, inlX11, by decide, mw_1_21, tyX11_ok, nmX11, rfl, rfl, by decide +kernel⟩
theorem gpX11_29 : cgPF RX11 29 11 3 (.object "CoinPairs$Past") := ⟨RX11, TX11, 15, tyX11, rfl, inlX11, by decide, mw_2_1, tyX11_ok, nmX11, rfl, rfl, by decide +kernel⟩
theorem gpX11_36 : cgPF RX11 36 11 4 (.object "CoinPairs$Reader") := ⟨RX11, TX11, 15, tyX11, rfl, inlX11, by decide, mw_2_5, tyX11_ok, nmX11, rfl, rfl, by decide +kernel⟩
theorem gpX11_45 : cgPF RX11 45 11 5 (.object "CoinPairs$Carriers") := ⟨RX11, TX11, 15, tyX11, rfl, inlX11, by decide, mw_2_9, tyX11_ok, nmX11, rfl, rfl, by decide +kernel⟩
theorem gpX11_54 : cgPF RX11 54 11 6 (.object "CoinPairs$Moves") := ⟨RX11, TX11, 15, tyX11, rfl, inlX11, by decide, mw_2_13, tyX11_ok, nmX11, rfl, rfl, by decide +kernel⟩
theorem gpX11_61 : cgPF RX11 61 11 7 (.object "CoinPairs$Company") := ⟨RX11, TX11, 15, tyX11, rfl, inlX11, by decide, mw_2_17, tyX11_ok, nmX11, rfl, rfl, by decide +kernel⟩
theorem gpX11_70 : cgPF RX11 70 11 8 (.object "CoinPairs$Rims") := ⟨RX11, TX11, 15, tyX11, rfl, inlX11, by decide, mw_2_21, tyX11_ok, nmX11, rfl, rfl, by decide +kernel⟩
theorem gpX11_77 : cgPF RX11 77 11 9 (.object "CoinPairs$Games") := ⟨RX11, TX11, 15, tyX11, rfl, inlX11, by decide, mw_3_1, tyX11_ok, nmX11, rfl, rfl, by decide +kernel⟩
theorem gpX11_83 : cgPF RX11 83 11 10 (.array (.object "CoinPairs$Tray")) := ⟨RX11, TX11, 15, tyX11, rfl, inlX11, by decide, mw_3_3, tyX11_ok, nmX11, rfl, rfl, by decide +kernel⟩
theorem gpX11_87 : cgPF RX11 87 11 11 (.array (.object "CoinPairs$Valley")) := ⟨RX11, TX11, 15, tyX11, rfl, inlX11, by decide, mw_3_4, tyX11_ok, nmX11, rfl, rfl, by decide +kernel⟩
theorem gpX11_91 : cgPF RX11 91 11 12 (.array (.object "CoinPairs$Now")) := ⟨RX11, TX11, 15, tyX11, rfl, inlX11, by decide, mw_3_5, tyX11_ok, nmX11, rfl, rfl, by decide +kernel⟩
theorem gpX11_95 : cgPF RX11 95 11 13 (.array .boolean) := ⟨RX11, TX11, 15, tyX11, rfl, inlX11, by decide, mw_3_7, tyX11_ok, nmX11, rfl, rfl, by decide +kernel⟩
theorem gpX12_13 : cgPF RX12 13 12 1 (.array .int) := ⟨RX12, TX12, 39, tyX12, rfl, inlX12, by decide, mw_8_2, tyX12_ok, nmX12, rfl, rfl, by decide +kernel⟩
theorem gpX12_17 : cgPF RX12 17 12 2 (.array .boolean) := ⟨RX12, TX12, 39, tyX12, rfl, inlX12, by decide, mw_8_3, tyX12_ok, nmX12, rfl, rfl, by decide +kernel⟩
theorem gpX12_21 : cgPF RX12 21 12 3 (.array .int) := ⟨RX12, TX12, 39, tyX12, rfl, inlX12, by decide, mw_8_4, tyX12_ok, nmX12, rfl, rfl, by decide +kernel⟩
theorem gpX12_24 : cgPF RX12 24 12 4 (.array .int) := ⟨RX12, TX12, 39, tyX12, rfl, inlX12, by decide, mw_8_5, tyX12_ok, nmX12, rfl, rfl, by decide +kernel⟩
theorem gpX12_30 : cgPF RX12 30 12 16 (.array .int) := ⟨RX12, TX12, 39, tyX12, rfl, inlX12, by decide, mw_8_7, tyX12_ok, nmX12, rfl, rfl, by decide +kernel⟩
theorem gpX12_33 : cgPF RX12 33 12 17 (.array .int) := ⟨RX12, TX12, 39, tyX12, rfl, inlX12, by decide, mw_8_8, tyX12_ok, nmX12, rfl, rfl, by decide +kernel⟩
theorem gpX12_36 : cgPF RX12 36 12 18 (.array .int) := ⟨RX12, TX12, 39, tyX12, rfl, inlX12, by decide, mw_8_9, tyX12_ok, nmX12, rfl, rfl, by decide +kernel⟩
theorem gpX12_39 : cgPF RX12 39 12 20 (.array .int) := ⟨RX12, TX12, 39, tyX12, rfl, inlX12, by decide, mw_8_10, tyX12_ok, nmX12, rfl, rfl, by decide +kernel⟩
theorem gpX12_42 : cgPF RX12 42 12 23 (.array .int) := ⟨RX12, TX12, 39, tyX12, rfl, inlX12, by decide, mw_8_11, tyX12_ok, nmX12, rfl, rfl, by decide +kernel⟩
theorem gpX12_45 : cgPF RX12 45 12 24 (.array .int) := ⟨RX12, TX12, 39, tyX12, rfl, inlX12, by decide, mw_8_12, tyX12_ok, nmX12, rfl, rfl, by decide +kernel⟩
theorem gpX12_48 : cgPF RX12 48 12 25 (.array .int) := ⟨RX12, TX12, 39, tyX12, rfl, inlX12, by decide, mw_8_13, tyX12_ok, nmX12, rfl, rfl, by decide +kernel⟩
theorem gpX12_51 : cgPF RX12 51 12 26 (.array .long) := ⟨RX12, TX12, 39, tyX12, rfl, inlX12, by decide, mw_8_14, tyX12_ok, nmX12, rfl, rfl, by decide +kernel⟩
theorem gpX12_55 : cgPF RX12 55 12 27 (.array .long) := ⟨RX12, TX12, 39, tyX12, rfl, inlX12, by decide, mw_8_15, tyX12_ok, nmX12, rfl, rfl, by decide +kernel⟩
theorem gpX12_58 : cgPF RX12 58 12 28 (.array .int) := ⟨RX12, TX12, 39, tyX12, rfl, inlX12, by decide, mw_8_16, tyX12_ok, nmX12, rfl, rfl, by decide +kernel⟩
theorem gpX12_61 : cgPF RX12 61 12 29 (.array .int) := ⟨RX12, TX12, 39, tyX12, rfl, inlX12, by decide, mw_8_17, tyX12_ok, nmX12, rfl, rfl, by decide +kernel⟩
theorem gpX12_64 : cgPF RX12 64 12 30 (.array .int) := ⟨RX12, TX12, 39, tyX12, rfl, inlX12, by decide, mw_8_18, tyX12_ok, nmX12, rfl, rfl, by decide +kernel⟩
theorem gpX12_67 : cgPF RX12 67 12 31 (.array .long) := ⟨RX12, TX12, 39, tyX12, rfl, inlX12, by decide, mw_8_19, tyX12_ok, nmX12, rfl, rfl, by decide +kernel⟩
theorem gpX12_70 : cgPF RX12 70 12 32 (.array .int) := ⟨RX12, TX12, 39, tyX12, rfl, inlX12, by decide, mw_8_20, tyX12_ok, nmX12, rfl, rfl, by decide +kernel⟩
theorem gpX12_73 : cgPF RX12 73 12 34 (.array .int) := ⟨RX12, TX12, 39, tyX12, rfl, inlX12, by decide, mw_8_21, tyX12_ok, nmX12, rfl, rfl, by decide +kernel⟩
theorem gpX12_76 : cgPF RX12 76 12 35 (.array .long) := ⟨RX12, TX12, 39, tyX12, rfl, inlX12, by decide, mw_8_22, tyX12_ok, nmX12, rfl, rfl, by decide +kernel⟩
theorem gpX12_79 : cgPF RX12 79 12 36 (.array .int) := ⟨RX12, TX12, 39, tyX12, rfl, inlX12, by decide, mw_8_23, tyX12_ok, nmX12, rfl, rfl, by decide +kernel⟩
theorem gpX12_82 : cgPF RX12 82 12 37 (.array .int) := ⟨RX12, TX12, 39, tyX12, rfl, inlX12, by decide, mw_9_0, tyX12_ok, nmX12, rfl, rfl, by decide +kernel⟩
theorem gpX12_85 : cgPF RX12 85 12 38 (.array .long) := ⟨RX12, TX12, 39, tyX12, rfl, inlX12, by decide, mw_9_1, tyX12_ok, nmX12, rfl, rfl, by decide +kernel⟩
theorem gpX2_9 : cgPF RX2 9 2 2 (.array .int) := ⟨RX2, TX2, 6, tyX2, rfl, inlX2, by decide, mw_7_10, tyX2_ok, nmX2, rfl, rfl, by decide +kernel⟩
theorem gpX2_15 : cgPF RX2 15 2 3 (.array .int) := ⟨RX2, TX2, 6, tyX2, rfl, inlX2, by decide, mw_7_11, tyX2_ok, nmX2, rfl, rfl, by decide +kernel⟩
theorem gpX2_18 : cgPF RX2 18 2 4 (.array .boolean) := ⟨RX2, TX2, 6, tyX2, rfl, inlX2, by decide, mw_7_12, tyX2_ok, nmX2, rfl, rfl, by decide +kernel⟩
theorem gpX2_22 : cgPF RX2 22 2 0 (.object "CoinPairs$Moves") := ⟨RX2, TX2, 6, tyX2, rfl, inlX2, by decide, mw_7_13, tyX2_ok, nmX2, rfl, rfl, by decide +kernel⟩
theorem gpX2_38 : cgPF RX2 38 2 1 (.object "CoinPairs$Valley") := ⟨RX2, TX2, 6, tyX2, rfl, inlX2, by decide, mw_7_16, tyX2_ok, nmX2, rfl, rfl, by decide +kernel⟩
theorem gpX3_9 : cgPF RX3 9 3 0 (.array .int) := ⟨RX3, TX3, 7, tyX3, rfl, inlX3, by decide, mw_4_9, tyX3_ok, nmX3, rfl, rfl, by decide +kernel⟩
theorem gpX3_15 : cgPF RX3 15 3 6 (.array .int) := ⟨RX3, TX3, 7, tyX3, rfl, inlX3, by decide, mw_4_10, tyX3_ok, nmX3, rfl, rfl, by decide +kernel⟩
theorem gpX4_9 : cgPF RX4 9 4 1 (.array .int) := ⟨RX4, TX4, 8, tyX4, rfl, inlX4, by decide, mw_6_3, tyX4_ok, nmX4, rfl, rfl, by decide +kernel⟩
theorem gpX4_15 : cgPF RX4 15 4 2 (.array .int) := ⟨RX4, TX4, 8, tyX4, rfl, inlX4, by decide, mw_6_4, tyX4_ok, nmX4, rfl, rfl, by decide +kernel⟩
theorem gpX4_18 : cgPF RX4 18 4 3 (.array .int) := ⟨RX4, TX4, 8, tyX4, rfl, inlX4, by decide, mw_6_5, tyX4_ok, nmX4, rfl, rfl, by decide +kernel⟩
theorem gpX4_21 : cgPF RX4 21 4 4 (.array .long) := ⟨RX4, TX4, 8, tyX4, rfl, inlX4, by decide, mw_6_7, tyX4_ok, nmX4, rfl, rfl, by decide +kernel⟩
theorem gpX4_25 : cgPF RX4 25 4 5 (.array .long) := ⟨RX4, TX4, 8, tyX4, rfl, inlX4, by decide, mw_6_8, tyX4_ok, nmX4, rfl, rfl, by decide +kernel⟩
theorem gpX4_28 : cgPF RX4 28 4 6 (.array .int) := ⟨RX4, TX4, 8, tyX4, rfl, inlX4, by decide, mw_6_9, tyX4_ok, nmX4, rfl, rfl, by decide +kernel⟩
theorem gpX4_31 : cgPF RX4 31 4 7 (.array .int) := ⟨RX4, TX4, 8, tyX4, rfl, inlX4, by decide, mw_6_10, tyX4_ok, nmX4, rfl, rfl, by decide +kernel⟩
theorem gpX4_34 : cgPF RX4 34 4 0 (.object "CoinPairs$Carriers") := ⟨RX4, TX4, 8, tyX4, rfl, inlX4, by decide, mw_6_11, tyX4_ok, nmX4, rfl, rfl, by decide +kernel⟩
theorem gpX5_9 : cgPF RX5 9 5 0 (.array .int) := ⟨RX5, TX5, 5, tyX5, rfl, inlX5, by decide, mw_4_23, tyX5_ok, nmX5, rfl, rfl, by decide +kernel⟩
theorem gpX5_15 : cgPF RX5 15 5 1 (.array .int) := ⟨RX5, TX5, 5, tyX5, rfl, inlX5, by decide, mw_5_0, tyX5_ok, nmX5, rfl, rfl, by decide +kernel⟩
theorem gpX5_18 : cgPF RX5 18 5 2 (.array .int) := ⟨RX5, TX5, 5, tyX5, rfl, inlX5, by decide, mw_5_1, tyX5_ok, nmX5, rfl, rfl, by decide +kernel⟩
theorem gpX6_11 : cgPF RX6 11 6 0 (.array (.object "CoinPairs$Now")) := ⟨RX6, TX6, 3, tyX6, rfl, inlX6, by decide, mw_5_7, tyX6_ok, nmX6, rfl, rfl, by decide +kernel⟩
theorem gpX7_9 : cgPF RX7 9 7 0 (.array .char) := ⟨RX7, TX7, 12, tyX7, rfl, inlX7, by decide, mw_5_12, tyX7_ok, nmX7, rfl, rfl, by decide +kernel⟩
theorem gpX7_18 : cgPF RX7 18 7 2 (.object "CoinPairs$Valley") := ⟨RX7, TX7, 12, tyX7, rfl, inlX7, by decide, mw_5_14, tyX7_ok, nmX7, rfl, rfl, by decide +kernel⟩
theorem gpX8_9 : cgPF RX8 9 8 2 (.array .long) := ⟨RX8, TX8, 5, tyX8, rfl, inlX8, by decide, mw_7_0, tyX8_ok, nmX8, rfl, rfl, by decide +kernel⟩
theorem gpX8_15 : cgPF RX8 15 8 3 (.array .int) := ⟨RX8, TX8, 5, tyX8, rfl, inlX8, by decide, mw_7_1, tyX8_ok, nmX8, rfl, rfl, by decide +kernel⟩
theorem gpX8_19 : cgPF RX8 19 8 4 (.array .long) := ⟨RX8, TX8, 5, tyX8, rfl, inlX8, by decide, mw_7_2, tyX8_ok, nmX8, rfl, rfl, by decide +kernel⟩
theorem gpX8_22 : cgPF RX8 22 8 0 (.object "CoinPairs$Moves") := ⟨RX8, TX8, 5, tyX8, rfl, inlX8, by decide, mw_7_3, tyX8_ok, nmX8, rfl, rfl, by decide +kernel⟩
theorem gpX8_32 : cgPF RX8 32 8 1 (.object "CoinPairs$Carriers") := ⟨RX8, TX8, 5, tyX8, rfl, inlX8, by decide, mw_7_5, tyX8_ok, nmX8, rfl, rfl, by decide +kernel⟩
theorem gpX9_9 : cgPF RX9 9 9 0 (.array .long) := ⟨RX9, TX9, 3, tyX9, rfl, inlX9, by decide, mw_7_20, tyX9_ok, nmX9, rfl, rfl, by decide +kernel⟩
theorem gfX2_32 : cpGF RX2 32 0 0 := ⟨RX0, TX0, 3, rfl, inlX0, by decide, mw_7_15⟩
theorem gfX8_26 : cpGF RX8 26 4 0 := ⟨RX4, TX4, 8, rfl, inlX4, by decide, mw_7_4⟩
theorem gcX3_init : cgCal yX3_init cX3_init 1 0 := ⟨mw_4_6, mw_4_3, mw_4_7, rfl, ⟨by decide, by decide, by decide⟩, by decide⟩
theorem gcX5_init : cgCal yX5_init cX5_init 1 0 := ⟨mw_4_20, mw_1_19, mw_4_21, rfl, ⟨by decide, by decide, by decide⟩, by decide⟩
theorem gcX9_init : cgCal yX9_init cX9_init 1 0 := ⟨mw_7_17, mw_3_9, mw_7_18, rfl, ⟨by decide, by decide, by decide⟩, by decide⟩
theorem gcX10_init : cgCal yX10_init cX10_init 1 0 := ⟨mw_3_10, mw_1_15, mw_3_11, rfl, ⟨by decide, by decide, by decide⟩, by decide⟩
theorem gcX7_init : cgCal yX7_init cX7_init 1 0 := ⟨mw_5_8, mw_2_4, mw_5_9, rfl, ⟨by decide, by decide, by decide⟩, by decide⟩
theorem gcX0_init : cgCal yX0_init cX0_init 3 2 := ⟨mw_5_17, mw_2_8, mw_5_18, rfl, ⟨by decide, by decide, by decide⟩, by decide⟩
theorem gcX1_init : cgCal yX1_init cX1_init 3 2 := ⟨mw_6_13, mw_2_16, mw_6_14, rfl, ⟨by decide, by decide, by decide⟩, by decide⟩
theorem gcX4_init : cgCal yX4_init cX4_init 2 1 := ⟨mw_6_0, mw_2_12, mw_6_1, rfl, ⟨by decide, by decide, by decide⟩, by decide⟩
theorem gcX6_init : cgCal yX6_init cX6_init 2 0 := ⟨mw_5_3, mw_2_0, mw_5_4, rfl, ⟨by decide, by decide, by decide⟩, by decide⟩
theorem gcX8_init : cgCal yX8_init cX8_init 2 1 := ⟨mw_6_21, mw_2_20, mw_6_22, rfl, ⟨by decide, by decide, by decide⟩, by decide⟩
theorem gcX2_init : cgCal yX2_init cX2_init 2 1 := ⟨mw_7_7, mw_3_0, mw_7_8, rfl, ⟨by decide, by decide, by decide⟩, by decide⟩
theorem gcX11_init : cgCal yX11_init cX11_init 2 0 := ⟨mw_1_8, mw_1_2, mw_1_9, rfl, ⟨by decide, by decide, by decide⟩, by decide⟩
theorem gcX12_init : cgCal yX12_init cX12_init 1 0 := ⟨mw_7_23, mw_1_5, mw_8_0, rfl, ⟨by decide, by decide, by decide⟩, by decide⟩
