theorem cpIc (x : Int32) : (Value.int x).category = 1 := rfl
theorem cpRf_cat (o : Option Nat) : (va_rf o).category = 1 := by cases o <;> rfl
section CPT
variable {p : Program} {l : Launch} {e : Env} {R : Room} {s : State} {m : MethodId} {args : Array Value} {below : List Frame} {meth : Method} {c : Code} {Q : State → Prop} {w : cpW} {A : Nat → Prop} {cc : ByteArray} {own : String} {nL : Nat}
theorem cj_ldcS (C : cpCx p s m args meth c w A cc own nL) {pc : Nat} {lv : List (Option Value)} {st : List Value} {S : cpS} {idx i : Nat} {tx : String} (hq : (own, idx, tx, i) ∈ cpSt) (hdg : decode cc pc = .ok (.ldc idx, 2)) (kk : cpJ p l e R s m args below meth c Q w A nL (pc + 2) lv (.ref (w.2.2.2.2.1 i) :: st) S) : cpJ p l e R s m args below meth c Q w A nL pc lv st S :=
  fun H locs ls hP hS hL => va_ldcS C.1 C.2.1 C.2.2.2.1 (C.2.2.2.2.2.1.2.2.2.2.2.2.2.1 _ hq) hdg (kk H locs ls hP hS hL)
theorem cj_ldcwS (C : cpCx p s m args meth c w A cc own nL) {pc : Nat} {lv : List (Option Value)} {st : List Value} {S : cpS} {idx i : Nat} {tx : String} (hq : (own, idx, tx, i) ∈ cpSt) (hdg : decode cc pc = .ok (.ldc_w idx, 3)) (kk : cpJ p l e R s m args below meth c Q w A nL (pc + 3) lv (.ref (w.2.2.2.2.1 i) :: st) S) : cpJ p l e R s m args below meth c Q w A nL pc lv st S := fun H locs ls hP hS hL => by
  intro T hT X
  obtain ⟨t, a1, b1⟩ := kk H locs ls hP hS hL T hT X
  have hZ := C.2.2.2.2.2.1.2.2.2.2.2.2.2.1 _ hq
  exact ⟨t, X.ldcStringW C.1 C.2.2.2.1 (text := tx) (a := w.2.2.2.2.1 i) hZ.1 hZ.2 (g := F0 m pc ls st) rfl (by rw [C.2.1]; exact hdg) t a1, b1⟩
theorem cj_strV (C : cpCx p s m args meth c w A cc own nL) {pc : Nat} {lv : List (Option Value)} {st : List Value} {S : cpS} {idx i : Nat} (hi : i < 25) (hl : Cond.fieldLink own idx "java/lang/String" "value" "[B" ∈ wsL_law) (hdg : decode cc pc = .ok (.getfield idx, 3)) (kk : cpJ p l e R s m args below meth c Q w A nL (pc + 3) lv (.ref (w.2.2.2.2.2.1 i) :: st) S) : cpJ p l e R s m args below meth c Q w A nL pc lv (.ref (w.2.2.2.2.1 i) :: st) S :=
  fun H locs ls hP hS hL => vk_getf C.1 C.2.1 (C.2.2.2.2.2.1.2.2.2.2.2.2.2.2.1.1 i hi).2.2.1 hS C.2.2.2.1 (C.2.2.2.2.1 _ hl) (fun _ h => h) hdg (kk H locs ls hP hS hL)
theorem cj_strC (C : cpCx p s m args meth c w A cc own nL) {pc : Nat} {lv : List (Option Value)} {st : List Value} {S : cpS} {idx i : Nat} (hi : i < 25) (hl : Cond.fieldLink own idx "java/lang/String" "coder" "B" ∈ wsL_law) (hdg : decode cc pc = .ok (.getfield idx, 3)) (kk : cpJ p l e R s m args below meth c Q w A nL (pc + 3) lv (.int 0 :: st) S) : cpJ p l e R s m args below meth c Q w A nL pc lv (.ref (w.2.2.2.2.1 i) :: st) S :=
  fun H locs ls hP hS hL => vk_getf C.1 C.2.1 (C.2.2.2.2.2.1.2.2.2.2.2.2.2.2.1.1 i hi).2.1 hS C.2.2.2.1 (C.2.2.2.2.1 _ hl) (fun _ h => h) hdg (kk H locs ls hP hS hL)
theorem cj_byl (C : cpCx p s m args meth c w A cc own nL) {pc : Nat} {lv : List (Option Value)} {st : List Value} {S : cpS} {i : Nat} (hi : i < 25) (hdg : decode cc pc = .ok (.arraylength, 1)) (kk : cpJ p l e R s m args below meth c Q w A nL (pc + 1) lv (.int (nI (cpLen.getD i 0)) :: st) S) : cpJ p l e R s m args below meth c Q w A nL pc lv (.ref (w.2.2.2.2.2.1 i) :: st) S :=
  fun H locs ls hP hS hL => va_tlen C.1 C.2.1 (C.2.2.2.2.2.1.2.2.2.2.2.2.2.2.1.1 i hi).2.2.2 hS rfl hdg (kk H locs ls hP hS hL)
theorem cj_byt (C : cpCx p s m args meth c w A cc own nL) {pc : Nat} {lv : List (Option Value)} {st : List Value} {S : cpS} {i : Nat} {x : Int32} {ρ : Type} {a : Option ρ} {r : ρ} (hi : i < 25) (h : (if cpIn x (cpLen.getD i 0) then a else none) = some r) (hdg : decode cc pc = .ok (.baload, 1)) (kk : a = some r → cpJ p l e R s m args below meth c Q w A nL (pc + 1) lv (.int ((cpByt.getD i []).getD x.toNatClampNeg 0) :: st) S) : cpJ p l e R s m args below meth c Q w A nL pc lv (.int x :: .ref (w.2.2.2.2.2.1 i) :: st) S := fun H locs ls hP hS hL => by
  by_cases hx : cpIn x (cpLen.getD i 0) = true
  · rw [if_pos hx] at h
    exact va_tb C.1 C.2.1 (C.2.2.2.2.2.1.2.2.2.2.2.2.2.2.1.1 i hi).2.2.2 hS (cpIn_vp hx) rfl hdg (kk h H locs ls hP hS hL)
  · rw [if_neg hx] at h; cases h
theorem cj_gstC (C : cpCx p s m args meth c w A cc own nL) {pc : Nat} {lv : List (Option Value)} {st : List Value} {S : cpS} {idx : Nat} (hl : Cond.fieldLink own idx "java/lang/String" "COMPACT_STRINGS" "Z" ∈ wsL_law) (hdg : decode cc pc = .ok (.getstatic idx, 3)) (kk : cpJ p l e R s m args below meth c Q w A nL (pc + 3) lv (.int 1 :: st) S) : cpJ p l e R s m args below meth c Q w A nL pc lv st S :=
  fun H locs ls hP hS hL => va_gets C.1 C.2.1 C.2.2.2.2.2.1.2.2.2.2.2.2.2.2.2.1 hS C.2.2.2.1 (C.2.2.2.2.1 _ hl) (fun _ h => h) hdg (kk H locs ls hP hS hL)
theorem cj_gstF (C : cpCx p s m args meth c w A cc own nL) {pc : Nat} {lv : List (Option Value)} {st : List Value} {S : cpS} {idx : Nat} (hl : Cond.fieldLink own idx "jdk/internal/util/Preconditions" "SIOOBE_FORMATTER" "Ljava/util/function/BiFunction;" ∈ wsL_law) (hdg : decode cc pc = .ok (.getstatic idx, 3)) (kk : cpJ p l e R s m args below meth c Q w A nL (pc + 3) lv (va_rf w.2.2.2.2.2.2 :: st) S) : cpJ p l e R s m args below meth c Q w A nL pc lv st S :=
  fun H locs ls hP hS hL => va_gets C.1 C.2.1 C.2.2.2.2.2.1.2.2.2.2.2.2.2.2.2.2 hS C.2.2.2.1 (C.2.2.2.2.1 _ hl) (fun _ h => h) hdg (kk H locs ls hP hS hL)
end CPT
section CPU
variable {p : Program} {l : Launch} {e : Env} {dR : Nat} {s : State} {m : MethodId} {args : Array Value} {below : List Frame} {meth : Method} {c : Code} {Q : State → Prop} {w : cpW} {A : Nat → Prop} {cc : ByteArray} {own : String} {nL : Nat}
theorem cj_callTi (C : cpCx p s m args meth c w A cc own nL) {pc : Nat} {lv : List (Option Value)} {st : List Value} {S : cpS} {y : MethodName} {b : ByteArray} {mL n idx d i : Nat} {ret : Option FieldType} {As rest : List Value} {f : Option (Int32 × cpS)} {ρ : Type} {g : Int32 → cpS → Option ρ} {r : ρ} (hq : cpCal y b mL ret n) (hl : Cond.methodLink own idx y ∈ wsL_law) (hi : i < 25) (hcl : y.cls = "java/lang/String") (hst : st = As.reverse ++ .ref (w.2.2.2.2.1 i) :: rest) (hn : As.length = n) (hW : (rest.map fun v => v.category).sum ≤ 8) (hd : d + 1 ≤ dR) (hdg : decode cc pc = .ok (.invokevirtual idx, 3)) (h : cpB f g = some r) (hM : ∀ x S', f = some (x, S') → cpMi l y b mL ret d w A (.ref (w.2.2.2.2.1 i) :: As) S (x, S')) (kk : ∀ x S', g x S' = some r → cpJ p l e (cpRm dR) s m args below meth c Q w A nL (pc + 3) lv (.int x :: rest) S') : cpJ p l e (cpRm dR) s m args below meth c Q w A nL pc lv st S := fun H locs ls hP hS hL => by
  obtain ⟨x, S', hf, hg⟩ := cpB_some h
  refine va_calli (va_runV (As := As) (rest := rest) ⟨C.1, C.2.1, C.2.2.1, C.2.2.2.1, C.2.2.2.2.1⟩ (hM x S' hf) (cwV n C.2.2.2.2.1 (cpGV hq hl) rfl rfl rfl ⟨rfl, hq.2.2.2.2.1⟩ (cpRm_ok hd hq.2.2.2.2.2)) ⟨cpBlind _ w A S, by rw [hcl]; exact vk_recv C.2.2.2.2.2.1.2.2.2.2.2.2.2.2.1 hi hS, fun U hU hW => ⟨rfl, by rw [hU]; exact hP, C.2.2.2.2.2.1.call hS hU hW, C.2.2.2.2.2.2.1⟩⟩ rfl hn hL.1 hst (lv_room hW) hdg ⟨Nat.zero_le _, Nat.zero_le _⟩) hS (fun q _ h => h) (fun q h => h) (fun r u t H1 locs1 ht hvm hw hB _ _ hS1 => ?_)
  cases hw
  obtain ⟨hP1, -, -⟩ := hB
  rw [ht] at hP1
  exact kk _ _ hg H1 locs1 ls hP1 hS1 hL
end CPU
theorem cpOfWF {l : Launch} {y : MethodName} {ws ws' : List Cond} {rm : Room} {Pc : Array Value → State → Prop} {Qc : Array Value → State → Outcome → State → Prop} {mc ms : Nat} {free : Addr → Prop} {cc : ByteArray} {maxL : Nat} {ret : Option FieldType}
    (hy : plainFor y = true) (hw : ws = Cond.code y cc maxL ret :: ws')
    (body : ∀ p e s m args below meth c s₁, BodyLoose p l y (headSpec ws rm) cc maxL ret e s m args below meth c s₁ → c.maxLocals = maxL → Pc args s →
      W p l e (headSpec ws rm).room s m args below meth c s.heap [] 0 0 (MQ below Qc args s mc ms free) (entryFrame m args maxL)) : Met l y ws rm Pc Qc mc ms free := by
  refine MetFree.of_bodySF (code := cc) (maxLocals := maxL) (ret := ret) hy ?_ ?_
  · intro args s m h hn
    obtain ⟨meth, c, h1, h2, h3, h4, h5, h6, -, -⟩ := Cond.code_spec hn (atoms_spec (ws := ws) h _ (by rw [hw]; exact List.mem_cons_self))
    exact ⟨meth, c, h1, h2, h3, h4, h5, h6⟩
  · intro p e s m args below meth c s₁ B hml hP _
    have hh0 : s₁.heap = s.heap := by rw [B.state]; rfl
    obtain ⟨t, a1, o, b1, b2, b3⟩ := body p e s m args below meth c s₁ B hml hP s₁ hh0 (Stand.of_body B)
    exact ⟨t, o, a1, b1, b2, ⟨b3.1, b3.2⟩⟩
theorem cpMi.ofF {l : Launch} {y : MethodName} {b : ByteArray} {mL : Nat} {ret : Option FieldType} {d : Nat} {w : cpW} {A : Nat → Prop} {as : List Value} {S : cpS} {r : Int32 × cpS} {lv : List (Option Value)} (hy : plainFor y = true) (hlg : (lg_sl as).length ≤ mL) (hlv : cpArgs as ++ List.replicate (mL - (cpArgs as).length) none = lv)
    (body : ∀ (p : Program) (e : Env) (s : State) (m : MethodId) (args : Array Value) (below : List Frame) (meth : Method) (c : Code), cpCx p s m args meth c w A b y.cls mL → meth.sig.returnType = ret → cpJ p l e (cpRm d) s m args below meth c (MQ below (va_Qi (fun x S' => (x, S') = r) (cpWorld w A) A) args s 0 0 A) w A mL 0 lv [] S) : cpMi l y b mL ret d w A as S r := by
  refine cpOfWF (cc := b) (maxL := mL) (ret := ret) hy rfl ?_
  intro p e s m args below meth c s₁ B hml hv
  obtain ⟨rfl, hP, hK, hD⟩ := hv
  have hts := atoms_spec (ws := Cond.code y b mL ret :: wsL_law) B.pre
  rw [lg_entry_eq]
  exact body p e s m _ below meth c ⟨B.exec, B.bytes, hml, findClass_of_methodNamed B.named, fun q hq => hts q (List.mem_cons_of_mem _ hq), hK, hD, B.notSynchronized⟩ B.returns s.heap [] _ hP va_S.rf (cpArgs_entry hlv (lv_entry as hlg))
