theorem mw_1_0 : Cond.classLink RL 7 RX11 ∈ wsL_law := mr_1 _ (List.mem_of_getElem? (i := 0) rfl)
theorem mw_1_1 : Cond.instantiable RX11 15 ∈ wsL_law := mr_1 _ (List.mem_of_getElem? (i := 1) rfl)
theorem mw_1_3 : Cond.classLink RL 10 RX12 ∈ wsL_law := mr_1 _ (List.mem_of_getElem? (i := 3) rfl)
theorem mw_1_4 : Cond.instantiable RX12 39 ∈ wsL_law := mr_1 _ (List.mem_of_getElem? (i := 4) rfl)
theorem mw_1_7 : Cond.methodLink RL 9 yX11_init ∈ wsL_law := mr_1 _ (List.mem_of_getElem? (i := 7) rfl)
theorem mw_7_22 : Cond.methodLink RL 12 yX12_init ∈ wsL_law := mr_7 _ (List.mem_of_getElem? (i := 22) rfl)
theorem gnL_7 : cgNew RL 7 11 15 [.null, .null, .null, .null, .null, .null, .null, .null, .null, .null, .null, .null, .null, .null, .int 0] := ⟨RX11, TX11, tyX11, rfl, inlX11, tyX11_ok, mw_1_0, mw_1_1, mw_1_2, fun j hj => by
  rcases (show j = 0 ∨ j = 1 ∨ j = 2 ∨ j = 3 ∨ j = 4 ∨ j = 5 ∨ j = 6 ∨ j = 7 ∨ j = 8 ∨ j = 9 ∨ j = 10 ∨ j = 11 ∨ j = 12 ∨ j = 13 ∨ j = 14 by omega) with rfl | rfl | rfl | rfl | rfl | rfl | rfl | rfl | rfl | rfl | rfl | rfl | rfl | rfl | rfl <;> rfl⟩
theorem gnL_10 : cgNew RL 10 12 39 [.int 0, .null, .null, .null, .null, .int 0, .int 0, .int 0, .int 0, .int 0, .int 0, .int 0, .int 0, .int 0, .int 0, .int 0, .null, .null, .null, .int 0, .null, .int 0, .int 0, .null, .null, .null, .null, .null, .null, .null, .null, .null, .null, .int 0, .null, .null, .null, .null, .null] := ⟨RX12, TX12, tyX12, rfl, inlX12, tyX12_ok, mw_1_3, mw_1_4, mw_1_5, fun j hj => by
  rcases (show j = 0 ∨ j = 1 ∨ j = 2 ∨ j = 3 ∨ j = 4 ∨ j = 5 ∨ j = 6 ∨ j = 7 ∨ j = 8 ∨ j = 9 ∨ j = 10 ∨ j = 11 ∨ j = 12 ∨ j = 13 ∨ j = 14 ∨ j = 15 ∨ j = 16 ∨ j = 17 ∨ j = 18 ∨ j = 19 ∨ j = 20 ∨ j = 21 ∨ j = 22 ∨ j = 23 ∨ j = 24 ∨ j = 25 ∨ j = 26 ∨ j = 27 ∨ j = 28 ∨ j = 29 ∨ j = 30 ∨ j = 31 ∨ j = 32 ∨ j = 33 ∨ j = 34 ∨ j = 35 ∨ j = 36 ∨ j = 37 ∨ j = 38 by omega) with rfl | rfl | rfl | rfl | rfl | rfl | rfl | rfl | rfl | rfl | rfl | rfl | rfl | rfl | rfl | rfl | rfl | rfl | rfl | rfl | rfl | rfl | rfl | rfl | rfl | rfl | rfl | rfl | rfl | rfl | rfl | rfl | rfl | rfl | rfl | rfl | rfl | rfl | rfl <;> rfl⟩
section CGA
variable {p : Program} {l : Launch} {e : Env} {R : Room} {s : State} {m : MethodId} {args : Array Value} {below : List Frame} {meth : Method} {c : Code} {Q : State → Prop} {w : cpW} {A : Nat → Prop} {cc : ByteArray} {own : String} {nL : Nat}
theorem cg_astore_n (C : cgCx p s m args meth c w A cc own nL) {cells slots pc : Nat} {lv : List (Option Value)} {st : List Value} {ws : va_W} {k : Fin 4} {i x : Nat} {lv' : List (Option Value)} (hdg : decode cc pc = .ok (.astore_n k, 1)) (hi : (k : Nat) = i) (hn : i < nL) (ho : cpOk lv i = true) (hl : lv.set i (some (.ref x)) = lv') (kk : cpG p l e R s m args below meth c Q w A nL cells slots (pc + 1) lv' st ws) : cpG p l e R s m args below meth c Q w A nL cells slots pc lv (.ref x :: st) ws :=
  fun H locs ls hP hD hS hL => lv_astore_n C.1 C.2.1 hdg hi hL.has hn rfl (fun ls h => kk H locs ls hP hD hS (hl ▸ cpLv.set1 h ho))
end CGA
set_option maxRecDepth 100000 in
set_option maxHeartbeats 8000000 in
/-- THE LAW, from its entry, open in the pure part -/
theorem whole_start_open {p : Program} {e : Env} {s : State} {m : MethodId} {below : List Frame} {meth : Method} {c : Code} (l : Launch) {b L : Nat} {xs : Nat → Int32} (hL : L ≤ 3072) (C0 : lw_At p s m meth c b L xs) {Rl : cpS → Prop} (hQs : cpQs Rl) (h0 : Rl cpS0) : W p l e room_1 s m #[Value.ref b] below meth c s.heap [] 0 0 (lw_Z below #[Value.ref b] s) (entryFrame m ([Value.ref b] : List Value).toArray 4) := by
  obtain ⟨hx, hb, hr, hml, hown, hts, hX, hbl, hlocks, hgv⟩ := C0
  obtain ⟨A, hAe⟩ : ∃ A : Nat → Prop, A = (fun q => s.heap.size ≤ q) := ⟨_, rfl⟩
  have hA1 : ∀ a : Nat, a < s.heap.size → ¬ A a := fun a h h2 => by rw [hAe] at h2; exact absurd h2 (Nat.not_le.mpr h)
  have hA2 : ∀ q, s.heap.size ≤ q → A q := fun q h => by rw [hAe]; exact h
  obtain ⟨w, hK, hG⟩ := st_all (A := A) hts hgv hA1
  have hw : ∀ q ∈ wsL_law, q.before #[Value.ref b] s = true := fun q hq => hts q (wsL_in q hq)
  have C : cgCx p s m #[Value.ref b] meth c w A cL_law RL 4 := ⟨hx, hb, hml, hown, hw, hG, hA2, hlocks⟩
  have main : cpG p l e room_1 s m #[Value.ref b] below meth c (lw_Z below #[Value.ref b] s) w A 4 0 0 0 [some (.ref b), none, none, none] [] [] := by
    refine cg_new C (ws' := fun q1 => [(q1, .inr (11, [.null, .null, .null, .null, .null, .null, .null, .null, .null, .null, .null, .null, .null, .null, .int 0]))]) gnL_7 (by decide) (by decide) dL_law_0 (fun _ => rfl) (fun q1 => ?_)
    refine cg_dup C dL_law_3 rfl ?_
    refine cg_init C (As := []) (rest := [.ref q1]) (pre := [(q1, .inr (11, [.null, .null, .null, .null, .null, .null, .null, .null, .null, .null, .null, .null, .null, .null, .int 0]))]) (wr := []) (ws' := fun u => bX11n w u) gcX11_init mw_1_7 (mk_X11_init l w q1) [0] [] rfl rfl rfl rfl rfl (by decide) rfl rfl (Nat.le_of_ble_eq_true rfl) ⟨by decide, by decide⟩ ⟨by decide, by decide⟩ dL_law_4 (fun _ => rfl) (fun u hu => ?_)
    obtain rfl : q1 = u 0 := hu.symm
    refine cg_astore_n C (i := 1) (lv' := [some (.ref b), some (.ref (u 0)), none, none]) dL_law_7 rfl (by decide) rfl rfl ?_
    refine cg_new C (ws' := fun q2 => bX11n w u ++ [(q2, .inr (12, [.int 0, .null, .null, .null, .null, .int 0, .int 0, .int 0, .int 0, .int 0, .int 0, .int 0, .int 0, .int 0, .int 0, .int 0, .null, .null, .null, .int 0, .null, .int 0, .int 0, .null, .null, .null, .null, .null, .null, .null, .null, .null, .null, .int 0, .null, .null, .null, .null, .null]))]) gnL_10 (by decide) (by decide) dL_law_8 (fun _ => rfl) (fun q2 => ?_)
    refine cg_dup C dL_law_11 rfl ?_
    refine cg_initL C (As := []) (rest := [.ref q2]) (wr := bX11n w u) (ws' := fun v => bX11n w u ++ bX12n w v) gcX12_init mw_7_22 (mk_X12_init l w q2) rfl rfl rfl (Nat.le_of_ble_eq_true rfl) ⟨by decide, by decide⟩ ⟨by decide, by decide⟩ dL_law_12 (fun _ => rfl) (fun v hv => ?_)
    obtain rfl : q2 = v 0 := hv.symm
    refine cg_astore_n C (i := 2) (lv' := [some (.ref b), some (.ref (u 0)), some (.ref (v 0)), none]) dL_law_15 rfl (by decide) rfl rfl ?_
    refine cg_iconst C (v := (0 : Int32)) dL_law_16 rfl ?_
    refine cg_istore_n C (i := 3) (lv' := [some (.ref b), some (.ref (u 0)), some (.ref (v 0)), some (.int (nI 0))]) dL_law_17 rfl (by decide) rfl rfl ?_
    intro H locs ls hP hD hS hLv
    have CL : cpCL p s m meth c b L xs (cpWa w (cpAd u v)) A := ⟨hx, hb, hml, hown, hw, hK, nat_D hD, hlocks, hr, hX, hbl, hA1 b hbl, hAe, hL⟩
    exact law_loop_open CL hQs (L + 1) 0 cpS0 (by omega) (by decide) h0 H locs ls (nat_P hP) hS hLv
  have hl := lv_entry ([.ref b]) (n := 4) (Nat.le_of_ble_eq_true rfl)
  rw [lg_entry_eq]
  exact main s.heap [] _ (fun k q h => by simp at h) ⟨fun i j p q h => by simp at h, fun k q h => by simp at h⟩ va_S.rf (cpArgs_entry (as := [.ref b]) rfl hl)
