set_option maxRecDepth 100000 in
theorem st_D {args : Array Value} {s : State} (hts : ∀ q ∈ lw_tbl, q.before args s = true) : ∃ D : va_G, ∀ (k : Nat) (q : vw_C), vwCl[k]? = some q → u_Kn s q.1 q.2.1 q.2.2 (D.1 k) (D.2 k) := by
  obtain ⟨c0, i0, k0⟩ := u_known (C := RX0) (T := TX0) (N := 3) (n := 3) hts wC_0 (hts (.instantiable RX0 3) (tI_2 _ (List.mem_of_getElem? (i := 37) rfl)))
  obtain ⟨c1, i1, k1⟩ := u_known (C := RX1) (T := TX1) (N := 7) (n := 7) hts wC_1 (hts (.instantiable RX1 7) (tI_2 _ (List.mem_of_getElem? (i := 92) rfl)))
  obtain ⟨c2, i2, k2⟩ := u_known (C := RX2) (T := TX2) (N := 6) (n := 6) hts wC_2 (hts (.instantiable RX2 6) (tI_2 _ (List.mem_of_getElem? (i := 147) rfl)))
  obtain ⟨c3, i3, k3⟩ := u_known (C := RX3) (T := TX3) (N := 7) (n := 7) hts wC_3 (hts (.instantiable RX3 7) (tI_1 _ (List.mem_of_getElem? (i := 38) rfl)))
  obtain ⟨c4, i4, k4⟩ := u_known (C := RX4) (T := TX4) (N := 8) (n := 8) hts wC_4 (hts (.instantiable RX4 8) (tI_2 _ (List.mem_of_getElem? (i := 57) rfl)))
  obtain ⟨c5, i5, k5⟩ := u_known (C := RX5) (T := TX5) (N := 5) (n := 5) hts wC_5 (hts (.instantiable RX5 5) (tI_1 _ (List.mem_of_getElem? (i := 174) rfl)))
  obtain ⟨c6, i6, k6⟩ := u_known (C := RX6) (T := TX6) (N := 3) (n := 3) hts wC_6 (hts (.instantiable RX6 3) (tI_1 _ (List.mem_of_getElem? (i := 207) rfl)))
  obtain ⟨c7, i7, k7⟩ := u_known (C := RX7) (T := TX7) (N := 12) (n := 12) hts wC_7 (hts (.instantiable RX7 12) (tI_1 _ (List.mem_of_getElem? (i := 227) rfl)))
  obtain ⟨c8, i8, k8⟩ := u_known (C := RX8) (T := TX8) (N := 5) (n := 5) hts wC_8 (hts (.instantiable RX8 5) (tI_2 _ (List.mem_of_getElem? (i := 125) rfl)))
  obtain ⟨c9, i9, k9⟩ := u_known (C := RX9) (T := TX9) (N := 3) (n := 3) hts wC_9 (hts (.instantiable RX9 3) (tI_2 _ (List.mem_of_getElem? (i := 175) rfl)))
  obtain ⟨c10, i10, k10⟩ := u_known (C := RX10) (T := TX10) (N := 17) (n := 17) hts wC_10 (hts (.instantiable RX10 17) (tI_1 _ (List.mem_of_getElem? (i := 32) rfl)))
  obtain ⟨c11, i11, k11⟩ := u_known (C := RX11) (T := TX11) (N := 15) (n := 15) hts wC_11 (hts (.instantiable RX11 15) (tI_1 _ (List.mem_of_getElem? (i := 24) rfl)))
  obtain ⟨c12, i12, k12⟩ := u_known (C := RX12) (T := TX12) (N := 39) (n := 39) hts wC_12 (hts (.instantiable RX12 39) (tI_7 _ (List.mem_of_getElem? (i := 20) rfl)))
  refine ⟨(fun k => ([c0, c1, c2, c3, c4, c5, c6, c7, c8, c9, c10, c11, c12] : List ClassId).getD k c0, fun k => ([i0, i1, i2, i3, i4, i5, i6, i7, i8, i9, i10, i11, i12] : List (Nat → Nat)).getD k i0), ?_⟩
  intro k q hq
  match k, hq with
  | 0, hq => cases hq; exact k0
  | 1, hq => cases hq; exact k1
  | 2, hq => cases hq; exact k2
  | 3, hq => cases hq; exact k3
  | 4, hq => cases hq; exact k4
  | 5, hq => cases hq; exact k5
  | 6, hq => cases hq; exact k6
  | 7, hq => cases hq; exact k7
  | 8, hq => cases hq; exact k8
  | 9, hq => cases hq; exact k9
  | 10, hq => cases hq; exact k10
  | 11, hq => cases hq; exact k11
  | 12, hq => cases hq; exact k12
  | k + 13, hq => simp [vwCl] at hq
theorem st_A {args : Array Value} {s : State} {ty : FieldType} (h : (Cond.arrayClass ty).before args s = true) (hp : refKind ty = false) : ∃ cA : ClassId, ArrOfT s cA ty ∧ s.vm.findClass ("[" ++ ty.toString) = some cA := by
  obtain ⟨c, k, comp, h1, h2, h3⟩ := Cond.arrayClass_spec (args := args) (first := s) (o := none) (s := s) (idx := []) h
  exact ⟨c, fun n z => ⟨fun k h => (by cases h), k, h2, comp, h3⟩, h1⟩
theorem st_Q {args : Array Value} {s : State} {C : String} (h : (Cond.arrayOver (.object C)).before args s = true) : ∃ cA : ClassId, ArrOfT s cA (.object C) ∧ va_RA s cA (.object C) := by
  obtain ⟨comp, c, k, h1, h2, h3, h4, h5⟩ := Cond.arrayOver_spec (args := args) (first := s) (o := none) (s := s) (idx := []) h
  exact ⟨c, fun n z => ⟨fun k h => (by cases h), k, h3, comp, h4⟩, k, comp, h3, h4, h1, h5⟩
set_option maxRecDepth 100000 in
set_option maxHeartbeats 4000000 in
theorem st_all {b : Nat} {s : State} {A : Nat → Prop} (hts : ∀ q ∈ lw_tbl, q.before #[Value.ref b] s = true) (hgv : cpGn.before #[Value.ref b] s = true) (hA : ∀ a : Nat, a < s.heap.size → ¬ A a) : ∃ w : cpW, cpKn w A s ∧ cgKn w s := by
  obtain ⟨D, hD⟩ := st_D hts
  obtain ⟨a1, x1, y1⟩ := st_A (ty := .int) (hts _ (tI_1 _ (List.mem_of_getElem? (i := 69) rfl))) rfl
  obtain ⟨a2, x2, y2⟩ := st_A (ty := .char) (hts _ (tI_2 _ (List.mem_of_getElem? (i := 35) rfl))) rfl
  obtain ⟨a3, x3, y3⟩ := st_A (ty := .boolean) (hts _ (tI_2 _ (List.mem_of_getElem? (i := 171) rfl))) rfl
  obtain ⟨a4, x4, y4⟩ := st_A (ty := .long) (hts _ (tI_2 _ (List.mem_of_getElem? (i := 90) rfl))) rfl
  obtain ⟨a5, x5, y5⟩ := st_Q (C := "CoinPairs$Now") (hts _ (tI_1 _ (List.mem_of_getElem? (i := 213) rfl)))
  obtain ⟨a6, x6, y6⟩ := st_Q (C := "CoinPairs$Tray") (hts _ (tI_2 _ (List.mem_of_getElem? (i := 173) rfl)))
  obtain ⟨a7, x7, y7⟩ := st_Q (C := "CoinPairs$Valley") (hts _ (tI_2 _ (List.mem_of_getElem? (i := 174) rfl)))
  obtain ⟨adK, adV, hS, hK⟩ := cs_S hgv hA
  obtain ⟨t0, e0, z0⟩ := ct_l hgv hA
  obtain ⟨t1, e1, z1⟩ := ct_o hgv hA
  have f0 := va_Zref (A := A) (hts (.laysStatic "CoinPairs" "LESSER_ONE" "[I") (tI_4 _ (List.mem_of_getElem? (i := 180) rfl))) (hts (.initialized "CoinPairs") (tI_1 _ (List.mem_of_getElem? (i := 1) rfl))) e0 hA
  have f1 := va_Zref (A := A) (hts (.laysStatic "CoinPairs" "OTHER_ONE" "[I") (tI_4 _ (List.mem_of_getElem? (i := 182) rfl))) (hts (.initialized "CoinPairs") (tI_1 _ (List.mem_of_getElem? (i := 1) rfl))) e1 hA
  have f2 := va_Zof (A := A) (hts (.laysStatic "java/lang/String" "COMPACT_STRINGS" "Z") (tI_3 _ (List.mem_of_getElem? (i := 44) rfl))) (hts (.initialized "java/lang/String") (tI_1 _ (List.mem_of_getElem? (i := 15) rfl))) (va_eqt (z := 1) (gB (gB (gA (gA (gA (gA (gA (gA (gA (gB hgv))))))))))) hA
  have f3 := va_Zqof (A := A) (hts (.laysStatic "jdk/internal/util/Preconditions" "SIOOBE_FORMATTER" "Ljava/util/function/BiFunction;") (tI_3 _ (List.mem_of_getElem? (i := 87) rfl))) (hts (.initialized "jdk/internal/util/Preconditions") (tI_1 _ (List.mem_of_getElem? (i := 19) rfl))) (gA (gA (gB (gA (gA (gA (gA (gA (gA (gB hgv)))))))))) hA
  obtain ⟨fm, f4⟩ : ∃ fm : Option Nat, va_Z "jdk/internal/util/Preconditions" "SIOOBE_FORMATTER" "Ljava/util/function/BiFunction;" (va_rf fm) A s s.heap := by
    rcases f3 with h | ⟨t, h⟩
    · exact ⟨none, h⟩
    · exact ⟨some t, h⟩
  have hKn : va_K D vwCl (cpTys (D, (fun _ => 0), (fun k => ([a1, a1, a2, a3, a4, a5, a6, a7] : List ClassId).getD k a1), (fun k => if k = 0 then t0 else t1), adK, adV, fm)) s := by
    refine ⟨hD, fun k q hq => ?_⟩
    match k, hq with
    | 0, hq => cases hq; exact ⟨x1, y1⟩
    | 1, hq => cases hq; exact ⟨x1, y1⟩
    | 2, hq => cases hq; exact ⟨x2, y2⟩
    | 3, hq => cases hq; exact ⟨x3, y3⟩
    | 4, hq => cases hq; exact ⟨x4, y4⟩
    | 5, hq => cases hq; exact ⟨x5, y5⟩
    | 6, hq => cases hq; exact ⟨x6, y6⟩
    | 7, hq => cases hq; exact ⟨x7, y7⟩
    | k + 8, hq => simp [cpTys] at hq
  refine ⟨(D, (fun _ => 0), (fun k => ([a1, a1, a2, a3, a4, a5, a6, a7] : List ClassId).getD k a1), (fun k => if k = 0 then t0 else t1), adK, adV, fm), ⟨hKn, ?_, ?_, f0, f1, z0, z1, ?_, hS, f2, f4⟩, hKn, ?_, va_AO.of (hts _ (tI_1 _ (List.mem_of_getElem? (i := 213) rfl))), va_AO.of (hts _ (tI_2 _ (List.mem_of_getElem? (i := 173) rfl))), va_AO.of (hts _ (tI_2 _ (List.mem_of_getElem? (i := 174) rfl)))⟩
  · have hm : ∀ q ∈ cpNM, Cond.methodLinkNest q.1 q.2.1 q.2.2.1 q.2.2.2 ∈ lw_tbl := (List.forall_mem_cons.mpr ⟨(tI_6 _ (List.mem_of_getElem? (i := 108) rfl)), (List.forall_mem_cons.mpr ⟨(tI_6 _ (List.mem_of_getElem? (i := 95) rfl)), (List.forall_mem_cons.mpr ⟨(tI_4 _ (List.mem_of_getElem? (i := 140) rfl)), (List.forall_mem_cons.mpr ⟨(tI_5 _ (List.mem_of_getElem? (i := 118) rfl)), (List.forall_mem_cons.mpr ⟨(tI_5 _ (List.mem_of_getElem? (i := 95) rfl)), (List.forall_mem_cons.mpr ⟨(tI_6 _ (List.mem_of_getElem? (i := 159) rfl)), (List.forall_mem_cons.mpr ⟨(tI_5 _ (List.mem_of_getElem? (i := 169) rfl)), (fun _ h => absurd h List.not_mem_nil)⟩)⟩)⟩)⟩)⟩)⟩)⟩)
    exact fun q hq => va_Nw.of rfl (hts _ (hm q hq))
  · have hm : ∀ q ∈ cpNF, Cond.fieldLinkNest q.1 q.2.1 "CoinPairs" q.2.2 "[I" "CoinPairs" ∈ lw_tbl := (List.forall_mem_cons.mpr ⟨(tI_6 _ (List.mem_of_getElem? (i := 94) rfl)), (List.forall_mem_cons.mpr ⟨(tI_6 _ (List.mem_of_getElem? (i := 93) rfl)), (List.forall_mem_cons.mpr ⟨(tI_5 _ (List.mem_of_getElem? (i := 66) rfl)), (List.forall_mem_cons.mpr ⟨(tI_5 _ (List.mem_of_getElem? (i := 64) rfl)), (List.forall_mem_cons.mpr ⟨(tI_6 _ (List.mem_of_getElem? (i := 189) rfl)), (List.forall_mem_cons.mpr ⟨(tI_6 _ (List.mem_of_getElem? (i := 188) rfl)), (fun _ h => absurd h List.not_mem_nil)⟩)⟩)⟩)⟩)⟩)⟩)
    exact fun q hq => va_Nw.of rfl (hts _ (hm q hq))
  · have hm : ∀ q ∈ cpSt, Cond.stringRef q.1 q.2.1 q.2.2.1 ∈ lw_tbl := (List.forall_mem_cons.mpr ⟨(tI_3 _ (List.mem_of_getElem? (i := 30) rfl)), (List.forall_mem_cons.mpr ⟨(tI_3 _ (List.mem_of_getElem? (i := 121) rfl)), (List.forall_mem_cons.mpr ⟨(tI_3 _ (List.mem_of_getElem? (i := 155) rfl)), (List.forall_mem_cons.mpr ⟨(tI_3 _ (List.mem_of_getElem? (i := 160) rfl)), (List.forall_mem_cons.mpr ⟨(tI_3 _ (List.mem_of_getElem? (i := 177) rfl)), (List.forall_mem_cons.mpr ⟨(tI_3 _ (List.mem_of_getElem? (i := 182) rfl)), (List.forall_mem_cons.mpr ⟨(tI_3 _ (List.mem_of_getElem? (i := 183) rfl)), (List.forall_mem_cons.mpr ⟨(tI_3 _ (List.mem_of_getElem? (i := 188) rfl)), (List.forall_mem_cons.mpr ⟨(tI_3 _ (List.mem_of_getElem? (i := 189) rfl)), (List.forall_mem_cons.mpr ⟨(tI_3 _ (List.mem_of_getElem? (i := 190) rfl)), (List.forall_mem_cons.mpr ⟨(tI_3 _ (List.mem_of_getElem? (i := 195) rfl)), (List.forall_mem_cons.mpr ⟨(tI_3 _ (List.mem_of_getElem? (i := 200) rfl)), (List.forall_mem_cons.mpr ⟨(tI_3 _ (List.mem_of_getElem? (i := 201) rfl)), (List.forall_mem_cons.mpr ⟨(tI_3 _ (List.mem_of_getElem? (i := 202) rfl)), (List.forall_mem_cons.mpr ⟨(tI_3 _ (List.mem_of_getElem? (i := 223) rfl)), (List.forall_mem_cons.mpr ⟨(tI_4 _ (List.mem_of_getElem? (i := 8) rfl)), (List.forall_mem_cons.mpr ⟨(tI_4 _ (List.mem_of_getElem? (i := 13) rfl)), (List.forall_mem_cons.mpr ⟨(tI_4 _ (List.mem_of_getElem? (i := 14) rfl)), (List.forall_mem_cons.mpr ⟨(tI_4 _ (List.mem_of_getElem? (i := 15) rfl)), (List.forall_mem_cons.mpr ⟨(tI_4 _ (List.mem_of_getElem? (i := 20) rfl)), (List.forall_mem_cons.mpr ⟨(tI_4 _ (List.mem_of_getElem? (i := 21) rfl)), (List.forall_mem_cons.mpr ⟨(tI_4 _ (List.mem_of_getElem? (i := 22) rfl)), (List.forall_mem_cons.mpr ⟨(tI_4 _ (List.mem_of_getElem? (i := 23) rfl)), (List.forall_mem_cons.mpr ⟨(tI_4 _ (List.mem_of_getElem? (i := 28) rfl)), (List.forall_mem_cons.mpr ⟨(tI_7 _ (List.mem_of_getElem? (i := 172) rfl)), (List.forall_mem_cons.mpr ⟨(tI_7 _ (List.mem_of_getElem? (i := 178) rfl)), (fun _ h => absurd h List.not_mem_nil)⟩)⟩)⟩)⟩)⟩)⟩)⟩)⟩)⟩)⟩)⟩)⟩)⟩)⟩)⟩)⟩)⟩)⟩)⟩)⟩)⟩)⟩)⟩)⟩)⟩)⟩)
    have hx : ∀ q ∈ cpSt, q.2.2.2 < 25 ∧ (cpTm q.2.2.2 = Term.string q.1 q.2.1 ∨ (q.1 = "CoinPairsModel" ∧ q.2.1 = 136 ∧ q.2.2.2 = 0)) := by decide +kernel
    intro q hq
    obtain ⟨h25, h | ⟨h1, h2, h3⟩⟩ := hx q hq
    · exact vk_R.of (hts _ (hm q hq)) (by rw [← h]; exact hK _ h25)
    · refine vk_R.of (hts _ (hm q hq)) ?_
      rw [h1, h2, h3]
      exact va_eqR (t := .string "CoinPairs$Reader" 259) (gB (gA (gB (gB (gB (gB (gB (gB (gB (gB hgv)))))))))) (hK 0 (by decide))
  · have hm : ∀ q ∈ cgNM, Cond.methodLinkNest q.1 q.2.1 q.2.2.1 q.2.2.2 ∈ lw_tbl := (List.forall_mem_cons.mpr ⟨(tI_1 _ (List.mem_of_getElem? (i := 33) rfl)), (List.forall_mem_cons.mpr ⟨(tI_1 _ (List.mem_of_getElem? (i := 175) rfl)), (List.forall_mem_cons.mpr ⟨(tI_1 _ (List.mem_of_getElem? (i := 214) rfl)), (List.forall_mem_cons.mpr ⟨(tI_1 _ (List.mem_of_getElem? (i := 228) rfl)), (List.forall_mem_cons.mpr ⟨(tI_1 _ (List.mem_of_getElem? (i := 233) rfl)), (List.forall_mem_cons.mpr ⟨(tI_2 _ (List.mem_of_getElem? (i := 176) rfl)), (fun _ h => absurd h List.not_mem_nil)⟩)⟩)⟩)⟩)⟩)⟩)
    exact fun q hq => va_Nw.of rfl (hts _ (hm q hq))
