section CPV
variable {p : Program} {l : Launch} {e : Env} {s : State} {m : MethodId} {args : Array Value} {below : List Frame} {meth : Method} {c : Code} {w : cpW} {A : Nat → Prop}
/-! X11_rows -/
def fX11_rows (x1 : Int32) (x2 : Int32) (x3 : Int32) (S : cpS) : Option (Int64 × cpS) :=
    cpB (fX11_coinAndPlace x1 x2 S) fun z1 S2 =>
    if z1 = 0 then (
    some ((-2 : Int64), S2)) else (
    if x3 < 0 then (
    some ((-3 : Int64), S2)) else (
    if x3 ≤ (8 : Int32) then (
    cpB (fX4_learn x1 (0 : Int32) S2) fun _ S4 =>
    if cpIn x1 4 then (
    cpB (fX4_rowsOf (S4.1 58 x1.toNatClampNeg) x2 x3 S4) fun z5 S6 =>
    some (z5, S6)) else none) else (
    some ((-3 : Int64), S2))))
set_option maxRecDepth 100000 in
set_option maxHeartbeats 4000000 in
theorem m_X11_rows (l : Launch) (w : cpW) (A : Nat → Prop) (x1 : Int32) (x2 : Int32) (x3 : Int32) (S : cpS) (r : Int64 × cpS) (h : fX11_rows x1 x2 x3 S = some r) : cpMl l yX11_rows cX11_rows 4 ((some .long)) 6 w A [.ref (w.2.1 0), .int x1, .int x2, .int x3] S r := by
  refine cpMl.of (lv := [some (.ref (w.2.1 0)), some (.int x1), some (.int x2), some (.int x3)]) (by decide) (Nat.le_of_ble_eq_true rfl) rfl (fun p e s m args below meth c C hr => ?_)
  replace C : cpCx p s m args meth c w A cX11_rows RX11 4 := C
  rw [fX11_rows] at h
  refine cj_aload_n C (i := 0) dX11_rows_0 rfl rfl ?_
  refine cj_iload_n C (i := 1) dX11_rows_1 rfl rfl ?_
  refine cj_iload_n C (i := 2) dX11_rows_2 rfl rfl ?_
  refine cj_callVi C (As := [.int x1, .int x2]) (rest := []) qX11_coinAndPlace mw_38_7 o_0 rfl rfl rfl (Nat.le_of_ble_eq_true rfl) (by decide) dX11_rows_3 h (fun _ _ hf => m_X11_coinAndPlace l w A x1 x2 S _ hf) (fun z1 S2 h => ?_)
  refine cj_if_ne C (tgt := 13) dX11_rows_6 rfl h (fun _ h => ?_) (fun _ h => ?_)
  · refine cj_ldc2 C (v := (-2 : Int64)) mw_51_5 dX11_rows_9 ?_
    exact cj_lreturn C hr h dX11_rows_12
  · refine cj_iload_n C (i := 3) dX11_rows_13 rfl rfl ?_
    refine cj_if_lt C (tgt := 23) dX11_rows_14 rfl h (fun _ h => ?_) (fun _ h => ?_)
    · refine cj_ldc2 C (v := (-3 : Int64)) mw_51_6 dX11_rows_23 ?_
      exact cj_lreturn C hr h dX11_rows_26
    · refine cj_iload_n C (i := 3) dX11_rows_17 rfl rfl ?_
      refine cj_bipush C (v := (8 : Int32)) dX11_rows_18 rfl ?_
      refine cj_icmp_le C (tgt := 27) dX11_rows_20 rfl h (fun _ h => ?_) (fun _ h => ?_)
      · refine cj_aload_n C (i := 0) dX11_rows_27 rfl rfl ?_
        refine cj_getR C (d := 119) o_0 rfl gfX11_54 dX11_rows_28 ?_
        refine cj_iload_n C (i := 1) dX11_rows_31 rfl rfl ?_
        refine cj_iconst C (v := (0 : Int32)) dX11_rows_32 rfl ?_
        refine cj_callVv C (As := [.int x1, .int (0 : Int32)]) (rest := []) qX4_learn mw_47_16 o_119 rfl rfl rfl (Nat.le_of_ble_eq_true rfl) (by decide) dX11_rows_33 h (fun _ _ hf => m_X4_learn l w A x1 (0 : Int32) S2 _ hf) (fun z3 S4 h => ?_)
        refine cj_aload_n C (i := 0) dX11_rows_36 rfl rfl ?_
        refine cj_getR C (d := 119) o_0 rfl gfX11_54 dX11_rows_37 ?_
        refine cj_aload_n C (i := 0) dX11_rows_40 rfl rfl ?_
        refine cj_getR C (d := 57) o_0 rfl gfX11_19 dX11_rows_41 ?_
        refine cj_getR C (d := 58) o_57 rfl gfX11_150 dX11_rows_44 ?_
        refine cj_iload_n C (i := 1) dX11_rows_47 rfl rfl ?_
        refine cj_iaload C o_58 h dX11_rows_48 (fun h => ?_)
        refine cj_iload_n C (i := 2) dX11_rows_49 rfl rfl ?_
        refine cj_iload_n C (i := 3) dX11_rows_50 rfl rfl ?_
        refine cj_callVl C (As := [.int (S4.1 58 x1.toNatClampNeg), .int x2, .int x3]) (rest := []) qX4_rowsOf mw_51_7 o_119 rfl rfl rfl (Nat.le_of_ble_eq_true rfl) (by decide) dX11_rows_51 h (fun _ _ hf => m_X4_rowsOf l w A (S4.1 58 x1.toNatClampNeg) x2 x3 S4 _ hf) (fun z5 S6 h => ?_)
        exact cj_lreturn C hr h dX11_rows_54
      · refine cj_ldc2 C (v := (-3 : Int64)) mw_51_6 dX11_rows_23 ?_
        exact cj_lreturn C hr h dX11_rows_26
/-! X11_reach -/
def fX11_reach (x1 : Int32) (S : cpS) : Option (Int32 × cpS) :=
    cpB (fX10_hasCoin 1 x1 S) fun z1 S2 =>
    if z1 = 0 then (
    some ((-2 : Int32), S2)) else (
    cpB (fX4_learn x1 (0 : Int32) S2) fun _ S4 =>
    if cpIn x1 4 then (
    cpB (fX4_reachedFrom (S4.1 58 x1.toNatClampNeg) S4) fun z5 S6 =>
    some (z5, S6)) else none)
set_option maxRecDepth 100000 in
set_option maxHeartbeats 4000000 in
theorem m_X11_reach (l : Launch) (w : cpW) (A : Nat → Prop) (x1 : Int32) (S : cpS) (r : Int32 × cpS) (h : fX11_reach x1 S = some r) : cpMi l yX11_reach cX11_reach 2 ((some .int)) 6 w A [.ref (w.2.1 0), .int x1] S r := by
  refine cpMi.of (lv := [some (.ref (w.2.1 0)), some (.int x1)]) (by decide) (Nat.le_of_ble_eq_true rfl) rfl (fun p e s m args below meth c C hr => ?_)
  replace C : cpCx p s m args meth c w A cX11_reach RX11 2 := C
  rw [fX11_reach] at h
  refine cj_aload_n C (i := 0) dX11_reach_0 rfl rfl ?_
  refine cj_getR C (d := 1) o_0 rfl gfX11_10 dX11_reach_1 ?_
  refine cj_iload_n C (i := 1) dX11_reach_4 rfl rfl ?_
  refine cj_callVi C (As := [.int x1]) (rest := []) qX10_hasCoin mw_30_1 o_1 rfl rfl rfl (Nat.le_of_ble_eq_true rfl) (by decide) dX11_reach_5 h (fun _ _ hf => m_X10_hasCoin l w A kVy_1 x1 S _ hf) (fun z1 S2 h => ?_)
  refine cj_if_ne C (tgt := 14) dX11_reach_8 rfl h (fun _ h => ?_) (fun _ h => ?_)
  · refine cj_bipush C (v := (-2 : Int32)) dX11_reach_11 rfl ?_
    exact cj_ireturn C hr h dX11_reach_13
  · refine cj_aload_n C (i := 0) dX11_reach_14 rfl rfl ?_
    refine cj_getR C (d := 119) o_0 rfl gfX11_54 dX11_reach_15 ?_
    refine cj_iload_n C (i := 1) dX11_reach_18 rfl rfl ?_
    refine cj_iconst C (v := (0 : Int32)) dX11_reach_19 rfl ?_
    refine cj_callVv C (As := [.int x1, .int (0 : Int32)]) (rest := []) qX4_learn mw_47_16 o_119 rfl rfl rfl (Nat.le_of_ble_eq_true rfl) (by decide) dX11_reach_20 h (fun _ _ hf => m_X4_learn l w A x1 (0 : Int32) S2 _ hf) (fun z3 S4 h => ?_)
    refine cj_aload_n C (i := 0) dX11_reach_23 rfl rfl ?_
    refine cj_getR C (d := 119) o_0 rfl gfX11_54 dX11_reach_24 ?_
    refine cj_aload_n C (i := 0) dX11_reach_27 rfl rfl ?_
    refine cj_getR C (d := 57) o_0 rfl gfX11_19 dX11_reach_28 ?_
    refine cj_getR C (d := 58) o_57 rfl gfX11_150 dX11_reach_31 ?_
    refine cj_iload_n C (i := 1) dX11_reach_34 rfl rfl ?_
    refine cj_iaload C o_58 h dX11_reach_35 (fun h => ?_)
    refine cj_callVi C (As := [.int (S4.1 58 x1.toNatClampNeg)]) (rest := []) qX4_reachedFrom mw_52_2 o_119 rfl rfl rfl (Nat.le_of_ble_eq_true rfl) (by decide) dX11_reach_36 h (fun _ _ hf => m_X4_reachedFrom l w A (S4.1 58 x1.toNatClampNeg) S4 _ hf) (fun z5 S6 h => ?_)
    exact cj_ireturn C hr h dX11_reach_39
/-! X11_pays -/
def fX11_pays_60 (x3 : Int32) (s0 : Int32) (s1 : Int32) (S : cpS) : Option (Int32 × cpS) :=
    cpB (fX4_leastPaying s1 s0 S) fun z1 S2 =>
    if z1 = (-1 : Int32) then (
    some ((-1 : Int32), S2)) else (
    if (cpRem x3 (2 : Int32)) = 0 then (
    cpB (fX4_carryingsFor z1 S2) fun z3 S4 =>
    some (z3, S4)) else (
    some (z1, S2)))
set_option maxRecDepth 100000 in
set_option maxHeartbeats 4000000 in
theorem wX11_pays_60 (C : cpCx p s m args meth c w A cX11_pays RX11 5) (hr : meth.sig.returnType = (some .int)) {r : Int32 × cpS} (x3 : Int32) (s0 : Int32) (s1 : Int32) (S : cpS) (h : fX11_pays_60 x3 s0 s1 S = some r) : cpJ p l e (cpRm 7) s m args below meth c (MQ below (va_Qi (fun x S' => (x, S') = r) (cpWorld w A) A) args s 0 0 A) w A 5 60 [some (.ref (w.2.1 0)), none, none, some (.int x3), none] [.int s0, .int s1, .ref (w.2.1 119)] S := by
  rw [fX11_pays_60] at h
  refine cj_callVi C (As := [.int s1, .int s0]) (rest := []) qX4_leastPaying mw_53_2 o_119 rfl rfl rfl (Nat.le_of_ble_eq_true rfl) (by decide) dX11_pays_60 h (fun _ _ hf => m_X4_leastPaying l w A s1 s0 S _ hf) (fun z1 S2 h => ?_)
  refine cj_istore C (lv' := [some (.ref (w.2.1 0)), none, none, some (.int x3), some (.int z1)]) dX11_pays_63 (by decide) rfl rfl ?_
  refine cj_iload C dX11_pays_65 rfl ?_
  refine cj_iconst C (v := (-1 : Int32)) dX11_pays_67 rfl ?_
  refine cj_icmp_ne C (tgt := 73) dX11_pays_68 rfl h (fun _ h => ?_) (fun _ h => ?_)
  · refine cj_iconst C (v := (-1 : Int32)) dX11_pays_71 rfl ?_
    exact cj_ireturn C hr h dX11_pays_72
  · refine cj_iload_n C (i := 3) dX11_pays_73 rfl rfl ?_
    refine cj_iconst C (v := (2 : Int32)) dX11_pays_74 rfl ?_
    refine ck_irem C dX11_pays_75 (by decide) ?_
    refine cj_if_ne C (tgt := 91) dX11_pays_76 rfl h (fun _ h => ?_) (fun _ h => ?_)
    · refine cj_aload_n C (i := 0) dX11_pays_79 rfl rfl ?_
      refine cj_getR C (d := 119) o_0 rfl gfX11_54 dX11_pays_80 ?_
      refine cj_iload C dX11_pays_83 rfl ?_
      refine cj_callVi C (As := [.int z1]) (rest := []) qX4_carryingsFor mw_53_15 o_119 rfl rfl rfl (Nat.le_of_ble_eq_true rfl) (by decide) dX11_pays_85 h (fun _ _ hf => m_X4_carryingsFor l w A z1 S2 _ hf) (fun z3 S4 h => ?_)
      refine cj_goto C (tgt := 93) dX11_pays_88 rfl ?_
      exact cj_ireturn C hr h dX11_pays_93
    · refine cj_iload C dX11_pays_91 rfl ?_
      exact cj_ireturn C hr h dX11_pays_93
def fX11_pays (x1 : Int32) (x2 : Int32) (x3 : Int32) (S : cpS) : Option (Int32 × cpS) :=
    cpB (fX10_hasPlace 1 x1 S) fun z1 S2 =>
    if z1 = 0 then (
    some ((-2 : Int32), S2)) else (
    if x3 < 0 then (
    some ((-2 : Int32), S2)) else (
    if x3 ≤ (3 : Int32) then (
    if x2 < 0 then (
    some ((-3 : Int32), S2)) else (
    if x2 ≤ (999 : Int32) then (
    cpB (fX4_learnPaying x1 S2) fun _ S4 =>
    if x3 < (2 : Int32) then (
    fX11_pays_60 x3 (0 : Int32) x2 S4) else (
    fX11_pays_60 x3 (1 : Int32) x2 S4)) else (
    some ((-3 : Int32), S2)))) else (
    some ((-2 : Int32), S2))))
set_option maxRecDepth 100000 in
set_option maxHeartbeats 4000000 in
theorem m_X11_pays (l : Launch) (w : cpW) (A : Nat → Prop) (x1 : Int32) (x2 : Int32) (x3 : Int32) (S : cpS) (r : Int32 × cpS) (h : fX11_pays x1 x2 x3 S = some r) : cpMi l yX11_pays cX11_pays 5 ((some .int)) 7 w A [.ref (w.2.1 0), .int x1, .int x2, .int x3] S r := by
  refine cpMi.of (lv := [some (.ref (w.2.1 0)), some (.int x1), some (.int x2), some (.int x3), none]) (by decide) (Nat.le_of_ble_eq_true rfl) rfl (fun p e s m args below meth c C hr => ?_)
  replace C : cpCx p s m args meth c w A cX11_pays RX11 5 := C
  rw [fX11_pays] at h
  refine cj_aload_n C (i := 0) dX11_pays_0 rfl rfl ?_
  refine cj_getR C (d := 1) o_0 rfl gfX11_10 dX11_pays_1 ?_
  refine cj_iload_n C (i := 1) dX11_pays_4 rfl rfl ?_
  refine cj_callVi C (As := [.int x1]) (rest := []) qX10_hasPlace mw_31_10 o_1 rfl rfl rfl (Nat.le_of_ble_eq_true rfl) (by decide) dX11_pays_5 h (fun _ _ hf => m_X10_hasPlace l w A kVy_1 x1 S _ hf) (fun z1 S2 h => ?_)
  refine cj_if_eq C (tgt := 20) dX11_pays_8 rfl h (fun _ h => ?_) (fun _ h => ?_)
  · refine cj_bipush C (v := (-2 : Int32)) dX11_pays_20 rfl ?_
    exact cj_ireturn C hr h dX11_pays_22
  · refine cj_iload_n C (i := 3) dX11_pays_11 rfl rfl ?_
    refine cj_if_lt C (tgt := 20) dX11_pays_12 rfl h (fun _ h => ?_) (fun _ h => ?_)
    · refine cj_bipush C (v := (-2 : Int32)) dX11_pays_20 rfl ?_
      exact cj_ireturn C hr h dX11_pays_22
    · refine cj_iload_n C (i := 3) dX11_pays_15 rfl rfl ?_
      refine cj_iconst C (v := (3 : Int32)) dX11_pays_16 rfl ?_
      refine cj_icmp_le C (tgt := 23) dX11_pays_17 rfl h (fun _ h => ?_) (fun _ h => ?_)
      · refine cj_iload_n C (i := 2) dX11_pays_23 rfl rfl ?_
        refine cj_if_lt C (tgt := 34) dX11_pays_24 rfl h (fun _ h => ?_) (fun _ h => ?_)
        · refine cj_bipush C (v := (-3 : Int32)) dX11_pays_34 rfl ?_
          exact cj_ireturn C hr h dX11_pays_36
        · refine cj_iload_n C (i := 2) dX11_pays_27 rfl rfl ?_
          refine cj_sipush C (v := (999 : Int32)) dX11_pays_28 rfl ?_
          refine cj_icmp_le C (tgt := 37) dX11_pays_31 rfl h (fun _ h => ?_) (fun _ h => ?_)
          · refine cj_aload_n C (i := 0) dX11_pays_37 rfl rfl ?_
            refine cj_getR C (d := 119) o_0 rfl gfX11_54 dX11_pays_38 ?_
            refine cj_iload_n C (i := 1) dX11_pays_41 rfl rfl ?_
            refine cj_callVv C (As := [.int x1]) (rest := []) qX4_learnPaying mw_52_18 o_119 rfl rfl rfl (Nat.le_of_ble_eq_true rfl) (by decide) dX11_pays_42 h (fun _ _ hf => m_X4_learnPaying l w A x1 S2 _ hf) (fun z3 S4 h => ?_)
            refine cj_aload_n C (i := 0) dX11_pays_45 rfl rfl ?_
            refine cj_getR C (d := 119) o_0 rfl gfX11_54 dX11_pays_46 ?_
            refine cj_iload_n C (i := 2) dX11_pays_49 rfl rfl ?_
            refine cj_iload_n C (i := 3) dX11_pays_50 rfl rfl ?_
            refine cj_iconst C (v := (2 : Int32)) dX11_pays_51 rfl ?_
            refine cj_icmp_lt C (tgt := 59) dX11_pays_52 rfl h (fun _ h => ?_) (fun _ h => ?_)
            · refine cj_iconst C (v := (0 : Int32)) dX11_pays_59 rfl ?_
              refine cj_weak C (lv' := [some (.ref (w.2.1 0)), none, none, some (.int x3), none]) (cpSub_s (cpSub_n (cpSub_n (cpSub_s (cpSub_n cpSub_nil))))) ?_
              exact wX11_pays_60 C hr x3 (0 : Int32) x2 S4 h
            · refine cj_iconst C (v := (1 : Int32)) dX11_pays_55 rfl ?_
              refine cj_goto C (tgt := 60) dX11_pays_56 rfl ?_
              refine cj_weak C (lv' := [some (.ref (w.2.1 0)), none, none, some (.int x3), none]) (cpSub_s (cpSub_n (cpSub_n (cpSub_s (cpSub_n cpSub_nil))))) ?_
              exact wX11_pays_60 C hr x3 (1 : Int32) x2 S4 h
          · refine cj_bipush C (v := (-3 : Int32)) dX11_pays_34 rfl ?_
            exact cj_ireturn C hr h dX11_pays_36
      · refine cj_bipush C (v := (-2 : Int32)) dX11_pays_20 rfl ?_
        exact cj_ireturn C hr h dX11_pays_22
/-! X11_isWeight -/
def fX11_isWeight (x0 : Int32) (S : cpS) : Option (Int32 × cpS) :=
    if x0 < 0 then (
    some ((0 : Int32), S)) else (
    if (99 : Int32) < x0 then (
    some ((0 : Int32), S)) else (
    some ((1 : Int32), S)))
set_option maxRecDepth 100000 in
set_option maxHeartbeats 4000000 in
theorem m_X11_isWeight (l : Launch) (w : cpW) (A : Nat → Prop) (x0 : Int32) (S : cpS) (r : Int32 × cpS) (h : fX11_isWeight x0 S = some r) : cpMi l yX11_isWeight cX11_isWeight 1 ((some .boolean)) 0 w A [.int x0] S r := by
  refine cpMi.of (lv := [some (.int x0)]) (by decide) (Nat.le_of_ble_eq_true rfl) rfl (fun p e s m args below meth c C hr => ?_)
  replace C : cpCx p s m args meth c w A cX11_isWeight RX11 1 := C
  rw [fX11_isWeight] at h
  refine cj_iload_n C (i := 0) dX11_isWeight_0 rfl rfl ?_
  refine cj_if_lt C (tgt := 14) dX11_isWeight_1 rfl h (fun _ h => ?_) (fun _ h => ?_)
  · refine cj_iconst C (v := (0 : Int32)) dX11_isWeight_14 rfl ?_
    exact cj_zreturn C hr rfl h dX11_isWeight_15
  · refine cj_iload_n C (i := 0) dX11_isWeight_4 rfl rfl ?_
    refine cj_bipush C (v := (99 : Int32)) dX11_isWeight_5 rfl ?_
    refine cj_icmp_gt C (tgt := 14) dX11_isWeight_7 rfl h (fun _ h => ?_) (fun _ h => ?_)
    · refine cj_iconst C (v := (0 : Int32)) dX11_isWeight_14 rfl ?_
      exact cj_zreturn C hr rfl h dX11_isWeight_15
    · refine cj_iconst C (v := (1 : Int32)) dX11_isWeight_10 rfl ?_
      refine cj_goto C (tgt := 15) dX11_isWeight_11 rfl ?_
      exact cj_zreturn C hr rfl h dX11_isWeight_15
/-! X11_pairs -/
def fX11_pairs (x1 : Int32) (S : cpS) : Option (Int32 × cpS) :=
    cpB (fX11_isWeight x1 S) fun z1 S2 =>
    if z1 = 0 then (
    some ((-3 : Int32), S2)) else (
    cpB (fX1_part x1 S2) fun _ S4 =>
    cpB (fX1_everybody S4) fun z5 S6 =>
    if cpIn z5 256 then (
    some ((S6.1 128 z5.toNatClampNeg), S6)) else none)
set_option maxRecDepth 100000 in
set_option maxHeartbeats 4000000 in
theorem m_X11_pairs (l : Launch) (w : cpW) (A : Nat → Prop) (x1 : Int32) (S : cpS) (r : Int32 × cpS) (h : fX11_pairs x1 S = some r) : cpMi l yX11_pairs cX11_pairs 2 ((some .int)) 5 w A [.ref (w.2.1 0), .int x1] S r := by
  refine cpMi.of (lv := [some (.ref (w.2.1 0)), some (.int x1)]) (by decide) (Nat.le_of_ble_eq_true rfl) rfl (fun p e s m args below meth c C hr => ?_)
  replace C : cpCx p s m args meth c w A cX11_pairs RX11 2 := C
  rw [fX11_pairs] at h
  refine cj_iload_n C (i := 1) dX11_pairs_0 rfl rfl ?_
  refine cj_callSi C (As := [.int x1]) (rest := []) qX11_isWeight mw_54_6 rfl rfl (Nat.le_of_ble_eq_true rfl) (by decide) dX11_pairs_1 h (fun _ _ hf => m_X11_isWeight l w A x1 S _ hf) (fun z1 S2 h => ?_)
  refine cj_if_ne C (tgt := 10) dX11_pairs_4 rfl h (fun _ h => ?_) (fun _ h => ?_)
  · refine cj_bipush C (v := (-3 : Int32)) dX11_pairs_7 rfl ?_
    exact cj_ireturn C hr h dX11_pairs_9
  · refine cj_aload_n C (i := 0) dX11_pairs_10 rfl rfl ?_
    refine cj_getR C (d := 127) o_0 rfl gfX11_61 dX11_pairs_11 ?_
    refine cj_iload_n C (i := 1) dX11_pairs_14 rfl rfl ?_
    refine cj_callVv C (As := [.int x1]) (rest := []) qX1_part mw_54_9 o_127 rfl rfl rfl (Nat.le_of_ble_eq_true rfl) (by decide) dX11_pairs_15 h (fun _ _ hf => m_X1_part l w A x1 S2 _ hf) (fun z3 S4 h => ?_)
    refine cj_aload_n C (i := 0) dX11_pairs_18 rfl rfl ?_
    refine cj_getR C (d := 127) o_0 rfl gfX11_61 dX11_pairs_19 ?_
    refine cj_getR C (d := 128) o_127 rfl gfX11_306 dX11_pairs_22 ?_
    refine cj_aload_n C (i := 0) dX11_pairs_25 rfl rfl ?_
    refine cj_getR C (d := 127) o_0 rfl gfX11_61 dX11_pairs_26 ?_
    refine cj_callVi C (As := []) (rest := [.ref (w.2.1 128)]) qX1_everybody mw_55_14 o_127 rfl rfl rfl (Nat.le_of_ble_eq_true rfl) (by decide) dX11_pairs_29 h (fun _ _ hf => m_X1_everybody l w A S4 _ hf) (fun z5 S6 h => ?_)
    refine cj_iaload C o_128 h dX11_pairs_32 (fun h => ?_)
    exact cj_ireturn C hr h dX11_pairs_33
/-! X11_with -/
def fX11_with (x1 : Int32) (x2 : Int32) (S : cpS) : Option (Int32 × cpS) :=
    cpB (fX10_hasPerson 1 x2 S) fun z1 S2 =>
    if z1 = 0 then (
    some ((-2 : Int32), S2)) else (
    cpB (fX11_isWeight x1 S2) fun z3 S4 =>
    if z3 = 0 then (
    some ((-3 : Int32), S4)) else (
    cpB (fX1_part x1 S4) fun _ S6 =>
    if cpIn x2 8 then (
    some ((S6.1 129 x2.toNatClampNeg), S6)) else none))
set_option maxRecDepth 100000 in
set_option maxHeartbeats 4000000 in
theorem m_X11_with (l : Launch) (w : cpW) (A : Nat → Prop) (x1 : Int32) (x2 : Int32) (S : cpS) (r : Int32 × cpS) (h : fX11_with x1 x2 S = some r) : cpMi l yX11_with cX11_with 3 ((some .int)) 5 w A [.ref (w.2.1 0), .int x1, .int x2] S r := by
  refine cpMi.of (lv := [some (.ref (w.2.1 0)), some (.int x1), some (.int x2)]) (by decide) (Nat.le_of_ble_eq_true rfl) rfl (fun p e s m args below meth c C hr => ?_)
  replace C : cpCx p s m args meth c w A cX11_with RX11 3 := C
  rw [fX11_with] at h
  refine cj_aload_n C (i := 0) dX11_with_0 rfl rfl ?_
  refine cj_getR C (d := 1) o_0 rfl gfX11_10 dX11_with_1 ?_
  refine cj_iload_n C (i := 2) dX11_with_4 rfl rfl ?_
  refine cj_callVi C (As := [.int x2]) (rest := []) qX10_hasPerson mw_29_5 o_1 rfl rfl rfl (Nat.le_of_ble_eq_true rfl) (by decide) dX11_with_5 h (fun _ _ hf => m_X10_hasPerson l w A kVy_1 x2 S _ hf) (fun z1 S2 h => ?_)
  refine cj_if_ne C (tgt := 14) dX11_with_8 rfl h (fun _ h => ?_) (fun _ h => ?_)
  · refine cj_bipush C (v := (-2 : Int32)) dX11_with_11 rfl ?_
    exact cj_ireturn C hr h dX11_with_13
  · refine cj_iload_n C (i := 1) dX11_with_14 rfl rfl ?_
    refine cj_callSi C (As := [.int x1]) (rest := []) qX11_isWeight mw_54_6 rfl rfl (Nat.le_of_ble_eq_true rfl) (by decide) dX11_with_15 h (fun _ _ hf => m_X11_isWeight l w A x1 S2 _ hf) (fun z3 S4 h => ?_)
    refine cj_if_ne C (tgt := 24) dX11_with_18 rfl h (fun _ h => ?_) (fun _ h => ?_)
    · refine cj_bipush C (v := (-3 : Int32)) dX11_with_21 rfl ?_
      exact cj_ireturn C hr h dX11_with_23
    · refine cj_aload_n C (i := 0) dX11_with_24 rfl rfl ?_
      refine cj_getR C (d := 127) o_0 rfl gfX11_61 dX11_with_25 ?_
      refine cj_iload_n C (i := 1) dX11_with_28 rfl rfl ?_
      refine cj_callVv C (As := [.int x1]) (rest := []) qX1_part mw_54_9 o_127 rfl rfl rfl (Nat.le_of_ble_eq_true rfl) (by decide) dX11_with_29 h (fun _ _ hf => m_X1_part l w A x1 S4 _ hf) (fun z5 S6 h => ?_)
      refine cj_aload_n C (i := 0) dX11_with_32 rfl rfl ?_
      refine cj_getR C (d := 127) o_0 rfl gfX11_61 dX11_with_33 ?_
      refine cj_getR C (d := 129) o_127 rfl gfX11_312 dX11_with_36 ?_
      refine cj_iload_n C (i := 2) dX11_with_39 rfl rfl ?_
      refine cj_iaload C o_129 h dX11_with_40 (fun h => ?_)
      exact cj_ireturn C hr h dX11_with_41
/-! X11_sizeOrSet -/
def fX11_sizeOrSet (x0 : Int32) (x1 : Int32) (S : cpS) : Option (Int32 × cpS) :=
    if x0 = (-1 : Int32) then (
    some ((-1 : Int32), S)) else (
    if x1 = 0 then (
    cpB (fJ6_bitCount_0f7a4 x0 S) fun z1 S2 =>
    some (z1, S2)) else (
    some (x0, S)))
set_option maxRecDepth 100000 in
set_option maxHeartbeats 4000000 in
theorem m_X11_sizeOrSet (l : Launch) (w : cpW) (A : Nat → Prop) (x0 : Int32) (x1 : Int32) (S : cpS) (r : Int32 × cpS) (h : fX11_sizeOrSet x0 x1 S = some r) : cpMi l yX11_sizeOrSet cX11_sizeOrSet 2 ((some .int)) 1 w A [.int x0, .int x1] S r := by
  refine cpMi.of (lv := [some (.int x0), some (.int x1)]) (by decide) (Nat.le_of_ble_eq_true rfl) rfl (fun p e s m args below meth c C hr => ?_)
  replace C : cpCx p s m args meth c w A cX11_sizeOrSet RX11 2 := C
  rw [fX11_sizeOrSet] at h
  refine cj_iload_n C (i := 0) dX11_sizeOrSet_0 rfl rfl ?_
  refine cj_iconst C (v := (-1 : Int32)) dX11_sizeOrSet_1 rfl ?_
  refine cj_icmp_ne C (tgt := 7) dX11_sizeOrSet_2 rfl h (fun _ h => ?_) (fun _ h => ?_)
  · refine cj_iconst C (v := (-1 : Int32)) dX11_sizeOrSet_5 rfl ?_
    exact cj_ireturn C hr h dX11_sizeOrSet_6
  · refine cj_iload_n C (i := 1) dX11_sizeOrSet_7 rfl rfl ?_
    refine cj_if_ne C (tgt := 18) dX11_sizeOrSet_8 rfl h (fun _ h => ?_) (fun _ h => ?_)
    · refine cj_iload_n C (i := 0) dX11_sizeOrSet_11 rfl rfl ?_
      refine cj_callSi C (As := [.int x0]) (rest := []) qJ6_bitCount_0f7a4 mw_57_22 rfl rfl (Nat.le_of_ble_eq_true rfl) (by decide) dX11_sizeOrSet_12 h (fun _ _ hf => m_J6_bitCount_0f7a4 l w A x0 S _ hf) (fun z1 S2 h => ?_)
      refine cj_goto C (tgt := 19) dX11_sizeOrSet_15 rfl ?_
      exact cj_ireturn C hr h dX11_sizeOrSet_19
    · refine cj_iload_n C (i := 0) dX11_sizeOrSet_18 rfl rfl ?_
      exact cj_ireturn C hr h dX11_sizeOrSet_19
/-! X11_lifters -/
def fX11_lifters_12 (x1 : Int32) (x2 : Int32) (S : cpS) : Option (Int32 × cpS) :=
    cpB (fX11_isWeight x1 S) fun z1 S2 =>
    if z1 = 0 then (
    some ((-3 : Int32), S2)) else (
    cpB (fX1_fewestLifters x1 S2) fun z3 S4 =>
    cpB (fX11_sizeOrSet z3 x2 S4) fun z5 S6 =>
    some (z5, S6))
set_option maxRecDepth 100000 in
set_option maxHeartbeats 4000000 in
theorem wX11_lifters_12 (C : cpCx p s m args meth c w A cX11_lifters RX11 3) (hr : meth.sig.returnType = (some .int)) {r : Int32 × cpS} (x1 : Int32) (x2 : Int32) (S : cpS) (h : fX11_lifters_12 x1 x2 S = some r) : cpJ p l e (cpRm 3) s m args below meth c (MQ below (va_Qi (fun x S' => (x, S') = r) (cpWorld w A) A) args s 0 0 A) w A 3 12 [some (.ref (w.2.1 0)), some (.int x1), some (.int x2)] [] S := by
  rw [fX11_lifters_12] at h
  refine cj_iload_n C (i := 1) dX11_lifters_12 rfl rfl ?_
  refine cj_callSi C (As := [.int x1]) (rest := []) qX11_isWeight mw_54_6 rfl rfl (Nat.le_of_ble_eq_true rfl) (by decide) dX11_lifters_13 h (fun _ _ hf => m_X11_isWeight l w A x1 S _ hf) (fun z1 S2 h => ?_)
  refine cj_if_ne C (tgt := 22) dX11_lifters_16 rfl h (fun _ h => ?_) (fun _ h => ?_)
  · refine cj_bipush C (v := (-3 : Int32)) dX11_lifters_19 rfl ?_
    exact cj_ireturn C hr h dX11_lifters_21
  · refine cj_aload_n C (i := 0) dX11_lifters_22 rfl rfl ?_
    refine cj_getR C (d := 127) o_0 rfl gfX11_61 dX11_lifters_23 ?_
    refine cj_iload_n C (i := 1) dX11_lifters_26 rfl rfl ?_
    refine cj_callVi C (As := [.int x1]) (rest := []) qX1_fewestLifters mw_57_4 o_127 rfl rfl rfl (Nat.le_of_ble_eq_true rfl) (by decide) dX11_lifters_27 h (fun _ _ hf => m_X1_fewestLifters l w A x1 S2 _ hf) (fun z3 S4 h => ?_)
    refine cj_iload_n C (i := 2) dX11_lifters_30 rfl rfl ?_
    refine cj_callSi C (As := [.int z3, .int x2]) (rest := []) qX11_sizeOrSet mw_57_19 rfl rfl (Nat.le_of_ble_eq_true rfl) (by decide) dX11_lifters_31 h (fun _ _ hf => m_X11_sizeOrSet l w A z3 x2 S4 _ hf) (fun z5 S6 h => ?_)
    exact cj_ireturn C hr h dX11_lifters_34
def fX11_lifters (x1 : Int32) (x2 : Int32) (S : cpS) : Option (Int32 × cpS) :=
    if x2 = 0 then (
    fX11_lifters_12 x1 x2 S) else (
    if x2 = (1 : Int32) then (
    fX11_lifters_12 x1 x2 S) else (
    some ((-2 : Int32), S)))
set_option maxRecDepth 100000 in
set_option maxHeartbeats 4000000 in
theorem m_X11_lifters (l : Launch) (w : cpW) (A : Nat → Prop) (x1 : Int32) (x2 : Int32) (S : cpS) (r : Int32 × cpS) (h : fX11_lifters x1 x2 S = some r) : cpMi l yX11_lifters cX11_lifters 3 ((some .int)) 3 w A [.ref (w.2.1 0), .int x1, .int x2] S r := by
  refine cpMi.of (lv := [some (.ref (w.2.1 0)), some (.int x1), some (.int x2)]) (by decide) (Nat.le_of_ble_eq_true rfl) rfl (fun p e s m args below meth c C hr => ?_)
  replace C : cpCx p s m args meth c w A cX11_lifters RX11 3 := C
  rw [fX11_lifters] at h
  refine cj_iload_n C (i := 2) dX11_lifters_0 rfl rfl ?_
  refine cj_if_eq C (tgt := 12) dX11_lifters_1 rfl h (fun _ h => ?_) (fun _ h => ?_)
  · exact wX11_lifters_12 C hr x1 x2 S h
  · refine cj_iload_n C (i := 2) dX11_lifters_4 rfl rfl ?_
    refine cj_iconst C (v := (1 : Int32)) dX11_lifters_5 rfl ?_
    refine cj_icmp_eq C (tgt := 12) dX11_lifters_6 rfl h (fun _ h => ?_) (fun _ h => ?_)
    · exact wX11_lifters_12 C hr x1 x2 S h
    · refine cj_bipush C (v := (-2 : Int32)) dX11_lifters_9 rfl ?_
      exact cj_ireturn C hr h dX11_lifters_11
/-! X11_guards -/
def fX11_guards (x1 : Int32) (x2 : Int32) (x3 : Int32) (S : cpS) : Option (Int32 × cpS) :=
    cpB (fX10_hasPlace 1 x1 S) fun z1 S2 =>
    if z1 = 0 then (
    some ((-2 : Int32), S2)) else (
    cpB (fX10_hasPlace 1 x2 S2) fun z3 S4 =>
    if z3 = 0 then (
    some ((-2 : Int32), S4)) else (
    if x3 = 0 then (
    cpB (fX1_fewestGuards x1 x2 S4) fun z5 S6 =>
    cpB (fX11_sizeOrSet z5 x3 S6) fun z7 S8 =>
    some (z7, S8)) else (
    if x3 = (1 : Int32) then (
    cpB (fX1_fewestGuards x1 x2 S4) fun z9 S10 =>
    cpB (fX11_sizeOrSet z9 x3 S10) fun z11 S12 =>
    some (z11, S12)) else (
    some ((-2 : Int32), S4)))))
set_option maxRecDepth 100000 in
set_option maxHeartbeats 4000000 in
theorem m_X11_guards (l : Launch) (w : cpW) (A : Nat → Prop) (x1 : Int32) (x2 : Int32) (x3 : Int32) (S : cpS) (r : Int32 × cpS) (h : fX11_guards x1 x2 x3 S = some r) : cpMi l yX11_guards cX11_guards 4 ((some .int)) 3 w A [.ref (w.2.1 0), .int x1, .int x2, .int x3] S r := by
  refine cpMi.of (lv := [some (.ref (w.2.1 0)), some (.int x1), some (.int x2), some (.int x3)]) (by decide) (Nat.le_of_ble_eq_true rfl) rfl (fun p e s m args below meth c C hr => ?_)
  replace C : cpCx p s m args meth c w A cX11_guards RX11 4 := C
  rw [fX11_guards] at h
  refine cj_aload_n C (i := 0) dX11_guards_0 rfl rfl ?_
  refine cj_getR C (d := 1) o_0 rfl gfX11_10 dX11_guards_1 ?_
  refine cj_iload_n C (i := 1) dX11_guards_4 rfl rfl ?_
  refine cj_callVi C (As := [.int x1]) (rest := []) qX10_hasPlace mw_31_10 o_1 rfl rfl rfl (Nat.le_of_ble_eq_true rfl) (by decide) dX11_guards_5 h (fun _ _ hf => m_X10_hasPlace l w A kVy_1 x1 S _ hf) (fun z1 S2 h => ?_)
  refine cj_if_eq C (tgt := 31) dX11_guards_8 rfl h (fun _ h => ?_) (fun _ h => ?_)
  · refine cj_bipush C (v := (-2 : Int32)) dX11_guards_31 rfl ?_
    exact cj_ireturn C hr h dX11_guards_33
  · refine cj_aload_n C (i := 0) dX11_guards_11 rfl rfl ?_
    refine cj_getR C (d := 1) o_0 rfl gfX11_10 dX11_guards_12 ?_
    refine cj_iload_n C (i := 2) dX11_guards_15 rfl rfl ?_
    refine cj_callVi C (As := [.int x2]) (rest := []) qX10_hasPlace mw_31_10 o_1 rfl rfl rfl (Nat.le_of_ble_eq_true rfl) (by decide) dX11_guards_16 h (fun _ _ hf => m_X10_hasPlace l w A kVy_1 x2 S2 _ hf) (fun z3 S4 h => ?_)
    refine cj_if_eq C (tgt := 31) dX11_guards_19 rfl h (fun _ h => ?_) (fun _ h => ?_)
    · refine cj_bipush C (v := (-2 : Int32)) dX11_guards_31 rfl ?_
      exact cj_ireturn C hr h dX11_guards_33
    · refine cj_iload_n C (i := 3) dX11_guards_22 rfl rfl ?_
      refine cj_if_eq C (tgt := 34) dX11_guards_23 rfl h (fun _ h => ?_) (fun _ h => ?_)
      · refine cj_aload_n C (i := 0) dX11_guards_34 rfl rfl ?_
        refine cj_getR C (d := 127) o_0 rfl gfX11_61 dX11_guards_35 ?_
        refine cj_iload_n C (i := 1) dX11_guards_38 rfl rfl ?_
        refine cj_iload_n C (i := 2) dX11_guards_39 rfl rfl ?_
        refine cj_callVi C (As := [.int x1, .int x2]) (rest := []) qX1_fewestGuards mw_58_10 o_127 rfl rfl rfl (Nat.le_of_ble_eq_true rfl) (by decide) dX11_guards_40 h (fun _ _ hf => m_X1_fewestGuards l w A x1 x2 S4 _ hf) (fun z5 S6 h => ?_)
        refine cj_iload_n C (i := 3) dX11_guards_43 rfl rfl ?_
        refine cj_callSi C (As := [.int z5, .int x3]) (rest := []) qX11_sizeOrSet mw_57_19 rfl rfl (Nat.le_of_ble_eq_true rfl) (by decide) dX11_guards_44 h (fun _ _ hf => m_X11_sizeOrSet l w A z5 x3 S6 _ hf) (fun z7 S8 h => ?_)
        exact cj_ireturn C hr h dX11_guards_47
      · refine cj_iload_n C (i := 3) dX11_guards_26 rfl rfl ?_
        refine cj_iconst C (v := (1 : Int32)) dX11_guards_27 rfl ?_
        refine cj_icmp_eq C (tgt := 34) dX11_guards_28 rfl h (fun _ h => ?_) (fun _ h => ?_)
        · refine cj_aload_n C (i := 0) dX11_guards_34 rfl rfl ?_
          refine cj_getR C (d := 127) o_0 rfl gfX11_61 dX11_guards_35 ?_
          refine cj_iload_n C (i := 1) dX11_guards_38 rfl rfl ?_
          refine cj_iload_n C (i := 2) dX11_guards_39 rfl rfl ?_
          refine cj_callVi C (As := [.int x1, .int x2]) (rest := []) qX1_fewestGuards mw_58_10 o_127 rfl rfl rfl (Nat.le_of_ble_eq_true rfl) (by decide) dX11_guards_40 h (fun _ _ hf => m_X1_fewestGuards l w A x1 x2 S4 _ hf) (fun z9 S10 h => ?_)
          refine cj_iload_n C (i := 3) dX11_guards_43 rfl rfl ?_
          refine cj_callSi C (As := [.int z9, .int x3]) (rest := []) qX11_sizeOrSet mw_57_19 rfl rfl (Nat.le_of_ble_eq_true rfl) (by decide) dX11_guards_44 h (fun _ _ hf => m_X11_sizeOrSet l w A z9 x3 S10 _ hf) (fun z11 S12 h => ?_)
          exact cj_ireturn C hr h dX11_guards_47
        · refine cj_bipush C (v := (-2 : Int32)) dX11_guards_31 rfl ?_
          exact cj_ireturn C hr h dX11_guards_33
/-! X11_rests -/
def fX11_rests (x1 : Int32) (x2 : Int32) (S : cpS) : Option (Int32 × cpS) :=
    if x2 < 0 then (
    some ((-2 : Int32), S)) else (
    if x2 ≤ (2 : Int32) then (
    if x1 < 0 then (
    some ((-3 : Int32), S)) else (
    if x1 ≤ (8 : Int32) then (
    cpB (fX1_findRests x1 S) fun _ S2 =>
    if x2 = 0 then (
    some ((S2.1 127 4), S2)) else (
    if x2 = (1 : Int32) then (
    some ((S2.1 127 5), S2)) else (
    some ((S2.1 127 6), S2)))) else (
    some ((-3 : Int32), S)))) else (
    some ((-2 : Int32), S)))
set_option maxRecDepth 100000 in
set_option maxHeartbeats 4000000 in
theorem m_X11_rests (l : Launch) (w : cpW) (A : Nat → Prop) (x1 : Int32) (x2 : Int32) (S : cpS) (r : Int32 × cpS) (h : fX11_rests x1 x2 S = some r) : cpMi l yX11_rests cX11_rests 3 ((some .int)) 4 w A [.ref (w.2.1 0), .int x1, .int x2] S r := by
  refine cpMi.of (lv := [some (.ref (w.2.1 0)), some (.int x1), some (.int x2)]) (by decide) (Nat.le_of_ble_eq_true rfl) rfl (fun p e s m args below meth c C hr => ?_)
  replace C : cpCx p s m args meth c w A cX11_rests RX11 3 := C
  rw [fX11_rests] at h
  refine cj_iload_n C (i := 2) dX11_rests_0 rfl rfl ?_
  refine cj_if_lt C (tgt := 9) dX11_rests_1 rfl h (fun _ h => ?_) (fun _ h => ?_)
  · refine cj_bipush C (v := (-2 : Int32)) dX11_rests_9 rfl ?_
    exact cj_ireturn C hr h dX11_rests_11
  · refine cj_iload_n C (i := 2) dX11_rests_4 rfl rfl ?_
    refine cj_iconst C (v := (2 : Int32)) dX11_rests_5 rfl ?_
    refine cj_icmp_le C (tgt := 12) dX11_rests_6 rfl h (fun _ h => ?_) (fun _ h => ?_)
    · refine cj_iload_n C (i := 1) dX11_rests_12 rfl rfl ?_
      refine cj_if_lt C (tgt := 22) dX11_rests_13 rfl h (fun _ h => ?_) (fun _ h => ?_)
      · refine cj_bipush C (v := (-3 : Int32)) dX11_rests_22 rfl ?_
        exact cj_ireturn C hr h dX11_rests_24
      · refine cj_iload_n C (i := 1) dX11_rests_16 rfl rfl ?_
        refine cj_bipush C (v := (8 : Int32)) dX11_rests_17 rfl ?_
        refine cj_icmp_le C (tgt := 25) dX11_rests_19 rfl h (fun _ h => ?_) (fun _ h => ?_)
        · refine cj_aload_n C (i := 0) dX11_rests_25 rfl rfl ?_
          refine cj_getR C (d := 127) o_0 rfl gfX11_61 dX11_rests_26 ?_
          refine cj_iload_n C (i := 1) dX11_rests_29 rfl rfl ?_
          refine cj_callVv C (As := [.int x1]) (rest := []) qX1_findRests mw_59_14 o_127 rfl rfl rfl (Nat.le_of_ble_eq_true rfl) (by decide) dX11_rests_30 h (fun _ _ hf => m_X1_findRests l w A x1 S _ hf) (fun z1 S2 h => ?_)
          refine cj_iload_n C (i := 2) dX11_rests_33 rfl rfl ?_
          refine cj_if_ne C (tgt := 45) dX11_rests_34 rfl h (fun _ h => ?_) (fun _ h => ?_)
          · refine cj_aload_n C (i := 0) dX11_rests_37 rfl rfl ?_
            refine cj_getR C (d := 127) o_0 rfl gfX11_61 dX11_rests_38 ?_
            refine cj_getI C (j := 4) o_127 rfl gfX11_327 dX11_rests_41 ?_
            exact cj_ireturn C hr h dX11_rests_44
          · refine cj_iload_n C (i := 2) dX11_rests_45 rfl rfl ?_
            refine cj_iconst C (v := (1 : Int32)) dX11_rests_46 rfl ?_
            refine cj_icmp_ne C (tgt := 60) dX11_rests_47 rfl h (fun _ h => ?_) (fun _ h => ?_)
            · refine cj_aload_n C (i := 0) dX11_rests_50 rfl rfl ?_
              refine cj_getR C (d := 127) o_0 rfl gfX11_61 dX11_rests_51 ?_
              refine cj_getI C (j := 5) o_127 rfl gfX11_330 dX11_rests_54 ?_
              refine cj_goto C (tgt := 67) dX11_rests_57 rfl ?_
              exact cj_ireturn C hr h dX11_rests_67
            · refine cj_aload_n C (i := 0) dX11_rests_60 rfl rfl ?_
              refine cj_getR C (d := 127) o_0 rfl gfX11_61 dX11_rests_61 ?_
              refine cj_getI C (j := 6) o_127 rfl gfX11_333 dX11_rests_64 ?_
              exact cj_ireturn C hr h dX11_rests_67
        · refine cj_bipush C (v := (-3 : Int32)) dX11_rests_22 rfl ?_
          exact cj_ireturn C hr h dX11_rests_24
    · refine cj_bipush C (v := (-2 : Int32)) dX11_rests_9 rfl ?_
      exact cj_ireturn C hr h dX11_rests_11
/-! X11_lifting -/
def fX11_lifting_48 (x2 : Int32) (x3 : Int32) : Nat → Int32 → Int32 → cpS → Option (Int32 × cpS)
  | 0, _, _, _ => none
  | n + 1, x4, x5, S =>
    if x3 ≤ x5 then (
    some (x4, S)) else (
    cpB (fX1_liftNext x4 x2 S) fun z1 S2 =>
    fX11_lifting_48 x2 x3 n z1 (x5 + 1) S2)
set_option maxRecDepth 100000 in
set_option maxHeartbeats 4000000 in
theorem wX11_lifting_48 (C : cpCx p s m args meth c w A cX11_lifting RX11 6) (hr : meth.sig.returnType = (some .int)) {r : Int32 × cpS} (x2 : Int32) (x3 : Int32) : ∀ (n : Nat) (x4 : Int32) (x5 : Int32) (S : cpS), fX11_lifting_48 x2 x3 n x4 x5 S = some r → cpJ p l e (cpRm 3) s m args below meth c (MQ below (va_Qi (fun x S' => (x, S') = r) (cpWorld w A) A) args s 0 0 A) w A 6 48 [some (.ref (w.2.1 0)), none, some (.int x2), some (.int x3), some (.int x4), some (.int x5)] [] S := by
  intro n
  induction n with
  | zero => intro x4 x5 S h; rw [fX11_lifting_48] at h; cases h
  | succ n ih =>
    intro x4 x5 S h
    rw [fX11_lifting_48] at h
    refine cj_iload C dX11_lifting_48 rfl ?_
    refine cj_iload_n C (i := 3) dX11_lifting_50 rfl rfl ?_
    refine cj_icmp_ge C (tgt := 72) dX11_lifting_51 rfl h (fun _ h => ?_) (fun _ h => ?_)
    · refine cj_iload C dX11_lifting_72 rfl ?_
      exact cj_ireturn C hr h dX11_lifting_74
    · refine cj_aload_n C (i := 0) dX11_lifting_54 rfl rfl ?_
      refine cj_getR C (d := 127) o_0 rfl gfX11_61 dX11_lifting_55 ?_
      refine cj_iload C dX11_lifting_58 rfl ?_
      refine cj_iload_n C (i := 2) dX11_lifting_60 rfl rfl ?_
      refine cj_callVi C (As := [.int x4, .int x2]) (rest := []) qX1_liftNext mw_60_19 o_127 rfl rfl rfl (Nat.le_of_ble_eq_true rfl) (by decide) dX11_lifting_61 h (fun _ _ hf => m_X1_liftNext l w A x4 x2 S _ hf) (fun z1 S2 h => ?_)
      refine cj_istore C (lv' := [some (.ref (w.2.1 0)), none, some (.int x2), some (.int x3), some (.int z1), some (.int x5)]) dX11_lifting_64 (by decide) rfl rfl ?_
      refine cj_iinc C (v := (x5 + 1)) (lv' := [some (.ref (w.2.1 0)), none, some (.int x2), some (.int x3), some (.int z1), some (.int (x5 + 1))]) dX11_lifting_66 rfl rfl (by decide) rfl rfl ?_
      refine cj_goto C (tgt := 48) dX11_lifting_69 rfl ?_
      exact ih z1 (x5 + 1) S2 h
def fX11_lifting (x1 : Int32) (x2 : Int32) (x3 : Int32) (S : cpS) : Option (Int32 × cpS) :=
    if x1 < 0 then (
    some ((-2 : Int32), S)) else (
    cpB (fX1_everybody S) fun z1 S2 =>
    if x1 ≤ z1 then (
    if x2 < 0 then (
    some ((-3 : Int32), S2)) else (
    if (8 : Int32) < x2 then (
    some ((-3 : Int32), S2)) else (
    if x3 < 0 then (
    some ((-3 : Int32), S2)) else (
    if x3 ≤ (999 : Int32) then (
    fX11_lifting_48 x2 x3 cpFu x1 (0 : Int32) S2) else (
    some ((-3 : Int32), S2)))))) else (
    some ((-2 : Int32), S2)))
set_option maxRecDepth 100000 in
set_option maxHeartbeats 4000000 in
theorem m_X11_lifting (l : Launch) (w : cpW) (A : Nat → Prop) (x1 : Int32) (x2 : Int32) (x3 : Int32) (S : cpS) (r : Int32 × cpS) (h : fX11_lifting x1 x2 x3 S = some r) : cpMi l yX11_lifting cX11_lifting 6 ((some .int)) 3 w A [.ref (w.2.1 0), .int x1, .int x2, .int x3] S r := by
  refine cpMi.of (lv := [some (.ref (w.2.1 0)), some (.int x1), some (.int x2), some (.int x3), none, none]) (by decide) (Nat.le_of_ble_eq_true rfl) rfl (fun p e s m args below meth c C hr => ?_)
  replace C : cpCx p s m args meth c w A cX11_lifting RX11 6 := C
  rw [fX11_lifting] at h
  refine cj_iload_n C (i := 1) dX11_lifting_0 rfl rfl ?_
  refine cj_if_lt C (tgt := 15) dX11_lifting_1 rfl h (fun _ h => ?_) (fun _ h => ?_)
  · refine cj_bipush C (v := (-2 : Int32)) dX11_lifting_15 rfl ?_
    exact cj_ireturn C hr h dX11_lifting_17
  · refine cj_iload_n C (i := 1) dX11_lifting_4 rfl rfl ?_
    refine cj_aload_n C (i := 0) dX11_lifting_5 rfl rfl ?_
    refine cj_getR C (d := 127) o_0 rfl gfX11_61 dX11_lifting_6 ?_
    refine cj_callVi C (As := []) (rest := [.int x1]) qX1_everybody mw_55_14 o_127 rfl rfl rfl (Nat.le_of_ble_eq_true rfl) (by decide) dX11_lifting_9 h (fun _ _ hf => m_X1_everybody l w A S _ hf) (fun z1 S2 h => ?_)
    refine cj_icmp_le C (tgt := 18) dX11_lifting_12 rfl h (fun _ h => ?_) (fun _ h => ?_)
    · refine cj_iload_n C (i := 2) dX11_lifting_18 rfl rfl ?_
      refine cj_if_lt C (tgt := 39) dX11_lifting_19 rfl h (fun _ h => ?_) (fun _ h => ?_)
      · refine cj_bipush C (v := (-3 : Int32)) dX11_lifting_39 rfl ?_
        exact cj_ireturn C hr h dX11_lifting_41
      · refine cj_iload_n C (i := 2) dX11_lifting_22 rfl rfl ?_
        refine cj_bipush C (v := (8 : Int32)) dX11_lifting_23 rfl ?_
        refine cj_icmp_gt C (tgt := 39) dX11_lifting_25 rfl h (fun _ h => ?_) (fun _ h => ?_)
        · refine cj_bipush C (v := (-3 : Int32)) dX11_lifting_39 rfl ?_
          exact cj_ireturn C hr h dX11_lifting_41
        · refine cj_iload_n C (i := 3) dX11_lifting_28 rfl rfl ?_
          refine cj_if_lt C (tgt := 39) dX11_lifting_29 rfl h (fun _ h => ?_) (fun _ h => ?_)
          · refine cj_bipush C (v := (-3 : Int32)) dX11_lifting_39 rfl ?_
            exact cj_ireturn C hr h dX11_lifting_41
          · refine cj_iload_n C (i := 3) dX11_lifting_32 rfl rfl ?_
            refine cj_sipush C (v := (999 : Int32)) dX11_lifting_33 rfl ?_
            refine cj_icmp_le C (tgt := 42) dX11_lifting_36 rfl h (fun _ h => ?_) (fun _ h => ?_)
            · refine cj_iload_n C (i := 1) dX11_lifting_42 rfl rfl ?_
              refine cj_istore C (lv' := [some (.ref (w.2.1 0)), some (.int x1), some (.int x2), some (.int x3), some (.int x1), none]) dX11_lifting_43 (by decide) rfl rfl ?_
              refine cj_iconst C (v := (0 : Int32)) dX11_lifting_45 rfl ?_
              refine cj_istore C (lv' := [some (.ref (w.2.1 0)), some (.int x1), some (.int x2), some (.int x3), some (.int x1), some (.int (0 : Int32))]) dX11_lifting_46 (by decide) rfl rfl ?_
              refine cj_weak C (lv' := [some (.ref (w.2.1 0)), none, some (.int x2), some (.int x3), some (.int x1), some (.int (0 : Int32))]) (cpSub_s (cpSub_n (cpSub_s (cpSub_s (cpSub_s (cpSub_s cpSub_nil)))))) ?_
              exact wX11_lifting_48 C hr x2 x3 cpFu x1 (0 : Int32) S2 h
            · refine cj_bipush C (v := (-3 : Int32)) dX11_lifting_39 rfl ?_
              exact cj_ireturn C hr h dX11_lifting_41
    · refine cj_bipush C (v := (-2 : Int32)) dX11_lifting_15 rfl ?_
      exact cj_ireturn C hr h dX11_lifting_17
/-! X11_talk -/
def fX11_talk (x1 : Int32) (x2 : Int32) (S : cpS) : Option (Int32 × cpS) :=
    cpB (fX10_hasPerson 1 x1 S) fun z1 S2 =>
    if z1 = 0 then (
    some ((-2 : Int32), S2)) else (
    if x2 < 0 then (
    some ((-3 : Int32), S2)) else (
    if x2 ≤ (8 : Int32) then (
    cpB (fX1_heardBehind x1 x2 S2) fun z3 S4 =>
    some (z3, S4)) else (
    some ((-3 : Int32), S2))))
set_option maxRecDepth 100000 in
set_option maxHeartbeats 4000000 in
theorem m_X11_talk (l : Launch) (w : cpW) (A : Nat → Prop) (x1 : Int32) (x2 : Int32) (S : cpS) (r : Int32 × cpS) (h : fX11_talk x1 x2 S = some r) : cpMi l yX11_talk cX11_talk 3 ((some .int)) 4 w A [.ref (w.2.1 0), .int x1, .int x2] S r := by
  refine cpMi.of (lv := [some (.ref (w.2.1 0)), some (.int x1), some (.int x2)]) (by decide) (Nat.le_of_ble_eq_true rfl) rfl (fun p e s m args below meth c C hr => ?_)
  replace C : cpCx p s m args meth c w A cX11_talk RX11 3 := C
  rw [fX11_talk] at h
  refine cj_aload_n C (i := 0) dX11_talk_0 rfl rfl ?_
  refine cj_getR C (d := 1) o_0 rfl gfX11_10 dX11_talk_1 ?_
  refine cj_iload_n C (i := 1) dX11_talk_4 rfl rfl ?_
  refine cj_callVi C (As := [.int x1]) (rest := []) qX10_hasPerson mw_29_5 o_1 rfl rfl rfl (Nat.le_of_ble_eq_true rfl) (by decide) dX11_talk_5 h (fun _ _ hf => m_X10_hasPerson l w A kVy_1 x1 S _ hf) (fun z1 S2 h => ?_)
  refine cj_if_ne C (tgt := 14) dX11_talk_8 rfl h (fun _ h => ?_) (fun _ h => ?_)
  · refine cj_bipush C (v := (-2 : Int32)) dX11_talk_11 rfl ?_
    exact cj_ireturn C hr h dX11_talk_13
  · refine cj_iload_n C (i := 2) dX11_talk_14 rfl rfl ?_
    refine cj_if_lt C (tgt := 24) dX11_talk_15 rfl h (fun _ h => ?_) (fun _ h => ?_)
    · refine cj_bipush C (v := (-3 : Int32)) dX11_talk_24 rfl ?_
      exact cj_ireturn C hr h dX11_talk_26
    · refine cj_iload_n C (i := 2) dX11_talk_18 rfl rfl ?_
      refine cj_bipush C (v := (8 : Int32)) dX11_talk_19 rfl ?_
      refine cj_icmp_le C (tgt := 27) dX11_talk_21 rfl h (fun _ h => ?_) (fun _ h => ?_)
      · refine cj_aload_n C (i := 0) dX11_talk_27 rfl rfl ?_
        refine cj_getR C (d := 127) o_0 rfl gfX11_61 dX11_talk_28 ?_
        refine cj_iload_n C (i := 1) dX11_talk_31 rfl rfl ?_
        refine cj_iload_n C (i := 2) dX11_talk_32 rfl rfl ?_
        refine cj_callVi C (As := [.int x1, .int x2]) (rest := []) qX1_heardBehind mw_61_4 o_127 rfl rfl rfl (Nat.le_of_ble_eq_true rfl) (by decide) dX11_talk_33 h (fun _ _ hf => m_X1_heardBehind l w A x1 x2 S2 _ hf) (fun z3 S4 h => ?_)
        exact cj_ireturn C hr h dX11_talk_36
      · refine cj_bipush C (v := (-3 : Int32)) dX11_talk_24 rfl ?_
        exact cj_ireturn C hr h dX11_talk_26
/-! X11_told -/
def fX11_told_16 (x1 : Int32) : Nat → Int32 → cpS → Option (Int32 × cpS)
  | 0, _, _ => none
  | n + 1, x2, S =>
    if (8 : Int32) < x2 then (
    some ((-1 : Int32), S)) else (
    cpB (fX1_heardBehind x1 x2 S) fun z1 S2 =>
    cpB (fX1_everybody S2) fun z3 S4 =>
    if z1 = z3 then (
    some (x2, S4)) else (
    fX11_told_16 x1 n (x2 + 1) S4))
set_option maxRecDepth 100000 in
set_option maxHeartbeats 4000000 in
theorem wX11_told_16 (C : cpCx p s m args meth c w A cX11_told RX11 3) (hr : meth.sig.returnType = (some .int)) {r : Int32 × cpS} (x1 : Int32) : ∀ (n : Nat) (x2 : Int32) (S : cpS), fX11_told_16 x1 n x2 S = some r → cpJ p l e (cpRm 4) s m args below meth c (MQ below (va_Qi (fun x S' => (x, S') = r) (cpWorld w A) A) args s 0 0 A) w A 3 16 [some (.ref (w.2.1 0)), some (.int x1), some (.int x2)] [] S := by
  intro n
  induction n with
  | zero => intro x2 S h; rw [fX11_told_16] at h; cases h
  | succ n ih =>
    intro x2 S h
    rw [fX11_told_16] at h
    refine cj_iload_n C (i := 2) dX11_told_16 rfl rfl ?_
    refine cj_bipush C (v := (8 : Int32)) dX11_told_17 rfl ?_
    refine cj_icmp_gt C (tgt := 49) dX11_told_19 rfl h (fun _ h => ?_) (fun _ h => ?_)
    · refine cj_iconst C (v := (-1 : Int32)) dX11_told_49 rfl ?_
      exact cj_ireturn C hr h dX11_told_50
    · refine cj_aload_n C (i := 0) dX11_told_22 rfl rfl ?_
      refine cj_getR C (d := 127) o_0 rfl gfX11_61 dX11_told_23 ?_
      refine cj_iload_n C (i := 1) dX11_told_26 rfl rfl ?_
      refine cj_iload_n C (i := 2) dX11_told_27 rfl rfl ?_
      refine cj_callVi C (As := [.int x1, .int x2]) (rest := []) qX1_heardBehind mw_61_4 o_127 rfl rfl rfl (Nat.le_of_ble_eq_true rfl) (by decide) dX11_told_28 h (fun _ _ hf => m_X1_heardBehind l w A x1 x2 S _ hf) (fun z1 S2 h => ?_)
      refine cj_aload_n C (i := 0) dX11_told_31 rfl rfl ?_
      refine cj_getR C (d := 127) o_0 rfl gfX11_61 dX11_told_32 ?_
      refine cj_callVi C (As := []) (rest := [.int z1]) qX1_everybody mw_55_14 o_127 rfl rfl rfl (Nat.le_of_ble_eq_true rfl) (by decide) dX11_told_35 h (fun _ _ hf => m_X1_everybody l w A S2 _ hf) (fun z3 S4 h => ?_)
      refine cj_icmp_ne C (tgt := 43) dX11_told_38 rfl h (fun _ h => ?_) (fun _ h => ?_)
      · refine cj_iload_n C (i := 2) dX11_told_41 rfl rfl ?_
        exact cj_ireturn C hr h dX11_told_42
      · refine cj_iinc C (v := (x2 + 1)) (lv' := [some (.ref (w.2.1 0)), some (.int x1), some (.int (x2 + 1))]) dX11_told_43 rfl rfl (by decide) rfl rfl ?_
        refine cj_goto C (tgt := 16) dX11_told_46 rfl ?_
        exact ih (x2 + 1) S4 h
def fX11_told (x1 : Int32) (S : cpS) : Option (Int32 × cpS) :=
    cpB (fX10_hasPerson 1 x1 S) fun z1 S2 =>
    if z1 = 0 then (
    some ((-2 : Int32), S2)) else (
    fX11_told_16 x1 cpFu (0 : Int32) S2)
set_option maxRecDepth 100000 in
set_option maxHeartbeats 4000000 in
theorem m_X11_told (l : Launch) (w : cpW) (A : Nat → Prop) (x1 : Int32) (S : cpS) (r : Int32 × cpS) (h : fX11_told x1 S = some r) : cpMi l yX11_told cX11_told 3 ((some .int)) 4 w A [.ref (w.2.1 0), .int x1] S r := by
  refine cpMi.of (lv := [some (.ref (w.2.1 0)), some (.int x1), none]) (by decide) (Nat.le_of_ble_eq_true rfl) rfl (fun p e s m args below meth c C hr => ?_)
  replace C : cpCx p s m args meth c w A cX11_told RX11 3 := C
  rw [fX11_told] at h
  refine cj_aload_n C (i := 0) dX11_told_0 rfl rfl ?_
  refine cj_getR C (d := 1) o_0 rfl gfX11_10 dX11_told_1 ?_
  refine cj_iload_n C (i := 1) dX11_told_4 rfl rfl ?_
  refine cj_callVi C (As := [.int x1]) (rest := []) qX10_hasPerson mw_29_5 o_1 rfl rfl rfl (Nat.le_of_ble_eq_true rfl) (by decide) dX11_told_5 h (fun _ _ hf => m_X10_hasPerson l w A kVy_1 x1 S _ hf) (fun z1 S2 h => ?_)
  refine cj_if_ne C (tgt := 14) dX11_told_8 rfl h (fun _ h => ?_) (fun _ h => ?_)
  · refine cj_bipush C (v := (-2 : Int32)) dX11_told_11 rfl ?_
    exact cj_ireturn C hr h dX11_told_13
  · refine cj_iconst C (v := (0 : Int32)) dX11_told_14 rfl ?_
    refine cj_istore_n C (i := 2) (lv' := [some (.ref (w.2.1 0)), some (.int x1), some (.int (0 : Int32))]) dX11_told_15 rfl (by decide) rfl rfl ?_
    exact wX11_told_16 C hr x1 cpFu (0 : Int32) S2 h
/-! X11_camps -/
def fX11_camps_12 (x1 : Int32) (S : cpS) : Option (Int32 × cpS) :=
    cpB (fX1_bestCamp S) fun z1 S2 =>
    if x1 = 0 then (
    cpB (fX1_changesFor z1 S2) fun z3 S4 =>
    some (z3, S4)) else (
    some (z1, S2))
set_option maxRecDepth 100000 in
set_option maxHeartbeats 4000000 in
theorem wX11_camps_12 (C : cpCx p s m args meth c w A cX11_camps RX11 3) (hr : meth.sig.returnType = (some .int)) {r : Int32 × cpS} (x1 : Int32) (S : cpS) (h : fX11_camps_12 x1 S = some r) : cpJ p l e (cpRm 3) s m args below meth c (MQ below (va_Qi (fun x S' => (x, S') = r) (cpWorld w A) A) args s 0 0 A) w A 3 12 [some (.ref (w.2.1 0)), some (.int x1), none] [] S := by
  rw [fX11_camps_12] at h
  refine cj_aload_n C (i := 0) dX11_camps_12 rfl rfl ?_
  refine cj_getR C (d := 127) o_0 rfl gfX11_61 dX11_camps_13 ?_
  refine cj_callVi C (As := []) (rest := []) qX1_bestCamp mw_62_8 o_127 rfl rfl rfl (Nat.le_of_ble_eq_true rfl) (by decide) dX11_camps_16 h (fun _ _ hf => m_X1_bestCamp l w A S _ hf) (fun z1 S2 h => ?_)
  refine cj_istore_n C (i := 2) (lv' := [some (.ref (w.2.1 0)), some (.int x1), some (.int z1)]) dX11_camps_19 rfl (by decide) rfl rfl ?_
  refine cj_iload_n C (i := 1) dX11_camps_20 rfl rfl ?_
  refine cj_if_ne C (tgt := 35) dX11_camps_21 rfl h (fun _ h => ?_) (fun _ h => ?_)
  · refine cj_aload_n C (i := 0) dX11_camps_24 rfl rfl ?_
    refine cj_getR C (d := 127) o_0 rfl gfX11_61 dX11_camps_25 ?_
    refine cj_iload_n C (i := 2) dX11_camps_28 rfl rfl ?_
    refine cj_callVi C (As := [.int z1]) (rest := []) qX1_changesFor mw_62_16 o_127 rfl rfl rfl (Nat.le_of_ble_eq_true rfl) (by decide) dX11_camps_29 h (fun _ _ hf => m_X1_changesFor l w A z1 S2 _ hf) (fun z3 S4 h => ?_)
    refine cj_goto C (tgt := 36) dX11_camps_32 rfl ?_
    exact cj_ireturn C hr h dX11_camps_36
  · refine cj_iload_n C (i := 2) dX11_camps_35 rfl rfl ?_
    exact cj_ireturn C hr h dX11_camps_36
def fX11_camps (x1 : Int32) (S : cpS) : Option (Int32 × cpS) :=
    if x1 = 0 then (
    fX11_camps_12 x1 S) else (
    if x1 = (1 : Int32) then (
    fX11_camps_12 x1 S) else (
    some ((-2 : Int32), S)))
set_option maxRecDepth 100000 in
set_option maxHeartbeats 4000000 in
theorem m_X11_camps (l : Launch) (w : cpW) (A : Nat → Prop) (x1 : Int32) (S : cpS) (r : Int32 × cpS) (h : fX11_camps x1 S = some r) : cpMi l yX11_camps cX11_camps 3 ((some .int)) 3 w A [.ref (w.2.1 0), .int x1] S r := by
  refine cpMi.of (lv := [some (.ref (w.2.1 0)), some (.int x1), none]) (by decide) (Nat.le_of_ble_eq_true rfl) rfl (fun p e s m args below meth c C hr => ?_)
  replace C : cpCx p s m args meth c w A cX11_camps RX11 3 := C
  rw [fX11_camps] at h
  refine cj_iload_n C (i := 1) dX11_camps_0 rfl rfl ?_
  refine cj_if_eq C (tgt := 12) dX11_camps_1 rfl h (fun _ h => ?_) (fun _ h => ?_)
  · exact wX11_camps_12 C hr x1 S h
  · refine cj_iload_n C (i := 1) dX11_camps_4 rfl rfl ?_
    refine cj_iconst C (v := (1 : Int32)) dX11_camps_5 rfl ?_
    refine cj_icmp_eq C (tgt := 12) dX11_camps_6 rfl h (fun _ h => ?_) (fun _ h => ?_)
    · exact wX11_camps_12 C hr x1 S h
    · refine cj_bipush C (v := (-2 : Int32)) dX11_camps_9 rfl ?_
      exact cj_ireturn C hr h dX11_camps_11
/-! X11_peace -/
def fX11_peace (S : cpS) : Option (Int32 × cpS) :=
    cpB (fX1_quarrelsToMakeUp S) fun z1 S2 =>
    some (z1, S2)
set_option maxRecDepth 100000 in
set_option maxHeartbeats 4000000 in
theorem m_X11_peace (l : Launch) (w : cpW) (A : Nat → Prop) (S : cpS) (r : Int32 × cpS) (h : fX11_peace S = some r) : cpMi l yX11_peace cX11_peace 1 ((some .int)) 5 w A [.ref (w.2.1 0)] S r := by
  refine cpMi.of (lv := [some (.ref (w.2.1 0))]) (by decide) (Nat.le_of_ble_eq_true rfl) rfl (fun p e s m args below meth c C hr => ?_)
  replace C : cpCx p s m args meth c w A cX11_peace RX11 1 := C
  rw [fX11_peace] at h
  refine cj_aload_n C (i := 0) dX11_peace_0 rfl rfl ?_
  refine cj_getR C (d := 127) o_0 rfl gfX11_61 dX11_peace_1 ?_
  refine cj_callVi C (As := []) (rest := []) qX1_quarrelsToMakeUp mw_63_5 o_127 rfl rfl rfl (Nat.le_of_ble_eq_true rfl) (by decide) dX11_peace_4 h (fun _ _ hf => m_X1_quarrelsToMakeUp l w A S _ hf) (fun z1 S2 h => ?_)
  exact cj_ireturn C hr h dX11_peace_7
/-! X11_rimCode -/
def fX11_rimCode (x1 : Int32) (x2 : Int32) (x3 : Int32) (S : cpS) : Option (Int32 × cpS) :=
    cpB (fX11_hasTray x1 S) fun z1 S2 =>
    if z1 = 0 then (
    some ((-2 : Int32), S2)) else (
    cpB (fX10_hasCoin 1 x2 S2) fun z3 S4 =>
    if z3 = 0 then (
    some ((-2 : Int32), S4)) else (
    if cpIn x1 4 then (
    cpB (fX9_rowCode (139 + 2 * x1.toNatClampNeg) S4) fun z6 S7 =>
    if z6 = 0 then (
    if x3 < 0 then (
    some ((-3 : Int32), S7)) else (
    if cpIn x1 4 then (
    cpB (fX9_allBetween (139 + 2 * x1.toNatClampNeg) (-1 : Int32) (9 : Int32) S7) fun z9 S10 =>
    if z9 = 0 then (
    some ((-3 : Int32), S10)) else (
    some ((0 : Int32), S10))) else none)) else (
    some (z6, S7))) else none))
set_option maxRecDepth 100000 in
set_option maxHeartbeats 4000000 in
theorem m_X11_rimCode (l : Launch) (w : cpW) (A : Nat → Prop) (x1 : Int32) (x2 : Int32) (x3 : Int32) (S : cpS) (r : Int32 × cpS) (h : fX11_rimCode x1 x2 x3 S = some r) : cpMi l yX11_rimCode cX11_rimCode 5 ((some .int)) 2 w A [.ref (w.2.1 0), .int x1, .int x2, .int x3] S r := by
  refine cpMi.of (lv := [some (.ref (w.2.1 0)), some (.int x1), some (.int x2), some (.int x3), none]) (by decide) (Nat.le_of_ble_eq_true rfl) rfl (fun p e s m args below meth c C hr => ?_)
  replace C : cpCx p s m args meth c w A cX11_rimCode RX11 5 := C
  rw [fX11_rimCode] at h
  refine cj_aload_n C (i := 0) dX11_rimCode_0 rfl rfl ?_
  refine cj_iload_n C (i := 1) dX11_rimCode_1 rfl rfl ?_
  refine cj_callVi C (As := [.int x1]) (rest := []) qX11_hasTray mw_42_18 o_0 rfl rfl rfl (Nat.le_of_ble_eq_true rfl) (by decide) dX11_rimCode_2 h (fun _ _ hf => m_X11_hasTray l w A x1 S _ hf) (fun z1 S2 h => ?_)
  refine cj_if_eq C (tgt := 19) dX11_rimCode_5 rfl h (fun _ h => ?_) (fun _ h => ?_)
  · refine cj_bipush C (v := (-2 : Int32)) dX11_rimCode_19 rfl ?_
    exact cj_ireturn C hr h dX11_rimCode_21
  · refine cj_aload_n C (i := 0) dX11_rimCode_8 rfl rfl ?_
    refine cj_getR C (d := 1) o_0 rfl gfX11_10 dX11_rimCode_9 ?_
    refine cj_iload_n C (i := 2) dX11_rimCode_12 rfl rfl ?_
    refine cj_callVi C (As := [.int x2]) (rest := []) qX10_hasCoin mw_30_1 o_1 rfl rfl rfl (Nat.le_of_ble_eq_true rfl) (by decide) dX11_rimCode_13 h (fun _ _ hf => m_X10_hasCoin l w A kVy_1 x2 S2 _ hf) (fun z3 S4 h => ?_)
    refine cj_if_ne C (tgt := 22) dX11_rimCode_16 rfl h (fun _ h => ?_) (fun _ h => ?_)
    · refine cj_bipush C (v := (-2 : Int32)) dX11_rimCode_19 rfl ?_
      exact cj_ireturn C hr h dX11_rimCode_21
    · refine cj_aload_n C (i := 0) dX11_rimCode_22 rfl rfl ?_
      refine cj_getR C (d := 138) o_0 rfl gfX11_83 dX11_rimCode_23 ?_
      refine cj_iload_n C (i := 1) dX11_rimCode_26 rfl rfl ?_
      refine cj_aaload C (d := (139 + 2 * x1.toNatClampNeg)) (by decide) o_138 rfl h (tr_138) dX11_rimCode_27 (fun hi5 h => ?_)
      refine cj_callVi C (As := []) (rest := []) qX9_rowCode mw_63_22 (cpTy_o0 (tk_138 hi5)) rfl rfl rfl (Nat.le_of_ble_eq_true rfl) (by decide) dX11_rimCode_28 h (fun _ _ hf => m_X9_rowCode l w A (tk_138 hi5) S4 _ hf) (fun z6 S7 h => ?_)
      refine cj_istore C (lv' := [some (.ref (w.2.1 0)), some (.int x1), some (.int x2), some (.int x3), some (.int z6)]) dX11_rimCode_31 (by decide) rfl rfl ?_
      refine cj_iload C dX11_rimCode_33 rfl ?_
      refine cj_if_eq C (tgt := 41) dX11_rimCode_35 rfl h (fun _ h => ?_) (fun _ h => ?_)
      · refine cj_iload_n C (i := 3) dX11_rimCode_41 rfl rfl ?_
        refine cj_if_lt C (tgt := 60) dX11_rimCode_42 rfl h (fun _ h => ?_) (fun _ h => ?_)
        · refine cj_bipush C (v := (-3 : Int32)) dX11_rimCode_60 rfl ?_
          refine cj_goto C (tgt := 66) dX11_rimCode_62 rfl ?_
          exact cj_ireturn C hr h dX11_rimCode_66
        · refine cj_aload_n C (i := 0) dX11_rimCode_45 rfl rfl ?_
          refine cj_getR C (d := 138) o_0 rfl gfX11_83 dX11_rimCode_46 ?_
          refine cj_iload_n C (i := 1) dX11_rimCode_49 rfl rfl ?_
          refine cj_aaload C (d := (139 + 2 * x1.toNatClampNeg)) (by decide) o_138 rfl h (tr_138) dX11_rimCode_50 (fun hi8 h => ?_)
          refine cj_iconst C (v := (-1 : Int32)) dX11_rimCode_51 rfl ?_
          refine cj_bipush C (v := (9 : Int32)) dX11_rimCode_52 rfl ?_
          refine cj_callVi C (As := [.int (-1 : Int32), .int (9 : Int32)]) (rest := []) qX9_allBetween mw_64_4 (cpTy_o0 (tk_138 hi8)) rfl rfl rfl (Nat.le_of_ble_eq_true rfl) (by decide) dX11_rimCode_54 h (fun _ _ hf => m_X9_allBetween l w A (tk_138 hi8) (-1 : Int32) (9 : Int32) S7 _ hf) (fun z9 S10 h => ?_)
          refine cj_if_ne C (tgt := 65) dX11_rimCode_57 rfl h (fun _ h => ?_) (fun _ h => ?_)
          · refine cj_bipush C (v := (-3 : Int32)) dX11_rimCode_60 rfl ?_
            refine cj_goto C (tgt := 66) dX11_rimCode_62 rfl ?_
            exact cj_ireturn C hr h dX11_rimCode_66
          · refine cj_iconst C (v := (0 : Int32)) dX11_rimCode_65 rfl ?_
            exact cj_ireturn C hr h dX11_rimCode_66
      · refine cj_iload C dX11_rimCode_38 rfl ?_
        exact cj_ireturn C hr h dX11_rimCode_40
/-! X11_wornBy -/
def fX11_wornBy (x1 : Int32) (x2 : Int32) (S : cpS) : Option (Int64 × cpS) :=
    cpB (fX11_rimCode x1 x2 (0 : Int32) S) fun z1 S2 =>
    if z1 = 0 then (
    if cpIn x1 4 then (
    cpB (fX8_learn (139 + 2 * x1.toNatClampNeg) x2 S2) fun _ S5 =>
    if cpIn x2 4 then (
    cpB (fX8_rowsFrom (0 : Int32) (S5.1 58 x2.toNatClampNeg) S5) fun z6 S7 =>
    some (z6, S7)) else none) else none) else (
    some ((Int32.toInt64 z1), S2))
set_option maxRecDepth 100000 in
set_option maxHeartbeats 4000000 in
theorem m_X11_wornBy (l : Launch) (w : cpW) (A : Nat → Prop) (x1 : Int32) (x2 : Int32) (S : cpS) (r : Int64 × cpS) (h : fX11_wornBy x1 x2 S = some r) : cpMl l yX11_wornBy cX11_wornBy 4 ((some .long)) 7 w A [.ref (w.2.1 0), .int x1, .int x2] S r := by
  refine cpMl.of (lv := [some (.ref (w.2.1 0)), some (.int x1), some (.int x2), none]) (by decide) (Nat.le_of_ble_eq_true rfl) rfl (fun p e s m args below meth c C hr => ?_)
  replace C : cpCx p s m args meth c w A cX11_wornBy RX11 4 := C
  rw [fX11_wornBy] at h
  refine cj_aload_n C (i := 0) dX11_wornBy_0 rfl rfl ?_
  refine cj_iload_n C (i := 1) dX11_wornBy_1 rfl rfl ?_
  refine cj_iload_n C (i := 2) dX11_wornBy_2 rfl rfl ?_
  refine cj_iconst C (v := (0 : Int32)) dX11_wornBy_3 rfl ?_
  refine cj_callVi C (As := [.int x1, .int x2, .int (0 : Int32)]) (rest := []) qX11_rimCode mw_63_18 o_0 rfl rfl rfl (Nat.le_of_ble_eq_true rfl) (by decide) dX11_wornBy_4 h (fun _ _ hf => m_X11_rimCode l w A x1 x2 (0 : Int32) S _ hf) (fun z1 S2 h => ?_)
  refine cj_istore_n C (i := 3) (lv' := [some (.ref (w.2.1 0)), some (.int x1), some (.int x2), some (.int z1)]) dX11_wornBy_7 rfl (by decide) rfl rfl ?_
  refine cj_iload_n C (i := 3) dX11_wornBy_8 rfl rfl ?_
  refine cj_if_eq C (tgt := 15) dX11_wornBy_9 rfl h (fun _ h => ?_) (fun _ h => ?_)
  · refine cj_aload_n C (i := 0) dX11_wornBy_15 rfl rfl ?_
    refine cj_getR C (d := 130) o_0 rfl gfX11_70 dX11_wornBy_16 ?_
    refine cj_aload_n C (i := 0) dX11_wornBy_19 rfl rfl ?_
    refine cj_getR C (d := 138) o_0 rfl gfX11_83 dX11_wornBy_20 ?_
    refine cj_iload_n C (i := 1) dX11_wornBy_23 rfl rfl ?_
    refine cj_aaload C (d := (139 + 2 * x1.toNatClampNeg)) (by decide) o_138 rfl h (tr_138) dX11_wornBy_24 (fun hi3 h => ?_)
    refine cj_iload_n C (i := 2) dX11_wornBy_25 rfl rfl ?_
    refine cj_callVv C (As := [.ref (w.2.1 (139 + 2 * x1.toNatClampNeg)), .int x2]) (rest := []) qX8_learn mw_64_8 o_130 rfl rfl rfl (Nat.le_of_ble_eq_true rfl) (by decide) dX11_wornBy_26 h (fun _ _ hf => m_X8_learn l w A (tk_138 hi3) x2 S2 _ hf) (fun z4 S5 h => ?_)
    refine cj_aload_n C (i := 0) dX11_wornBy_29 rfl rfl ?_
    refine cj_getR C (d := 130) o_0 rfl gfX11_70 dX11_wornBy_30 ?_
    refine cj_iconst C (v := (0 : Int32)) dX11_wornBy_33 rfl ?_
    refine cj_aload_n C (i := 0) dX11_wornBy_34 rfl rfl ?_
    refine cj_getR C (d := 57) o_0 rfl gfX11_19 dX11_wornBy_35 ?_
    refine cj_getR C (d := 58) o_57 rfl gfX11_150 dX11_wornBy_38 ?_
    refine cj_iload_n C (i := 2) dX11_wornBy_41 rfl rfl ?_
    refine cj_iaload C o_58 h dX11_wornBy_42 (fun h => ?_)
    refine cj_callVl C (As := [.int (0 : Int32), .int (S5.1 58 x2.toNatClampNeg)]) (rest := []) qX8_rowsFrom mw_65_8 o_130 rfl rfl rfl (Nat.le_of_ble_eq_true rfl) (by decide) dX11_wornBy_43 h (fun _ _ hf => m_X8_rowsFrom l w A (0 : Int32) (S5.1 58 x2.toNatClampNeg) S5 _ hf) (fun z6 S7 h => ?_)
    exact cj_lreturn C hr h dX11_wornBy_46
  · refine cj_iload_n C (i := 3) dX11_wornBy_12 rfl rfl ?_
    refine cj_i2l C dX11_wornBy_13 ?_
    exact cj_lreturn C hr h dX11_wornBy_14
/-! X11_wornFirst -/
def fX11_wornFirst (x1 : Int32) (x2 : Int32) (x3 : Int32) (S : cpS) : Option (Int32 × cpS) :=
    cpB (fX11_rimCode x1 x2 x3 S) fun z1 S2 =>
    if z1 = 0 then (
    if cpIn x1 4 then (
    if x3 < (S2.1 (139 + 2 * x1.toNatClampNeg) 1) then (
    if cpIn x1 4 then (
    cpB (fX8_learn (139 + 2 * x1.toNatClampNeg) x2 S2) fun _ S6 =>
    if cpIn x2 4 then (
    cpB (fX8_firstRowsDeed x2 (S6.1 58 x2.toNatClampNeg) x3 S6) fun z7 S8 =>
    some (z7, S8)) else none) else none) else (
    some ((-1 : Int32), S2))) else none) else (
    some (z1, S2))
set_option maxRecDepth 100000 in
set_option maxHeartbeats 4000000 in
theorem m_X11_wornFirst (l : Launch) (w : cpW) (A : Nat → Prop) (x1 : Int32) (x2 : Int32) (x3 : Int32) (S : cpS) (r : Int32 × cpS) (h : fX11_wornFirst x1 x2 x3 S = some r) : cpMi l yX11_wornFirst cX11_wornFirst 5 ((some .int)) 7 w A [.ref (w.2.1 0), .int x1, .int x2, .int x3] S r := by
  refine cpMi.of (lv := [some (.ref (w.2.1 0)), some (.int x1), some (.int x2), some (.int x3), none]) (by decide) (Nat.le_of_ble_eq_true rfl) rfl (fun p e s m args below meth c C hr => ?_)
  replace C : cpCx p s m args meth c w A cX11_wornFirst RX11 5 := C
  rw [fX11_wornFirst] at h
  refine cj_aload_n C (i := 0) dX11_wornFirst_0 rfl rfl ?_
  refine cj_iload_n C (i := 1) dX11_wornFirst_1 rfl rfl ?_
  refine cj_iload_n C (i := 2) dX11_wornFirst_2 rfl rfl ?_
  refine cj_iload_n C (i := 3) dX11_wornFirst_3 rfl rfl ?_
  refine cj_callVi C (As := [.int x1, .int x2, .int x3]) (rest := []) qX11_rimCode mw_63_18 o_0 rfl rfl rfl (Nat.le_of_ble_eq_true rfl) (by decide) dX11_wornFirst_4 h (fun _ _ hf => m_X11_rimCode l w A x1 x2 x3 S _ hf) (fun z1 S2 h => ?_)
  refine cj_istore C (lv' := [some (.ref (w.2.1 0)), some (.int x1), some (.int x2), some (.int x3), some (.int z1)]) dX11_wornFirst_7 (by decide) rfl rfl ?_
  refine cj_iload C dX11_wornFirst_9 rfl ?_
  refine cj_if_eq C (tgt := 17) dX11_wornFirst_11 rfl h (fun _ h => ?_) (fun _ h => ?_)
  · refine cj_iload_n C (i := 3) dX11_wornFirst_17 rfl rfl ?_
    refine cj_aload_n C (i := 0) dX11_wornFirst_18 rfl rfl ?_
    refine cj_getR C (d := 138) o_0 rfl gfX11_83 dX11_wornFirst_19 ?_
    refine cj_iload_n C (i := 1) dX11_wornFirst_22 rfl rfl ?_
    refine cj_aaload C (d := (139 + 2 * x1.toNatClampNeg)) (by decide) o_138 rfl h (tr_138) dX11_wornFirst_23 (fun hi3 h => ?_)
    refine cj_getI C (j := 1) (cpTy_o0 (tk_138 hi3)) rfl gfX11_236 dX11_wornFirst_24 ?_
    refine cj_icmp_lt C (tgt := 32) dX11_wornFirst_27 rfl h (fun _ h => ?_) (fun _ h => ?_)
    · refine cj_aload_n C (i := 0) dX11_wornFirst_32 rfl rfl ?_
      refine cj_getR C (d := 130) o_0 rfl gfX11_70 dX11_wornFirst_33 ?_
      refine cj_aload_n C (i := 0) dX11_wornFirst_36 rfl rfl ?_
      refine cj_getR C (d := 138) o_0 rfl gfX11_83 dX11_wornFirst_37 ?_
      refine cj_iload_n C (i := 1) dX11_wornFirst_40 rfl rfl ?_
      refine cj_aaload C (d := (139 + 2 * x1.toNatClampNeg)) (by decide) o_138 rfl h (tr_138) dX11_wornFirst_41 (fun hi4 h => ?_)
      refine cj_iload_n C (i := 2) dX11_wornFirst_42 rfl rfl ?_
      refine cj_callVv C (As := [.ref (w.2.1 (139 + 2 * x1.toNatClampNeg)), .int x2]) (rest := []) qX8_learn mw_64_8 o_130 rfl rfl rfl (Nat.le_of_ble_eq_true rfl) (by decide) dX11_wornFirst_43 h (fun _ _ hf => m_X8_learn l w A (tk_138 hi4) x2 S2 _ hf) (fun z5 S6 h => ?_)
      refine cj_aload_n C (i := 0) dX11_wornFirst_46 rfl rfl ?_
      refine cj_getR C (d := 130) o_0 rfl gfX11_70 dX11_wornFirst_47 ?_
      refine cj_iload_n C (i := 2) dX11_wornFirst_50 rfl rfl ?_
      refine cj_aload_n C (i := 0) dX11_wornFirst_51 rfl rfl ?_
      refine cj_getR C (d := 57) o_0 rfl gfX11_19 dX11_wornFirst_52 ?_
      refine cj_getR C (d := 58) o_57 rfl gfX11_150 dX11_wornFirst_55 ?_
      refine cj_iload_n C (i := 2) dX11_wornFirst_58 rfl rfl ?_
      refine cj_iaload C o_58 h dX11_wornFirst_59 (fun h => ?_)
      refine cj_iload_n C (i := 3) dX11_wornFirst_60 rfl rfl ?_
      refine cj_callVi C (As := [.int x2, .int (S6.1 58 x2.toNatClampNeg), .int x3]) (rest := []) qX8_firstRowsDeed mw_66_15 o_130 rfl rfl rfl (Nat.le_of_ble_eq_true rfl) (by decide) dX11_wornFirst_61 h (fun _ _ hf => m_X8_firstRowsDeed l w A x2 (S6.1 58 x2.toNatClampNeg) x3 S6 _ hf) (fun z7 S8 h => ?_)
      exact cj_ireturn C hr h dX11_wornFirst_64
    · refine cj_iconst C (v := (-1 : Int32)) dX11_wornFirst_30 rfl ?_
      exact cj_ireturn C hr h dX11_wornFirst_31
  · refine cj_iload C dX11_wornFirst_14 rfl ?_
    exact cj_ireturn C hr h dX11_wornFirst_16
/-! X11_who -/
def fX11_who (x1 : Int32) (x2 : Int32) (x3 : Int32) (S : cpS) : Option (Int32 × cpS) :=
    cpB (fX11_rimCode x1 x2 x3 S) fun z1 S2 =>
    if z1 = 0 then (
    if cpIn x1 4 then (
    if x3 < (S2.1 (139 + 2 * x1.toNatClampNeg) 1) then (
    if cpIn x1 4 then (
    cpB (fX8_learn (139 + 2 * x1.toNatClampNeg) x2 S2) fun _ S6 =>
    if cpIn x2 4 then (
    cpB (fX8_peopleAt x3 (S6.1 58 x2.toNatClampNeg) S6) fun z7 S8 =>
    some (z7, S8)) else none) else none) else (
    some ((-7 : Int32), S2))) else none) else (
    some (z1, S2))
set_option maxRecDepth 100000 in
set_option maxHeartbeats 4000000 in
theorem m_X11_who (l : Launch) (w : cpW) (A : Nat → Prop) (x1 : Int32) (x2 : Int32) (x3 : Int32) (S : cpS) (r : Int32 × cpS) (h : fX11_who x1 x2 x3 S = some r) : cpMi l yX11_who cX11_who 5 ((some .int)) 7 w A [.ref (w.2.1 0), .int x1, .int x2, .int x3] S r := by
  refine cpMi.of (lv := [some (.ref (w.2.1 0)), some (.int x1), some (.int x2), some (.int x3), none]) (by decide) (Nat.le_of_ble_eq_true rfl) rfl (fun p e s m args below meth c C hr => ?_)
  replace C : cpCx p s m args meth c w A cX11_who RX11 5 := C
  rw [fX11_who] at h
  refine cj_aload_n C (i := 0) dX11_who_0 rfl rfl ?_
  refine cj_iload_n C (i := 1) dX11_who_1 rfl rfl ?_
  refine cj_iload_n C (i := 2) dX11_who_2 rfl rfl ?_
  refine cj_iload_n C (i := 3) dX11_who_3 rfl rfl ?_
  refine cj_callVi C (As := [.int x1, .int x2, .int x3]) (rest := []) qX11_rimCode mw_63_18 o_0 rfl rfl rfl (Nat.le_of_ble_eq_true rfl) (by decide) dX11_who_4 h (fun _ _ hf => m_X11_rimCode l w A x1 x2 x3 S _ hf) (fun z1 S2 h => ?_)
  refine cj_istore C (lv' := [some (.ref (w.2.1 0)), some (.int x1), some (.int x2), some (.int x3), some (.int z1)]) dX11_who_7 (by decide) rfl rfl ?_
  refine cj_iload C dX11_who_9 rfl ?_
  refine cj_if_eq C (tgt := 17) dX11_who_11 rfl h (fun _ h => ?_) (fun _ h => ?_)
  · refine cj_iload_n C (i := 3) dX11_who_17 rfl rfl ?_
    refine cj_aload_n C (i := 0) dX11_who_18 rfl rfl ?_
    refine cj_getR C (d := 138) o_0 rfl gfX11_83 dX11_who_19 ?_
    refine cj_iload_n C (i := 1) dX11_who_22 rfl rfl ?_
    refine cj_aaload C (d := (139 + 2 * x1.toNatClampNeg)) (by decide) o_138 rfl h (tr_138) dX11_who_23 (fun hi3 h => ?_)
    refine cj_getI C (j := 1) (cpTy_o0 (tk_138 hi3)) rfl gfX11_236 dX11_who_24 ?_
    refine cj_icmp_lt C (tgt := 33) dX11_who_27 rfl h (fun _ h => ?_) (fun _ h => ?_)
    · refine cj_aload_n C (i := 0) dX11_who_33 rfl rfl ?_
      refine cj_getR C (d := 130) o_0 rfl gfX11_70 dX11_who_34 ?_
      refine cj_aload_n C (i := 0) dX11_who_37 rfl rfl ?_
      refine cj_getR C (d := 138) o_0 rfl gfX11_83 dX11_who_38 ?_
      refine cj_iload_n C (i := 1) dX11_who_41 rfl rfl ?_
      refine cj_aaload C (d := (139 + 2 * x1.toNatClampNeg)) (by decide) o_138 rfl h (tr_138) dX11_who_42 (fun hi4 h => ?_)
      refine cj_iload_n C (i := 2) dX11_who_43 rfl rfl ?_
      refine cj_callVv C (As := [.ref (w.2.1 (139 + 2 * x1.toNatClampNeg)), .int x2]) (rest := []) qX8_learn mw_64_8 o_130 rfl rfl rfl (Nat.le_of_ble_eq_true rfl) (by decide) dX11_who_44 h (fun _ _ hf => m_X8_learn l w A (tk_138 hi4) x2 S2 _ hf) (fun z5 S6 h => ?_)
      refine cj_aload_n C (i := 0) dX11_who_47 rfl rfl ?_
      refine cj_getR C (d := 130) o_0 rfl gfX11_70 dX11_who_48 ?_
      refine cj_iload_n C (i := 3) dX11_who_51 rfl rfl ?_
      refine cj_aload_n C (i := 0) dX11_who_52 rfl rfl ?_
      refine cj_getR C (d := 57) o_0 rfl gfX11_19 dX11_who_53 ?_
      refine cj_getR C (d := 58) o_57 rfl gfX11_150 dX11_who_56 ?_
      refine cj_iload_n C (i := 2) dX11_who_59 rfl rfl ?_
      refine cj_iaload C o_58 h dX11_who_60 (fun h => ?_)
      refine cj_callVi C (As := [.int x3, .int (S6.1 58 x2.toNatClampNeg)]) (rest := []) qX8_peopleAt mw_67_11 o_130 rfl rfl rfl (Nat.le_of_ble_eq_true rfl) (by decide) dX11_who_61 h (fun _ _ hf => m_X8_peopleAt l w A x3 (S6.1 58 x2.toNatClampNeg) S6 _ hf) (fun z7 S8 h => ?_)
      exact cj_ireturn C hr h dX11_who_64
    · refine cj_bipush C (v := (-7 : Int32)) dX11_who_30 rfl ?_
      exact cj_ireturn C hr h dX11_who_32
  · refine cj_iload C dX11_who_14 rfl ?_
    exact cj_ireturn C hr h dX11_who_16
/-! X11_toldCode -/
def fX11_toldCode (k1 : Nat) (S : cpS) : Option (Int32 × cpS) :=
    cpB (fX9_rowCode k1 S) fun z1 S2 =>
    if z1 = 0 then (
    cpB (fX9_allBetween k1 (0 : Int32) (99999 : Int32) S2) fun z3 S4 =>
    if z3 = 0 then (
    some ((-3 : Int32), S4)) else (
    some ((0 : Int32), S4))) else (
    some (z1, S2))
set_option maxRecDepth 100000 in
set_option maxHeartbeats 4000000 in
theorem m_X11_toldCode (l : Launch) (w : cpW) (A : Nat → Prop) {k1 : Nat} (hk1 : cpTy k1) (S : cpS) (r : Int32 × cpS) (h : fX11_toldCode k1 S = some r) : cpMi l yX11_toldCode cX11_toldCode 3 ((some .int)) 2 w A [.ref (w.2.1 0), .ref (w.2.1 k1)] S r := by
  refine cpMi.of (lv := [some (.ref (w.2.1 0)), some (.ref (w.2.1 k1)), none]) (by decide) (Nat.le_of_ble_eq_true rfl) rfl (fun p e s m args below meth c C hr => ?_)
  replace C : cpCx p s m args meth c w A cX11_toldCode RX11 3 := C
  rw [fX11_toldCode] at h
  refine cj_aload_n C (i := 1) dX11_toldCode_0 rfl rfl ?_
  refine cj_callVi C (As := []) (rest := []) qX9_rowCode mw_63_22 (cpTy_o0 hk1) rfl rfl rfl (Nat.le_of_ble_eq_true rfl) (by decide) dX11_toldCode_1 h (fun _ _ hf => m_X9_rowCode l w A hk1 S _ hf) (fun z1 S2 h => ?_)
  refine cj_istore_n C (i := 2) (lv' := [some (.ref (w.2.1 0)), some (.ref (w.2.1 k1)), some (.int z1)]) dX11_toldCode_4 rfl (by decide) rfl rfl ?_
  refine cj_iload_n C (i := 2) dX11_toldCode_5 rfl rfl ?_
  refine cj_if_eq C (tgt := 11) dX11_toldCode_6 rfl h (fun _ h => ?_) (fun _ h => ?_)
  · refine cj_aload_n C (i := 1) dX11_toldCode_11 rfl rfl ?_
    refine cj_iconst C (v := (0 : Int32)) dX11_toldCode_12 rfl ?_
    refine cj_ldcw C (v := (99999 : Int32)) mw_68_11 dX11_toldCode_13 ?_
    refine cj_callVi C (As := [.int (0 : Int32), .int (99999 : Int32)]) (rest := []) qX9_allBetween mw_64_4 (cpTy_o0 hk1) rfl rfl rfl (Nat.le_of_ble_eq_true rfl) (by decide) dX11_toldCode_16 h (fun _ _ hf => m_X9_allBetween l w A hk1 (0 : Int32) (99999 : Int32) S2 _ hf) (fun z3 S4 h => ?_)
    refine cj_if_eq C (tgt := 26) dX11_toldCode_19 rfl h (fun _ h => ?_) (fun _ h => ?_)
    · refine cj_bipush C (v := (-3 : Int32)) dX11_toldCode_26 rfl ?_
      exact cj_ireturn C hr h dX11_toldCode_28
    · refine cj_iconst C (v := (0 : Int32)) dX11_toldCode_22 rfl ?_
      refine cj_goto C (tgt := 28) dX11_toldCode_23 rfl ?_
      exact cj_ireturn C hr h dX11_toldCode_28
  · refine cj_iload_n C (i := 2) dX11_toldCode_9 rfl rfl ?_
    exact cj_ireturn C hr h dX11_toldCode_10
/-! X11_hours -/
def fX11_hours (x1 : Int32) (S : cpS) : Option (Int32 × cpS) :=
    cpB (fX11_hasTray x1 S) fun z1 S2 =>
    if z1 = 0 then (
    some ((-2 : Int32), S2)) else (
    if cpIn x1 4 then (
    cpB (fX11_toldCode (139 + 2 * x1.toNatClampNeg) S2) fun z4 S5 =>
    if z4 = 0 then (
    if cpIn x1 4 then (
    cpB (fX0_hoursOf (139 + 2 * x1.toNatClampNeg) S5) fun z7 S8 =>
    some (z7, S8)) else none) else (
    some (z4, S5))) else none)
set_option maxRecDepth 100000 in
set_option maxHeartbeats 4000000 in
theorem m_X11_hours (l : Launch) (w : cpW) (A : Nat → Prop) (x1 : Int32) (S : cpS) (r : Int32 × cpS) (h : fX11_hours x1 S = some r) : cpMi l yX11_hours cX11_hours 3 ((some .int)) 7 w A [.ref (w.2.1 0), .int x1] S r := by
  refine cpMi.of (lv := [some (.ref (w.2.1 0)), some (.int x1), none]) (by decide) (Nat.le_of_ble_eq_true rfl) rfl (fun p e s m args below meth c C hr => ?_)
  replace C : cpCx p s m args meth c w A cX11_hours RX11 3 := C
  rw [fX11_hours] at h
  refine cj_aload_n C (i := 0) dX11_hours_0 rfl rfl ?_
  refine cj_iload_n C (i := 1) dX11_hours_1 rfl rfl ?_
  refine cj_callVi C (As := [.int x1]) (rest := []) qX11_hasTray mw_42_18 o_0 rfl rfl rfl (Nat.le_of_ble_eq_true rfl) (by decide) dX11_hours_2 h (fun _ _ hf => m_X11_hasTray l w A x1 S _ hf) (fun z1 S2 h => ?_)
  refine cj_if_ne C (tgt := 11) dX11_hours_5 rfl h (fun _ h => ?_) (fun _ h => ?_)
  · refine cj_bipush C (v := (-2 : Int32)) dX11_hours_8 rfl ?_
    exact cj_ireturn C hr h dX11_hours_10
  · refine cj_aload_n C (i := 0) dX11_hours_11 rfl rfl ?_
    refine cj_aload_n C (i := 0) dX11_hours_12 rfl rfl ?_
    refine cj_getR C (d := 138) o_0 rfl gfX11_83 dX11_hours_13 ?_
    refine cj_iload_n C (i := 1) dX11_hours_16 rfl rfl ?_
    refine cj_aaload C (d := (139 + 2 * x1.toNatClampNeg)) (by decide) o_138 rfl h (tr_138) dX11_hours_17 (fun hi3 h => ?_)
    refine cj_callVi C (As := [.ref (w.2.1 (139 + 2 * x1.toNatClampNeg))]) (rest := []) qX11_toldCode mw_68_7 o_0 rfl rfl rfl (Nat.le_of_ble_eq_true rfl) (by decide) dX11_hours_18 h (fun _ _ hf => m_X11_toldCode l w A (tk_138 hi3) S2 _ hf) (fun z4 S5 h => ?_)
    refine cj_istore_n C (i := 2) (lv' := [some (.ref (w.2.1 0)), some (.int x1), some (.int z4)]) dX11_hours_21 rfl (by decide) rfl rfl ?_
    refine cj_iload_n C (i := 2) dX11_hours_22 rfl rfl ?_
    refine cj_if_eq C (tgt := 30) dX11_hours_23 rfl h (fun _ h => ?_) (fun _ h => ?_)
    · refine cj_aload_n C (i := 0) dX11_hours_30 rfl rfl ?_
      refine cj_getR C (d := 117) o_0 rfl gfX11_45 dX11_hours_31 ?_
      refine cj_aload_n C (i := 0) dX11_hours_34 rfl rfl ?_
      refine cj_getR C (d := 138) o_0 rfl gfX11_83 dX11_hours_35 ?_
      refine cj_iload_n C (i := 1) dX11_hours_38 rfl rfl ?_
      refine cj_aaload C (d := (139 + 2 * x1.toNatClampNeg)) (by decide) o_138 rfl h (tr_138) dX11_hours_39 (fun hi6 h => ?_)
      refine cj_callVi C (As := [.ref (w.2.1 (139 + 2 * x1.toNatClampNeg))]) (rest := []) qX0_hoursOf mw_68_12 o_117 rfl rfl rfl (Nat.le_of_ble_eq_true rfl) (by decide) dX11_hours_40 h (fun _ _ hf => m_X0_hoursOf l w A (tk_138 hi6) S5 _ hf) (fun z7 S8 h => ?_)
      exact cj_ireturn C hr h dX11_hours_43
    · refine cj_iload_n C (i := 2) dX11_hours_26 rfl rfl ?_
      refine cj_goto C (tgt := 43) dX11_hours_27 rfl ?_
      exact cj_ireturn C hr h dX11_hours_43
/-! X11_attempt -/
def fX11_attempt (x1 : Int32) (x2 : Int32) (x3 : Int32) (S : cpS) : Option (Int32 × cpS) :=
    cpB (fX11_hasTray x1 S) fun z1 S2 =>
    if z1 = 0 then (
    some ((-2 : Int32), S2)) else (
    cpB (fX11_coinAndPlace x2 x3 S2) fun z3 S4 =>
    if z3 = 0 then (
    some ((-2 : Int32), S4)) else (
    if cpIn x1 4 then (
    cpB (fX11_toldCode (139 + 2 * x1.toNatClampNeg) S4) fun z6 S7 =>
    if z6 = 0 then (
    if cpIn x1 4 then (
    cpB (fX0_hoursOf (139 + 2 * x1.toNatClampNeg) S7) fun z9 S10 =>
    if z9 = 0 then (
    some ((-1 : Int32), S10)) else (
    cpB (fX8_tellingPair z9 x2 x3 S10) fun z11 S12 =>
    some (z11, S12))) else none) else (
    some (z6, S7))) else none))
set_option maxRecDepth 100000 in
set_option maxHeartbeats 4000000 in
theorem m_X11_attempt (l : Launch) (w : cpW) (A : Nat → Prop) (x1 : Int32) (x2 : Int32) (x3 : Int32) (S : cpS) (r : Int32 × cpS) (h : fX11_attempt x1 x2 x3 S = some r) : cpMi l yX11_attempt cX11_attempt 6 ((some .int)) 7 w A [.ref (w.2.1 0), .int x1, .int x2, .int x3] S r := by
  refine cpMi.of (lv := [some (.ref (w.2.1 0)), some (.int x1), some (.int x2), some (.int x3), none, none]) (by decide) (Nat.le_of_ble_eq_true rfl) rfl (fun p e s m args below meth c C hr => ?_)
  replace C : cpCx p s m args meth c w A cX11_attempt RX11 6 := C
  rw [fX11_attempt] at h
  refine cj_aload_n C (i := 0) dX11_attempt_0 rfl rfl ?_
  refine cj_iload_n C (i := 1) dX11_attempt_1 rfl rfl ?_
  refine cj_callVi C (As := [.int x1]) (rest := []) qX11_hasTray mw_42_18 o_0 rfl rfl rfl (Nat.le_of_ble_eq_true rfl) (by decide) dX11_attempt_2 h (fun _ _ hf => m_X11_hasTray l w A x1 S _ hf) (fun z1 S2 h => ?_)
  refine cj_if_eq C (tgt := 17) dX11_attempt_5 rfl h (fun _ h => ?_) (fun _ h => ?_)
  · refine cj_bipush C (v := (-2 : Int32)) dX11_attempt_17 rfl ?_
    exact cj_ireturn C hr h dX11_attempt_19
  · refine cj_aload_n C (i := 0) dX11_attempt_8 rfl rfl ?_
    refine cj_iload_n C (i := 2) dX11_attempt_9 rfl rfl ?_
    refine cj_iload_n C (i := 3) dX11_attempt_10 rfl rfl ?_
    refine cj_callVi C (As := [.int x2, .int x3]) (rest := []) qX11_coinAndPlace mw_38_7 o_0 rfl rfl rfl (Nat.le_of_ble_eq_true rfl) (by decide) dX11_attempt_11 h (fun _ _ hf => m_X11_coinAndPlace l w A x2 x3 S2 _ hf) (fun z3 S4 h => ?_)
    refine cj_if_ne C (tgt := 20) dX11_attempt_14 rfl h (fun _ h => ?_) (fun _ h => ?_)
    · refine cj_bipush C (v := (-2 : Int32)) dX11_attempt_17 rfl ?_
      exact cj_ireturn C hr h dX11_attempt_19
    · refine cj_aload_n C (i := 0) dX11_attempt_20 rfl rfl ?_
      refine cj_aload_n C (i := 0) dX11_attempt_21 rfl rfl ?_
      refine cj_getR C (d := 138) o_0 rfl gfX11_83 dX11_attempt_22 ?_
      refine cj_iload_n C (i := 1) dX11_attempt_25 rfl rfl ?_
      refine cj_aaload C (d := (139 + 2 * x1.toNatClampNeg)) (by decide) o_138 rfl h (tr_138) dX11_attempt_26 (fun hi5 h => ?_)
      refine cj_callVi C (As := [.ref (w.2.1 (139 + 2 * x1.toNatClampNeg))]) (rest := []) qX11_toldCode mw_68_7 o_0 rfl rfl rfl (Nat.le_of_ble_eq_true rfl) (by decide) dX11_attempt_27 h (fun _ _ hf => m_X11_toldCode l w A (tk_138 hi5) S4 _ hf) (fun z6 S7 h => ?_)
      refine cj_istore C (lv' := [some (.ref (w.2.1 0)), some (.int x1), some (.int x2), some (.int x3), some (.int z6), none]) dX11_attempt_30 (by decide) rfl rfl ?_
      refine cj_iload C dX11_attempt_32 rfl ?_
      refine cj_if_eq C (tgt := 40) dX11_attempt_34 rfl h (fun _ h => ?_) (fun _ h => ?_)
      · refine cj_aload_n C (i := 0) dX11_attempt_40 rfl rfl ?_
        refine cj_getR C (d := 117) o_0 rfl gfX11_45 dX11_attempt_41 ?_
        refine cj_aload_n C (i := 0) dX11_attempt_44 rfl rfl ?_
        refine cj_getR C (d := 138) o_0 rfl gfX11_83 dX11_attempt_45 ?_
        refine cj_iload_n C (i := 1) dX11_attempt_48 rfl rfl ?_
        refine cj_aaload C (d := (139 + 2 * x1.toNatClampNeg)) (by decide) o_138 rfl h (tr_138) dX11_attempt_49 (fun hi8 h => ?_)
        refine cj_callVi C (As := [.ref (w.2.1 (139 + 2 * x1.toNatClampNeg))]) (rest := []) qX0_hoursOf mw_68_12 o_117 rfl rfl rfl (Nat.le_of_ble_eq_true rfl) (by decide) dX11_attempt_50 h (fun _ _ hf => m_X0_hoursOf l w A (tk_138 hi8) S7 _ hf) (fun z9 S10 h => ?_)
        refine cj_istore C (lv' := [some (.ref (w.2.1 0)), some (.int x1), some (.int x2), some (.int x3), some (.int z6), some (.int z9)]) dX11_attempt_53 (by decide) rfl rfl ?_
        refine cj_iload C dX11_attempt_55 rfl ?_
        refine cj_if_ne C (tgt := 64) dX11_attempt_57 rfl h (fun _ h => ?_) (fun _ h => ?_)
        · refine cj_iconst C (v := (-1 : Int32)) dX11_attempt_60 rfl ?_
          refine cj_goto C (tgt := 75) dX11_attempt_61 rfl ?_
          exact cj_ireturn C hr h dX11_attempt_75
        · refine cj_aload_n C (i := 0) dX11_attempt_64 rfl rfl ?_
          refine cj_getR C (d := 130) o_0 rfl gfX11_70 dX11_attempt_65 ?_
          refine cj_iload C dX11_attempt_68 rfl ?_
          refine cj_iload_n C (i := 2) dX11_attempt_70 rfl rfl ?_
          refine cj_iload_n C (i := 3) dX11_attempt_71 rfl rfl ?_
          refine cj_callVi C (As := [.int z9, .int x2, .int x3]) (rest := []) qX8_tellingPair mw_69_15 o_130 rfl rfl rfl (Nat.le_of_ble_eq_true rfl) (by decide) dX11_attempt_72 h (fun _ _ hf => m_X8_tellingPair l w A z9 x2 x3 S10 _ hf) (fun z11 S12 h => ?_)
          exact cj_ireturn C hr h dX11_attempt_75
      · refine cj_iload C dX11_attempt_37 rfl ?_
        exact cj_ireturn C hr h dX11_attempt_39
/-! X11_forces -/
def fX11_forces (x1 : Int32) (x2 : Int32) (S : cpS) : Option (Int32 × cpS) :=
    cpB (fX11_coinAndPlace x1 x2 S) fun z1 S2 =>
    if z1 = 0 then (
    some ((-2 : Int32), S2)) else (
    cpB (fX4_learn x1 (0 : Int32) S2) fun _ S4 =>
    if cpIn x1 4 then (
    cpB (fX2_forcedWithin (S4.1 58 x1.toNatClampNeg) x2 S4) fun z5 S6 =>
    some (z5, S6)) else none)
set_option maxRecDepth 100000 in
set_option maxHeartbeats 4000000 in
theorem m_X11_forces (l : Launch) (w : cpW) (A : Nat → Prop) (x1 : Int32) (x2 : Int32) (S : cpS) (r : Int32 × cpS) (h : fX11_forces x1 x2 S = some r) : cpMi l yX11_forces cX11_forces 3 ((some .int)) 6 w A [.ref (w.2.1 0), .int x1, .int x2] S r := by
  refine cpMi.of (lv := [some (.ref (w.2.1 0)), some (.int x1), some (.int x2)]) (by decide) (Nat.le_of_ble_eq_true rfl) rfl (fun p e s m args below meth c C hr => ?_)
  replace C : cpCx p s m args meth c w A cX11_forces RX11 3 := C
  rw [fX11_forces] at h
  refine cj_aload_n C (i := 0) dX11_forces_0 rfl rfl ?_
  refine cj_iload_n C (i := 1) dX11_forces_1 rfl rfl ?_
  refine cj_iload_n C (i := 2) dX11_forces_2 rfl rfl ?_
  refine cj_callVi C (As := [.int x1, .int x2]) (rest := []) qX11_coinAndPlace mw_38_7 o_0 rfl rfl rfl (Nat.le_of_ble_eq_true rfl) (by decide) dX11_forces_3 h (fun _ _ hf => m_X11_coinAndPlace l w A x1 x2 S _ hf) (fun z1 S2 h => ?_)
  refine cj_if_ne C (tgt := 12) dX11_forces_6 rfl h (fun _ h => ?_) (fun _ h => ?_)
  · refine cj_bipush C (v := (-2 : Int32)) dX11_forces_9 rfl ?_
    exact cj_ireturn C hr h dX11_forces_11
  · refine cj_aload_n C (i := 0) dX11_forces_12 rfl rfl ?_
    refine cj_getR C (d := 119) o_0 rfl gfX11_54 dX11_forces_13 ?_
    refine cj_iload_n C (i := 1) dX11_forces_16 rfl rfl ?_
    refine cj_iconst C (v := (0 : Int32)) dX11_forces_17 rfl ?_
    refine cj_callVv C (As := [.int x1, .int (0 : Int32)]) (rest := []) qX4_learn mw_47_16 o_119 rfl rfl rfl (Nat.le_of_ble_eq_true rfl) (by decide) dX11_forces_18 h (fun _ _ hf => m_X4_learn l w A x1 (0 : Int32) S2 _ hf) (fun z3 S4 h => ?_)
    refine cj_aload_n C (i := 0) dX11_forces_21 rfl rfl ?_
    refine cj_getR C (d := 134) o_0 rfl gfX11_77 dX11_forces_22 ?_
    refine cj_aload_n C (i := 0) dX11_forces_25 rfl rfl ?_
    refine cj_getR C (d := 57) o_0 rfl gfX11_19 dX11_forces_26 ?_
    refine cj_getR C (d := 58) o_57 rfl gfX11_150 dX11_forces_29 ?_
    refine cj_iload_n C (i := 1) dX11_forces_32 rfl rfl ?_
    refine cj_iaload C o_58 h dX11_forces_33 (fun h => ?_)
    refine cj_iload_n C (i := 2) dX11_forces_34 rfl rfl ?_
    refine cj_callVi C (As := [.int (S4.1 58 x1.toNatClampNeg), .int x2]) (rest := []) qX2_forcedWithin mw_70_16 o_134 rfl rfl rfl (Nat.le_of_ble_eq_true rfl) (by decide) dX11_forces_35 h (fun _ _ hf => m_X2_forcedWithin l w A (S4.1 58 x1.toNatClampNeg) x2 S4 _ hf) (fun z5 S6 h => ?_)
    exact cj_ireturn C hr h dX11_forces_38
/-! X11_best -/
def fX11_best (x1 : Int32) (x2 : Int32) (S : cpS) : Option (Int32 × cpS) :=
    cpB (fX11_coinAndPlace x1 x2 S) fun z1 S2 =>
    if z1 = 0 then (
    some ((-2 : Int32), S2)) else (
    cpB (fX4_learn x1 (0 : Int32) S2) fun _ S4 =>
    if cpIn x1 4 then (
    cpB (fX2_forcedWithin (S4.1 58 x1.toNatClampNeg) x2 S4) fun z5 S6 =>
    if 0 < z5 then (
    if cpIn x1 4 then (
    cpB (fX2_bestPlace (S6.1 58 x1.toNatClampNeg) S6) fun z7 S8 =>
    some (z7, S8)) else none) else (
    some ((-1 : Int32), S6))) else none)
set_option maxRecDepth 100000 in
set_option maxHeartbeats 4000000 in
theorem m_X11_best (l : Launch) (w : cpW) (A : Nat → Prop) (x1 : Int32) (x2 : Int32) (S : cpS) (r : Int32 × cpS) (h : fX11_best x1 x2 S = some r) : cpMi l yX11_best cX11_best 4 ((some .int)) 6 w A [.ref (w.2.1 0), .int x1, .int x2] S r := by
  refine cpMi.of (lv := [some (.ref (w.2.1 0)), some (.int x1), some (.int x2), none]) (by decide) (Nat.le_of_ble_eq_true rfl) rfl (fun p e s m args below meth c C hr => ?_)
  replace C : cpCx p s m args meth c w A cX11_best RX11 4 := C
  rw [fX11_best] at h
  refine cj_aload_n C (i := 0) dX11_best_0 rfl rfl ?_
  refine cj_iload_n C (i := 1) dX11_best_1 rfl rfl ?_
  refine cj_iload_n C (i := 2) dX11_best_2 rfl rfl ?_
  refine cj_callVi C (As := [.int x1, .int x2]) (rest := []) qX11_coinAndPlace mw_38_7 o_0 rfl rfl rfl (Nat.le_of_ble_eq_true rfl) (by decide) dX11_best_3 h (fun _ _ hf => m_X11_coinAndPlace l w A x1 x2 S _ hf) (fun z1 S2 h => ?_)
  refine cj_if_ne C (tgt := 12) dX11_best_6 rfl h (fun _ h => ?_) (fun _ h => ?_)
  · refine cj_bipush C (v := (-2 : Int32)) dX11_best_9 rfl ?_
    exact cj_ireturn C hr h dX11_best_11
  · refine cj_aload_n C (i := 0) dX11_best_12 rfl rfl ?_
    refine cj_getR C (d := 119) o_0 rfl gfX11_54 dX11_best_13 ?_
    refine cj_iload_n C (i := 1) dX11_best_16 rfl rfl ?_
    refine cj_iconst C (v := (0 : Int32)) dX11_best_17 rfl ?_
    refine cj_callVv C (As := [.int x1, .int (0 : Int32)]) (rest := []) qX4_learn mw_47_16 o_119 rfl rfl rfl (Nat.le_of_ble_eq_true rfl) (by decide) dX11_best_18 h (fun _ _ hf => m_X4_learn l w A x1 (0 : Int32) S2 _ hf) (fun z3 S4 h => ?_)
    refine cj_aload_n C (i := 0) dX11_best_21 rfl rfl ?_
    refine cj_getR C (d := 134) o_0 rfl gfX11_77 dX11_best_22 ?_
    refine cj_aload_n C (i := 0) dX11_best_25 rfl rfl ?_
    refine cj_getR C (d := 57) o_0 rfl gfX11_19 dX11_best_26 ?_
    refine cj_getR C (d := 58) o_57 rfl gfX11_150 dX11_best_29 ?_
    refine cj_iload_n C (i := 1) dX11_best_32 rfl rfl ?_
    refine cj_iaload C o_58 h dX11_best_33 (fun h => ?_)
    refine cj_iload_n C (i := 2) dX11_best_34 rfl rfl ?_
    refine cj_callVi C (As := [.int (S4.1 58 x1.toNatClampNeg), .int x2]) (rest := []) qX2_forcedWithin mw_70_16 o_134 rfl rfl rfl (Nat.le_of_ble_eq_true rfl) (by decide) dX11_best_35 h (fun _ _ hf => m_X2_forcedWithin l w A (S4.1 58 x1.toNatClampNeg) x2 S4 _ hf) (fun z5 S6 h => ?_)
    refine cj_istore_n C (i := 3) (lv' := [some (.ref (w.2.1 0)), some (.int x1), some (.int x2), some (.int z5)]) dX11_best_38 rfl (by decide) rfl rfl ?_
    refine cj_iload_n C (i := 3) dX11_best_39 rfl rfl ?_
    refine cj_if_gt C (tgt := 47) dX11_best_40 rfl h (fun _ h => ?_) (fun _ h => ?_)
    · refine cj_aload_n C (i := 0) dX11_best_47 rfl rfl ?_
      refine cj_getR C (d := 134) o_0 rfl gfX11_77 dX11_best_48 ?_
      refine cj_aload_n C (i := 0) dX11_best_51 rfl rfl ?_
      refine cj_getR C (d := 57) o_0 rfl gfX11_19 dX11_best_52 ?_
      refine cj_getR C (d := 58) o_57 rfl gfX11_150 dX11_best_55 ?_
      refine cj_iload_n C (i := 1) dX11_best_58 rfl rfl ?_
      refine cj_iaload C o_58 h dX11_best_59 (fun h => ?_)
      refine cj_callVi C (As := [.int (S6.1 58 x1.toNatClampNeg)]) (rest := []) qX2_bestPlace mw_72_3 o_134 rfl rfl rfl (Nat.le_of_ble_eq_true rfl) (by decide) dX11_best_60 h (fun _ _ hf => m_X2_bestPlace l w A (S6.1 58 x1.toNatClampNeg) S6 _ hf) (fun z7 S8 h => ?_)
      exact cj_ireturn C hr h dX11_best_63
    · refine cj_iconst C (v := (-1 : Int32)) dX11_best_43 rfl ?_
      refine cj_goto C (tgt := 63) dX11_best_44 rfl ?_
      exact cj_ireturn C hr h dX11_best_63
end CPV
