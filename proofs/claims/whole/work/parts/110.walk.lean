section CPV
variable {p : Program} {l : Launch} {e : Env} {s : State} {m : MethodId} {args : Array Value} {below : List Frame} {meth : Method} {c : Code} {w : cpW} {A : Nat → Prop}
/-! X11_chance -/
def fX11_chance_21 (x1 : Int32) (x2 : Int32) (x3 : Int32) (S : cpS) : Option (Int32 × cpS) :=
    if cpIn x1 4 then (
    cpB (fX2_learnChances x1 (S.1 58 x1.toNatClampNeg) S) fun _ S2 =>
    cpB (fX2_greatestChance x2 S2) fun z3 S4 =>
    cpB (fX2_fraction z3 x3 S4) fun z5 S6 =>
    some (z5, S6)) else none
set_option maxRecDepth 100000 in
set_option maxHeartbeats 4000000 in
theorem wX11_chance_21 (C : cpCx p s m args meth c w A cX11_chance RX11 4) (hr : meth.sig.returnType = (some .int)) {r : Int32 × cpS} (x1 : Int32) (x2 : Int32) (x3 : Int32) (S : cpS) (h : fX11_chance_21 x1 x2 x3 S = some r) : cpJ p l e (cpRm 5) s m args below meth c (MQ below (va_Qi (fun x S' => (x, S') = r) (cpWorld w A) A) args s 0 0 A) w A 4 21 [some (.ref (w.2.1 0)), some (.int x1), some (.int x2), some (.int x3)] [] S := by
  rw [fX11_chance_21] at h
  refine cj_aload_n C (i := 0) dX11_chance_21 rfl rfl ?_
  refine cj_getR C (d := 134) o_0 rfl gfX11_77 dX11_chance_22 ?_
  refine cj_iload_n C (i := 1) dX11_chance_25 rfl rfl ?_
  refine cj_aload_n C (i := 0) dX11_chance_26 rfl rfl ?_
  refine cj_getR C (d := 57) o_0 rfl gfX11_19 dX11_chance_27 ?_
  refine cj_getR C (d := 58) o_57 rfl gfX11_150 dX11_chance_30 ?_
  refine cj_iload_n C (i := 1) dX11_chance_33 rfl rfl ?_
  refine cj_iaload C o_58 h dX11_chance_34 (fun h => ?_)
  refine cj_callVv C (As := [.int x1, .int (S.1 58 x1.toNatClampNeg)]) (rest := []) qX2_learnChances mw_72_15 o_134 rfl rfl rfl (Nat.le_of_ble_eq_true rfl) (by decide) dX11_chance_35 h (fun _ _ hf => m_X2_learnChances l w A x1 (S.1 58 x1.toNatClampNeg) S _ hf) (fun z1 S2 h => ?_)
  refine cj_aload_n C (i := 0) dX11_chance_38 rfl rfl ?_
  refine cj_getR C (d := 134) o_0 rfl gfX11_77 dX11_chance_39 ?_
  refine cj_aload_n C (i := 0) dX11_chance_42 rfl rfl ?_
  refine cj_getR C (d := 134) o_0 rfl gfX11_77 dX11_chance_43 ?_
  refine cj_iload_n C (i := 2) dX11_chance_46 rfl rfl ?_
  refine cj_callVi C (As := [.int x2]) (rest := [.ref (w.2.1 134)]) qX2_greatestChance mw_73_14 o_134 rfl rfl rfl (Nat.le_of_ble_eq_true rfl) (by decide) dX11_chance_47 h (fun _ _ hf => m_X2_greatestChance l w A x2 S2 _ hf) (fun z3 S4 h => ?_)
  refine cj_iload_n C (i := 3) dX11_chance_50 rfl rfl ?_
  refine cj_callVi C (As := [.int z3, .int x3]) (rest := []) qX2_fraction mw_73_18 o_134 rfl rfl rfl (Nat.le_of_ble_eq_true rfl) (by decide) dX11_chance_51 h (fun _ _ hf => m_X2_fraction l w A z3 x3 S4 _ hf) (fun z5 S6 h => ?_)
  exact cj_ireturn C hr h dX11_chance_54
def fX11_chance (x1 : Int32) (x2 : Int32) (x3 : Int32) (S : cpS) : Option (Int32 × cpS) :=
    cpB (fX11_coinAndPlace x1 x2 S) fun z1 S2 =>
    if z1 = 0 then (
    some ((-2 : Int32), S2)) else (
    if x3 = 0 then (
    fX11_chance_21 x1 x2 x3 S2) else (
    if x3 = (1 : Int32) then (
    fX11_chance_21 x1 x2 x3 S2) else (
    some ((-2 : Int32), S2))))
set_option maxRecDepth 100000 in
set_option maxHeartbeats 4000000 in
theorem m_X11_chance (l : Launch) (w : cpW) (A : Nat → Prop) (x1 : Int32) (x2 : Int32) (x3 : Int32) (S : cpS) (r : Int32 × cpS) (h : fX11_chance x1 x2 x3 S = some r) : cpMi l yX11_chance cX11_chance 4 ((some .int)) 5 w A [.ref (w.2.1 0), .int x1, .int x2, .int x3] S r := by
  refine cpMi.of (lv := [some (.ref (w.2.1 0)), some (.int x1), some (.int x2), some (.int x3)]) (by decide) (Nat.le_of_ble_eq_true rfl) rfl (fun p e s m args below meth c C hr => ?_)
  replace C : cpCx p s m args meth c w A cX11_chance RX11 4 := C
  rw [fX11_chance] at h
  refine cj_aload_n C (i := 0) dX11_chance_0 rfl rfl ?_
  refine cj_iload_n C (i := 1) dX11_chance_1 rfl rfl ?_
  refine cj_iload_n C (i := 2) dX11_chance_2 rfl rfl ?_
  refine cj_callVi C (As := [.int x1, .int x2]) (rest := []) qX11_coinAndPlace mw_38_7 o_0 rfl rfl rfl (Nat.le_of_ble_eq_true rfl) (by decide) dX11_chance_3 h (fun _ _ hf => m_X11_coinAndPlace l w A x1 x2 S _ hf) (fun z1 S2 h => ?_)
  refine cj_if_eq C (tgt := 18) dX11_chance_6 rfl h (fun _ h => ?_) (fun _ h => ?_)
  · refine cj_bipush C (v := (-2 : Int32)) dX11_chance_18 rfl ?_
    exact cj_ireturn C hr h dX11_chance_20
  · refine cj_iload_n C (i := 3) dX11_chance_9 rfl rfl ?_
    refine cj_if_eq C (tgt := 21) dX11_chance_10 rfl h (fun _ h => ?_) (fun _ h => ?_)
    · exact wX11_chance_21 C hr x1 x2 x3 S2 h
    · refine cj_iload_n C (i := 3) dX11_chance_13 rfl rfl ?_
      refine cj_iconst C (v := (1 : Int32)) dX11_chance_14 rfl ?_
      refine cj_icmp_eq C (tgt := 21) dX11_chance_15 rfl h (fun _ h => ?_) (fun _ h => ?_)
      · exact wX11_chance_21 C hr x1 x2 x3 S2 h
      · refine cj_bipush C (v := (-2 : Int32)) dX11_chance_18 rfl ?_
        exact cj_ireturn C hr h dX11_chance_20
/-! X11_by -/
def fX11_by (x1 : Int32) (x2 : Int32) (S : cpS) : Option (Int32 × cpS) :=
    cpB (fX11_coinAndPlace x1 x2 S) fun z1 S2 =>
    if z1 = 0 then (
    some ((-2 : Int32), S2)) else (
    if cpIn x1 4 then (
    cpB (fX2_learnChances x1 (S2.1 58 x1.toNatClampNeg) S2) fun _ S4 =>
    cpB (fX2_fewestRoads x2 S4) fun z5 S6 =>
    some (z5, S6)) else none)
set_option maxRecDepth 100000 in
set_option maxHeartbeats 4000000 in
theorem m_X11_by (l : Launch) (w : cpW) (A : Nat → Prop) (x1 : Int32) (x2 : Int32) (S : cpS) (r : Int32 × cpS) (h : fX11_by x1 x2 S = some r) : cpMi l yX11_by cX11_by 3 ((some .int)) 5 w A [.ref (w.2.1 0), .int x1, .int x2] S r := by
  refine cpMi.of (lv := [some (.ref (w.2.1 0)), some (.int x1), some (.int x2)]) (by decide) (Nat.le_of_ble_eq_true rfl) rfl (fun p e s m args below meth c C hr => ?_)
  replace C : cpCx p s m args meth c w A cX11_by RX11 3 := C
  rw [fX11_by] at h
  refine cj_aload_n C (i := 0) dX11_by_0 rfl rfl ?_
  refine cj_iload_n C (i := 1) dX11_by_1 rfl rfl ?_
  refine cj_iload_n C (i := 2) dX11_by_2 rfl rfl ?_
  refine cj_callVi C (As := [.int x1, .int x2]) (rest := []) qX11_coinAndPlace mw_38_7 o_0 rfl rfl rfl (Nat.le_of_ble_eq_true rfl) (by decide) dX11_by_3 h (fun _ _ hf => m_X11_coinAndPlace l w A x1 x2 S _ hf) (fun z1 S2 h => ?_)
  refine cj_if_ne C (tgt := 12) dX11_by_6 rfl h (fun _ h => ?_) (fun _ h => ?_)
  · refine cj_bipush C (v := (-2 : Int32)) dX11_by_9 rfl ?_
    exact cj_ireturn C hr h dX11_by_11
  · refine cj_aload_n C (i := 0) dX11_by_12 rfl rfl ?_
    refine cj_getR C (d := 134) o_0 rfl gfX11_77 dX11_by_13 ?_
    refine cj_iload_n C (i := 1) dX11_by_16 rfl rfl ?_
    refine cj_aload_n C (i := 0) dX11_by_17 rfl rfl ?_
    refine cj_getR C (d := 57) o_0 rfl gfX11_19 dX11_by_18 ?_
    refine cj_getR C (d := 58) o_57 rfl gfX11_150 dX11_by_21 ?_
    refine cj_iload_n C (i := 1) dX11_by_24 rfl rfl ?_
    refine cj_iaload C o_58 h dX11_by_25 (fun h => ?_)
    refine cj_callVv C (As := [.int x1, .int (S2.1 58 x1.toNatClampNeg)]) (rest := []) qX2_learnChances mw_72_15 o_134 rfl rfl rfl (Nat.le_of_ble_eq_true rfl) (by decide) dX11_by_26 h (fun _ _ hf => m_X2_learnChances l w A x1 (S2.1 58 x1.toNatClampNeg) S2 _ hf) (fun z3 S4 h => ?_)
    refine cj_aload_n C (i := 0) dX11_by_29 rfl rfl ?_
    refine cj_getR C (d := 134) o_0 rfl gfX11_77 dX11_by_30 ?_
    refine cj_iload_n C (i := 2) dX11_by_33 rfl rfl ?_
    refine cj_callVi C (As := [.int x2]) (rest := []) qX2_fewestRoads mw_75_4 o_134 rfl rfl rfl (Nat.le_of_ble_eq_true rfl) (by decide) dX11_by_34 h (fun _ _ hf => m_X2_fewestRoads l w A x2 S4 _ hf) (fun z5 S6 h => ?_)
    exact cj_ireturn C hr h dX11_by_37
/-! X11_numbers -/
def fX11_numbers (x1 : Int32) (x2 : Int32) (x3 : Int32) (S : cpS) : Option (Int32 × cpS) :=
    cpB (fX11_hasTray x1 S) fun z1 S2 =>
    if z1 = 0 then (
    some ((-2 : Int32), S2)) else (
    if x2 < 0 then (
    some ((-2 : Int32), S2)) else (
    if x2 < (4 : Int32) then (
    if x3 < 0 then (
    some ((-3 : Int32), S2)) else (
    if x3 ≤ (40 : Int32) then (
    if cpIn x1 4 then (
    cpB (fX9_renew (139 + 2 * x1.toNatClampNeg) x2 x3 S2) fun _ S5 =>
    some ((0 : Int32), S5)) else none) else (
    some ((-3 : Int32), S2)))) else (
    some ((-2 : Int32), S2))))
set_option maxRecDepth 100000 in
set_option maxHeartbeats 4000000 in
theorem m_X11_numbers (l : Launch) (w : cpW) (A : Nat → Prop) (x1 : Int32) (x2 : Int32) (x3 : Int32) (S : cpS) (r : Int32 × cpS) (h : fX11_numbers x1 x2 x3 S = some r) : cpMi l yX11_numbers cX11_numbers 4 ((some .int)) 2 w A [.ref (w.2.1 0), .int x1, .int x2, .int x3] S r := by
  refine cpMi.of (lv := [some (.ref (w.2.1 0)), some (.int x1), some (.int x2), some (.int x3)]) (by decide) (Nat.le_of_ble_eq_true rfl) rfl (fun p e s m args below meth c C hr => ?_)
  replace C : cpCx p s m args meth c w A cX11_numbers RX11 4 := C
  rw [fX11_numbers] at h
  refine cj_aload_n C (i := 0) dX11_numbers_0 rfl rfl ?_
  refine cj_iload_n C (i := 1) dX11_numbers_1 rfl rfl ?_
  refine cj_callVi C (As := [.int x1]) (rest := []) qX11_hasTray mw_42_18 o_0 rfl rfl rfl (Nat.le_of_ble_eq_true rfl) (by decide) dX11_numbers_2 h (fun _ _ hf => m_X11_hasTray l w A x1 S _ hf) (fun z1 S2 h => ?_)
  refine cj_if_eq C (tgt := 17) dX11_numbers_5 rfl h (fun _ h => ?_) (fun _ h => ?_)
  · refine cj_bipush C (v := (-2 : Int32)) dX11_numbers_17 rfl ?_
    exact cj_ireturn C hr h dX11_numbers_19
  · refine cj_iload_n C (i := 2) dX11_numbers_8 rfl rfl ?_
    refine cj_if_lt C (tgt := 17) dX11_numbers_9 rfl h (fun _ h => ?_) (fun _ h => ?_)
    · refine cj_bipush C (v := (-2 : Int32)) dX11_numbers_17 rfl ?_
      exact cj_ireturn C hr h dX11_numbers_19
    · refine cj_iload_n C (i := 2) dX11_numbers_12 rfl rfl ?_
      refine cj_iconst C (v := (4 : Int32)) dX11_numbers_13 rfl ?_
      refine cj_icmp_lt C (tgt := 20) dX11_numbers_14 rfl h (fun _ h => ?_) (fun _ h => ?_)
      · refine cj_iload_n C (i := 3) dX11_numbers_20 rfl rfl ?_
        refine cj_if_lt C (tgt := 30) dX11_numbers_21 rfl h (fun _ h => ?_) (fun _ h => ?_)
        · refine cj_bipush C (v := (-3 : Int32)) dX11_numbers_30 rfl ?_
          exact cj_ireturn C hr h dX11_numbers_32
        · refine cj_iload_n C (i := 3) dX11_numbers_24 rfl rfl ?_
          refine cj_bipush C (v := (40 : Int32)) dX11_numbers_25 rfl ?_
          refine cj_icmp_le C (tgt := 33) dX11_numbers_27 rfl h (fun _ h => ?_) (fun _ h => ?_)
          · refine cj_aload_n C (i := 0) dX11_numbers_33 rfl rfl ?_
            refine cj_getR C (d := 138) o_0 rfl gfX11_83 dX11_numbers_34 ?_
            refine cj_iload_n C (i := 1) dX11_numbers_37 rfl rfl ?_
            refine cj_aaload C (d := (139 + 2 * x1.toNatClampNeg)) (by decide) o_138 rfl h (tr_138) dX11_numbers_38 (fun hi3 h => ?_)
            refine cj_iload_n C (i := 2) dX11_numbers_39 rfl rfl ?_
            refine cj_iload_n C (i := 3) dX11_numbers_40 rfl rfl ?_
            refine cj_callVv C (As := [.int x2, .int x3]) (rest := []) qX9_renew mw_75_17 (cpTy_o0 (tk_138 hi3)) rfl rfl rfl (Nat.le_of_ble_eq_true rfl) (by decide) dX11_numbers_41 h (fun _ _ hf => m_X9_renew l w A (tk_138 hi3) x2 x3 S2 _ hf) (fun z4 S5 h => ?_)
            refine cj_iconst C (v := (0 : Int32)) dX11_numbers_44 rfl ?_
            exact cj_ireturn C hr h dX11_numbers_45
          · refine cj_bipush C (v := (-3 : Int32)) dX11_numbers_30 rfl ?_
            exact cj_ireturn C hr h dX11_numbers_32
      · refine cj_bipush C (v := (-2 : Int32)) dX11_numbers_17 rfl ?_
        exact cj_ireturn C hr h dX11_numbers_19
/-! X11_write -/
def fX11_write (x1 : Int32) (x2 : Int32) (x3 : Int64) (S : cpS) : Option (Int64 × cpS) :=
    cpB (fX11_hasTray x1 S) fun z1 S2 =>
    if z1 = 0 then (
    some ((-2 : Int64), S2)) else (
    if cpIn x1 4 then (
    cpB (fX9_isMissing (139 + 2 * x1.toNatClampNeg) S2) fun z4 S5 =>
    if z4 = 0 then (
    if x2 < 0 then (
    some ((-7 : Int64), S5)) else (
    if cpIn x1 4 then (
    if x2 < (S5.1 (139 + 2 * x1.toNatClampNeg) 1) then (
    if cpIn x1 4 then (
    cpB (fX9_put (139 + 2 * x1.toNatClampNeg) x2 x3 S5) fun z8 S9 =>
    some (z8, S9)) else none) else (
    some ((-7 : Int64), S5))) else none)) else (
    some ((-6 : Int64), S5))) else none)
set_option maxRecDepth 100000 in
set_option maxHeartbeats 4000000 in
theorem m_X11_write (l : Launch) (w : cpW) (A : Nat → Prop) (x1 : Int32) (x2 : Int32) (x3 : Int64) (S : cpS) (r : Int64 × cpS) (h : fX11_write x1 x2 x3 S = some r) : cpMl l yX11_write cX11_write 5 ((some .long)) 2 w A [.ref (w.2.1 0), .int x1, .int x2, .long x3] S r := by
  refine cpMl.of (lv := [some (.ref (w.2.1 0)), some (.int x1), some (.int x2), some (.long x3), none]) (by decide) (Nat.le_of_ble_eq_true rfl) rfl (fun p e s m args below meth c C hr => ?_)
  replace C : cpCx p s m args meth c w A cX11_write RX11 5 := C
  rw [fX11_write] at h
  refine cj_aload_n C (i := 0) dX11_write_0 rfl rfl ?_
  refine cj_iload_n C (i := 1) dX11_write_1 rfl rfl ?_
  refine cj_callVi C (As := [.int x1]) (rest := []) qX11_hasTray mw_42_18 o_0 rfl rfl rfl (Nat.le_of_ble_eq_true rfl) (by decide) dX11_write_2 h (fun _ _ hf => m_X11_hasTray l w A x1 S _ hf) (fun z1 S2 h => ?_)
  refine cj_if_ne C (tgt := 12) dX11_write_5 rfl h (fun _ h => ?_) (fun _ h => ?_)
  · refine cj_ldc2 C (v := (-2 : Int64)) mw_51_5 dX11_write_8 ?_
    exact cj_lreturn C hr h dX11_write_11
  · refine cj_aload_n C (i := 0) dX11_write_12 rfl rfl ?_
    refine cj_getR C (d := 138) o_0 rfl gfX11_83 dX11_write_13 ?_
    refine cj_iload_n C (i := 1) dX11_write_16 rfl rfl ?_
    refine cj_aaload C (d := (139 + 2 * x1.toNatClampNeg)) (by decide) o_138 rfl h (tr_138) dX11_write_17 (fun hi3 h => ?_)
    refine cj_callVi C (As := []) (rest := []) qX9_isMissing mw_42_22 (cpTy_o0 (tk_138 hi3)) rfl rfl rfl (Nat.le_of_ble_eq_true rfl) (by decide) dX11_write_18 h (fun _ _ hf => m_X9_isMissing l w A (tk_138 hi3) S2 _ hf) (fun z4 S5 h => ?_)
    refine cj_if_eq C (tgt := 28) dX11_write_21 rfl h (fun _ h => ?_) (fun _ h => ?_)
    · refine cj_iload_n C (i := 2) dX11_write_28 rfl rfl ?_
      refine cj_if_lt C (tgt := 45) dX11_write_29 rfl h (fun _ h => ?_) (fun _ h => ?_)
      · refine cj_ldc2 C (v := (-7 : Int64)) mw_76_7 dX11_write_45 ?_
        exact cj_lreturn C hr h dX11_write_48
      · refine cj_iload_n C (i := 2) dX11_write_32 rfl rfl ?_
        refine cj_aload_n C (i := 0) dX11_write_33 rfl rfl ?_
        refine cj_getR C (d := 138) o_0 rfl gfX11_83 dX11_write_34 ?_
        refine cj_iload_n C (i := 1) dX11_write_37 rfl rfl ?_
        refine cj_aaload C (d := (139 + 2 * x1.toNatClampNeg)) (by decide) o_138 rfl h (tr_138) dX11_write_38 (fun hi6 h => ?_)
        refine cj_getI C (j := 1) (cpTy_o0 (tk_138 hi6)) rfl gfX11_236 dX11_write_39 ?_
        refine cj_icmp_lt C (tgt := 49) dX11_write_42 rfl h (fun _ h => ?_) (fun _ h => ?_)
        · refine cj_aload_n C (i := 0) dX11_write_49 rfl rfl ?_
          refine cj_getR C (d := 138) o_0 rfl gfX11_83 dX11_write_50 ?_
          refine cj_iload_n C (i := 1) dX11_write_53 rfl rfl ?_
          refine cj_aaload C (d := (139 + 2 * x1.toNatClampNeg)) (by decide) o_138 rfl h (tr_138) dX11_write_54 (fun hi7 h => ?_)
          refine cj_iload_n C (i := 2) dX11_write_55 rfl rfl ?_
          refine cj_lload_n C (i := 3) dX11_write_56 rfl rfl ?_
          refine cj_callVl C (As := [.int x2, .long x3]) (rest := []) qX9_put mw_76_8 (cpTy_o0 (tk_138 hi7)) rfl rfl rfl (Nat.le_of_ble_eq_true rfl) (by decide) dX11_write_57 h (fun _ _ hf => m_X9_put l w A (tk_138 hi7) x2 x3 S5 _ hf) (fun z8 S9 h => ?_)
          exact cj_lreturn C hr h dX11_write_60
        · refine cj_ldc2 C (v := (-7 : Int64)) mw_76_7 dX11_write_45 ?_
          exact cj_lreturn C hr h dX11_write_48
    · refine cj_ldc2 C (v := (-6 : Int64)) mw_76_6 dX11_write_24 ?_
      exact cj_lreturn C hr h dX11_write_27
/-! X11_lists -/
def fX11_lists_107 (x1 : Int32) (x2 : Int32) (x5 : Int32) : Nat → Int32 → Int32 → cpS → Option (Int32 × cpS)
  | 0, _, _, _ => none
  | n + 1, x4, x6, S =>
    if x5 ≤ x6 then (
    some (x5, S)) else (
    cpB (fX4_firstDeed x2 x4 S) fun z1 S2 =>
    if cpIn x1 4 then (
    cpB (fX9_put (139 + 2 * x1.toNatClampNeg) x6 (Int32.toInt64 z1) S2) fun z4 S5 =>
    cpLt (cpRem z1 (10 : Int32)) fun y6 =>
    fX11_lists_107 x1 x2 x5 n y6 (x6 + 1) S5) else none)
set_option maxRecDepth 100000 in
set_option maxHeartbeats 4000000 in
theorem wX11_lists_107 (C : cpCx p s m args meth c w A cX11_lists RX11 8) (hr : meth.sig.returnType = (some .int)) {r : Int32 × cpS} (x1 : Int32) (x2 : Int32) (x5 : Int32) : ∀ (n : Nat) (x4 : Int32) (x6 : Int32) (S : cpS), fX11_lists_107 x1 x2 x5 n x4 x6 S = some r → cpJ p l e (cpRm 6) s m args below meth c (MQ below (va_Qi (fun x S' => (x, S') = r) (cpWorld w A) A) args s 0 0 A) w A 8 107 [some (.ref (w.2.1 0)), some (.int x1), some (.int x2), none, some (.int x4), some (.int x5), some (.int x6), none] [] S := by
  intro n
  induction n with
  | zero => intro x4 x6 S h; rw [fX11_lists_107] at h; cases h
  | succ n ih =>
    intro x4 x6 S h
    rw [fX11_lists_107] at h
    refine cj_iload C dX11_lists_107 rfl ?_
    refine cj_iload C dX11_lists_109 rfl ?_
    refine cj_icmp_ge C (tgt := 154) dX11_lists_111 rfl h (fun _ h => ?_) (fun _ h => ?_)
    · refine cj_iload C dX11_lists_154 rfl ?_
      exact cj_ireturn C hr h dX11_lists_156
    · refine cj_aload_n C (i := 0) dX11_lists_114 rfl rfl ?_
      refine cj_getR C (d := 119) o_0 rfl gfX11_54 dX11_lists_115 ?_
      refine cj_iload_n C (i := 2) dX11_lists_118 rfl rfl ?_
      refine cj_iload C dX11_lists_119 rfl ?_
      refine cj_callVi C (As := [.int x2, .int x4]) (rest := []) qX4_firstDeed mw_50_2 o_119 rfl rfl rfl (Nat.le_of_ble_eq_true rfl) (by decide) dX11_lists_121 h (fun _ _ hf => m_X4_firstDeed l w A x2 x4 S _ hf) (fun z1 S2 h => ?_)
      refine cj_istore C (lv' := [some (.ref (w.2.1 0)), some (.int x1), some (.int x2), none, some (.int x4), some (.int x5), some (.int x6), some (.int z1)]) dX11_lists_124 (by decide) rfl rfl ?_
      refine cj_aload_n C (i := 0) dX11_lists_126 rfl rfl ?_
      refine cj_getR C (d := 138) o_0 rfl gfX11_83 dX11_lists_127 ?_
      refine cj_iload_n C (i := 1) dX11_lists_130 rfl rfl ?_
      refine cj_aaload C (d := (139 + 2 * x1.toNatClampNeg)) (by decide) o_138 rfl h (tr_138) dX11_lists_131 (fun hi3 h => ?_)
      refine cj_iload C dX11_lists_132 rfl ?_
      refine cj_iload C dX11_lists_134 rfl ?_
      refine cj_i2l C dX11_lists_136 ?_
      refine cj_callVl C (As := [.int x6, .long (Int32.toInt64 z1)]) (rest := []) qX9_put mw_76_8 (cpTy_o0 (tk_138 hi3)) rfl rfl rfl (Nat.le_of_ble_eq_true rfl) (by decide) dX11_lists_137 h (fun _ _ hf => m_X9_put l w A (tk_138 hi3) x6 (Int32.toInt64 z1) S2 _ hf) (fun z4 S5 h => ?_)
      refine cj_pop2 C dX11_lists_140 rfl ?_
      refine cj_iload C dX11_lists_141 rfl ?_
      refine cj_bipush C (v := (10 : Int32)) dX11_lists_143 rfl ?_
      refine ck_irem C dX11_lists_145 (by decide) ?_
      refine cj_let h (fun y6 h => ?_)
      refine cj_istore C (lv' := [some (.ref (w.2.1 0)), some (.int x1), some (.int x2), none, some (.int y6), some (.int x5), some (.int x6), some (.int z1)]) dX11_lists_146 (by decide) rfl rfl ?_
      refine cj_iinc C (v := (x6 + 1)) (lv' := [some (.ref (w.2.1 0)), some (.int x1), some (.int x2), none, some (.int y6), some (.int x5), some (.int (x6 + 1)), some (.int z1)]) dX11_lists_148 rfl rfl (by decide) rfl rfl ?_
      refine cj_goto C (tgt := 107) dX11_lists_151 rfl ?_
      refine cj_weak C (lv' := [some (.ref (w.2.1 0)), some (.int x1), some (.int x2), none, some (.int y6), some (.int x5), some (.int (x6 + 1)), none]) (cpSub_s (cpSub_s (cpSub_s (cpSub_n (cpSub_s (cpSub_s (cpSub_s (cpSub_n cpSub_nil)))))))) ?_
      exact ih y6 (x6 + 1) S5 h
def fX11_lists (x1 : Int32) (x2 : Int32) (x3 : Int32) (S : cpS) : Option (Int32 × cpS) :=
    cpB (fX11_hasTray x1 S) fun z1 S2 =>
    if z1 = 0 then (
    some ((-2 : Int32), S2)) else (
    cpB (fX11_coinAndPlace x2 x3 S2) fun z3 S4 =>
    if z3 = 0 then (
    some ((-2 : Int32), S4)) else (
    if cpIn x1 4 then (
    cpB (fX9_isMissing (139 + 2 * x1.toNatClampNeg) S4) fun z6 S7 =>
    if z6 = 0 then (
    cpB (fX4_learn x2 (0 : Int32) S7) fun _ S9 =>
    cpB (fX4_measureTo x3 S9) fun _ S11 =>
    if cpIn x2 4 then (
    cpLt (S11.1 58 x2.toNatClampNeg) fun y12 =>
    if cpIn y12 6 then (
    if (S11.1 122 y12.toNatClampNeg) = (-1 : Int32) then (
    some ((-5 : Int32), S11)) else (
    if cpIn y12 6 then (
    if cpIn x1 4 then (
    cpLt (cpMin (S11.1 122 y12.toNatClampNeg) (S11.1 (139 + 2 * x1.toNatClampNeg) 1)) fun y14 =>
    fX11_lists_107 x1 x2 y14 cpFu y12 (0 : Int32) S11) else none) else none)) else none) else none) else (
    some ((-6 : Int32), S7))) else none))
set_option maxRecDepth 100000 in
set_option maxHeartbeats 4000000 in
theorem m_X11_lists (l : Launch) (w : cpW) (A : Nat → Prop) (x1 : Int32) (x2 : Int32) (x3 : Int32) (S : cpS) (r : Int32 × cpS) (h : fX11_lists x1 x2 x3 S = some r) : cpMi l yX11_lists cX11_lists 8 ((some .int)) 6 w A [.ref (w.2.1 0), .int x1, .int x2, .int x3] S r := by
  refine cpMi.of (lv := [some (.ref (w.2.1 0)), some (.int x1), some (.int x2), some (.int x3), none, none, none, none]) (by decide) (Nat.le_of_ble_eq_true rfl) rfl (fun p e s m args below meth c C hr => ?_)
  replace C : cpCx p s m args meth c w A cX11_lists RX11 8 := C
  rw [fX11_lists] at h
  refine cj_aload_n C (i := 0) dX11_lists_0 rfl rfl ?_
  refine cj_iload_n C (i := 1) dX11_lists_1 rfl rfl ?_
  refine cj_callVi C (As := [.int x1]) (rest := []) qX11_hasTray mw_42_18 o_0 rfl rfl rfl (Nat.le_of_ble_eq_true rfl) (by decide) dX11_lists_2 h (fun _ _ hf => m_X11_hasTray l w A x1 S _ hf) (fun z1 S2 h => ?_)
  refine cj_if_eq C (tgt := 17) dX11_lists_5 rfl h (fun _ h => ?_) (fun _ h => ?_)
  · refine cj_bipush C (v := (-2 : Int32)) dX11_lists_17 rfl ?_
    exact cj_ireturn C hr h dX11_lists_19
  · refine cj_aload_n C (i := 0) dX11_lists_8 rfl rfl ?_
    refine cj_iload_n C (i := 2) dX11_lists_9 rfl rfl ?_
    refine cj_iload_n C (i := 3) dX11_lists_10 rfl rfl ?_
    refine cj_callVi C (As := [.int x2, .int x3]) (rest := []) qX11_coinAndPlace mw_38_7 o_0 rfl rfl rfl (Nat.le_of_ble_eq_true rfl) (by decide) dX11_lists_11 h (fun _ _ hf => m_X11_coinAndPlace l w A x2 x3 S2 _ hf) (fun z3 S4 h => ?_)
    refine cj_if_ne C (tgt := 20) dX11_lists_14 rfl h (fun _ h => ?_) (fun _ h => ?_)
    · refine cj_bipush C (v := (-2 : Int32)) dX11_lists_17 rfl ?_
      exact cj_ireturn C hr h dX11_lists_19
    · refine cj_aload_n C (i := 0) dX11_lists_20 rfl rfl ?_
      refine cj_getR C (d := 138) o_0 rfl gfX11_83 dX11_lists_21 ?_
      refine cj_iload_n C (i := 1) dX11_lists_24 rfl rfl ?_
      refine cj_aaload C (d := (139 + 2 * x1.toNatClampNeg)) (by decide) o_138 rfl h (tr_138) dX11_lists_25 (fun hi5 h => ?_)
      refine cj_callVi C (As := []) (rest := []) qX9_isMissing mw_42_22 (cpTy_o0 (tk_138 hi5)) rfl rfl rfl (Nat.le_of_ble_eq_true rfl) (by decide) dX11_lists_26 h (fun _ _ hf => m_X9_isMissing l w A (tk_138 hi5) S4 _ hf) (fun z6 S7 h => ?_)
      refine cj_if_eq C (tgt := 35) dX11_lists_29 rfl h (fun _ h => ?_) (fun _ h => ?_)
      · refine cj_aload_n C (i := 0) dX11_lists_35 rfl rfl ?_
        refine cj_getR C (d := 119) o_0 rfl gfX11_54 dX11_lists_36 ?_
        refine cj_iload_n C (i := 2) dX11_lists_39 rfl rfl ?_
        refine cj_iconst C (v := (0 : Int32)) dX11_lists_40 rfl ?_
        refine cj_callVv C (As := [.int x2, .int (0 : Int32)]) (rest := []) qX4_learn mw_47_16 o_119 rfl rfl rfl (Nat.le_of_ble_eq_true rfl) (by decide) dX11_lists_41 h (fun _ _ hf => m_X4_learn l w A x2 (0 : Int32) S7 _ hf) (fun z8 S9 h => ?_)
        refine cj_aload_n C (i := 0) dX11_lists_44 rfl rfl ?_
        refine cj_getR C (d := 119) o_0 rfl gfX11_54 dX11_lists_45 ?_
        refine cj_iload_n C (i := 3) dX11_lists_48 rfl rfl ?_
        refine cj_callVv C (As := [.int x3]) (rest := []) qX4_measureTo mw_48_13 o_119 rfl rfl rfl (Nat.le_of_ble_eq_true rfl) (by decide) dX11_lists_49 h (fun _ _ hf => m_X4_measureTo l w A x3 S9 _ hf) (fun z10 S11 h => ?_)
        refine cj_aload_n C (i := 0) dX11_lists_52 rfl rfl ?_
        refine cj_getR C (d := 57) o_0 rfl gfX11_19 dX11_lists_53 ?_
        refine cj_getR C (d := 58) o_57 rfl gfX11_150 dX11_lists_56 ?_
        refine cj_iload_n C (i := 2) dX11_lists_59 rfl rfl ?_
        refine cj_iaload C o_58 h dX11_lists_60 (fun h => ?_)
        refine cj_let h (fun y12 h => ?_)
        refine cj_istore C (lv' := [some (.ref (w.2.1 0)), some (.int x1), some (.int x2), some (.int x3), some (.int y12), none, none, none]) dX11_lists_61 (by decide) rfl rfl ?_
        refine cj_aload_n C (i := 0) dX11_lists_63 rfl rfl ?_
        refine cj_getR C (d := 119) o_0 rfl gfX11_54 dX11_lists_64 ?_
        refine cj_getR C (d := 122) o_119 rfl gfX11_273 dX11_lists_67 ?_
        refine cj_iload C dX11_lists_70 rfl ?_
        refine cj_iaload C o_122 h dX11_lists_72 (fun h => ?_)
        refine cj_iconst C (v := (-1 : Int32)) dX11_lists_73 rfl ?_
        refine cj_icmp_ne C (tgt := 80) dX11_lists_74 rfl h (fun _ h => ?_) (fun _ h => ?_)
        · refine cj_bipush C (v := (-5 : Int32)) dX11_lists_77 rfl ?_
          exact cj_ireturn C hr h dX11_lists_79
        · refine cj_aload_n C (i := 0) dX11_lists_80 rfl rfl ?_
          refine cj_getR C (d := 119) o_0 rfl gfX11_54 dX11_lists_81 ?_
          refine cj_getR C (d := 122) o_119 rfl gfX11_273 dX11_lists_84 ?_
          refine cj_iload C dX11_lists_87 rfl ?_
          refine cj_iaload C o_122 h dX11_lists_89 (fun h => ?_)
          refine cj_aload_n C (i := 0) dX11_lists_90 rfl rfl ?_
          refine cj_getR C (d := 138) o_0 rfl gfX11_83 dX11_lists_91 ?_
          refine cj_iload_n C (i := 1) dX11_lists_94 rfl rfl ?_
          refine cj_aaload C (d := (139 + 2 * x1.toNatClampNeg)) (by decide) o_138 rfl h (tr_138) dX11_lists_95 (fun hi13 h => ?_)
          refine cj_getI C (j := 1) (cpTy_o0 (tk_138 hi13)) rfl gfX11_236 dX11_lists_96 ?_
          refine ck_mmin C mw_77_4 mw_12_17 mw_12_14 mw_12_18 (by decide) (Nat.le_of_ble_eq_true rfl) dX11_lists_99 ?_
          refine cj_let h (fun y14 h => ?_)
          refine cj_istore C (lv' := [some (.ref (w.2.1 0)), some (.int x1), some (.int x2), some (.int x3), some (.int y12), some (.int y14), none, none]) dX11_lists_102 (by decide) rfl rfl ?_
          refine cj_iconst C (v := (0 : Int32)) dX11_lists_104 rfl ?_
          refine cj_istore C (lv' := [some (.ref (w.2.1 0)), some (.int x1), some (.int x2), some (.int x3), some (.int y12), some (.int y14), some (.int (0 : Int32)), none]) dX11_lists_105 (by decide) rfl rfl ?_
          refine cj_weak C (lv' := [some (.ref (w.2.1 0)), some (.int x1), some (.int x2), none, some (.int y12), some (.int y14), some (.int (0 : Int32)), none]) (cpSub_s (cpSub_s (cpSub_s (cpSub_n (cpSub_s (cpSub_s (cpSub_s (cpSub_n cpSub_nil)))))))) ?_
          exact wX11_lists_107 C hr x1 x2 y14 cpFu y12 (0 : Int32) S11 h
      · refine cj_bipush C (v := (-6 : Int32)) dX11_lists_32 rfl ?_
        exact cj_ireturn C hr h dX11_lists_34
/-! X11_image -/
def fX11_image (x1 : Int32) (S : cpS) : Option (Int32 × cpS) :=
    if x1 < 0 then (
    some ((-2 : Int32), S)) else (
    if x1 < (2 : Int32) then (
    if cpIn x1 2 then (
    cpB (fX10_copyFrom (29 + 14 * x1.toNatClampNeg) 1 S) fun _ S3 =>
    if cpIn x1 2 then (
    cpB (fX5_copyFrom (105 + 4 * x1.toNatClampNeg) 57 S3) fun _ S6 =>
    if cpIn x1 2 then (
    cpLt (cpI S6 149 x1.toNatClampNeg (vp_nar .boolean (1 : Int32))) fun S7 =>
    some ((0 : Int32), S7)) else none) else none) else none) else (
    some ((-2 : Int32), S)))
set_option maxRecDepth 100000 in
set_option maxHeartbeats 4000000 in
theorem m_X11_image (l : Launch) (w : cpW) (A : Nat → Prop) (x1 : Int32) (S : cpS) (r : Int32 × cpS) (h : fX11_image x1 S = some r) : cpMi l yX11_image cX11_image 2 ((some .int)) 3 w A [.ref (w.2.1 0), .int x1] S r := by
  refine cpMi.of (lv := [some (.ref (w.2.1 0)), some (.int x1)]) (by decide) (Nat.le_of_ble_eq_true rfl) rfl (fun p e s m args below meth c C hr => ?_)
  replace C : cpCx p s m args meth c w A cX11_image RX11 2 := C
  rw [fX11_image] at h
  refine cj_iload_n C (i := 1) dX11_image_0 rfl rfl ?_
  refine cj_if_lt C (tgt := 9) dX11_image_1 rfl h (fun _ h => ?_) (fun _ h => ?_)
  · refine cj_bipush C (v := (-2 : Int32)) dX11_image_9 rfl ?_
    exact cj_ireturn C hr h dX11_image_11
  · refine cj_iload_n C (i := 1) dX11_image_4 rfl rfl ?_
    refine cj_iconst C (v := (2 : Int32)) dX11_image_5 rfl ?_
    refine cj_icmp_lt C (tgt := 12) dX11_image_6 rfl h (fun _ h => ?_) (fun _ h => ?_)
    · refine cj_aload_n C (i := 0) dX11_image_12 rfl rfl ?_
      refine cj_getR C (d := 147) o_0 rfl gfX11_87 dX11_image_13 ?_
      refine cj_iload_n C (i := 1) dX11_image_16 rfl rfl ?_
      refine cj_aaload C (d := (29 + 14 * x1.toNatClampNeg)) (by decide) o_147 rfl h (tr_147) dX11_image_17 (fun hi1 h => ?_)
      refine cj_aload_n C (i := 0) dX11_image_18 rfl rfl ?_
      refine cj_getR C (d := 1) o_0 rfl gfX11_10 dX11_image_19 ?_
      refine cj_callVv C (As := [.ref (w.2.1 1)]) (rest := []) qX10_copyFrom mw_22_0 (cpVy_o0 (tk_147 hi1)) rfl rfl rfl (Nat.le_of_ble_eq_true rfl) (by decide) dX11_image_22 h (fun _ _ hf => m_X10_copyFrom l w A (tk_147 hi1) kVy_1 S _ hf) (fun z2 S3 h => ?_)
      refine cj_aload_n C (i := 0) dX11_image_25 rfl rfl ?_
      refine cj_getR C (d := 148) o_0 rfl gfX11_91 dX11_image_26 ?_
      refine cj_iload_n C (i := 1) dX11_image_29 rfl rfl ?_
      refine cj_aaload C (d := (105 + 4 * x1.toNatClampNeg)) (by decide) o_148 rfl h (tr_148) dX11_image_30 (fun hi4 h => ?_)
      refine cj_aload_n C (i := 0) dX11_image_31 rfl rfl ?_
      refine cj_getR C (d := 57) o_0 rfl gfX11_19 dX11_image_32 ?_
      refine cj_callVv C (As := [.ref (w.2.1 57)]) (rest := []) qX5_copyFrom mw_40_9 (cpNw_o0 (tk_148 hi4)) rfl rfl rfl (Nat.le_of_ble_eq_true rfl) (by decide) dX11_image_35 h (fun _ _ hf => m_X5_copyFrom l w A (tk_148 hi4) kNw_57 S3 _ hf) (fun z5 S6 h => ?_)
      refine cj_aload_n C (i := 0) dX11_image_38 rfl rfl ?_
      refine cj_getR C (d := 149) o_0 rfl gfX11_95 dX11_image_39 ?_
      refine cj_iload_n C (i := 1) dX11_image_42 rfl rfl ?_
      refine cj_iconst C (v := (1 : Int32)) dX11_image_43 rfl ?_
      refine cj_bastore C o_149 h dX11_image_44 (fun h => ?_)
      refine cj_lets h (fun S7 h => ?_)
      refine cj_iconst C (v := (0 : Int32)) dX11_image_45 rfl ?_
      exact cj_ireturn C hr h dX11_image_46
    · refine cj_bipush C (v := (-2 : Int32)) dX11_image_9 rfl ?_
      exact cj_ireturn C hr h dX11_image_11
/-! X11_restore -/
def fX11_restore (x1 : Int32) (S : cpS) : Option (Int32 × cpS) :=
    if x1 < 0 then (
    some ((-2 : Int32), S)) else (
    if x1 < (2 : Int32) then (
    if cpIn x1 2 then (
    if (S.1 149 x1.toNatClampNeg) = 0 then (
    some ((-5 : Int32), S)) else (
    if cpIn x1 2 then (
    cpB (fX10_copyFrom 1 (29 + 14 * x1.toNatClampNeg) S) fun _ S3 =>
    if cpIn x1 2 then (
    cpB (fX5_copyFrom 57 (105 + 4 * x1.toNatClampNeg) S3) fun _ S6 =>
    cpB (fX6_forget S6) fun _ S8 =>
    some ((0 : Int32), S8)) else none) else none)) else none) else (
    some ((-2 : Int32), S)))
set_option maxRecDepth 100000 in
set_option maxHeartbeats 4000000 in
theorem m_X11_restore (l : Launch) (w : cpW) (A : Nat → Prop) (x1 : Int32) (S : cpS) (r : Int32 × cpS) (h : fX11_restore x1 S = some r) : cpMi l yX11_restore cX11_restore 2 ((some .int)) 3 w A [.ref (w.2.1 0), .int x1] S r := by
  refine cpMi.of (lv := [some (.ref (w.2.1 0)), some (.int x1)]) (by decide) (Nat.le_of_ble_eq_true rfl) rfl (fun p e s m args below meth c C hr => ?_)
  replace C : cpCx p s m args meth c w A cX11_restore RX11 2 := C
  rw [fX11_restore] at h
  refine cj_iload_n C (i := 1) dX11_restore_0 rfl rfl ?_
  refine cj_if_lt C (tgt := 9) dX11_restore_1 rfl h (fun _ h => ?_) (fun _ h => ?_)
  · refine cj_bipush C (v := (-2 : Int32)) dX11_restore_9 rfl ?_
    exact cj_ireturn C hr h dX11_restore_11
  · refine cj_iload_n C (i := 1) dX11_restore_4 rfl rfl ?_
    refine cj_iconst C (v := (2 : Int32)) dX11_restore_5 rfl ?_
    refine cj_icmp_lt C (tgt := 12) dX11_restore_6 rfl h (fun _ h => ?_) (fun _ h => ?_)
    · refine cj_aload_n C (i := 0) dX11_restore_12 rfl rfl ?_
      refine cj_getR C (d := 149) o_0 rfl gfX11_95 dX11_restore_13 ?_
      refine cj_iload_n C (i := 1) dX11_restore_16 rfl rfl ?_
      refine cj_baload C o_149 h dX11_restore_17 (fun h => ?_)
      refine cj_if_ne C (tgt := 24) dX11_restore_18 rfl h (fun _ h => ?_) (fun _ h => ?_)
      · refine cj_bipush C (v := (-5 : Int32)) dX11_restore_21 rfl ?_
        exact cj_ireturn C hr h dX11_restore_23
      · refine cj_aload_n C (i := 0) dX11_restore_24 rfl rfl ?_
        refine cj_getR C (d := 1) o_0 rfl gfX11_10 dX11_restore_25 ?_
        refine cj_aload_n C (i := 0) dX11_restore_28 rfl rfl ?_
        refine cj_getR C (d := 147) o_0 rfl gfX11_87 dX11_restore_29 ?_
        refine cj_iload_n C (i := 1) dX11_restore_32 rfl rfl ?_
        refine cj_aaload C (d := (29 + 14 * x1.toNatClampNeg)) (by decide) o_147 rfl h (tr_147) dX11_restore_33 (fun hi1 h => ?_)
        refine cj_callVv C (As := [.ref (w.2.1 (29 + 14 * x1.toNatClampNeg))]) (rest := []) qX10_copyFrom mw_22_0 o_1 rfl rfl rfl (Nat.le_of_ble_eq_true rfl) (by decide) dX11_restore_34 h (fun _ _ hf => m_X10_copyFrom l w A kVy_1 (tk_147 hi1) S _ hf) (fun z2 S3 h => ?_)
        refine cj_aload_n C (i := 0) dX11_restore_37 rfl rfl ?_
        refine cj_getR C (d := 57) o_0 rfl gfX11_19 dX11_restore_38 ?_
        refine cj_aload_n C (i := 0) dX11_restore_41 rfl rfl ?_
        refine cj_getR C (d := 148) o_0 rfl gfX11_91 dX11_restore_42 ?_
        refine cj_iload_n C (i := 1) dX11_restore_45 rfl rfl ?_
        refine cj_aaload C (d := (105 + 4 * x1.toNatClampNeg)) (by decide) o_148 rfl h (tr_148) dX11_restore_46 (fun hi4 h => ?_)
        refine cj_callVv C (As := [.ref (w.2.1 (105 + 4 * x1.toNatClampNeg))]) (rest := []) qX5_copyFrom mw_40_9 o_57 rfl rfl rfl (Nat.le_of_ble_eq_true rfl) (by decide) dX11_restore_47 h (fun _ _ hf => m_X5_copyFrom l w A kNw_57 (tk_148 hi4) S3 _ hf) (fun z5 S6 h => ?_)
        refine cj_aload_n C (i := 0) dX11_restore_50 rfl rfl ?_
        refine cj_getR C (d := 113) o_0 rfl gfX11_29 dX11_restore_51 ?_
        refine cj_callVv C (As := []) (rest := []) qX6_forget mw_23_0 o_113 rfl rfl rfl (Nat.le_of_ble_eq_true rfl) (by decide) dX11_restore_54 h (fun _ _ hf => m_X6_forget l w A S6 _ hf) (fun z7 S8 h => ?_)
        refine cj_iconst C (v := (0 : Int32)) dX11_restore_57 rfl ?_
        exact cj_ireturn C hr h dX11_restore_58
    · refine cj_bipush C (v := (-2 : Int32)) dX11_restore_9 rfl ?_
      exact cj_ireturn C hr h dX11_restore_11
/-! X11_count -/
def fX11_count (x1 : Int32) (S : cpS) : Option (Int32 × cpS) :=
    if x1 = (0 : Int32) then (
    some ((S.1 1 0), S)) else (if x1 = (1 : Int32) then (
    some ((S.1 1 3), S)) else (if x1 = (2 : Int32) then (
    some ((S.1 1 7), S)) else (if x1 = (3 : Int32) then (
    some ((S.1 1 11), S)) else (if x1 = (4 : Int32) then (
    some ((S.1 57 3), S)) else (if x1 = (5 : Int32) then (
    cpB (fX5_quarrelsThereAre 57 S) fun z1 S2 =>
    some (z1, S2)) else (if x1 = (6 : Int32) then (
    some ((S.1 57 4), S)) else (if x1 = (7 : Int32) then (
    cpB (fX5_rimsTogether 57 S) fun z3 S4 =>
    some (z3, S4)) else (if x1 = (8 : Int32) then (
    some ((S.1 113 2), S)) else (if x1 = (9 : Int32) then (
    some ((S.1 115 1), S)) else (if x1 = (10 : Int32) then (
    some ((S.1 1 2), S)) else (
    some ((-1 : Int32), S))))))))))))
set_option maxRecDepth 100000 in
set_option maxHeartbeats 4000000 in
theorem m_X11_count (l : Launch) (w : cpW) (A : Nat → Prop) (x1 : Int32) (S : cpS) (r : Int32 × cpS) (h : fX11_count x1 S = some r) : cpMi l yX11_count cX11_count 2 ((some .int)) 2 w A [.ref (w.2.1 0), .int x1] S r := by
  refine cpMi.of (lv := [some (.ref (w.2.1 0)), some (.int x1)]) (by decide) (Nat.le_of_ble_eq_true rfl) rfl (fun p e s m args below meth c C hr => ?_)
  replace C : cpCx p s m args meth c w A cX11_count RX11 2 := C
  rw [fX11_count] at h
  refine cj_iload_n C (i := 1) dX11_count_0 rfl rfl ?_
  by_cases hs0 : x1 = (0 : Int32)
  · rw [if_pos hs0] at h
    refine cj_tableIn C (tgt := 60) dX11_count_1 (by rw [hs0]; decide) (by rw [hs0]; decide) (by rw [hs0]; rfl) rfl ?_
    refine cj_aload_n C (i := 0) dX11_count_60 rfl rfl ?_
    refine cj_getR C (d := 1) o_0 rfl gfX11_10 dX11_count_61 ?_
    refine cj_getI C (j := 0) o_1 rfl gfX11_419 dX11_count_64 ?_
    exact cj_ireturn C hr h dX11_count_67
  rw [if_neg hs0] at h
  by_cases hs1 : x1 = (1 : Int32)
  · rw [if_pos hs1] at h
    refine cj_tableIn C (tgt := 68) dX11_count_1 (by rw [hs1]; decide) (by rw [hs1]; decide) (by rw [hs1]; rfl) rfl ?_
    refine cj_aload_n C (i := 0) dX11_count_68 rfl rfl ?_
    refine cj_getR C (d := 1) o_0 rfl gfX11_10 dX11_count_69 ?_
    refine cj_getI C (j := 3) o_1 rfl gfX11_162 dX11_count_72 ?_
    exact cj_ireturn C hr h dX11_count_75
  rw [if_neg hs1] at h
  by_cases hs2 : x1 = (2 : Int32)
  · rw [if_pos hs2] at h
    refine cj_tableIn C (tgt := 76) dX11_count_1 (by rw [hs2]; decide) (by rw [hs2]; decide) (by rw [hs2]; rfl) rfl ?_
    refine cj_aload_n C (i := 0) dX11_count_76 rfl rfl ?_
    refine cj_getR C (d := 1) o_0 rfl gfX11_10 dX11_count_77 ?_
    refine cj_getI C (j := 7) o_1 rfl gfX11_422 dX11_count_80 ?_
    exact cj_ireturn C hr h dX11_count_83
  rw [if_neg hs2] at h
  by_cases hs3 : x1 = (3 : Int32)
  · rw [if_pos hs3] at h
    refine cj_tableIn C (tgt := 84) dX11_count_1 (by rw [hs3]; decide) (by rw [hs3]; decide) (by rw [hs3]; rfl) rfl ?_
    refine cj_aload_n C (i := 0) dX11_count_84 rfl rfl ?_
    refine cj_getR C (d := 1) o_0 rfl gfX11_10 dX11_count_85 ?_
    refine cj_getI C (j := 11) o_1 rfl gfX11_425 dX11_count_88 ?_
    exact cj_ireturn C hr h dX11_count_91
  rw [if_neg hs3] at h
  by_cases hs4 : x1 = (4 : Int32)
  · rw [if_pos hs4] at h
    refine cj_tableIn C (tgt := 92) dX11_count_1 (by rw [hs4]; decide) (by rw [hs4]; decide) (by rw [hs4]; rfl) rfl ?_
    refine cj_aload_n C (i := 0) dX11_count_92 rfl rfl ?_
    refine cj_getR C (d := 57) o_0 rfl gfX11_19 dX11_count_93 ?_
    refine cj_getI C (j := 3) o_57 rfl gfX11_181 dX11_count_96 ?_
    exact cj_ireturn C hr h dX11_count_99
  rw [if_neg hs4] at h
  by_cases hs5 : x1 = (5 : Int32)
  · rw [if_pos hs5] at h
    refine cj_tableIn C (tgt := 100) dX11_count_1 (by rw [hs5]; decide) (by rw [hs5]; decide) (by rw [hs5]; rfl) rfl ?_
    refine cj_aload_n C (i := 0) dX11_count_100 rfl rfl ?_
    refine cj_getR C (d := 57) o_0 rfl gfX11_19 dX11_count_101 ?_
    refine cj_callVi C (As := []) (rest := []) qX5_quarrelsThereAre mw_78_9 o_57 rfl rfl rfl (Nat.le_of_ble_eq_true rfl) (by decide) dX11_count_104 h (fun _ _ hf => m_X5_quarrelsThereAre l w A kNw_57 S _ hf) (fun z1 S2 h => ?_)
    exact cj_ireturn C hr h dX11_count_107
  rw [if_neg hs5] at h
  by_cases hs6 : x1 = (6 : Int32)
  · rw [if_pos hs6] at h
    refine cj_tableIn C (tgt := 108) dX11_count_1 (by rw [hs6]; decide) (by rw [hs6]; decide) (by rw [hs6]; rfl) rfl ?_
    refine cj_aload_n C (i := 0) dX11_count_108 rfl rfl ?_
    refine cj_getR C (d := 57) o_0 rfl gfX11_19 dX11_count_109 ?_
    refine cj_getI C (j := 4) o_57 rfl gfX11_431 dX11_count_112 ?_
    exact cj_ireturn C hr h dX11_count_115
  rw [if_neg hs6] at h
  by_cases hs7 : x1 = (7 : Int32)
  · rw [if_pos hs7] at h
    refine cj_tableIn C (tgt := 116) dX11_count_1 (by rw [hs7]; decide) (by rw [hs7]; decide) (by rw [hs7]; rfl) rfl ?_
    refine cj_aload_n C (i := 0) dX11_count_116 rfl rfl ?_
    refine cj_getR C (d := 57) o_0 rfl gfX11_19 dX11_count_117 ?_
    refine cj_callVi C (As := []) (rest := []) qX5_rimsTogether mw_44_0 o_57 rfl rfl rfl (Nat.le_of_ble_eq_true rfl) (by decide) dX11_count_120 h (fun _ _ hf => m_X5_rimsTogether l w A kNw_57 S _ hf) (fun z3 S4 h => ?_)
    exact cj_ireturn C hr h dX11_count_123
  rw [if_neg hs7] at h
  by_cases hs8 : x1 = (8 : Int32)
  · rw [if_pos hs8] at h
    refine cj_tableIn C (tgt := 124) dX11_count_1 (by rw [hs8]; decide) (by rw [hs8]; decide) (by rw [hs8]; rfl) rfl ?_
    refine cj_aload_n C (i := 0) dX11_count_124 rfl rfl ?_
    refine cj_getR C (d := 113) o_0 rfl gfX11_29 dX11_count_125 ?_
    refine cj_getI C (j := 2) o_113 rfl gfX11_218 dX11_count_128 ?_
    exact cj_ireturn C hr h dX11_count_131
  rw [if_neg hs8] at h
  by_cases hs9 : x1 = (9 : Int32)
  · rw [if_pos hs9] at h
    refine cj_tableIn C (tgt := 132) dX11_count_1 (by rw [hs9]; decide) (by rw [hs9]; decide) (by rw [hs9]; rfl) rfl ?_
    refine cj_aload_n C (i := 0) dX11_count_132 rfl rfl ?_
    refine cj_getR C (d := 115) o_0 rfl gfX11_36 dX11_count_133 ?_
    refine cj_getI C (j := 1) o_115 rfl gfX11_100 dX11_count_136 ?_
    exact cj_ireturn C hr h dX11_count_139
  rw [if_neg hs9] at h
  by_cases hs10 : x1 = (10 : Int32)
  · rw [if_pos hs10] at h
    refine cj_tableIn C (tgt := 140) dX11_count_1 (by rw [hs10]; decide) (by rw [hs10]; decide) (by rw [hs10]; rfl) rfl ?_
    refine cj_aload_n C (i := 0) dX11_count_140 rfl rfl ?_
    refine cj_getR C (d := 1) o_0 rfl gfX11_10 dX11_count_141 ?_
    refine cj_getI C (j := 2) o_1 rfl gfX11_128 dX11_count_144 ?_
    exact cj_ireturn C hr h dX11_count_147
  rw [if_neg hs10] at h
  refine cj_tableOut C (tgt := 148) dX11_count_1 (cpOut (by decide) (by decide) (fun k h1 h2 => ?_)) rfl ?_
  · rcases (show k = 0 ∨ k = 1 ∨ k = 2 ∨ k = 3 ∨ k = 4 ∨ k = 5 ∨ k = 6 ∨ k = 7 ∨ k = 8 ∨ k = 9 ∨ k = 10 by omega) with rfl | rfl | rfl | rfl | rfl | rfl | rfl | rfl | rfl | rfl | rfl
    · exact hs0
    · exact hs1
    · exact hs2
    · exact hs3
    · exact hs4
    · exact hs5
    · exact hs6
    · exact hs7
    · exact hs8
    · exact hs9
    · exact hs10
  · refine cj_iconst C (v := (-1 : Int32)) dX11_count_148 rfl ?_
    exact cj_ireturn C hr h dX11_count_149
/-! X12_within -/
def fX12_within (x0 : Int64) (x2 : Int64) (x4 : Int64) (S : cpS) : Option (Int32 × cpS) :=
    if (lg_cmp x0 x2) < 0 then (
    some ((0 : Int32), S)) else (
    if 0 < (lg_cmp x0 x4) then (
    some ((0 : Int32), S)) else (
    some ((1 : Int32), S)))
set_option maxRecDepth 100000 in
set_option maxHeartbeats 4000000 in
theorem m_X12_within (l : Launch) (w : cpW) (A : Nat → Prop) (x0 : Int64) (x2 : Int64) (x4 : Int64) (S : cpS) (r : Int32 × cpS) (h : fX12_within x0 x2 x4 S = some r) : cpMi l yX12_within cX12_within 6 ((some .boolean)) 0 w A [.long x0, .long x2, .long x4] S r := by
  refine cpMi.of (lv := [some (.long x0), none, some (.long x2), none, some (.long x4), none]) (by decide) (Nat.le_of_ble_eq_true rfl) rfl (fun p e s m args below meth c C hr => ?_)
  replace C : cpCx p s m args meth c w A cX12_within RX12 6 := C
  rw [fX12_within] at h
  refine cj_lload_n C (i := 0) dX12_within_0 rfl rfl ?_
  refine cj_lload_n C (i := 2) dX12_within_1 rfl rfl ?_
  refine cj_lcmp C dX12_within_2 ?_
  refine cj_if_lt C (tgt := 17) dX12_within_3 rfl h (fun _ h => ?_) (fun _ h => ?_)
  · refine cj_iconst C (v := (0 : Int32)) dX12_within_17 rfl ?_
    exact cj_zreturn C hr rfl h dX12_within_18
  · refine cj_lload_n C (i := 0) dX12_within_6 rfl rfl ?_
    refine cj_lload C dX12_within_7 rfl ?_
    refine cj_lcmp C dX12_within_9 ?_
    refine cj_if_gt C (tgt := 17) dX12_within_10 rfl h (fun _ h => ?_) (fun _ h => ?_)
    · refine cj_iconst C (v := (0 : Int32)) dX12_within_17 rfl ?_
      exact cj_zreturn C hr rfl h dX12_within_18
    · refine cj_iconst C (v := (1 : Int32)) dX12_within_13 rfl ?_
      refine cj_goto C (tgt := 18) dX12_within_14 rfl ?_
      exact cj_zreturn C hr rfl h dX12_within_18
/-! X12_plain -/
def fX12_plain_2 (k0 nk0 : Nat) : Nat → Int32 → cpS → Option (Unit × cpS)
  | 0, _, _ => none
  | n + 1, x1, S =>
    if (1162 : Int32) ≤ x1 then (
    if cpIn (1 : Int32) nk0 then (
    cpLt (cpI S k0 (1 : Int32).toNatClampNeg (1 : Int32)) fun S1 =>
    some ((), S1)) else none) else (
    if cpIn x1 nk0 then (
    cpLt (cpI S k0 x1.toNatClampNeg (0 : Int32)) fun S2 =>
    fX12_plain_2 k0 nk0 n (x1 + 1) S2) else none)
set_option maxRecDepth 100000 in
set_option maxHeartbeats 4000000 in
theorem wX12_plain_2 (C : cpCx p s m args meth c w A cX12_plain RX12 2) (hr : meth.sig.returnType = none) {r : Unit × cpS} {k0 nk0 : Nat} (hk0 : cpO k0 1 nk0 []) : ∀ (n : Nat) (x1 : Int32) (S : cpS), fX12_plain_2 k0 nk0 n x1 S = some r → cpJ p l e (cpRm 0) s m args below meth c (MQ below (va_Qv (fun S' => ((), S') = r) (cpWorld w A) A) args s 0 0 A) w A 2 2 [some (.ref (w.2.1 k0)), some (.int x1)] [] S := by
  intro n
  induction n with
  | zero => intro x1 S h; rw [fX12_plain_2] at h; cases h
  | succ n ih =>
    intro x1 S h
    rw [fX12_plain_2] at h
    refine cj_iload_n C (i := 1) dX12_plain_2 rfl rfl ?_
    refine cj_sipush C (v := (1162 : Int32)) dX12_plain_3 rfl ?_
    refine cj_icmp_ge C (tgt := 19) dX12_plain_6 rfl h (fun _ h => ?_) (fun _ h => ?_)
    · refine cj_aload_n C (i := 0) dX12_plain_19 rfl rfl ?_
      refine cj_iconst C (v := (1 : Int32)) dX12_plain_20 rfl ?_
      refine cj_iconst C (v := (1 : Int32)) dX12_plain_21 rfl ?_
      refine cj_iastore C hk0 h dX12_plain_22 (fun h => ?_)
      refine cj_lets h (fun S1 h => ?_)
      exact cj_vreturn C hr h dX12_plain_23
    · refine cj_aload_n C (i := 0) dX12_plain_9 rfl rfl ?_
      refine cj_iload_n C (i := 1) dX12_plain_10 rfl rfl ?_
      refine cj_iconst C (v := (0 : Int32)) dX12_plain_11 rfl ?_
      refine cj_iastore C hk0 h dX12_plain_12 (fun h => ?_)
      refine cj_lets h (fun S2 h => ?_)
      refine cj_iinc C (v := (x1 + 1)) (lv' := [some (.ref (w.2.1 k0)), some (.int (x1 + 1))]) dX12_plain_13 rfl rfl (by decide) rfl rfl ?_
      refine cj_goto C (tgt := 2) dX12_plain_16 rfl ?_
      exact ih (x1 + 1) S2 h
def fX12_plain (k0 nk0 : Nat) (S : cpS) : Option (Unit × cpS) :=
    fX12_plain_2 k0 nk0 cpFu (0 : Int32) S
set_option maxRecDepth 100000 in
set_option maxHeartbeats 4000000 in
theorem m_X12_plain (l : Launch) (w : cpW) (A : Nat → Prop) {k0 nk0 : Nat} (hk0 : cpO k0 1 nk0 []) (S : cpS) (r : Unit × cpS) (h : fX12_plain k0 nk0 S = some r) : cpMv l yX12_plain cX12_plain 2 (none) 0 w A [.ref (w.2.1 k0)] S r := by
  refine cpMv.of (lv := [some (.ref (w.2.1 k0)), none]) (by decide) (Nat.le_of_ble_eq_true rfl) rfl (fun p e s m args below meth c C hr => ?_)
  replace C : cpCx p s m args meth c w A cX12_plain RX12 2 := C
  rw [fX12_plain] at h
  refine cj_iconst C (v := (0 : Int32)) dX12_plain_0 rfl ?_
  refine cj_istore_n C (i := 1) (lv' := [some (.ref (w.2.1 k0)), some (.int (0 : Int32))]) dX12_plain_1 rfl (by decide) rfl rfl ?_
  exact wX12_plain_2 C hr hk0 cpFu (0 : Int32) S h
/-! X12_feed -/
def fX12_feed_77 (x1 : Int32) (x2 : Int32) (x3 : Int32) (x4 : Int32) (x5 : Int32) (x6 : Int32) (s0 : Int32) (k24 : Int32 → cpS → Option (Int32 × cpS)) (S : cpS) : Option (Int32 × cpS) :=
    if cpIn (S.1 150 5) 900 then (
    cpLt (cpI S 153 (S.1 150 5).toNatClampNeg ((cpShr s0 ((24 : Int32) - ((8 : Int32) * (cpRem x6 (4 : Int32))))) &&& (255 : Int32))) fun S1 =>
    cpLt (cpI S1 150 5 ((S1.1 150 5) + (1 : Int32))) fun S2 =>
    k24 (x6 + 1) S2) else none
set_option maxRecDepth 100000 in
set_option maxHeartbeats 4000000 in
theorem wX12_feed_77 (C : cpCx p s m args meth c w A cX12_feed RX12 8) (hr : meth.sig.returnType = (some .int)) {r : Int32 × cpS} (x1 : Int32) (x2 : Int32) (x3 : Int32) (x4 : Int32) (x5 : Int32) (x6 : Int32) (s0 : Int32) {k24 : Int32 → cpS → Option (Int32 × cpS)} (hk24 : ∀ (x6 : Int32) (S : cpS), k24 x6 S = some r → cpJ p l e (cpRm 0) s m args below meth c (MQ below (va_Qi (fun x S' => (x, S') = r) (cpWorld w A) A) args s 0 0 A) w A 8 24 [some (.ref (w.2.1 150)), some (.int x1), some (.int x2), some (.int x3), some (.int x4), some (.int x5), some (.int x6), none] [] S) (S : cpS) (h : fX12_feed_77 x1 x2 x3 x4 x5 x6 s0 k24 S = some r) : cpJ p l e (cpRm 0) s m args below meth c (MQ below (va_Qi (fun x S' => (x, S') = r) (cpWorld w A) A) args s 0 0 A) w A 8 77 [some (.ref (w.2.1 150)), some (.int x1), some (.int x2), some (.int x3), some (.int x4), some (.int x5), some (.int x6), none] [.int s0] S := by
  rw [fX12_feed_77] at h
  refine cj_istore C (lv' := [some (.ref (w.2.1 150)), some (.int x1), some (.int x2), some (.int x3), some (.int x4), some (.int x5), some (.int x6), some (.int s0)]) dX12_feed_77 (by decide) rfl rfl ?_
  refine cj_aload_n C (i := 0) dX12_feed_79 rfl rfl ?_
  refine cj_getR C (d := 153) o_150 rfl gfX12_21 dX12_feed_80 ?_
  refine cj_aload_n C (i := 0) dX12_feed_83 rfl rfl ?_
  refine cj_getI C (j := 5) o_150 rfl gfX12_92 dX12_feed_84 ?_
  refine cj_iload C dX12_feed_87 rfl ?_
  refine cj_bipush C (v := (24 : Int32)) dX12_feed_89 rfl ?_
  refine cj_bipush C (v := (8 : Int32)) dX12_feed_91 rfl ?_
  refine cj_iload C dX12_feed_93 rfl ?_
  refine cj_iconst C (v := (4 : Int32)) dX12_feed_95 rfl ?_
  refine ck_irem C dX12_feed_96 (by decide) ?_
  refine cj_imul C dX12_feed_97 ?_
  refine cj_isub C dX12_feed_98 ?_
  refine ck_ishr C dX12_feed_99 ?_
  refine cj_sipush C (v := (255 : Int32)) dX12_feed_100 rfl ?_
  refine cj_iand C dX12_feed_103 ?_
  refine cj_iastore C o_153 h dX12_feed_104 (fun h => ?_)
  refine cj_lets h (fun S1 h => ?_)
  refine cj_aload_n C (i := 0) dX12_feed_105 rfl rfl ?_
  refine cj_dup C dX12_feed_106 rfl ?_
  refine cj_getI C (j := 5) o_150 rfl gfX12_92 dX12_feed_107 ?_
  refine cj_iconst C (v := (1 : Int32)) dX12_feed_110 rfl ?_
  refine cj_iadd C dX12_feed_111 ?_
  refine cj_put C (j := 5) o_150 rfl pfX12_92 rfl rfl dX12_feed_112 ?_
  refine cj_lets h (fun S2 h => ?_)
  refine cj_iinc C (v := (x6 + 1)) (lv' := [some (.ref (w.2.1 150)), some (.int x1), some (.int x2), some (.int x3), some (.int x4), some (.int x5), some (.int (x6 + 1)), some (.int s0)]) dX12_feed_115 rfl rfl (by decide) rfl rfl ?_
  refine cj_goto C (tgt := 24) dX12_feed_118 rfl ?_
  refine cj_weak C (lv' := [some (.ref (w.2.1 150)), some (.int x1), some (.int x2), some (.int x3), some (.int x4), some (.int x5), some (.int (x6 + 1)), none]) (cpSub_s (cpSub_s (cpSub_s (cpSub_s (cpSub_s (cpSub_s (cpSub_s (cpSub_n cpSub_nil)))))))) ?_
  exact hk24 (x6 + 1) S2 h
def fX12_feed_24 (x1 : Int32) (x2 : Int32) (x3 : Int32) (x4 : Int32) (x5 : Int32) : Nat → Int32 → cpS → Option (Int32 × cpS)
  | 0, _, _ => none
  | n + 1, x6, S =>
    if (20 : Int32) ≤ x6 then (
    some ((S.1 150 5), S)) else (
    if (4 : Int32) ≤ x6 then (
    if (8 : Int32) ≤ x6 then (
    if (12 : Int32) ≤ x6 then (
    if (16 : Int32) ≤ x6 then (
    fX12_feed_77 x1 x2 x3 x4 x5 x6 x5 (fX12_feed_24 x1 x2 x3 x4 x5 n) S) else (
    fX12_feed_77 x1 x2 x3 x4 x5 x6 x4 (fX12_feed_24 x1 x2 x3 x4 x5 n) S)) else (
    fX12_feed_77 x1 x2 x3 x4 x5 x6 x3 (fX12_feed_24 x1 x2 x3 x4 x5 n) S)) else (
    fX12_feed_77 x1 x2 x3 x4 x5 x6 x2 (fX12_feed_24 x1 x2 x3 x4 x5 n) S)) else (
    fX12_feed_77 x1 x2 x3 x4 x5 x6 x1 (fX12_feed_24 x1 x2 x3 x4 x5 n) S))
set_option maxRecDepth 100000 in
set_option maxHeartbeats 4000000 in
theorem wX12_feed_24 (C : cpCx p s m args meth c w A cX12_feed RX12 8) (hr : meth.sig.returnType = (some .int)) {r : Int32 × cpS} (x1 : Int32) (x2 : Int32) (x3 : Int32) (x4 : Int32) (x5 : Int32) : ∀ (n : Nat) (x6 : Int32) (S : cpS), fX12_feed_24 x1 x2 x3 x4 x5 n x6 S = some r → cpJ p l e (cpRm 0) s m args below meth c (MQ below (va_Qi (fun x S' => (x, S') = r) (cpWorld w A) A) args s 0 0 A) w A 8 24 [some (.ref (w.2.1 150)), some (.int x1), some (.int x2), some (.int x3), some (.int x4), some (.int x5), some (.int x6), none] [] S := by
  intro n
  induction n with
  | zero => intro x6 S h; rw [fX12_feed_24] at h; cases h
  | succ n ih =>
    intro x6 S h
    rw [fX12_feed_24] at h
    refine cj_iload C dX12_feed_24 rfl ?_
    refine cj_bipush C (v := (20 : Int32)) dX12_feed_26 rfl ?_
    refine cj_icmp_ge C (tgt := 121) dX12_feed_28 rfl h (fun _ h => ?_) (fun _ h => ?_)
    · refine cj_aload_n C (i := 0) dX12_feed_121 rfl rfl ?_
      refine cj_getI C (j := 5) o_150 rfl gfX12_92 dX12_feed_122 ?_
      exact cj_ireturn C hr h dX12_feed_125
    · refine cj_iload C dX12_feed_31 rfl ?_
      refine cj_iconst C (v := (4 : Int32)) dX12_feed_33 rfl ?_
      refine cj_icmp_ge C (tgt := 41) dX12_feed_34 rfl h (fun _ h => ?_) (fun _ h => ?_)
      · refine cj_iload C dX12_feed_41 rfl ?_
        refine cj_bipush C (v := (8 : Int32)) dX12_feed_43 rfl ?_
        refine cj_icmp_ge C (tgt := 52) dX12_feed_45 rfl h (fun _ h => ?_) (fun _ h => ?_)
        · refine cj_iload C dX12_feed_52 rfl ?_
          refine cj_bipush C (v := (12 : Int32)) dX12_feed_54 rfl ?_
          refine cj_icmp_ge C (tgt := 63) dX12_feed_56 rfl h (fun _ h => ?_) (fun _ h => ?_)
          · refine cj_iload C dX12_feed_63 rfl ?_
            refine cj_bipush C (v := (16 : Int32)) dX12_feed_65 rfl ?_
            refine cj_icmp_ge C (tgt := 75) dX12_feed_67 rfl h (fun _ h => ?_) (fun _ h => ?_)
            · refine cj_iload C dX12_feed_75 rfl ?_
              exact wX12_feed_77 C hr x1 x2 x3 x4 x5 x6 x5 ih S h
            · refine cj_iload C dX12_feed_70 rfl ?_
              refine cj_goto C (tgt := 77) dX12_feed_72 rfl ?_
              exact wX12_feed_77 C hr x1 x2 x3 x4 x5 x6 x4 ih S h
          · refine cj_iload_n C (i := 3) dX12_feed_59 rfl rfl ?_
            refine cj_goto C (tgt := 77) dX12_feed_60 rfl ?_
            exact wX12_feed_77 C hr x1 x2 x3 x4 x5 x6 x3 ih S h
        · refine cj_iload_n C (i := 2) dX12_feed_48 rfl rfl ?_
          refine cj_goto C (tgt := 77) dX12_feed_49 rfl ?_
          exact wX12_feed_77 C hr x1 x2 x3 x4 x5 x6 x2 ih S h
      · refine cj_iload_n C (i := 1) dX12_feed_37 rfl rfl ?_
        refine cj_goto C (tgt := 77) dX12_feed_38 rfl ?_
        exact wX12_feed_77 C hr x1 x2 x3 x4 x5 x6 x1 ih S h
def fX12_feed (x1 : Int32) (x2 : Int32) (x3 : Int32) (x4 : Int32) (x5 : Int32) (S : cpS) : Option (Int32 × cpS) :=
    cpLt (cpI S 150 0 (0 : Int32)) fun S1 =>
    if ((S1.1 150 5) + (20 : Int32)) ≤ (900 : Int32) then (
    fX12_feed_24 x1 x2 x3 x4 x5 cpFu (0 : Int32) S1) else (
    some ((-5 : Int32), S1))
set_option maxRecDepth 100000 in
set_option maxHeartbeats 4000000 in
theorem m_X12_feed (l : Launch) (w : cpW) (A : Nat → Prop) (x1 : Int32) (x2 : Int32) (x3 : Int32) (x4 : Int32) (x5 : Int32) (S : cpS) (r : Int32 × cpS) (h : fX12_feed x1 x2 x3 x4 x5 S = some r) : cpMi l yX12_feed cX12_feed 8 ((some .int)) 0 w A [.ref (w.2.1 150), .int x1, .int x2, .int x3, .int x4, .int x5] S r := by
  refine cpMi.of (lv := [some (.ref (w.2.1 150)), some (.int x1), some (.int x2), some (.int x3), some (.int x4), some (.int x5), none, none]) (by decide) (Nat.le_of_ble_eq_true rfl) rfl (fun p e s m args below meth c C hr => ?_)
  replace C : cpCx p s m args meth c w A cX12_feed RX12 8 := C
  rw [fX12_feed] at h
  refine cj_aload_n C (i := 0) dX12_feed_0 rfl rfl ?_
  refine cj_iconst C (v := (0 : Int32)) dX12_feed_1 rfl ?_
  refine cj_put C (j := 0) o_150 rfl pfX12_1 rfl rfl dX12_feed_2 ?_
  refine cj_lets h (fun S1 h => ?_)
  refine cj_aload_n C (i := 0) dX12_feed_5 rfl rfl ?_
  refine cj_getI C (j := 5) o_150 rfl gfX12_92 dX12_feed_6 ?_
  refine cj_bipush C (v := (20 : Int32)) dX12_feed_9 rfl ?_
  refine cj_iadd C dX12_feed_11 ?_
  refine cj_sipush C (v := (900 : Int32)) dX12_feed_12 rfl ?_
  refine cj_icmp_le C (tgt := 21) dX12_feed_15 rfl h (fun _ h => ?_) (fun _ h => ?_)
  · refine cj_iconst C (v := (0 : Int32)) dX12_feed_21 rfl ?_
    refine cj_istore C (lv' := [some (.ref (w.2.1 150)), some (.int x1), some (.int x2), some (.int x3), some (.int x4), some (.int x5), some (.int (0 : Int32)), none]) dX12_feed_22 (by decide) rfl rfl ?_
    exact wX12_feed_24 C hr x1 x2 x3 x4 x5 cpFu (0 : Int32) S1 h
  · refine cj_bipush C (v := (-5 : Int32)) dX12_feed_18 rfl ?_
    exact cj_ireturn C hr h dX12_feed_20
/-! X12_see -/
def fX12_see (x1 : Int32) (S : cpS) : Option (Int32 × cpS) :=
    if (S.1 150 8) ≤ x1 then (
    some ((-1 : Int32), S)) else (
    if cpIn x1 900 then (
    some ((S.1 153 x1.toNatClampNeg), S)) else none)
set_option maxRecDepth 100000 in
set_option maxHeartbeats 4000000 in
theorem m_X12_see (l : Launch) (w : cpW) (A : Nat → Prop) (x1 : Int32) (S : cpS) (r : Int32 × cpS) (h : fX12_see x1 S = some r) : cpMi l yX12_see cX12_see 2 ((some .int)) 0 w A [.ref (w.2.1 150), .int x1] S r := by
  refine cpMi.of (lv := [some (.ref (w.2.1 150)), some (.int x1)]) (by decide) (Nat.le_of_ble_eq_true rfl) rfl (fun p e s m args below meth c C hr => ?_)
  replace C : cpCx p s m args meth c w A cX12_see RX12 2 := C
  rw [fX12_see] at h
  refine cj_iload_n C (i := 1) dX12_see_0 rfl rfl ?_
  refine cj_aload_n C (i := 0) dX12_see_1 rfl rfl ?_
  refine cj_getI C (j := 8) o_150 rfl gfX12_95 dX12_see_2 ?_
  refine cj_icmp_ge C (tgt := 17) dX12_see_5 rfl h (fun _ h => ?_) (fun _ h => ?_)
  · refine cj_iconst C (v := (-1 : Int32)) dX12_see_17 rfl ?_
    exact cj_ireturn C hr h dX12_see_18
  · refine cj_aload_n C (i := 0) dX12_see_8 rfl rfl ?_
    refine cj_getR C (d := 153) o_150 rfl gfX12_21 dX12_see_9 ?_
    refine cj_iload_n C (i := 1) dX12_see_12 rfl rfl ?_
    refine cj_iaload C o_153 h dX12_see_13 (fun h => ?_)
    refine cj_goto C (tgt := 18) dX12_see_14 rfl ?_
    exact cj_ireturn C hr h dX12_see_18
/-! X12_isSmall -/
def fX12_isSmall (x0 : Int32) (S : cpS) : Option (Int32 × cpS) :=
    if x0 < (97 : Int32) then (
    some ((0 : Int32), S)) else (
    if (122 : Int32) < x0 then (
    some ((0 : Int32), S)) else (
    some ((1 : Int32), S)))
set_option maxRecDepth 100000 in
set_option maxHeartbeats 4000000 in
theorem m_X12_isSmall (l : Launch) (w : cpW) (A : Nat → Prop) (x0 : Int32) (S : cpS) (r : Int32 × cpS) (h : fX12_isSmall x0 S = some r) : cpMi l yX12_isSmall cX12_isSmall 1 ((some .boolean)) 0 w A [.int x0] S r := by
  refine cpMi.of (lv := [some (.int x0)]) (by decide) (Nat.le_of_ble_eq_true rfl) rfl (fun p e s m args below meth c C hr => ?_)
  replace C : cpCx p s m args meth c w A cX12_isSmall RX12 1 := C
  rw [fX12_isSmall] at h
  refine cj_iload_n C (i := 0) dX12_isSmall_0 rfl rfl ?_
  refine cj_bipush C (v := (97 : Int32)) dX12_isSmall_1 rfl ?_
  refine cj_icmp_lt C (tgt := 16) dX12_isSmall_3 rfl h (fun _ h => ?_) (fun _ h => ?_)
  · refine cj_iconst C (v := (0 : Int32)) dX12_isSmall_16 rfl ?_
    exact cj_zreturn C hr rfl h dX12_isSmall_17
  · refine cj_iload_n C (i := 0) dX12_isSmall_6 rfl rfl ?_
    refine cj_bipush C (v := (122 : Int32)) dX12_isSmall_7 rfl ?_
    refine cj_icmp_gt C (tgt := 16) dX12_isSmall_9 rfl h (fun _ h => ?_) (fun _ h => ?_)
    · refine cj_iconst C (v := (0 : Int32)) dX12_isSmall_16 rfl ?_
      exact cj_zreturn C hr rfl h dX12_isSmall_17
    · refine cj_iconst C (v := (1 : Int32)) dX12_isSmall_12 rfl ?_
      refine cj_goto C (tgt := 17) dX12_isSmall_13 rfl ?_
      exact cj_zreturn C hr rfl h dX12_isSmall_17
/-! X12_isDigit -/
def fX12_isDigit (x0 : Int32) (S : cpS) : Option (Int32 × cpS) :=
    if x0 < (48 : Int32) then (
    some ((0 : Int32), S)) else (
    if (57 : Int32) < x0 then (
    some ((0 : Int32), S)) else (
    some ((1 : Int32), S)))
set_option maxRecDepth 100000 in
set_option maxHeartbeats 4000000 in
theorem m_X12_isDigit (l : Launch) (w : cpW) (A : Nat → Prop) (x0 : Int32) (S : cpS) (r : Int32 × cpS) (h : fX12_isDigit x0 S = some r) : cpMi l yX12_isDigit cX12_isDigit 1 ((some .boolean)) 0 w A [.int x0] S r := by
  refine cpMi.of (lv := [some (.int x0)]) (by decide) (Nat.le_of_ble_eq_true rfl) rfl (fun p e s m args below meth c C hr => ?_)
  replace C : cpCx p s m args meth c w A cX12_isDigit RX12 1 := C
  rw [fX12_isDigit] at h
  refine cj_iload_n C (i := 0) dX12_isDigit_0 rfl rfl ?_
  refine cj_bipush C (v := (48 : Int32)) dX12_isDigit_1 rfl ?_
  refine cj_icmp_lt C (tgt := 16) dX12_isDigit_3 rfl h (fun _ h => ?_) (fun _ h => ?_)
  · refine cj_iconst C (v := (0 : Int32)) dX12_isDigit_16 rfl ?_
    exact cj_zreturn C hr rfl h dX12_isDigit_17
  · refine cj_iload_n C (i := 0) dX12_isDigit_6 rfl rfl ?_
    refine cj_bipush C (v := (57 : Int32)) dX12_isDigit_7 rfl ?_
    refine cj_icmp_gt C (tgt := 16) dX12_isDigit_9 rfl h (fun _ h => ?_) (fun _ h => ?_)
    · refine cj_iconst C (v := (0 : Int32)) dX12_isDigit_16 rfl ?_
      exact cj_zreturn C hr rfl h dX12_isDigit_17
    · refine cj_iconst C (v := (1 : Int32)) dX12_isDigit_12 rfl ?_
      refine cj_goto C (tgt := 17) dX12_isDigit_13 rfl ?_
      exact cj_zreturn C hr rfl h dX12_isDigit_17
/-! X12_keyAt -/
def fX12_keyAt_97 (x1 : Int32) (k4 : Int32 → Int32 → cpS → Option (Int32 × cpS)) : Nat → Int32 → cpS → Option (Int32 × cpS)
  | 0, _, _ => none
  | n + 1, x2, S =>
    cpB (fJ0_charAt_5068e 24 x2 S) fun z1 S2 =>
    if z1 = (32 : Int32) then (
    k4 (x1 + 1) (x2 + 1) S2) else (
    fX12_keyAt_97 x1 k4 n (x2 + 1) S2)
set_option maxRecDepth 100000 in
set_option maxHeartbeats 4000000 in
theorem wX12_keyAt_97 (C : cpCx p s m args meth c w A cX12_keyAt RX12 4) (hr : meth.sig.returnType = (some .int)) {r : Int32 × cpS} (x1 : Int32) {k4 : Int32 → Int32 → cpS → Option (Int32 × cpS)} (hk4 : ∀ (x1 : Int32) (x2 : Int32) (S : cpS), k4 x1 x2 S = some r → cpJ p l e (cpRm 4) s m args below meth c (MQ below (va_Qi (fun x S' => (x, S') = r) (cpWorld w A) A) args s 0 0 A) w A 4 4 [some (.ref (w.2.1 150)), some (.int x1), some (.int x2), none] [] S) : ∀ (n : Nat) (x2 : Int32) (S : cpS), fX12_keyAt_97 x1 k4 n x2 S = some r → cpJ p l e (cpRm 4) s m args below meth c (MQ below (va_Qi (fun x S' => (x, S') = r) (cpWorld w A) A) args s 0 0 A) w A 4 97 [some (.ref (w.2.1 150)), some (.int x1), some (.int x2), none] [] S := by
  intro n
  induction n with
  | zero => intro x2 S h; rw [fX12_keyAt_97] at h; cases h
  | succ n ih =>
    intro x2 S h
    rw [fX12_keyAt_97] at h
    refine cj_ldcS C (i := 24) (List.mem_of_getElem? (i := 24) rfl) dX12_keyAt_97 ?_
    refine cj_iload_n C (i := 2) dX12_keyAt_99 rfl rfl ?_
    refine cj_callTi C (As := [.int x2]) (rest := []) qJ0_charAt_5068e mw_24_12 (by decide) rfl rfl rfl (Nat.le_of_ble_eq_true rfl) (by decide) dX12_keyAt_100 h (fun _ _ hf => m_J0_charAt_5068e l w A (by decide) x2 S _ hf) (fun z1 S2 h => ?_)
    refine cj_bipush C (v := (32 : Int32)) dX12_keyAt_103 rfl ?_
    refine cj_icmp_eq C (tgt := 114) dX12_keyAt_105 rfl h (fun _ h => ?_) (fun _ h => ?_)
    · refine cj_iinc C (v := (x2 + 1)) (lv' := [some (.ref (w.2.1 150)), some (.int x1), some (.int (x2 + 1)), none]) dX12_keyAt_114 rfl rfl (by decide) rfl rfl ?_
      refine cj_iinc C (v := (x1 + 1)) (lv' := [some (.ref (w.2.1 150)), some (.int (x1 + 1)), some (.int (x2 + 1)), none]) dX12_keyAt_117 rfl rfl (by decide) rfl rfl ?_
      refine cj_goto C (tgt := 4) dX12_keyAt_120 rfl ?_
      exact hk4 (x1 + 1) (x2 + 1) S2 h
    · refine cj_iinc C (v := (x2 + 1)) (lv' := [some (.ref (w.2.1 150)), some (.int x1), some (.int (x2 + 1)), none]) dX12_keyAt_108 rfl rfl (by decide) rfl rfl ?_
      refine cj_goto C (tgt := 97) dX12_keyAt_111 rfl ?_
      exact ih (x2 + 1) S2 h
def fX12_keyAt_69 (x1 : Int32) (x2 : Int32) (x3 : Int32) (k4 : Int32 → Int32 → cpS → Option (Int32 × cpS)) (S : cpS) : Option (Int32 × cpS) :=
    cpB (fJ0_charAt_5068e 24 (x2 + x3) S) fun z1 S2 =>
    if z1 = (32 : Int32) then (
    if ((S2.1 150 6) + x3) = (S2.1 150 7) then (
    some (x1, S2)) else (
    fX12_keyAt_97 x1 k4 cpFu x2 S2)) else (
    fX12_keyAt_97 x1 k4 cpFu x2 S2)
set_option maxRecDepth 100000 in
set_option maxHeartbeats 4000000 in
theorem wX12_keyAt_69 (C : cpCx p s m args meth c w A cX12_keyAt RX12 4) (hr : meth.sig.returnType = (some .int)) {r : Int32 × cpS} (x1 : Int32) (x2 : Int32) (x3 : Int32) {k4 : Int32 → Int32 → cpS → Option (Int32 × cpS)} (hk4 : ∀ (x1 : Int32) (x2 : Int32) (S : cpS), k4 x1 x2 S = some r → cpJ p l e (cpRm 4) s m args below meth c (MQ below (va_Qi (fun x S' => (x, S') = r) (cpWorld w A) A) args s 0 0 A) w A 4 4 [some (.ref (w.2.1 150)), some (.int x1), some (.int x2), none] [] S) (S : cpS) (h : fX12_keyAt_69 x1 x2 x3 k4 S = some r) : cpJ p l e (cpRm 4) s m args below meth c (MQ below (va_Qi (fun x S' => (x, S') = r) (cpWorld w A) A) args s 0 0 A) w A 4 69 [some (.ref (w.2.1 150)), some (.int x1), some (.int x2), some (.int x3)] [] S := by
  rw [fX12_keyAt_69] at h
  refine cj_ldcS C (i := 24) (List.mem_of_getElem? (i := 24) rfl) dX12_keyAt_69 ?_
  refine cj_iload_n C (i := 2) dX12_keyAt_71 rfl rfl ?_
  refine cj_iload_n C (i := 3) dX12_keyAt_72 rfl rfl ?_
  refine cj_iadd C dX12_keyAt_73 ?_
  refine cj_callTi C (As := [.int (x2 + x3)]) (rest := []) qJ0_charAt_5068e mw_24_12 (by decide) rfl rfl rfl (Nat.le_of_ble_eq_true rfl) (by decide) dX12_keyAt_74 h (fun _ _ hf => m_J0_charAt_5068e l w A (by decide) (x2 + x3) S _ hf) (fun z1 S2 h => ?_)
  refine cj_bipush C (v := (32 : Int32)) dX12_keyAt_77 rfl ?_
  refine cj_icmp_ne C (tgt := 97) dX12_keyAt_79 rfl h (fun _ h => ?_) (fun _ h => ?_)
  · refine cj_aload_n C (i := 0) dX12_keyAt_82 rfl rfl ?_
    refine cj_getI C (j := 6) o_150 rfl gfX12_110 dX12_keyAt_83 ?_
    refine cj_iload_n C (i := 3) dX12_keyAt_86 rfl rfl ?_
    refine cj_iadd C dX12_keyAt_87 ?_
    refine cj_aload_n C (i := 0) dX12_keyAt_88 rfl rfl ?_
    refine cj_getI C (j := 7) o_150 rfl gfX12_113 dX12_keyAt_89 ?_
    refine cj_icmp_ne C (tgt := 97) dX12_keyAt_92 rfl h (fun _ h => ?_) (fun _ h => ?_)
    · refine cj_iload_n C (i := 1) dX12_keyAt_95 rfl rfl ?_
      exact cj_ireturn C hr h dX12_keyAt_96
    · refine cj_weak C (lv' := [some (.ref (w.2.1 150)), some (.int x1), some (.int x2), none]) (cpSub_s (cpSub_s (cpSub_s (cpSub_n cpSub_nil)))) ?_
      exact wX12_keyAt_97 C hr x1 hk4 cpFu x2 S2 h
  · refine cj_weak C (lv' := [some (.ref (w.2.1 150)), some (.int x1), some (.int x2), none]) (cpSub_s (cpSub_s (cpSub_s (cpSub_n cpSub_nil)))) ?_
    exact wX12_keyAt_97 C hr x1 hk4 cpFu x2 S2 h
def fX12_keyAt_15 (x1 : Int32) (x2 : Int32) (k4 : Int32 → Int32 → cpS → Option (Int32 × cpS)) : Nat → Int32 → cpS → Option (Int32 × cpS)
  | 0, _, _ => none
  | n + 1, x3, S =>
    cpB (fJ0_charAt_5068e 24 (x2 + x3) S) fun z1 S2 =>
    if z1 = (32 : Int32) then (
    fX12_keyAt_69 x1 x2 x3 k4 S2) else (
    if (S2.1 150 7) ≤ ((S2.1 150 6) + x3) then (
    fX12_keyAt_69 x1 x2 x3 k4 S2) else (
    if cpIn ((S2.1 150 6) + x3) 900 then (
    cpB (fJ0_charAt_5068e 24 (x2 + x3) S2) fun z3 S4 =>
    if (S2.1 153 ((S2.1 150 6) + x3).toNatClampNeg) = z3 then (
    fX12_keyAt_15 x1 x2 k4 n (x3 + 1) S4) else (
    fX12_keyAt_69 x1 x2 x3 k4 S4)) else none))
set_option maxRecDepth 100000 in
set_option maxHeartbeats 4000000 in
theorem wX12_keyAt_15 (C : cpCx p s m args meth c w A cX12_keyAt RX12 4) (hr : meth.sig.returnType = (some .int)) {r : Int32 × cpS} (x1 : Int32) (x2 : Int32) {k4 : Int32 → Int32 → cpS → Option (Int32 × cpS)} (hk4 : ∀ (x1 : Int32) (x2 : Int32) (S : cpS), k4 x1 x2 S = some r → cpJ p l e (cpRm 4) s m args below meth c (MQ below (va_Qi (fun x S' => (x, S') = r) (cpWorld w A) A) args s 0 0 A) w A 4 4 [some (.ref (w.2.1 150)), some (.int x1), some (.int x2), none] [] S) : ∀ (n : Nat) (x3 : Int32) (S : cpS), fX12_keyAt_15 x1 x2 k4 n x3 S = some r → cpJ p l e (cpRm 4) s m args below meth c (MQ below (va_Qi (fun x S' => (x, S') = r) (cpWorld w A) A) args s 0 0 A) w A 4 15 [some (.ref (w.2.1 150)), some (.int x1), some (.int x2), some (.int x3)] [] S := by
  intro n
  induction n with
  | zero => intro x3 S h; rw [fX12_keyAt_15] at h; cases h
  | succ n ih =>
    intro x3 S h
    rw [fX12_keyAt_15] at h
    refine cj_ldcS C (i := 24) (List.mem_of_getElem? (i := 24) rfl) dX12_keyAt_15 ?_
    refine cj_iload_n C (i := 2) dX12_keyAt_17 rfl rfl ?_
    refine cj_iload_n C (i := 3) dX12_keyAt_18 rfl rfl ?_
    refine cj_iadd C dX12_keyAt_19 ?_
    refine cj_callTi C (As := [.int (x2 + x3)]) (rest := []) qJ0_charAt_5068e mw_24_12 (by decide) rfl rfl rfl (Nat.le_of_ble_eq_true rfl) (by decide) dX12_keyAt_20 h (fun _ _ hf => m_J0_charAt_5068e l w A (by decide) (x2 + x3) S _ hf) (fun z1 S2 h => ?_)
    refine cj_bipush C (v := (32 : Int32)) dX12_keyAt_23 rfl ?_
    refine cj_icmp_eq C (tgt := 69) dX12_keyAt_25 rfl h (fun _ h => ?_) (fun _ h => ?_)
    · exact wX12_keyAt_69 C hr x1 x2 x3 hk4 S2 h
    · refine cj_aload_n C (i := 0) dX12_keyAt_28 rfl rfl ?_
      refine cj_getI C (j := 6) o_150 rfl gfX12_110 dX12_keyAt_29 ?_
      refine cj_iload_n C (i := 3) dX12_keyAt_32 rfl rfl ?_
      refine cj_iadd C dX12_keyAt_33 ?_
      refine cj_aload_n C (i := 0) dX12_keyAt_34 rfl rfl ?_
      refine cj_getI C (j := 7) o_150 rfl gfX12_113 dX12_keyAt_35 ?_
      refine cj_icmp_ge C (tgt := 69) dX12_keyAt_38 rfl h (fun _ h => ?_) (fun _ h => ?_)
      · exact wX12_keyAt_69 C hr x1 x2 x3 hk4 S2 h
      · refine cj_aload_n C (i := 0) dX12_keyAt_41 rfl rfl ?_
        refine cj_getR C (d := 153) o_150 rfl gfX12_21 dX12_keyAt_42 ?_
        refine cj_aload_n C (i := 0) dX12_keyAt_45 rfl rfl ?_
        refine cj_getI C (j := 6) o_150 rfl gfX12_110 dX12_keyAt_46 ?_
        refine cj_iload_n C (i := 3) dX12_keyAt_49 rfl rfl ?_
        refine cj_iadd C dX12_keyAt_50 ?_
        refine cj_iaload C o_153 h dX12_keyAt_51 (fun h => ?_)
        refine cj_ldcS C (i := 24) (List.mem_of_getElem? (i := 24) rfl) dX12_keyAt_52 ?_
        refine cj_iload_n C (i := 2) dX12_keyAt_54 rfl rfl ?_
        refine cj_iload_n C (i := 3) dX12_keyAt_55 rfl rfl ?_
        refine cj_iadd C dX12_keyAt_56 ?_
        refine cj_callTi C (As := [.int (x2 + x3)]) (rest := [.int (S2.1 153 ((S2.1 150 6) + x3).toNatClampNeg)]) qJ0_charAt_5068e mw_24_12 (by decide) rfl rfl rfl (Nat.le_of_ble_eq_true rfl) (by decide) dX12_keyAt_57 h (fun _ _ hf => m_J0_charAt_5068e l w A (by decide) (x2 + x3) S2 _ hf) (fun z3 S4 h => ?_)
        refine cj_icmp_ne C (tgt := 69) dX12_keyAt_60 rfl h (fun _ h => ?_) (fun _ h => ?_)
        · refine cj_iinc C (v := (x3 + 1)) (lv' := [some (.ref (w.2.1 150)), some (.int x1), some (.int x2), some (.int (x3 + 1))]) dX12_keyAt_63 rfl rfl (by decide) rfl rfl ?_
          refine cj_goto C (tgt := 15) dX12_keyAt_66 rfl ?_
          exact ih (x3 + 1) S4 h
        · exact wX12_keyAt_69 C hr x1 x2 x3 hk4 S4 h
def fX12_keyAt_4 : Nat → Int32 → Int32 → cpS → Option (Int32 × cpS)
  | 0, _, _, _ => none
  | n + 1, x1, x2, S =>
    cpB (fJ0_length_8abf5 24 S) fun z1 S2 =>
    if z1 ≤ x2 then (
    some ((24 : Int32), S2)) else (
    fX12_keyAt_15 x1 x2 (fX12_keyAt_4 n) cpFu (0 : Int32) S2)
set_option maxRecDepth 100000 in
set_option maxHeartbeats 4000000 in
theorem wX12_keyAt_4 (C : cpCx p s m args meth c w A cX12_keyAt RX12 4) (hr : meth.sig.returnType = (some .int)) {r : Int32 × cpS} : ∀ (n : Nat) (x1 : Int32) (x2 : Int32) (S : cpS), fX12_keyAt_4 n x1 x2 S = some r → cpJ p l e (cpRm 4) s m args below meth c (MQ below (va_Qi (fun x S' => (x, S') = r) (cpWorld w A) A) args s 0 0 A) w A 4 4 [some (.ref (w.2.1 150)), some (.int x1), some (.int x2), none] [] S := by
  intro n
  induction n with
  | zero => intro x1 x2 S h; rw [fX12_keyAt_4] at h; cases h
  | succ n ih =>
    intro x1 x2 S h
    rw [fX12_keyAt_4] at h
    refine cj_iload_n C (i := 2) dX12_keyAt_4 rfl rfl ?_
    refine cj_ldcS C (i := 24) (List.mem_of_getElem? (i := 24) rfl) dX12_keyAt_5 ?_
    refine cj_callTi C (As := []) (rest := [.int x2]) qJ0_length_8abf5 mw_24_11 (by decide) rfl rfl rfl (Nat.le_of_ble_eq_true rfl) (by decide) dX12_keyAt_7 h (fun _ _ hf => m_J0_length_8abf5 l w A (by decide) S _ hf) (fun z1 S2 h => ?_)
    refine cj_icmp_ge C (tgt := 123) dX12_keyAt_10 rfl h (fun _ h => ?_) (fun _ h => ?_)
    · refine cj_bipush C (v := (24 : Int32)) dX12_keyAt_123 rfl ?_
      exact cj_ireturn C hr h dX12_keyAt_125
    · refine cj_iconst C (v := (0 : Int32)) dX12_keyAt_13 rfl ?_
      refine cj_istore_n C (i := 3) (lv' := [some (.ref (w.2.1 150)), some (.int x1), some (.int x2), some (.int (0 : Int32))]) dX12_keyAt_14 rfl (by decide) rfl rfl ?_
      exact wX12_keyAt_15 C hr x1 x2 ih cpFu (0 : Int32) S2 h
def fX12_keyAt (S : cpS) : Option (Int32 × cpS) :=
    fX12_keyAt_4 cpFu (0 : Int32) (1 : Int32) S
set_option maxRecDepth 100000 in
set_option maxHeartbeats 4000000 in
theorem m_X12_keyAt (l : Launch) (w : cpW) (A : Nat → Prop) (S : cpS) (r : Int32 × cpS) (h : fX12_keyAt S = some r) : cpMi l yX12_keyAt cX12_keyAt 4 ((some .int)) 4 w A [.ref (w.2.1 150)] S r := by
  refine cpMi.of (lv := [some (.ref (w.2.1 150)), none, none, none]) (by decide) (Nat.le_of_ble_eq_true rfl) rfl (fun p e s m args below meth c C hr => ?_)
  replace C : cpCx p s m args meth c w A cX12_keyAt RX12 4 := C
  rw [fX12_keyAt] at h
  refine cj_iconst C (v := (0 : Int32)) dX12_keyAt_0 rfl ?_
  refine cj_istore_n C (i := 1) (lv' := [some (.ref (w.2.1 150)), some (.int (0 : Int32)), none, none]) dX12_keyAt_1 rfl (by decide) rfl rfl ?_
  refine cj_iconst C (v := (1 : Int32)) dX12_keyAt_2 rfl ?_
  refine cj_istore_n C (i := 2) (lv' := [some (.ref (w.2.1 150)), some (.int (0 : Int32)), some (.int (1 : Int32)), none]) dX12_keyAt_3 rfl (by decide) rfl rfl ?_
  exact wX12_keyAt_4 C hr cpFu (0 : Int32) (1 : Int32) S h
/-! X12_next -/
def fX12_next_254 : Nat → Int32 → cpS → Option (Unit × cpS)
  | 0, _, _ => none
  | n + 1, x1, S =>
    cpB (fJ0_length_8abf5 0 S) fun z1 S2 =>
    if z1 ≤ x1 then (
    some ((), S2)) else (
    cpB (fX12_see (S2.1 150 6) S2) fun z3 S4 =>
    cpB (fJ0_charAt_5068e 0 x1 S4) fun z5 S6 =>
    if z3 = z5 then (
    cpLt (cpI S6 150 9 ((30 : Int32) + x1)) fun S7 =>
    fX12_next_254 n (x1 + 1) S7) else (
    fX12_next_254 n (x1 + 1) S6))
set_option maxRecDepth 100000 in
set_option maxHeartbeats 4000000 in
theorem wX12_next_254 (C : cpCx p s m args meth c w A cX12_next RX12 2) (hr : meth.sig.returnType = none) {r : Unit × cpS} : ∀ (n : Nat) (x1 : Int32) (S : cpS), fX12_next_254 n x1 S = some r → cpJ p l e (cpRm 5) s m args below meth c (MQ below (va_Qv (fun S' => ((), S') = r) (cpWorld w A) A) args s 0 0 A) w A 2 254 [some (.ref (w.2.1 150)), some (.int x1)] [] S := by
  intro n
  induction n with
  | zero => intro x1 S h; rw [fX12_next_254] at h; cases h
  | succ n ih =>
    intro x1 S h
    rw [fX12_next_254] at h
    refine cj_iload_n C (i := 1) dX12_next_254 rfl rfl ?_
    refine cj_ldcS C (i := 0) (List.mem_of_getElem? (i := 25) rfl) dX12_next_255 ?_
    refine cj_callTi C (As := []) (rest := [.int x1]) qJ0_length_8abf5 mw_24_11 (by decide) rfl rfl rfl (Nat.le_of_ble_eq_true rfl) (by decide) dX12_next_257 h (fun _ _ hf => m_J0_length_8abf5 l w A (by decide) S _ hf) (fun z1 S2 h => ?_)
    refine cj_icmp_ge C (tgt := 294) dX12_next_260 rfl h (fun _ h => ?_) (fun _ h => ?_)
    · exact cj_vreturn C hr h dX12_next_294
    · refine cj_aload_n C (i := 0) dX12_next_263 rfl rfl ?_
      refine cj_aload_n C (i := 0) dX12_next_264 rfl rfl ?_
      refine cj_getI C (j := 6) o_150 rfl gfX12_110 dX12_next_265 ?_
      refine cj_callVi C (As := [.int (S2.1 150 6)]) (rest := []) qX12_see mw_24_0 o_150 rfl rfl rfl (Nat.le_of_ble_eq_true rfl) (by decide) dX12_next_268 h (fun _ _ hf => m_X12_see l w A (S2.1 150 6) S2 _ hf) (fun z3 S4 h => ?_)
      refine cj_ldcS C (i := 0) (List.mem_of_getElem? (i := 25) rfl) dX12_next_271 ?_
      refine cj_iload_n C (i := 1) dX12_next_273 rfl rfl ?_
      refine cj_callTi C (As := [.int x1]) (rest := [.int z3]) qJ0_charAt_5068e mw_24_12 (by decide) rfl rfl rfl (Nat.le_of_ble_eq_true rfl) (by decide) dX12_next_274 h (fun _ _ hf => m_J0_charAt_5068e l w A (by decide) x1 S4 _ hf) (fun z5 S6 h => ?_)
      refine cj_icmp_ne C (tgt := 288) dX12_next_277 rfl h (fun _ h => ?_) (fun _ h => ?_)
      · refine cj_aload_n C (i := 0) dX12_next_280 rfl rfl ?_
        refine cj_bipush C (v := (30 : Int32)) dX12_next_281 rfl ?_
        refine cj_iload_n C (i := 1) dX12_next_283 rfl rfl ?_
        refine cj_iadd C dX12_next_284 ?_
        refine cj_put C (j := 9) o_150 rfl pfX12_120 rfl rfl dX12_next_285 ?_
        refine cj_lets h (fun S7 h => ?_)
        refine cj_iinc C (v := (x1 + 1)) (lv' := [some (.ref (w.2.1 150)), some (.int (x1 + 1))]) dX12_next_288 rfl rfl (by decide) rfl rfl ?_
        refine cj_goto C (tgt := 254) dX12_next_291 rfl ?_
        exact ih (x1 + 1) S7 h
      · refine cj_iinc C (v := (x1 + 1)) (lv' := [some (.ref (w.2.1 150)), some (.int (x1 + 1))]) dX12_next_288 rfl rfl (by decide) rfl rfl ?_
        refine cj_goto C (tgt := 254) dX12_next_291 rfl ?_
        exact ih (x1 + 1) S6 h
def fX12_next_146 : Nat → cpS → Option (Unit × cpS)
  | 0, _ => none
  | n + 1, S =>
    cpB (fX12_see (S.1 150 7) S) fun z1 S2 =>
    cpB (fX12_isDigit z1 S2) fun z3 S4 =>
    if z3 = 0 then (
    if ((S4.1 150 7) - (S4.1 150 6)) ≤ (3 : Int32) then (
    cpLt (cpI S4 150 9 (25 : Int32)) fun S5 =>
    some ((), S5)) else (
    cpLt (cpI S4 150 9 (27 : Int32)) fun S6 =>
    some ((), S6))) else (
    if (3 : Int32) ≤ ((S4.1 150 7) - (S4.1 150 6)) then (
    cpLt (cpI S4 150 7 ((S4.1 150 7) + (1 : Int32))) fun S7 =>
    fX12_next_146 n S7) else (
    cpB (fX12_see (S4.1 150 7) S4) fun z8 S9 =>
    cpLt (cpI S9 150 10 ((((10 : Int32) * (S4.1 150 10)) + z8) - (48 : Int32))) fun S10 =>
    cpLt (cpI S10 150 7 ((S10.1 150 7) + (1 : Int32))) fun S11 =>
    fX12_next_146 n S11))
set_option maxRecDepth 100000 in
set_option maxHeartbeats 4000000 in
theorem wX12_next_146 (C : cpCx p s m args meth c w A cX12_next RX12 2) (hr : meth.sig.returnType = none) {r : Unit × cpS} : ∀ (n : Nat)  (S : cpS), fX12_next_146 n S = some r → cpJ p l e (cpRm 5) s m args below meth c (MQ below (va_Qv (fun S' => ((), S') = r) (cpWorld w A) A) args s 0 0 A) w A 2 146 [some (.ref (w.2.1 150)), none] [] S := by
  intro n
  induction n with
  | zero => intro  S h; rw [fX12_next_146] at h; cases h
  | succ n ih =>
    intro  S h
    rw [fX12_next_146] at h
    refine cj_aload_n C (i := 0) dX12_next_146 rfl rfl ?_
    refine cj_aload_n C (i := 0) dX12_next_147 rfl rfl ?_
    refine cj_getI C (j := 7) o_150 rfl gfX12_113 dX12_next_148 ?_
    refine cj_callVi C (As := [.int (S.1 150 7)]) (rest := []) qX12_see mw_24_0 o_150 rfl rfl rfl (Nat.le_of_ble_eq_true rfl) (by decide) dX12_next_151 h (fun _ _ hf => m_X12_see l w A (S.1 150 7) S _ hf) (fun z1 S2 h => ?_)
    refine cj_callSi C (As := [.int z1]) (rest := []) qX12_isDigit mw_24_13 rfl rfl (Nat.le_of_ble_eq_true rfl) (by decide) dX12_next_154 h (fun _ _ hf => m_X12_isDigit l w A z1 S2 _ hf) (fun z3 S4 h => ?_)
    refine cj_if_eq C (tgt := 209) dX12_next_157 rfl h (fun _ h => ?_) (fun _ h => ?_)
    · refine cj_aload_n C (i := 0) dX12_next_209 rfl rfl ?_
      refine cj_aload_n C (i := 0) dX12_next_210 rfl rfl ?_
      refine cj_getI C (j := 7) o_150 rfl gfX12_113 dX12_next_211 ?_
      refine cj_aload_n C (i := 0) dX12_next_214 rfl rfl ?_
      refine cj_getI C (j := 6) o_150 rfl gfX12_110 dX12_next_215 ?_
      refine cj_isub C dX12_next_218 ?_
      refine cj_iconst C (v := (3 : Int32)) dX12_next_219 rfl ?_
      refine cj_icmp_le C (tgt := 228) dX12_next_220 rfl h (fun _ h => ?_) (fun _ h => ?_)
      · refine cj_bipush C (v := (25 : Int32)) dX12_next_228 rfl ?_
        refine cj_put C (j := 9) o_150 rfl pfX12_120 rfl rfl dX12_next_230 ?_
        refine cj_lets h (fun S5 h => ?_)
        refine cj_goto C (tgt := 294) dX12_next_233 rfl ?_
        exact cj_vreturn C hr h dX12_next_294
      · refine cj_bipush C (v := (27 : Int32)) dX12_next_223 rfl ?_
        refine cj_goto C (tgt := 230) dX12_next_225 rfl ?_
        refine cj_put C (j := 9) o_150 rfl pfX12_120 rfl rfl dX12_next_230 ?_
        refine cj_lets h (fun S6 h => ?_)
        refine cj_goto C (tgt := 294) dX12_next_233 rfl ?_
        exact cj_vreturn C hr h dX12_next_294
    · refine cj_aload_n C (i := 0) dX12_next_160 rfl rfl ?_
      refine cj_getI C (j := 7) o_150 rfl gfX12_113 dX12_next_161 ?_
      refine cj_aload_n C (i := 0) dX12_next_164 rfl rfl ?_
      refine cj_getI C (j := 6) o_150 rfl gfX12_110 dX12_next_165 ?_
      refine cj_isub C dX12_next_168 ?_
      refine cj_iconst C (v := (3 : Int32)) dX12_next_169 rfl ?_
      refine cj_icmp_ge C (tgt := 196) dX12_next_170 rfl h (fun _ h => ?_) (fun _ h => ?_)
      · refine cj_aload_n C (i := 0) dX12_next_196 rfl rfl ?_
        refine cj_dup C dX12_next_197 rfl ?_
        refine cj_getI C (j := 7) o_150 rfl gfX12_113 dX12_next_198 ?_
        refine cj_iconst C (v := (1 : Int32)) dX12_next_201 rfl ?_
        refine cj_iadd C dX12_next_202 ?_
        refine cj_put C (j := 7) o_150 rfl pfX12_113 rfl rfl dX12_next_203 ?_
        refine cj_lets h (fun S7 h => ?_)
        refine cj_goto C (tgt := 146) dX12_next_206 rfl ?_
        exact ih S7 h
      · refine cj_aload_n C (i := 0) dX12_next_173 rfl rfl ?_
        refine cj_bipush C (v := (10 : Int32)) dX12_next_174 rfl ?_
        refine cj_aload_n C (i := 0) dX12_next_176 rfl rfl ?_
        refine cj_getI C (j := 10) o_150 rfl gfX12_133 dX12_next_177 ?_
        refine cj_imul C dX12_next_180 ?_
        refine cj_aload_n C (i := 0) dX12_next_181 rfl rfl ?_
        refine cj_aload_n C (i := 0) dX12_next_182 rfl rfl ?_
        refine cj_getI C (j := 7) o_150 rfl gfX12_113 dX12_next_183 ?_
        refine cj_callVi C (As := [.int (S4.1 150 7)]) (rest := [.int ((10 : Int32) * (S4.1 150 10)), .ref (w.2.1 150)]) qX12_see mw_24_0 o_150 rfl rfl rfl (Nat.le_of_ble_eq_true rfl) (by decide) dX12_next_186 h (fun _ _ hf => m_X12_see l w A (S4.1 150 7) S4 _ hf) (fun z8 S9 h => ?_)
        refine cj_iadd C dX12_next_189 ?_
        refine cj_bipush C (v := (48 : Int32)) dX12_next_190 rfl ?_
        refine cj_isub C dX12_next_192 ?_
        refine cj_put C (j := 10) o_150 rfl pfX12_133 rfl rfl dX12_next_193 ?_
        refine cj_lets h (fun S10 h => ?_)
        refine cj_aload_n C (i := 0) dX12_next_196 rfl rfl ?_
        refine cj_dup C dX12_next_197 rfl ?_
        refine cj_getI C (j := 7) o_150 rfl gfX12_113 dX12_next_198 ?_
        refine cj_iconst C (v := (1 : Int32)) dX12_next_201 rfl ?_
        refine cj_iadd C dX12_next_202 ?_
        refine cj_put C (j := 7) o_150 rfl pfX12_113 rfl rfl dX12_next_203 ?_
        refine cj_lets h (fun S11 h => ?_)
        refine cj_goto C (tgt := 146) dX12_next_206 rfl ?_
        exact ih S11 h
def fX12_next_89 : Nat → cpS → Option (Unit × cpS)
  | 0, _ => none
  | n + 1, S =>
    cpB (fX12_see (S.1 150 7) S) fun z1 S2 =>
    cpB (fX12_isSmall z1 S2) fun z3 S4 =>
    if z3 = 0 then (
    cpB (fX12_keyAt S4) fun z5 S6 =>
    cpLt (cpI S6 150 9 z5) fun S7 =>
    some ((), S7)) else (
    cpLt (cpI S4 150 7 ((S4.1 150 7) + (1 : Int32))) fun S8 =>
    fX12_next_89 n S8)
set_option maxRecDepth 100000 in
set_option maxHeartbeats 4000000 in
theorem wX12_next_89 (C : cpCx p s m args meth c w A cX12_next RX12 2) (hr : meth.sig.returnType = none) {r : Unit × cpS} : ∀ (n : Nat)  (S : cpS), fX12_next_89 n S = some r → cpJ p l e (cpRm 5) s m args below meth c (MQ below (va_Qv (fun S' => ((), S') = r) (cpWorld w A) A) args s 0 0 A) w A 2 89 [some (.ref (w.2.1 150)), none] [] S := by
  intro n
  induction n with
  | zero => intro  S h; rw [fX12_next_89] at h; cases h
  | succ n ih =>
    intro  S h
    rw [fX12_next_89] at h
    refine cj_aload_n C (i := 0) dX12_next_89 rfl rfl ?_
    refine cj_aload_n C (i := 0) dX12_next_90 rfl rfl ?_
    refine cj_getI C (j := 7) o_150 rfl gfX12_113 dX12_next_91 ?_
    refine cj_callVi C (As := [.int (S.1 150 7)]) (rest := []) qX12_see mw_24_0 o_150 rfl rfl rfl (Nat.le_of_ble_eq_true rfl) (by decide) dX12_next_94 h (fun _ _ hf => m_X12_see l w A (S.1 150 7) S _ hf) (fun z1 S2 h => ?_)
    refine cj_callSi C (As := [.int z1]) (rest := []) qX12_isSmall mw_24_4 rfl rfl (Nat.le_of_ble_eq_true rfl) (by decide) dX12_next_97 h (fun _ _ hf => m_X12_isSmall l w A z1 S2 _ hf) (fun z3 S4 h => ?_)
    refine cj_if_eq C (tgt := 116) dX12_next_100 rfl h (fun _ h => ?_) (fun _ h => ?_)
    · refine cj_aload_n C (i := 0) dX12_next_116 rfl rfl ?_
      refine cj_aload_n C (i := 0) dX12_next_117 rfl rfl ?_
      refine cj_callVi C (As := []) (rest := [.ref (w.2.1 150)]) qX12_keyAt mw_24_7 o_150 rfl rfl rfl (Nat.le_of_ble_eq_true rfl) (by decide) dX12_next_118 h (fun _ _ hf => m_X12_keyAt l w A S4 _ hf) (fun z5 S6 h => ?_)
      refine cj_put C (j := 9) o_150 rfl pfX12_120 rfl rfl dX12_next_121 ?_
      refine cj_lets h (fun S7 h => ?_)
      refine cj_goto C (tgt := 294) dX12_next_124 rfl ?_
      exact cj_vreturn C hr h dX12_next_294
    · refine cj_aload_n C (i := 0) dX12_next_103 rfl rfl ?_
      refine cj_dup C dX12_next_104 rfl ?_
      refine cj_getI C (j := 7) o_150 rfl gfX12_113 dX12_next_105 ?_
      refine cj_iconst C (v := (1 : Int32)) dX12_next_108 rfl ?_
      refine cj_iadd C dX12_next_109 ?_
      refine cj_put C (j := 7) o_150 rfl pfX12_113 rfl rfl dX12_next_110 ?_
      refine cj_lets h (fun S8 h => ?_)
      refine cj_goto C (tgt := 89) dX12_next_113 rfl ?_
      exact ih S8 h
def fX12_next_8 : Nat → cpS → Option (Unit × cpS)
  | 0, _ => none
  | n + 1, S =>
    cpB (fX12_see (S.1 150 6) S) fun z1 S2 =>
    if z1 = (10 : Int32) then (
    cpLt (cpI S2 150 6 ((S2.1 150 6) + (1 : Int32))) fun S3 =>
    fX12_next_8 n S3) else (
    cpB (fX12_see (S2.1 150 6) S2) fun z4 S5 =>
    if z4 = (32 : Int32) then (
    cpLt (cpI S5 150 6 ((S5.1 150 6) + (1 : Int32))) fun S6 =>
    fX12_next_8 n S6) else (
    cpLt (cpI S5 150 7 (S5.1 150 6)) fun S7 =>
    if (S7.1 150 6) < (S7.1 150 8) then (
    cpB (fX12_see (S7.1 150 6) S7) fun z8 S9 =>
    cpB (fX12_isSmall z8 S9) fun z10 S11 =>
    if z10 = 0 then (
    cpB (fX12_see (S11.1 150 6) S11) fun z12 S13 =>
    cpB (fX12_isDigit z12 S13) fun z14 S15 =>
    if z14 = 0 then (
    cpLt (cpI S15 150 7 ((S15.1 150 7) + (1 : Int32))) fun S16 =>
    cpLt (cpI S16 150 9 (27 : Int32)) fun S17 =>
    fX12_next_254 cpFu (0 : Int32) S17) else (
    cpLt (cpI S15 150 10 (0 : Int32)) fun S18 =>
    fX12_next_146 cpFu S18)) else (
    fX12_next_89 cpFu S11)) else (
    cpLt (cpI S7 150 9 (26 : Int32)) fun S19 =>
    some ((), S19))))
set_option maxRecDepth 100000 in
set_option maxHeartbeats 4000000 in
theorem wX12_next_8 (C : cpCx p s m args meth c w A cX12_next RX12 2) (hr : meth.sig.returnType = none) {r : Unit × cpS} : ∀ (n : Nat)  (S : cpS), fX12_next_8 n S = some r → cpJ p l e (cpRm 5) s m args below meth c (MQ below (va_Qv (fun S' => ((), S') = r) (cpWorld w A) A) args s 0 0 A) w A 2 8 [some (.ref (w.2.1 150)), none] [] S := by
  intro n
  induction n with
  | zero => intro  S h; rw [fX12_next_8] at h; cases h
  | succ n ih =>
    intro  S h
    rw [fX12_next_8] at h
    refine cj_aload_n C (i := 0) dX12_next_8 rfl rfl ?_
    refine cj_aload_n C (i := 0) dX12_next_9 rfl rfl ?_
    refine cj_getI C (j := 6) o_150 rfl gfX12_110 dX12_next_10 ?_
    refine cj_callVi C (As := [.int (S.1 150 6)]) (rest := []) qX12_see mw_24_0 o_150 rfl rfl rfl (Nat.le_of_ble_eq_true rfl) (by decide) dX12_next_13 h (fun _ _ hf => m_X12_see l w A (S.1 150 6) S _ hf) (fun z1 S2 h => ?_)
    refine cj_bipush C (v := (10 : Int32)) dX12_next_16 rfl ?_
    refine cj_icmp_eq C (tgt := 34) dX12_next_18 rfl h (fun _ h => ?_) (fun _ h => ?_)
    · refine cj_aload_n C (i := 0) dX12_next_34 rfl rfl ?_
      refine cj_dup C dX12_next_35 rfl ?_
      refine cj_getI C (j := 6) o_150 rfl gfX12_110 dX12_next_36 ?_
      refine cj_iconst C (v := (1 : Int32)) dX12_next_39 rfl ?_
      refine cj_iadd C dX12_next_40 ?_
      refine cj_put C (j := 6) o_150 rfl pfX12_110 rfl rfl dX12_next_41 ?_
      refine cj_lets h (fun S3 h => ?_)
      refine cj_goto C (tgt := 8) dX12_next_44 rfl ?_
      exact ih S3 h
    · refine cj_aload_n C (i := 0) dX12_next_21 rfl rfl ?_
      refine cj_aload_n C (i := 0) dX12_next_22 rfl rfl ?_
      refine cj_getI C (j := 6) o_150 rfl gfX12_110 dX12_next_23 ?_
      refine cj_callVi C (As := [.int (S2.1 150 6)]) (rest := []) qX12_see mw_24_0 o_150 rfl rfl rfl (Nat.le_of_ble_eq_true rfl) (by decide) dX12_next_26 h (fun _ _ hf => m_X12_see l w A (S2.1 150 6) S2 _ hf) (fun z4 S5 h => ?_)
      refine cj_bipush C (v := (32 : Int32)) dX12_next_29 rfl ?_
      refine cj_icmp_ne C (tgt := 47) dX12_next_31 rfl h (fun _ h => ?_) (fun _ h => ?_)
      · refine cj_aload_n C (i := 0) dX12_next_34 rfl rfl ?_
        refine cj_dup C dX12_next_35 rfl ?_
        refine cj_getI C (j := 6) o_150 rfl gfX12_110 dX12_next_36 ?_
        refine cj_iconst C (v := (1 : Int32)) dX12_next_39 rfl ?_
        refine cj_iadd C dX12_next_40 ?_
        refine cj_put C (j := 6) o_150 rfl pfX12_110 rfl rfl dX12_next_41 ?_
        refine cj_lets h (fun S6 h => ?_)
        refine cj_goto C (tgt := 8) dX12_next_44 rfl ?_
        exact ih S6 h
      · refine cj_aload_n C (i := 0) dX12_next_47 rfl rfl ?_
        refine cj_aload_n C (i := 0) dX12_next_48 rfl rfl ?_
        refine cj_getI C (j := 6) o_150 rfl gfX12_110 dX12_next_49 ?_
        refine cj_put C (j := 7) o_150 rfl pfX12_113 rfl rfl dX12_next_52 ?_
        refine cj_lets h (fun S7 h => ?_)
        refine cj_aload_n C (i := 0) dX12_next_55 rfl rfl ?_
        refine cj_getI C (j := 6) o_150 rfl gfX12_110 dX12_next_56 ?_
        refine cj_aload_n C (i := 0) dX12_next_59 rfl rfl ?_
        refine cj_getI C (j := 8) o_150 rfl gfX12_95 dX12_next_60 ?_
        refine cj_icmp_lt C (tgt := 75) dX12_next_63 rfl h (fun _ h => ?_) (fun _ h => ?_)
        · refine cj_aload_n C (i := 0) dX12_next_75 rfl rfl ?_
          refine cj_aload_n C (i := 0) dX12_next_76 rfl rfl ?_
          refine cj_getI C (j := 6) o_150 rfl gfX12_110 dX12_next_77 ?_
          refine cj_callVi C (As := [.int (S7.1 150 6)]) (rest := []) qX12_see mw_24_0 o_150 rfl rfl rfl (Nat.le_of_ble_eq_true rfl) (by decide) dX12_next_80 h (fun _ _ hf => m_X12_see l w A (S7.1 150 6) S7 _ hf) (fun z8 S9 h => ?_)
          refine cj_callSi C (As := [.int z8]) (rest := []) qX12_isSmall mw_24_4 rfl rfl (Nat.le_of_ble_eq_true rfl) (by decide) dX12_next_83 h (fun _ _ hf => m_X12_isSmall l w A z8 S9 _ hf) (fun z10 S11 h => ?_)
          refine cj_if_eq C (tgt := 127) dX12_next_86 rfl h (fun _ h => ?_) (fun _ h => ?_)
          · refine cj_aload_n C (i := 0) dX12_next_127 rfl rfl ?_
            refine cj_aload_n C (i := 0) dX12_next_128 rfl rfl ?_
            refine cj_getI C (j := 6) o_150 rfl gfX12_110 dX12_next_129 ?_
            refine cj_callVi C (As := [.int (S11.1 150 6)]) (rest := []) qX12_see mw_24_0 o_150 rfl rfl rfl (Nat.le_of_ble_eq_true rfl) (by decide) dX12_next_132 h (fun _ _ hf => m_X12_see l w A (S11.1 150 6) S11 _ hf) (fun z12 S13 h => ?_)
            refine cj_callSi C (As := [.int z12]) (rest := []) qX12_isDigit mw_24_13 rfl rfl (Nat.le_of_ble_eq_true rfl) (by decide) dX12_next_135 h (fun _ _ hf => m_X12_isDigit l w A z12 S13 _ hf) (fun z14 S15 h => ?_)
            refine cj_if_eq C (tgt := 236) dX12_next_138 rfl h (fun _ h => ?_) (fun _ h => ?_)
            · refine cj_aload_n C (i := 0) dX12_next_236 rfl rfl ?_
              refine cj_dup C dX12_next_237 rfl ?_
              refine cj_getI C (j := 7) o_150 rfl gfX12_113 dX12_next_238 ?_
              refine cj_iconst C (v := (1 : Int32)) dX12_next_241 rfl ?_
              refine cj_iadd C dX12_next_242 ?_
              refine cj_put C (j := 7) o_150 rfl pfX12_113 rfl rfl dX12_next_243 ?_
              refine cj_lets h (fun S16 h => ?_)
              refine cj_aload_n C (i := 0) dX12_next_246 rfl rfl ?_
              refine cj_bipush C (v := (27 : Int32)) dX12_next_247 rfl ?_
              refine cj_put C (j := 9) o_150 rfl pfX12_120 rfl rfl dX12_next_249 ?_
              refine cj_lets h (fun S17 h => ?_)
              refine cj_iconst C (v := (0 : Int32)) dX12_next_252 rfl ?_
              refine cj_istore_n C (i := 1) (lv' := [some (.ref (w.2.1 150)), some (.int (0 : Int32))]) dX12_next_253 rfl (by decide) rfl rfl ?_
              exact wX12_next_254 C hr cpFu (0 : Int32) S17 h
            · refine cj_aload_n C (i := 0) dX12_next_141 rfl rfl ?_
              refine cj_iconst C (v := (0 : Int32)) dX12_next_142 rfl ?_
              refine cj_put C (j := 10) o_150 rfl pfX12_133 rfl rfl dX12_next_143 ?_
              refine cj_lets h (fun S18 h => ?_)
              exact wX12_next_146 C hr cpFu S18 h
          · exact wX12_next_89 C hr cpFu S11 h
        · refine cj_aload_n C (i := 0) dX12_next_66 rfl rfl ?_
          refine cj_bipush C (v := (26 : Int32)) dX12_next_67 rfl ?_
          refine cj_put C (j := 9) o_150 rfl pfX12_120 rfl rfl dX12_next_69 ?_
          refine cj_lets h (fun S19 h => ?_)
          refine cj_goto C (tgt := 294) dX12_next_72 rfl ?_
          exact cj_vreturn C hr h dX12_next_294
def fX12_next (S : cpS) : Option (Unit × cpS) :=
    cpLt (cpI S 150 6 (S.1 150 7)) fun S1 =>
    fX12_next_8 cpFu S1
set_option maxRecDepth 100000 in
set_option maxHeartbeats 4000000 in
theorem m_X12_next (l : Launch) (w : cpW) (A : Nat → Prop) (S : cpS) (r : Unit × cpS) (h : fX12_next S = some r) : cpMv l yX12_next cX12_next 2 (none) 5 w A [.ref (w.2.1 150)] S r := by
  refine cpMv.of (lv := [some (.ref (w.2.1 150)), none]) (by decide) (Nat.le_of_ble_eq_true rfl) rfl (fun p e s m args below meth c C hr => ?_)
  replace C : cpCx p s m args meth c w A cX12_next RX12 2 := C
  rw [fX12_next] at h
  refine cj_aload_n C (i := 0) dX12_next_0 rfl rfl ?_
  refine cj_aload_n C (i := 0) dX12_next_1 rfl rfl ?_
  refine cj_getI C (j := 7) o_150 rfl gfX12_113 dX12_next_2 ?_
  refine cj_put C (j := 6) o_150 rfl pfX12_110 rfl rfl dX12_next_5 ?_
  refine cj_lets h (fun S1 h => ?_)
  exact wX12_next_8 C hr cpFu S1 h
end CPV
