section CPV
variable {p : Program} {l : Launch} {e : Env} {s : State} {m : MethodId} {args : Array Value} {below : List Frame} {meth : Method} {c : Code} {w : cpW} {A : Nat → Prop}
/-! X8_firstFitting -/
def fX8_firstFitting_13 (x1 : Int32) (x2 : Int32) (x3 : Int32) (x4 : Int32) (k3 : Int32 → cpS → Option (Int32 × cpS)) : Nat → Int32 → cpS → Option (Int32 × cpS)
  | 0, _, _ => none
  | n + 1, x5, S =>
    cpB (fX4_places S) fun z1 S2 =>
    if z1 ≤ x5 then (
    k3 (x4 + 1) S2) else (
    cpB (fX4_wearOf x3 x5 x4 S2) fun z3 S4 =>
    cpB (fX8_fits x1 z3 S4) fun z5 S6 =>
    if z5 = 0 then (
    fX8_firstFitting_13 x1 x2 x3 x4 k3 n (x5 + 1) S6) else (
    cpB (fX8_rowsFrom (x1 + (1 : Int32)) x5 S6) fun z7 S8 =>
    if (lg_cmp z7 (0 : Int64)) ≤ 0 then (
    fX8_firstFitting_13 x1 x2 x3 x4 k3 n (x5 + 1) S8) else (
    if cpIn x4 28 then (
    if cpIn x4 28 then (
    cpB (fX11_deedOf (cpLs x4.toNatClampNeg) (cpOs x4.toNatClampNeg) x2 x5 S8) fun z9 S10 =>
    some (z9, S10)) else none) else none)))
set_option maxRecDepth 100000 in
set_option maxHeartbeats 4000000 in
theorem wX8_firstFitting_13 (C : cpCx p s m args meth c w A cX8_firstFitting RX8 6) (hr : meth.sig.returnType = (some .int)) {r : Int32 × cpS} (x1 : Int32) (x2 : Int32) (x3 : Int32) (x4 : Int32) {k3 : Int32 → cpS → Option (Int32 × cpS)} (hk3 : ∀ (x4 : Int32) (S : cpS), k3 x4 S = some r → cpJ p l e (cpRm 1) s m args below meth c (MQ below (va_Qi (fun x S' => (x, S') = r) (cpWorld w A) A) args s 0 0 A) w A 6 3 [some (.ref (w.2.1 130)), some (.int x1), some (.int x2), some (.int x3), some (.int x4), none] [] S) : ∀ (n : Nat) (x5 : Int32) (S : cpS), fX8_firstFitting_13 x1 x2 x3 x4 k3 n x5 S = some r → cpJ p l e (cpRm 1) s m args below meth c (MQ below (va_Qi (fun x S' => (x, S') = r) (cpWorld w A) A) args s 0 0 A) w A 6 13 [some (.ref (w.2.1 130)), some (.int x1), some (.int x2), some (.int x3), some (.int x4), some (.int x5)] [] S := by
  intro n
  induction n with
  | zero => intro x5 S h; rw [fX8_firstFitting_13] at h; cases h
  | succ n ih =>
    intro x5 S h
    rw [fX8_firstFitting_13] at h
    refine cj_iload C dX8_firstFitting_13 rfl ?_
    refine cj_aload_n C (i := 0) dX8_firstFitting_15 rfl rfl ?_
    refine cj_getR C (d := 119) o_130 rfl gfX8_22 dX8_firstFitting_16 ?_
    refine cj_callVi C (As := []) (rest := [.int x5]) qX4_places mw_64_17 o_119 rfl rfl rfl (Nat.le_of_ble_eq_true rfl) (by decide) dX8_firstFitting_19 h (fun _ _ hf => m_X4_places l w A S _ hf) (fun z1 S2 h => ?_)
    refine cj_icmp_ge C (tgt := 84) dX8_firstFitting_22 rfl h (fun _ h => ?_) (fun _ h => ?_)
    · refine cj_iinc C (v := (x4 + 1)) (lv' := [some (.ref (w.2.1 130)), some (.int x1), some (.int x2), some (.int x3), some (.int (x4 + 1)), some (.int x5)]) dX8_firstFitting_84 rfl rfl (by decide) rfl rfl ?_
      refine cj_goto C (tgt := 3) dX8_firstFitting_87 rfl ?_
      refine cj_weak C (lv' := [some (.ref (w.2.1 130)), some (.int x1), some (.int x2), some (.int x3), some (.int (x4 + 1)), none]) (cpSub_s (cpSub_s (cpSub_s (cpSub_s (cpSub_s (cpSub_n cpSub_nil)))))) ?_
      exact hk3 (x4 + 1) S2 h
    · refine cj_aload_n C (i := 0) dX8_firstFitting_25 rfl rfl ?_
      refine cj_iload_n C (i := 1) dX8_firstFitting_26 rfl rfl ?_
      refine cj_aload_n C (i := 0) dX8_firstFitting_27 rfl rfl ?_
      refine cj_getR C (d := 119) o_130 rfl gfX8_22 dX8_firstFitting_28 ?_
      refine cj_iload_n C (i := 3) dX8_firstFitting_31 rfl rfl ?_
      refine cj_iload C dX8_firstFitting_32 rfl ?_
      refine cj_iload C dX8_firstFitting_34 rfl ?_
      refine cj_callVi C (As := [.int x3, .int x5, .int x4]) (rest := [.int x1, .ref (w.2.1 130)]) qX4_wearOf mw_64_22 o_119 rfl rfl rfl (Nat.le_of_ble_eq_true rfl) (by decide) dX8_firstFitting_36 h (fun _ _ hf => m_X4_wearOf l w A x3 x5 x4 S2 _ hf) (fun z3 S4 h => ?_)
      refine cj_callVi C (As := [.int x1, .int z3]) (rest := []) qX8_fits mw_64_23 o_130 rfl rfl rfl (Nat.le_of_ble_eq_true rfl) (by decide) dX8_firstFitting_39 h (fun _ _ hf => m_X8_fits l w A x1 z3 S4 _ hf) (fun z5 S6 h => ?_)
      refine cj_if_eq C (tgt := 78) dX8_firstFitting_42 rfl h (fun _ h => ?_) (fun _ h => ?_)
      · refine cj_iinc C (v := (x5 + 1)) (lv' := [some (.ref (w.2.1 130)), some (.int x1), some (.int x2), some (.int x3), some (.int x4), some (.int (x5 + 1))]) dX8_firstFitting_78 rfl rfl (by decide) rfl rfl ?_
        refine cj_goto C (tgt := 13) dX8_firstFitting_81 rfl ?_
        exact ih (x5 + 1) S6 h
      · refine cj_aload_n C (i := 0) dX8_firstFitting_45 rfl rfl ?_
        refine cj_iload_n C (i := 1) dX8_firstFitting_46 rfl rfl ?_
        refine cj_iconst C (v := (1 : Int32)) dX8_firstFitting_47 rfl ?_
        refine cj_iadd C dX8_firstFitting_48 ?_
        refine cj_iload C dX8_firstFitting_49 rfl ?_
        refine cj_callVl C (As := [.int (x1 + (1 : Int32)), .int x5]) (rest := []) qX8_rowsFrom mw_65_4 o_130 rfl rfl rfl (Nat.le_of_ble_eq_true rfl) (by decide) dX8_firstFitting_51 h (fun _ _ hf => m_X8_rowsFrom l w A (x1 + (1 : Int32)) x5 S6 _ hf) (fun z7 S8 h => ?_)
        refine cj_lconst C (v := (0 : Int64)) dX8_firstFitting_54 rfl ?_
        refine cj_lcmp C dX8_firstFitting_55 ?_
        refine cj_if_le C (tgt := 78) dX8_firstFitting_56 rfl h (fun _ h => ?_) (fun _ h => ?_)
        · refine cj_iinc C (v := (x5 + 1)) (lv' := [some (.ref (w.2.1 130)), some (.int x1), some (.int x2), some (.int x3), some (.int x4), some (.int (x5 + 1))]) dX8_firstFitting_78 rfl rfl (by decide) rfl rfl ?_
          refine cj_goto C (tgt := 13) dX8_firstFitting_81 rfl ?_
          exact ih (x5 + 1) S8 h
        · refine cj_getsN0 C (List.mem_of_getElem? (i := 1) rfl) dX8_firstFitting_59 ?_
          refine cj_iload C dX8_firstFitting_62 rfl ?_
          refine cj_tab0 C h dX8_firstFitting_64 (fun h => ?_)
          refine cj_getsN1 C (List.mem_of_getElem? (i := 0) rfl) dX8_firstFitting_65 ?_
          refine cj_iload C dX8_firstFitting_68 rfl ?_
          refine cj_tab1 C h dX8_firstFitting_70 (fun h => ?_)
          refine cj_iload_n C (i := 2) dX8_firstFitting_71 rfl rfl ?_
          refine cj_iload C dX8_firstFitting_72 rfl ?_
          refine cj_callNi C (As := [.int (cpLs x4.toNatClampNeg), .int (cpOs x4.toNatClampNeg), .int x2, .int x5]) (rest := []) qX11_deedOf (List.mem_of_getElem? (i := 1) rfl) rfl rfl (Nat.le_of_ble_eq_true rfl) (by decide) dX8_firstFitting_74 h (fun _ _ hf => m_X11_deedOf l w A (cpLs x4.toNatClampNeg) (cpOs x4.toNatClampNeg) x2 x5 S8 _ hf) (fun z9 S10 h => ?_)
          exact cj_ireturn C hr h dX8_firstFitting_77
def fX8_firstFitting_3 (x1 : Int32) (x2 : Int32) (x3 : Int32) : Nat → Int32 → cpS → Option (Int32 × cpS)
  | 0, _, _ => none
  | n + 1, x4, S =>
    if (28 : Int32) ≤ x4 then (
    some (((10000 : Int32) + x3), S)) else (
    fX8_firstFitting_13 x1 x2 x3 x4 (fX8_firstFitting_3 x1 x2 x3 n) cpFu (0 : Int32) S)
set_option maxRecDepth 100000 in
set_option maxHeartbeats 4000000 in
theorem wX8_firstFitting_3 (C : cpCx p s m args meth c w A cX8_firstFitting RX8 6) (hr : meth.sig.returnType = (some .int)) {r : Int32 × cpS} (x1 : Int32) (x2 : Int32) (x3 : Int32) : ∀ (n : Nat) (x4 : Int32) (S : cpS), fX8_firstFitting_3 x1 x2 x3 n x4 S = some r → cpJ p l e (cpRm 1) s m args below meth c (MQ below (va_Qi (fun x S' => (x, S') = r) (cpWorld w A) A) args s 0 0 A) w A 6 3 [some (.ref (w.2.1 130)), some (.int x1), some (.int x2), some (.int x3), some (.int x4), none] [] S := by
  intro n
  induction n with
  | zero => intro x4 S h; rw [fX8_firstFitting_3] at h; cases h
  | succ n ih =>
    intro x4 S h
    rw [fX8_firstFitting_3] at h
    refine cj_iload C dX8_firstFitting_3 rfl ?_
    refine cj_bipush C (v := (28 : Int32)) dX8_firstFitting_5 rfl ?_
    refine cj_icmp_ge C (tgt := 90) dX8_firstFitting_7 rfl h (fun _ h => ?_) (fun _ h => ?_)
    · refine cj_sipush C (v := (10000 : Int32)) dX8_firstFitting_90 rfl ?_
      refine cj_iload_n C (i := 3) dX8_firstFitting_93 rfl rfl ?_
      refine cj_iadd C dX8_firstFitting_94 ?_
      exact cj_ireturn C hr h dX8_firstFitting_95
    · refine cj_iconst C (v := (0 : Int32)) dX8_firstFitting_10 rfl ?_
      refine cj_istore C (lv' := [some (.ref (w.2.1 130)), some (.int x1), some (.int x2), some (.int x3), some (.int x4), some (.int (0 : Int32))]) dX8_firstFitting_11 (by decide) rfl rfl ?_
      exact wX8_firstFitting_13 C hr x1 x2 x3 x4 ih cpFu (0 : Int32) S h
def fX8_firstFitting (x1 : Int32) (x2 : Int32) (x3 : Int32) (S : cpS) : Option (Int32 × cpS) :=
    fX8_firstFitting_3 x1 x2 x3 cpFu (0 : Int32) S
set_option maxRecDepth 100000 in
set_option maxHeartbeats 4000000 in
theorem m_X8_firstFitting (l : Launch) (w : cpW) (A : Nat → Prop) (x1 : Int32) (x2 : Int32) (x3 : Int32) (S : cpS) (r : Int32 × cpS) (h : fX8_firstFitting x1 x2 x3 S = some r) : cpMi l yX8_firstFitting cX8_firstFitting 6 ((some .int)) 1 w A [.ref (w.2.1 130), .int x1, .int x2, .int x3] S r := by
  refine cpMi.of (lv := [some (.ref (w.2.1 130)), some (.int x1), some (.int x2), some (.int x3), none, none]) (by decide) (Nat.le_of_ble_eq_true rfl) rfl (fun p e s m args below meth c C hr => ?_)
  replace C : cpCx p s m args meth c w A cX8_firstFitting RX8 6 := C
  rw [fX8_firstFitting] at h
  refine cj_iconst C (v := (0 : Int32)) dX8_firstFitting_0 rfl ?_
  refine cj_istore C (lv' := [some (.ref (w.2.1 130)), some (.int x1), some (.int x2), some (.int x3), some (.int (0 : Int32)), none]) dX8_firstFitting_1 (by decide) rfl rfl ?_
  exact wX8_firstFitting_3 C hr x1 x2 x3 cpFu (0 : Int32) S h
/-! X8_firstRowsDeed -/
def fX8_firstRowsDeed_25 (x1 : Int32) (x3 : Int32) : Nat → Int32 → Int32 → cpS → Option (Int32 × cpS)
  | 0, _, _, _ => none
  | n + 1, x4, x5, S =>
    if x3 < x5 then (
    some (x4, S)) else (
    if (8 : Int32) ≤ x5 then (
    some (x4, S)) else (
    cpB (fX8_firstFitting x5 x1 (cpRem x4 (10 : Int32)) S) fun z1 S2 =>
    fX8_firstRowsDeed_25 x1 x3 n z1 (x5 + 1) S2))
set_option maxRecDepth 100000 in
set_option maxHeartbeats 4000000 in
theorem wX8_firstRowsDeed_25 (C : cpCx p s m args meth c w A cX8_firstRowsDeed RX8 6) (hr : meth.sig.returnType = (some .int)) {r : Int32 × cpS} (x1 : Int32) (x3 : Int32) : ∀ (n : Nat) (x4 : Int32) (x5 : Int32) (S : cpS), fX8_firstRowsDeed_25 x1 x3 n x4 x5 S = some r → cpJ p l e (cpRm 2) s m args below meth c (MQ below (va_Qi (fun x S' => (x, S') = r) (cpWorld w A) A) args s 0 0 A) w A 6 25 [some (.ref (w.2.1 130)), some (.int x1), none, some (.int x3), some (.int x4), some (.int x5)] [] S := by
  intro n
  induction n with
  | zero => intro x4 x5 S h; rw [fX8_firstRowsDeed_25] at h; cases h
  | succ n ih =>
    intro x4 x5 S h
    rw [fX8_firstRowsDeed_25] at h
    refine cj_iload C dX8_firstRowsDeed_25 rfl ?_
    refine cj_iload_n C (i := 3) dX8_firstRowsDeed_27 rfl rfl ?_
    refine cj_icmp_gt C (tgt := 58) dX8_firstRowsDeed_28 rfl h (fun _ h => ?_) (fun _ h => ?_)
    · refine cj_iload C dX8_firstRowsDeed_58 rfl ?_
      exact cj_ireturn C hr h dX8_firstRowsDeed_60
    · refine cj_iload C dX8_firstRowsDeed_31 rfl ?_
      refine cj_bipush C (v := (8 : Int32)) dX8_firstRowsDeed_33 rfl ?_
      refine cj_icmp_ge C (tgt := 58) dX8_firstRowsDeed_35 rfl h (fun _ h => ?_) (fun _ h => ?_)
      · refine cj_iload C dX8_firstRowsDeed_58 rfl ?_
        exact cj_ireturn C hr h dX8_firstRowsDeed_60
      · refine cj_aload_n C (i := 0) dX8_firstRowsDeed_38 rfl rfl ?_
        refine cj_iload C dX8_firstRowsDeed_39 rfl ?_
        refine cj_iload_n C (i := 1) dX8_firstRowsDeed_41 rfl rfl ?_
        refine cj_iload C dX8_firstRowsDeed_42 rfl ?_
        refine cj_bipush C (v := (10 : Int32)) dX8_firstRowsDeed_44 rfl ?_
        refine ck_irem C dX8_firstRowsDeed_46 (by decide) ?_
        refine cj_callVi C (As := [.int x5, .int x1, .int (cpRem x4 (10 : Int32))]) (rest := []) qX8_firstFitting mw_66_19 o_130 rfl rfl rfl (Nat.le_of_ble_eq_true rfl) (by decide) dX8_firstRowsDeed_47 h (fun _ _ hf => m_X8_firstFitting l w A x5 x1 (cpRem x4 (10 : Int32)) S _ hf) (fun z1 S2 h => ?_)
        refine cj_istore C (lv' := [some (.ref (w.2.1 130)), some (.int x1), none, some (.int x3), some (.int z1), some (.int x5)]) dX8_firstRowsDeed_50 (by decide) rfl rfl ?_
        refine cj_iinc C (v := (x5 + 1)) (lv' := [some (.ref (w.2.1 130)), some (.int x1), none, some (.int x3), some (.int z1), some (.int (x5 + 1))]) dX8_firstRowsDeed_52 rfl rfl (by decide) rfl rfl ?_
        refine cj_goto C (tgt := 25) dX8_firstRowsDeed_55 rfl ?_
        exact ih z1 (x5 + 1) S2 h
def fX8_firstRowsDeed (x1 : Int32) (x2 : Int32) (x3 : Int32) (S : cpS) : Option (Int32 × cpS) :=
    cpB (fX8_rowsFrom (0 : Int32) x2 S) fun z1 S2 =>
    if (lg_cmp z1 (0 : Int64)) = 0 then (
    some ((-1 : Int32), S2)) else (
    cpB (fX8_firstFitting (0 : Int32) x1 x2 S2) fun z3 S4 =>
    fX8_firstRowsDeed_25 x1 x3 cpFu z3 (1 : Int32) S4)
set_option maxRecDepth 100000 in
set_option maxHeartbeats 4000000 in
theorem m_X8_firstRowsDeed (l : Launch) (w : cpW) (A : Nat → Prop) (x1 : Int32) (x2 : Int32) (x3 : Int32) (S : cpS) (r : Int32 × cpS) (h : fX8_firstRowsDeed x1 x2 x3 S = some r) : cpMi l yX8_firstRowsDeed cX8_firstRowsDeed 6 ((some .int)) 2 w A [.ref (w.2.1 130), .int x1, .int x2, .int x3] S r := by
  refine cpMi.of (lv := [some (.ref (w.2.1 130)), some (.int x1), some (.int x2), some (.int x3), none, none]) (by decide) (Nat.le_of_ble_eq_true rfl) rfl (fun p e s m args below meth c C hr => ?_)
  replace C : cpCx p s m args meth c w A cX8_firstRowsDeed RX8 6 := C
  rw [fX8_firstRowsDeed] at h
  refine cj_aload_n C (i := 0) dX8_firstRowsDeed_0 rfl rfl ?_
  refine cj_iconst C (v := (0 : Int32)) dX8_firstRowsDeed_1 rfl ?_
  refine cj_iload_n C (i := 2) dX8_firstRowsDeed_2 rfl rfl ?_
  refine cj_callVl C (As := [.int (0 : Int32), .int x2]) (rest := []) qX8_rowsFrom mw_65_4 o_130 rfl rfl rfl (Nat.le_of_ble_eq_true rfl) (by decide) dX8_firstRowsDeed_3 h (fun _ _ hf => m_X8_rowsFrom l w A (0 : Int32) x2 S _ hf) (fun z1 S2 h => ?_)
  refine cj_lconst C (v := (0 : Int64)) dX8_firstRowsDeed_6 rfl ?_
  refine cj_lcmp C dX8_firstRowsDeed_7 ?_
  refine cj_if_ne C (tgt := 13) dX8_firstRowsDeed_8 rfl h (fun _ h => ?_) (fun _ h => ?_)
  · refine cj_iconst C (v := (-1 : Int32)) dX8_firstRowsDeed_11 rfl ?_
    exact cj_ireturn C hr h dX8_firstRowsDeed_12
  · refine cj_aload_n C (i := 0) dX8_firstRowsDeed_13 rfl rfl ?_
    refine cj_iconst C (v := (0 : Int32)) dX8_firstRowsDeed_14 rfl ?_
    refine cj_iload_n C (i := 1) dX8_firstRowsDeed_15 rfl rfl ?_
    refine cj_iload_n C (i := 2) dX8_firstRowsDeed_16 rfl rfl ?_
    refine cj_callVi C (As := [.int (0 : Int32), .int x1, .int x2]) (rest := []) qX8_firstFitting mw_66_19 o_130 rfl rfl rfl (Nat.le_of_ble_eq_true rfl) (by decide) dX8_firstRowsDeed_17 h (fun _ _ hf => m_X8_firstFitting l w A (0 : Int32) x1 x2 S2 _ hf) (fun z3 S4 h => ?_)
    refine cj_istore C (lv' := [some (.ref (w.2.1 130)), some (.int x1), some (.int x2), some (.int x3), some (.int z3), none]) dX8_firstRowsDeed_20 (by decide) rfl rfl ?_
    refine cj_iconst C (v := (1 : Int32)) dX8_firstRowsDeed_22 rfl ?_
    refine cj_istore C (lv' := [some (.ref (w.2.1 130)), some (.int x1), some (.int x2), some (.int x3), some (.int z3), some (.int (1 : Int32))]) dX8_firstRowsDeed_23 (by decide) rfl rfl ?_
    refine cj_weak C (lv' := [some (.ref (w.2.1 130)), some (.int x1), none, some (.int x3), some (.int z3), some (.int (1 : Int32))]) (cpSub_s (cpSub_s (cpSub_n (cpSub_s (cpSub_s (cpSub_s cpSub_nil)))))) ?_
    exact wX8_firstRowsDeed_25 C hr x1 x3 cpFu z3 (1 : Int32) S4 h
/-! X8_placesBehind -/
def fX8_placesBehind_44 (x1 : Int32) (x2 : Int32) (x4 : Int32) (x5 : Int32) (k5 : Int32 → Int32 → cpS → Option (Int32 × cpS)) (k20 : Int32 → Int32 → cpS → Option (Int32 × cpS)) : Nat → Int32 → Int32 → cpS → Option (Int32 × cpS)
  | 0, _, _, _ => none
  | n + 1, x3, x6, S =>
    if (28 : Int32) ≤ x6 then (
    k20 x3 (x5 + 1) S) else (
    cpB (fX4_wearOf x4 x5 x6 S) fun z1 S2 =>
    cpB (fX8_fits x1 z1 S2) fun z3 S4 =>
    if z3 = 0 then (
    fX8_placesBehind_44 x1 x2 x4 x5 k5 k20 n x3 (x6 + 1) S4) else (
    cpLt (x3 ||| (cpShl (1 : Int32) x5)) fun y5 =>
    fX8_placesBehind_44 x1 x2 x4 x5 k5 k20 n y5 (x6 + 1) S4))
set_option maxRecDepth 100000 in
set_option maxHeartbeats 4000000 in
theorem wX8_placesBehind_44 (C : cpCx p s m args meth c w A cX8_placesBehind RX8 7) (hr : meth.sig.returnType = (some .int)) {r : Int32 × cpS} (x1 : Int32) (x2 : Int32) (x4 : Int32) (x5 : Int32) {k5 : Int32 → Int32 → cpS → Option (Int32 × cpS)} (hk5 : ∀ (x3 : Int32) (x4 : Int32) (S : cpS), k5 x3 x4 S = some r → cpJ p l e (cpRm 1) s m args below meth c (MQ below (va_Qi (fun x S' => (x, S') = r) (cpWorld w A) A) args s 0 0 A) w A 7 5 [some (.ref (w.2.1 130)), some (.int x1), some (.int x2), some (.int x3), some (.int x4), none, none] [] S) {k20 : Int32 → Int32 → cpS → Option (Int32 × cpS)} (hk20 : ∀ (x3 : Int32) (x5 : Int32) (S : cpS), k20 x3 x5 S = some r → cpJ p l e (cpRm 1) s m args below meth c (MQ below (va_Qi (fun x S' => (x, S') = r) (cpWorld w A) A) args s 0 0 A) w A 7 20 [some (.ref (w.2.1 130)), some (.int x1), some (.int x2), some (.int x3), some (.int x4), some (.int x5), none] [] S) : ∀ (n : Nat) (x3 : Int32) (x6 : Int32) (S : cpS), fX8_placesBehind_44 x1 x2 x4 x5 k5 k20 n x3 x6 S = some r → cpJ p l e (cpRm 1) s m args below meth c (MQ below (va_Qi (fun x S' => (x, S') = r) (cpWorld w A) A) args s 0 0 A) w A 7 44 [some (.ref (w.2.1 130)), some (.int x1), some (.int x2), some (.int x3), some (.int x4), some (.int x5), some (.int x6)] [] S := by
  intro n
  induction n with
  | zero => intro x3 x6 S h; rw [fX8_placesBehind_44] at h; cases h
  | succ n ih =>
    intro x3 x6 S h
    rw [fX8_placesBehind_44] at h
    refine cj_iload C dX8_placesBehind_44 rfl ?_
    refine cj_bipush C (v := (28 : Int32)) dX8_placesBehind_46 rfl ?_
    refine cj_icmp_ge C (tgt := 85) dX8_placesBehind_48 rfl h (fun _ h => ?_) (fun _ h => ?_)
    · refine cj_iinc C (v := (x5 + 1)) (lv' := [some (.ref (w.2.1 130)), some (.int x1), some (.int x2), some (.int x3), some (.int x4), some (.int (x5 + 1)), some (.int x6)]) dX8_placesBehind_85 rfl rfl (by decide) rfl rfl ?_
      refine cj_goto C (tgt := 20) dX8_placesBehind_88 rfl ?_
      refine cj_weak C (lv' := [some (.ref (w.2.1 130)), some (.int x1), some (.int x2), some (.int x3), some (.int x4), some (.int (x5 + 1)), none]) (cpSub_s (cpSub_s (cpSub_s (cpSub_s (cpSub_s (cpSub_s (cpSub_n cpSub_nil))))))) ?_
      exact hk20 x3 (x5 + 1) S h
    · refine cj_aload_n C (i := 0) dX8_placesBehind_51 rfl rfl ?_
      refine cj_iload_n C (i := 1) dX8_placesBehind_52 rfl rfl ?_
      refine cj_aload_n C (i := 0) dX8_placesBehind_53 rfl rfl ?_
      refine cj_getR C (d := 119) o_130 rfl gfX8_22 dX8_placesBehind_54 ?_
      refine cj_iload C dX8_placesBehind_57 rfl ?_
      refine cj_iload C dX8_placesBehind_59 rfl ?_
      refine cj_iload C dX8_placesBehind_61 rfl ?_
      refine cj_callVi C (As := [.int x4, .int x5, .int x6]) (rest := [.int x1, .ref (w.2.1 130)]) qX4_wearOf mw_64_22 o_119 rfl rfl rfl (Nat.le_of_ble_eq_true rfl) (by decide) dX8_placesBehind_63 h (fun _ _ hf => m_X4_wearOf l w A x4 x5 x6 S _ hf) (fun z1 S2 h => ?_)
      refine cj_callVi C (As := [.int x1, .int z1]) (rest := []) qX8_fits mw_64_23 o_130 rfl rfl rfl (Nat.le_of_ble_eq_true rfl) (by decide) dX8_placesBehind_66 h (fun _ _ hf => m_X8_fits l w A x1 z1 S2 _ hf) (fun z3 S4 h => ?_)
      refine cj_if_eq C (tgt := 79) dX8_placesBehind_69 rfl h (fun _ h => ?_) (fun _ h => ?_)
      · refine cj_iinc C (v := (x6 + 1)) (lv' := [some (.ref (w.2.1 130)), some (.int x1), some (.int x2), some (.int x3), some (.int x4), some (.int x5), some (.int (x6 + 1))]) dX8_placesBehind_79 rfl rfl (by decide) rfl rfl ?_
        refine cj_goto C (tgt := 44) dX8_placesBehind_82 rfl ?_
        exact ih x3 (x6 + 1) S4 h
      · refine cj_iload_n C (i := 3) dX8_placesBehind_72 rfl rfl ?_
        refine cj_iconst C (v := (1 : Int32)) dX8_placesBehind_73 rfl ?_
        refine cj_iload C dX8_placesBehind_74 rfl ?_
        refine ck_ishl C dX8_placesBehind_76 ?_
        refine cj_ior C dX8_placesBehind_77 ?_
        refine cj_let h (fun y5 h => ?_)
        refine cj_istore_n C (i := 3) (lv' := [some (.ref (w.2.1 130)), some (.int x1), some (.int x2), some (.int y5), some (.int x4), some (.int x5), some (.int x6)]) dX8_placesBehind_78 rfl (by decide) rfl rfl ?_
        refine cj_iinc C (v := (x6 + 1)) (lv' := [some (.ref (w.2.1 130)), some (.int x1), some (.int x2), some (.int y5), some (.int x4), some (.int x5), some (.int (x6 + 1))]) dX8_placesBehind_79 rfl rfl (by decide) rfl rfl ?_
        refine cj_goto C (tgt := 44) dX8_placesBehind_82 rfl ?_
        exact ih y5 (x6 + 1) S4 h
def fX8_placesBehind_20 (x1 : Int32) (x2 : Int32) (x4 : Int32) (k5 : Int32 → Int32 → cpS → Option (Int32 × cpS)) : Nat → Int32 → Int32 → cpS → Option (Int32 × cpS)
  | 0, _, _, _ => none
  | n + 1, x3, x5, S =>
    cpB (fX4_places S) fun z1 S2 =>
    if z1 ≤ x5 then (
    k5 x3 (x4 + 1) S2) else (
    cpB (fX11_isIn x2 x4 S2) fun z3 S4 =>
    if z3 = 0 then (
    k5 x3 (x4 + 1) S4) else (
    fX8_placesBehind_44 x1 x2 x4 x5 k5 (fX8_placesBehind_20 x1 x2 x4 k5 n) cpFu x3 (0 : Int32) S4))
set_option maxRecDepth 100000 in
set_option maxHeartbeats 4000000 in
theorem wX8_placesBehind_20 (C : cpCx p s m args meth c w A cX8_placesBehind RX8 7) (hr : meth.sig.returnType = (some .int)) {r : Int32 × cpS} (x1 : Int32) (x2 : Int32) (x4 : Int32) {k5 : Int32 → Int32 → cpS → Option (Int32 × cpS)} (hk5 : ∀ (x3 : Int32) (x4 : Int32) (S : cpS), k5 x3 x4 S = some r → cpJ p l e (cpRm 1) s m args below meth c (MQ below (va_Qi (fun x S' => (x, S') = r) (cpWorld w A) A) args s 0 0 A) w A 7 5 [some (.ref (w.2.1 130)), some (.int x1), some (.int x2), some (.int x3), some (.int x4), none, none] [] S) : ∀ (n : Nat) (x3 : Int32) (x5 : Int32) (S : cpS), fX8_placesBehind_20 x1 x2 x4 k5 n x3 x5 S = some r → cpJ p l e (cpRm 1) s m args below meth c (MQ below (va_Qi (fun x S' => (x, S') = r) (cpWorld w A) A) args s 0 0 A) w A 7 20 [some (.ref (w.2.1 130)), some (.int x1), some (.int x2), some (.int x3), some (.int x4), some (.int x5), none] [] S := by
  intro n
  induction n with
  | zero => intro x3 x5 S h; rw [fX8_placesBehind_20] at h; cases h
  | succ n ih =>
    intro x3 x5 S h
    rw [fX8_placesBehind_20] at h
    refine cj_iload C dX8_placesBehind_20 rfl ?_
    refine cj_aload_n C (i := 0) dX8_placesBehind_22 rfl rfl ?_
    refine cj_getR C (d := 119) o_130 rfl gfX8_22 dX8_placesBehind_23 ?_
    refine cj_callVi C (As := []) (rest := [.int x5]) qX4_places mw_64_17 o_119 rfl rfl rfl (Nat.le_of_ble_eq_true rfl) (by decide) dX8_placesBehind_26 h (fun _ _ hf => m_X4_places l w A S _ hf) (fun z1 S2 h => ?_)
    refine cj_icmp_ge C (tgt := 91) dX8_placesBehind_29 rfl h (fun _ h => ?_) (fun _ h => ?_)
    · refine cj_iinc C (v := (x4 + 1)) (lv' := [some (.ref (w.2.1 130)), some (.int x1), some (.int x2), some (.int x3), some (.int (x4 + 1)), some (.int x5), none]) dX8_placesBehind_91 rfl rfl (by decide) rfl rfl ?_
      refine cj_goto C (tgt := 5) dX8_placesBehind_94 rfl ?_
      refine cj_weak C (lv' := [some (.ref (w.2.1 130)), some (.int x1), some (.int x2), some (.int x3), some (.int (x4 + 1)), none, none]) (cpSub_s (cpSub_s (cpSub_s (cpSub_s (cpSub_s (cpSub_n (cpSub_n cpSub_nil))))))) ?_
      exact hk5 x3 (x4 + 1) S2 h
    · refine cj_iload_n C (i := 2) dX8_placesBehind_32 rfl rfl ?_
      refine cj_iload C dX8_placesBehind_33 rfl ?_
      refine cj_callNi C (As := [.int x2, .int x4]) (rest := []) qX11_isIn (List.mem_of_getElem? (i := 0) rfl) rfl rfl (Nat.le_of_ble_eq_true rfl) (by decide) dX8_placesBehind_35 h (fun _ _ hf => m_X11_isIn l w A x2 x4 S2 _ hf) (fun z3 S4 h => ?_)
      refine cj_if_eq C (tgt := 91) dX8_placesBehind_38 rfl h (fun _ h => ?_) (fun _ h => ?_)
      · refine cj_iinc C (v := (x4 + 1)) (lv' := [some (.ref (w.2.1 130)), some (.int x1), some (.int x2), some (.int x3), some (.int (x4 + 1)), some (.int x5), none]) dX8_placesBehind_91 rfl rfl (by decide) rfl rfl ?_
        refine cj_goto C (tgt := 5) dX8_placesBehind_94 rfl ?_
        refine cj_weak C (lv' := [some (.ref (w.2.1 130)), some (.int x1), some (.int x2), some (.int x3), some (.int (x4 + 1)), none, none]) (cpSub_s (cpSub_s (cpSub_s (cpSub_s (cpSub_s (cpSub_n (cpSub_n cpSub_nil))))))) ?_
        exact hk5 x3 (x4 + 1) S4 h
      · refine cj_iconst C (v := (0 : Int32)) dX8_placesBehind_41 rfl ?_
        refine cj_istore C (lv' := [some (.ref (w.2.1 130)), some (.int x1), some (.int x2), some (.int x3), some (.int x4), some (.int x5), some (.int (0 : Int32))]) dX8_placesBehind_42 (by decide) rfl rfl ?_
        exact wX8_placesBehind_44 C hr x1 x2 x4 x5 hk5 ih cpFu x3 (0 : Int32) S4 h
def fX8_placesBehind_5 (x1 : Int32) (x2 : Int32) : Nat → Int32 → Int32 → cpS → Option (Int32 × cpS)
  | 0, _, _, _ => none
  | n + 1, x3, x4, S =>
    cpB (fX4_places S) fun z1 S2 =>
    if z1 ≤ x4 then (
    some (x3, S2)) else (
    fX8_placesBehind_20 x1 x2 x4 (fX8_placesBehind_5 x1 x2 n) cpFu x3 (0 : Int32) S2)
set_option maxRecDepth 100000 in
set_option maxHeartbeats 4000000 in
theorem wX8_placesBehind_5 (C : cpCx p s m args meth c w A cX8_placesBehind RX8 7) (hr : meth.sig.returnType = (some .int)) {r : Int32 × cpS} (x1 : Int32) (x2 : Int32) : ∀ (n : Nat) (x3 : Int32) (x4 : Int32) (S : cpS), fX8_placesBehind_5 x1 x2 n x3 x4 S = some r → cpJ p l e (cpRm 1) s m args below meth c (MQ below (va_Qi (fun x S' => (x, S') = r) (cpWorld w A) A) args s 0 0 A) w A 7 5 [some (.ref (w.2.1 130)), some (.int x1), some (.int x2), some (.int x3), some (.int x4), none, none] [] S := by
  intro n
  induction n with
  | zero => intro x3 x4 S h; rw [fX8_placesBehind_5] at h; cases h
  | succ n ih =>
    intro x3 x4 S h
    rw [fX8_placesBehind_5] at h
    refine cj_iload C dX8_placesBehind_5 rfl ?_
    refine cj_aload_n C (i := 0) dX8_placesBehind_7 rfl rfl ?_
    refine cj_getR C (d := 119) o_130 rfl gfX8_22 dX8_placesBehind_8 ?_
    refine cj_callVi C (As := []) (rest := [.int x4]) qX4_places mw_64_17 o_119 rfl rfl rfl (Nat.le_of_ble_eq_true rfl) (by decide) dX8_placesBehind_11 h (fun _ _ hf => m_X4_places l w A S _ hf) (fun z1 S2 h => ?_)
    refine cj_icmp_ge C (tgt := 97) dX8_placesBehind_14 rfl h (fun _ h => ?_) (fun _ h => ?_)
    · refine cj_iload_n C (i := 3) dX8_placesBehind_97 rfl rfl ?_
      exact cj_ireturn C hr h dX8_placesBehind_98
    · refine cj_iconst C (v := (0 : Int32)) dX8_placesBehind_17 rfl ?_
      refine cj_istore C (lv' := [some (.ref (w.2.1 130)), some (.int x1), some (.int x2), some (.int x3), some (.int x4), some (.int (0 : Int32)), none]) dX8_placesBehind_18 (by decide) rfl rfl ?_
      exact wX8_placesBehind_20 C hr x1 x2 x4 ih cpFu x3 (0 : Int32) S2 h
def fX8_placesBehind (x1 : Int32) (x2 : Int32) (S : cpS) : Option (Int32 × cpS) :=
    fX8_placesBehind_5 x1 x2 cpFu (0 : Int32) (0 : Int32) S
set_option maxRecDepth 100000 in
set_option maxHeartbeats 4000000 in
theorem m_X8_placesBehind (l : Launch) (w : cpW) (A : Nat → Prop) (x1 : Int32) (x2 : Int32) (S : cpS) (r : Int32 × cpS) (h : fX8_placesBehind x1 x2 S = some r) : cpMi l yX8_placesBehind cX8_placesBehind 7 ((some .int)) 1 w A [.ref (w.2.1 130), .int x1, .int x2] S r := by
  refine cpMi.of (lv := [some (.ref (w.2.1 130)), some (.int x1), some (.int x2), none, none, none, none]) (by decide) (Nat.le_of_ble_eq_true rfl) rfl (fun p e s m args below meth c C hr => ?_)
  replace C : cpCx p s m args meth c w A cX8_placesBehind RX8 7 := C
  rw [fX8_placesBehind] at h
  refine cj_iconst C (v := (0 : Int32)) dX8_placesBehind_0 rfl ?_
  refine cj_istore_n C (i := 3) (lv' := [some (.ref (w.2.1 130)), some (.int x1), some (.int x2), some (.int (0 : Int32)), none, none, none]) dX8_placesBehind_1 rfl (by decide) rfl rfl ?_
  refine cj_iconst C (v := (0 : Int32)) dX8_placesBehind_2 rfl ?_
  refine cj_istore C (lv' := [some (.ref (w.2.1 130)), some (.int x1), some (.int x2), some (.int (0 : Int32)), some (.int (0 : Int32)), none, none]) dX8_placesBehind_3 (by decide) rfl rfl ?_
  exact wX8_placesBehind_5 C hr x1 x2 cpFu (0 : Int32) (0 : Int32) S h
/-! X8_canHaveBeen -/
def fX8_canHaveBeen_18 (x1 : Int32) (x2 : Int32) (x3 : Int32) (x4 : Int32) (k3 : Int32 → cpS → Option (Int32 × cpS)) : Nat → Int32 → cpS → Option (Int32 × cpS)
  | 0, _, _ => none
  | n + 1, x5, S =>
    cpB (fX4_places S) fun z1 S2 =>
    if z1 ≤ x5 then (
    k3 (x4 + 1) S2) else (
    cpB (fX11_isIn x3 x4 S2) fun z3 S4 =>
    if z3 = 0 then (
    k3 (x4 + 1) S4) else (
    cpB (fX4_wearOf x4 x5 x2 S4) fun z5 S6 =>
    cpB (fX8_fits x1 z5 S6) fun z7 S8 =>
    if z7 = 0 then (
    fX8_canHaveBeen_18 x1 x2 x3 x4 k3 n (x5 + 1) S8) else (
    cpB (fX8_rowsFrom (x1 + (1 : Int32)) x5 S8) fun z9 S10 =>
    if (lg_cmp z9 (0 : Int64)) ≤ 0 then (
    fX8_canHaveBeen_18 x1 x2 x3 x4 k3 n (x5 + 1) S10) else (
    some ((1 : Int32), S10)))))
set_option maxRecDepth 100000 in
set_option maxHeartbeats 4000000 in
theorem wX8_canHaveBeen_18 (C : cpCx p s m args meth c w A cX8_canHaveBeen RX8 6) (hr : meth.sig.returnType = (some .boolean)) {r : Int32 × cpS} (x1 : Int32) (x2 : Int32) (x3 : Int32) (x4 : Int32) {k3 : Int32 → cpS → Option (Int32 × cpS)} (hk3 : ∀ (x4 : Int32) (S : cpS), k3 x4 S = some r → cpJ p l e (cpRm 1) s m args below meth c (MQ below (va_Qi (fun x S' => (x, S') = r) (cpWorld w A) A) args s 0 0 A) w A 6 3 [some (.ref (w.2.1 130)), some (.int x1), some (.int x2), some (.int x3), some (.int x4), none] [] S) : ∀ (n : Nat) (x5 : Int32) (S : cpS), fX8_canHaveBeen_18 x1 x2 x3 x4 k3 n x5 S = some r → cpJ p l e (cpRm 1) s m args below meth c (MQ below (va_Qi (fun x S' => (x, S') = r) (cpWorld w A) A) args s 0 0 A) w A 6 18 [some (.ref (w.2.1 130)), some (.int x1), some (.int x2), some (.int x3), some (.int x4), some (.int x5)] [] S := by
  intro n
  induction n with
  | zero => intro x5 S h; rw [fX8_canHaveBeen_18] at h; cases h
  | succ n ih =>
    intro x5 S h
    rw [fX8_canHaveBeen_18] at h
    refine cj_iload C dX8_canHaveBeen_18 rfl ?_
    refine cj_aload_n C (i := 0) dX8_canHaveBeen_20 rfl rfl ?_
    refine cj_getR C (d := 119) o_130 rfl gfX8_22 dX8_canHaveBeen_21 ?_
    refine cj_callVi C (As := []) (rest := [.int x5]) qX4_places mw_64_17 o_119 rfl rfl rfl (Nat.le_of_ble_eq_true rfl) (by decide) dX8_canHaveBeen_24 h (fun _ _ hf => m_X4_places l w A S _ hf) (fun z1 S2 h => ?_)
    refine cj_icmp_ge C (tgt := 81) dX8_canHaveBeen_27 rfl h (fun _ h => ?_) (fun _ h => ?_)
    · refine cj_iinc C (v := (x4 + 1)) (lv' := [some (.ref (w.2.1 130)), some (.int x1), some (.int x2), some (.int x3), some (.int (x4 + 1)), some (.int x5)]) dX8_canHaveBeen_81 rfl rfl (by decide) rfl rfl ?_
      refine cj_goto C (tgt := 3) dX8_canHaveBeen_84 rfl ?_
      refine cj_weak C (lv' := [some (.ref (w.2.1 130)), some (.int x1), some (.int x2), some (.int x3), some (.int (x4 + 1)), none]) (cpSub_s (cpSub_s (cpSub_s (cpSub_s (cpSub_s (cpSub_n cpSub_nil)))))) ?_
      exact hk3 (x4 + 1) S2 h
    · refine cj_iload_n C (i := 3) dX8_canHaveBeen_30 rfl rfl ?_
      refine cj_iload C dX8_canHaveBeen_31 rfl ?_
      refine cj_callNi C (As := [.int x3, .int x4]) (rest := []) qX11_isIn (List.mem_of_getElem? (i := 0) rfl) rfl rfl (Nat.le_of_ble_eq_true rfl) (by decide) dX8_canHaveBeen_33 h (fun _ _ hf => m_X11_isIn l w A x3 x4 S2 _ hf) (fun z3 S4 h => ?_)
      refine cj_if_eq C (tgt := 81) dX8_canHaveBeen_36 rfl h (fun _ h => ?_) (fun _ h => ?_)
      · refine cj_iinc C (v := (x4 + 1)) (lv' := [some (.ref (w.2.1 130)), some (.int x1), some (.int x2), some (.int x3), some (.int (x4 + 1)), some (.int x5)]) dX8_canHaveBeen_81 rfl rfl (by decide) rfl rfl ?_
        refine cj_goto C (tgt := 3) dX8_canHaveBeen_84 rfl ?_
        refine cj_weak C (lv' := [some (.ref (w.2.1 130)), some (.int x1), some (.int x2), some (.int x3), some (.int (x4 + 1)), none]) (cpSub_s (cpSub_s (cpSub_s (cpSub_s (cpSub_s (cpSub_n cpSub_nil)))))) ?_
        exact hk3 (x4 + 1) S4 h
      · refine cj_aload_n C (i := 0) dX8_canHaveBeen_39 rfl rfl ?_
        refine cj_iload_n C (i := 1) dX8_canHaveBeen_40 rfl rfl ?_
        refine cj_aload_n C (i := 0) dX8_canHaveBeen_41 rfl rfl ?_
        refine cj_getR C (d := 119) o_130 rfl gfX8_22 dX8_canHaveBeen_42 ?_
        refine cj_iload C dX8_canHaveBeen_45 rfl ?_
        refine cj_iload C dX8_canHaveBeen_47 rfl ?_
        refine cj_iload_n C (i := 2) dX8_canHaveBeen_49 rfl rfl ?_
        refine cj_callVi C (As := [.int x4, .int x5, .int x2]) (rest := [.int x1, .ref (w.2.1 130)]) qX4_wearOf mw_64_22 o_119 rfl rfl rfl (Nat.le_of_ble_eq_true rfl) (by decide) dX8_canHaveBeen_50 h (fun _ _ hf => m_X4_wearOf l w A x4 x5 x2 S4 _ hf) (fun z5 S6 h => ?_)
        refine cj_callVi C (As := [.int x1, .int z5]) (rest := []) qX8_fits mw_64_23 o_130 rfl rfl rfl (Nat.le_of_ble_eq_true rfl) (by decide) dX8_canHaveBeen_53 h (fun _ _ hf => m_X8_fits l w A x1 z5 S6 _ hf) (fun z7 S8 h => ?_)
        refine cj_if_eq C (tgt := 75) dX8_canHaveBeen_56 rfl h (fun _ h => ?_) (fun _ h => ?_)
        · refine cj_iinc C (v := (x5 + 1)) (lv' := [some (.ref (w.2.1 130)), some (.int x1), some (.int x2), some (.int x3), some (.int x4), some (.int (x5 + 1))]) dX8_canHaveBeen_75 rfl rfl (by decide) rfl rfl ?_
          refine cj_goto C (tgt := 18) dX8_canHaveBeen_78 rfl ?_
          exact ih (x5 + 1) S8 h
        · refine cj_aload_n C (i := 0) dX8_canHaveBeen_59 rfl rfl ?_
          refine cj_iload_n C (i := 1) dX8_canHaveBeen_60 rfl rfl ?_
          refine cj_iconst C (v := (1 : Int32)) dX8_canHaveBeen_61 rfl ?_
          refine cj_iadd C dX8_canHaveBeen_62 ?_
          refine cj_iload C dX8_canHaveBeen_63 rfl ?_
          refine cj_callVl C (As := [.int (x1 + (1 : Int32)), .int x5]) (rest := []) qX8_rowsFrom mw_65_4 o_130 rfl rfl rfl (Nat.le_of_ble_eq_true rfl) (by decide) dX8_canHaveBeen_65 h (fun _ _ hf => m_X8_rowsFrom l w A (x1 + (1 : Int32)) x5 S8 _ hf) (fun z9 S10 h => ?_)
          refine cj_lconst C (v := (0 : Int64)) dX8_canHaveBeen_68 rfl ?_
          refine cj_lcmp C dX8_canHaveBeen_69 ?_
          refine cj_if_le C (tgt := 75) dX8_canHaveBeen_70 rfl h (fun _ h => ?_) (fun _ h => ?_)
          · refine cj_iinc C (v := (x5 + 1)) (lv' := [some (.ref (w.2.1 130)), some (.int x1), some (.int x2), some (.int x3), some (.int x4), some (.int (x5 + 1))]) dX8_canHaveBeen_75 rfl rfl (by decide) rfl rfl ?_
            refine cj_goto C (tgt := 18) dX8_canHaveBeen_78 rfl ?_
            exact ih (x5 + 1) S10 h
          · refine cj_iconst C (v := (1 : Int32)) dX8_canHaveBeen_73 rfl ?_
            exact cj_zreturn C hr rfl h dX8_canHaveBeen_74
def fX8_canHaveBeen_3 (x1 : Int32) (x2 : Int32) (x3 : Int32) : Nat → Int32 → cpS → Option (Int32 × cpS)
  | 0, _, _ => none
  | n + 1, x4, S =>
    cpB (fX4_places S) fun z1 S2 =>
    if z1 ≤ x4 then (
    some ((0 : Int32), S2)) else (
    fX8_canHaveBeen_18 x1 x2 x3 x4 (fX8_canHaveBeen_3 x1 x2 x3 n) cpFu (0 : Int32) S2)
set_option maxRecDepth 100000 in
set_option maxHeartbeats 4000000 in
theorem wX8_canHaveBeen_3 (C : cpCx p s m args meth c w A cX8_canHaveBeen RX8 6) (hr : meth.sig.returnType = (some .boolean)) {r : Int32 × cpS} (x1 : Int32) (x2 : Int32) (x3 : Int32) : ∀ (n : Nat) (x4 : Int32) (S : cpS), fX8_canHaveBeen_3 x1 x2 x3 n x4 S = some r → cpJ p l e (cpRm 1) s m args below meth c (MQ below (va_Qi (fun x S' => (x, S') = r) (cpWorld w A) A) args s 0 0 A) w A 6 3 [some (.ref (w.2.1 130)), some (.int x1), some (.int x2), some (.int x3), some (.int x4), none] [] S := by
  intro n
  induction n with
  | zero => intro x4 S h; rw [fX8_canHaveBeen_3] at h; cases h
  | succ n ih =>
    intro x4 S h
    rw [fX8_canHaveBeen_3] at h
    refine cj_iload C dX8_canHaveBeen_3 rfl ?_
    refine cj_aload_n C (i := 0) dX8_canHaveBeen_5 rfl rfl ?_
    refine cj_getR C (d := 119) o_130 rfl gfX8_22 dX8_canHaveBeen_6 ?_
    refine cj_callVi C (As := []) (rest := [.int x4]) qX4_places mw_64_17 o_119 rfl rfl rfl (Nat.le_of_ble_eq_true rfl) (by decide) dX8_canHaveBeen_9 h (fun _ _ hf => m_X4_places l w A S _ hf) (fun z1 S2 h => ?_)
    refine cj_icmp_ge C (tgt := 87) dX8_canHaveBeen_12 rfl h (fun _ h => ?_) (fun _ h => ?_)
    · refine cj_iconst C (v := (0 : Int32)) dX8_canHaveBeen_87 rfl ?_
      exact cj_zreturn C hr rfl h dX8_canHaveBeen_88
    · refine cj_iconst C (v := (0 : Int32)) dX8_canHaveBeen_15 rfl ?_
      refine cj_istore C (lv' := [some (.ref (w.2.1 130)), some (.int x1), some (.int x2), some (.int x3), some (.int x4), some (.int (0 : Int32))]) dX8_canHaveBeen_16 (by decide) rfl rfl ?_
      exact wX8_canHaveBeen_18 C hr x1 x2 x3 x4 ih cpFu (0 : Int32) S2 h
def fX8_canHaveBeen (x1 : Int32) (x2 : Int32) (x3 : Int32) (S : cpS) : Option (Int32 × cpS) :=
    fX8_canHaveBeen_3 x1 x2 x3 cpFu (0 : Int32) S
set_option maxRecDepth 100000 in
set_option maxHeartbeats 4000000 in
theorem m_X8_canHaveBeen (l : Launch) (w : cpW) (A : Nat → Prop) (x1 : Int32) (x2 : Int32) (x3 : Int32) (S : cpS) (r : Int32 × cpS) (h : fX8_canHaveBeen x1 x2 x3 S = some r) : cpMi l yX8_canHaveBeen cX8_canHaveBeen 6 ((some .boolean)) 1 w A [.ref (w.2.1 130), .int x1, .int x2, .int x3] S r := by
  refine cpMi.of (lv := [some (.ref (w.2.1 130)), some (.int x1), some (.int x2), some (.int x3), none, none]) (by decide) (Nat.le_of_ble_eq_true rfl) rfl (fun p e s m args below meth c C hr => ?_)
  replace C : cpCx p s m args meth c w A cX8_canHaveBeen RX8 6 := C
  rw [fX8_canHaveBeen] at h
  refine cj_iconst C (v := (0 : Int32)) dX8_canHaveBeen_0 rfl ?_
  refine cj_istore C (lv' := [some (.ref (w.2.1 130)), some (.int x1), some (.int x2), some (.int x3), some (.int (0 : Int32)), none]) dX8_canHaveBeen_1 (by decide) rfl rfl ?_
  exact wX8_canHaveBeen_3 C hr x1 x2 x3 cpFu (0 : Int32) S h
/-! X8_peopleAt -/
def fX8_peopleAt_40 (x1 : Int32) (x3 : Int32) : Nat → Int32 → Int32 → cpS → Option (Int32 × cpS)
  | 0, _, _, _ => none
  | n + 1, x4, x5, S =>
    if (28 : Int32) ≤ x5 then (
    some (x4, S)) else (
    cpB (fX8_canHaveBeen x1 x5 x3 S) fun z1 S2 =>
    if z1 = 0 then (
    fX8_peopleAt_40 x1 x3 n x4 (x5 + 1) S2) else (
    if cpIn x5 28 then (
    if cpIn x5 28 then (
    cpLt (x4 ||| ((cpShl (1 : Int32) (cpLs x5.toNatClampNeg)) ||| (cpShl (1 : Int32) (cpOs x5.toNatClampNeg)))) fun y3 =>
    fX8_peopleAt_40 x1 x3 n y3 (x5 + 1) S2) else none) else none))
set_option maxRecDepth 100000 in
set_option maxHeartbeats 4000000 in
theorem wX8_peopleAt_40 (C : cpCx p s m args meth c w A cX8_peopleAt RX8 6) (hr : meth.sig.returnType = (some .int)) {r : Int32 × cpS} (x1 : Int32) (x3 : Int32) : ∀ (n : Nat) (x4 : Int32) (x5 : Int32) (S : cpS), fX8_peopleAt_40 x1 x3 n x4 x5 S = some r → cpJ p l e (cpRm 2) s m args below meth c (MQ below (va_Qi (fun x S' => (x, S') = r) (cpWorld w A) A) args s 0 0 A) w A 6 40 [some (.ref (w.2.1 130)), some (.int x1), none, some (.int x3), some (.int x4), some (.int x5)] [] S := by
  intro n
  induction n with
  | zero => intro x4 x5 S h; rw [fX8_peopleAt_40] at h; cases h
  | succ n ih =>
    intro x4 x5 S h
    rw [fX8_peopleAt_40] at h
    refine cj_iload C dX8_peopleAt_40 rfl ?_
    refine cj_bipush C (v := (28 : Int32)) dX8_peopleAt_42 rfl ?_
    refine cj_icmp_ge C (tgt := 86) dX8_peopleAt_44 rfl h (fun _ h => ?_) (fun _ h => ?_)
    · refine cj_iload C dX8_peopleAt_86 rfl ?_
      exact cj_ireturn C hr h dX8_peopleAt_88
    · refine cj_aload_n C (i := 0) dX8_peopleAt_47 rfl rfl ?_
      refine cj_iload_n C (i := 1) dX8_peopleAt_48 rfl rfl ?_
      refine cj_iload C dX8_peopleAt_49 rfl ?_
      refine cj_iload_n C (i := 3) dX8_peopleAt_51 rfl rfl ?_
      refine cj_callVi C (As := [.int x1, .int x5, .int x3]) (rest := []) qX8_canHaveBeen mw_67_19 o_130 rfl rfl rfl (Nat.le_of_ble_eq_true rfl) (by decide) dX8_peopleAt_52 h (fun _ _ hf => m_X8_canHaveBeen l w A x1 x5 x3 S _ hf) (fun z1 S2 h => ?_)
      refine cj_if_eq C (tgt := 80) dX8_peopleAt_55 rfl h (fun _ h => ?_) (fun _ h => ?_)
      · refine cj_iinc C (v := (x5 + 1)) (lv' := [some (.ref (w.2.1 130)), some (.int x1), none, some (.int x3), some (.int x4), some (.int (x5 + 1))]) dX8_peopleAt_80 rfl rfl (by decide) rfl rfl ?_
        refine cj_goto C (tgt := 40) dX8_peopleAt_83 rfl ?_
        exact ih x4 (x5 + 1) S2 h
      · refine cj_iload C dX8_peopleAt_58 rfl ?_
        refine cj_iconst C (v := (1 : Int32)) dX8_peopleAt_60 rfl ?_
        refine cj_getsN0 C (List.mem_of_getElem? (i := 1) rfl) dX8_peopleAt_61 ?_
        refine cj_iload C dX8_peopleAt_64 rfl ?_
        refine cj_tab0 C h dX8_peopleAt_66 (fun h => ?_)
        refine ck_ishl C dX8_peopleAt_67 ?_
        refine cj_iconst C (v := (1 : Int32)) dX8_peopleAt_68 rfl ?_
        refine cj_getsN1 C (List.mem_of_getElem? (i := 0) rfl) dX8_peopleAt_69 ?_
        refine cj_iload C dX8_peopleAt_72 rfl ?_
        refine cj_tab1 C h dX8_peopleAt_74 (fun h => ?_)
        refine ck_ishl C dX8_peopleAt_75 ?_
        refine cj_ior C dX8_peopleAt_76 ?_
        refine cj_ior C dX8_peopleAt_77 ?_
        refine cj_let h (fun y3 h => ?_)
        refine cj_istore C (lv' := [some (.ref (w.2.1 130)), some (.int x1), none, some (.int x3), some (.int y3), some (.int x5)]) dX8_peopleAt_78 (by decide) rfl rfl ?_
        refine cj_iinc C (v := (x5 + 1)) (lv' := [some (.ref (w.2.1 130)), some (.int x1), none, some (.int x3), some (.int y3), some (.int (x5 + 1))]) dX8_peopleAt_80 rfl rfl (by decide) rfl rfl ?_
        refine cj_goto C (tgt := 40) dX8_peopleAt_83 rfl ?_
        exact ih y3 (x5 + 1) S2 h
def fX8_peopleAt_7 (x1 : Int32) : Nat → Int32 → Int32 → cpS → Option (Int32 × cpS)
  | 0, _, _, _ => none
  | n + 1, x3, x4, S =>
    if x1 ≤ x4 then (
    fX8_peopleAt_40 x1 x3 cpFu (0 : Int32) (0 : Int32) S) else (
    if (8 : Int32) ≤ x4 then (
    fX8_peopleAt_40 x1 x3 cpFu (0 : Int32) (0 : Int32) S) else (
    cpB (fX8_placesBehind x4 x3 S) fun z1 S2 =>
    fX8_peopleAt_7 x1 n z1 (x4 + 1) S2))
set_option maxRecDepth 100000 in
set_option maxHeartbeats 4000000 in
theorem wX8_peopleAt_7 (C : cpCx p s m args meth c w A cX8_peopleAt RX8 6) (hr : meth.sig.returnType = (some .int)) {r : Int32 × cpS} (x1 : Int32) : ∀ (n : Nat) (x3 : Int32) (x4 : Int32) (S : cpS), fX8_peopleAt_7 x1 n x3 x4 S = some r → cpJ p l e (cpRm 2) s m args below meth c (MQ below (va_Qi (fun x S' => (x, S') = r) (cpWorld w A) A) args s 0 0 A) w A 6 7 [some (.ref (w.2.1 130)), some (.int x1), none, some (.int x3), some (.int x4), none] [] S := by
  intro n
  induction n with
  | zero => intro x3 x4 S h; rw [fX8_peopleAt_7] at h; cases h
  | succ n ih =>
    intro x3 x4 S h
    rw [fX8_peopleAt_7] at h
    refine cj_iload C dX8_peopleAt_7 rfl ?_
    refine cj_iload_n C (i := 1) dX8_peopleAt_9 rfl rfl ?_
    refine cj_icmp_ge C (tgt := 34) dX8_peopleAt_10 rfl h (fun _ h => ?_) (fun _ h => ?_)
    · refine cj_iconst C (v := (0 : Int32)) dX8_peopleAt_34 rfl ?_
      refine cj_istore C (lv' := [some (.ref (w.2.1 130)), some (.int x1), none, some (.int x3), some (.int (0 : Int32)), none]) dX8_peopleAt_35 (by decide) rfl rfl ?_
      refine cj_iconst C (v := (0 : Int32)) dX8_peopleAt_37 rfl ?_
      refine cj_istore C (lv' := [some (.ref (w.2.1 130)), some (.int x1), none, some (.int x3), some (.int (0 : Int32)), some (.int (0 : Int32))]) dX8_peopleAt_38 (by decide) rfl rfl ?_
      exact wX8_peopleAt_40 C hr x1 x3 cpFu (0 : Int32) (0 : Int32) S h
    · refine cj_iload C dX8_peopleAt_13 rfl ?_
      refine cj_bipush C (v := (8 : Int32)) dX8_peopleAt_15 rfl ?_
      refine cj_icmp_ge C (tgt := 34) dX8_peopleAt_17 rfl h (fun _ h => ?_) (fun _ h => ?_)
      · refine cj_iconst C (v := (0 : Int32)) dX8_peopleAt_34 rfl ?_
        refine cj_istore C (lv' := [some (.ref (w.2.1 130)), some (.int x1), none, some (.int x3), some (.int (0 : Int32)), none]) dX8_peopleAt_35 (by decide) rfl rfl ?_
        refine cj_iconst C (v := (0 : Int32)) dX8_peopleAt_37 rfl ?_
        refine cj_istore C (lv' := [some (.ref (w.2.1 130)), some (.int x1), none, some (.int x3), some (.int (0 : Int32)), some (.int (0 : Int32))]) dX8_peopleAt_38 (by decide) rfl rfl ?_
        exact wX8_peopleAt_40 C hr x1 x3 cpFu (0 : Int32) (0 : Int32) S h
      · refine cj_aload_n C (i := 0) dX8_peopleAt_20 rfl rfl ?_
        refine cj_iload C dX8_peopleAt_21 rfl ?_
        refine cj_iload_n C (i := 3) dX8_peopleAt_23 rfl rfl ?_
        refine cj_callVi C (As := [.int x4, .int x3]) (rest := []) qX8_placesBehind mw_67_15 o_130 rfl rfl rfl (Nat.le_of_ble_eq_true rfl) (by decide) dX8_peopleAt_24 h (fun _ _ hf => m_X8_placesBehind l w A x4 x3 S _ hf) (fun z1 S2 h => ?_)
        refine cj_istore_n C (i := 3) (lv' := [some (.ref (w.2.1 130)), some (.int x1), none, some (.int z1), some (.int x4), none]) dX8_peopleAt_27 rfl (by decide) rfl rfl ?_
        refine cj_iinc C (v := (x4 + 1)) (lv' := [some (.ref (w.2.1 130)), some (.int x1), none, some (.int z1), some (.int (x4 + 1)), none]) dX8_peopleAt_28 rfl rfl (by decide) rfl rfl ?_
        refine cj_goto C (tgt := 7) dX8_peopleAt_31 rfl ?_
        exact ih z1 (x4 + 1) S2 h
def fX8_peopleAt (x1 : Int32) (x2 : Int32) (S : cpS) : Option (Int32 × cpS) :=
    cpLt (cpShl (1 : Int32) x2) fun y1 =>
    fX8_peopleAt_7 x1 cpFu y1 (0 : Int32) S
set_option maxRecDepth 100000 in
set_option maxHeartbeats 4000000 in
theorem m_X8_peopleAt (l : Launch) (w : cpW) (A : Nat → Prop) (x1 : Int32) (x2 : Int32) (S : cpS) (r : Int32 × cpS) (h : fX8_peopleAt x1 x2 S = some r) : cpMi l yX8_peopleAt cX8_peopleAt 6 ((some .int)) 2 w A [.ref (w.2.1 130), .int x1, .int x2] S r := by
  refine cpMi.of (lv := [some (.ref (w.2.1 130)), some (.int x1), some (.int x2), none, none, none]) (by decide) (Nat.le_of_ble_eq_true rfl) rfl (fun p e s m args below meth c C hr => ?_)
  replace C : cpCx p s m args meth c w A cX8_peopleAt RX8 6 := C
  rw [fX8_peopleAt] at h
  refine cj_iconst C (v := (1 : Int32)) dX8_peopleAt_0 rfl ?_
  refine cj_iload_n C (i := 2) dX8_peopleAt_1 rfl rfl ?_
  refine ck_ishl C dX8_peopleAt_2 ?_
  refine cj_let h (fun y1 h => ?_)
  refine cj_istore_n C (i := 3) (lv' := [some (.ref (w.2.1 130)), some (.int x1), some (.int x2), some (.int y1), none, none]) dX8_peopleAt_3 rfl (by decide) rfl rfl ?_
  refine cj_iconst C (v := (0 : Int32)) dX8_peopleAt_4 rfl ?_
  refine cj_istore C (lv' := [some (.ref (w.2.1 130)), some (.int x1), some (.int x2), some (.int y1), some (.int (0 : Int32)), none]) dX8_peopleAt_5 (by decide) rfl rfl ?_
  refine cj_weak C (lv' := [some (.ref (w.2.1 130)), some (.int x1), none, some (.int y1), some (.int (0 : Int32)), none]) (cpSub_s (cpSub_s (cpSub_n (cpSub_s (cpSub_s (cpSub_n cpSub_nil)))))) ?_
  exact wX8_peopleAt_7 C hr x1 cpFu y1 (0 : Int32) S h
/-! X8_mostAlike -/
def fX8_mostAlike_14 (x1 : Int32) (x2 : Int32) (x3 : Int32) (x4 : Int32) : Nat → Int32 → Int32 → cpS → Option (Int32 × cpS)
  | 0, _, _, _ => none
  | n + 1, x5, x6, S =>
    if (10 : Int32) ≤ x6 then (
    some (x5, S)) else (
    cpB (fX11_isIn x1 x6 S) fun z1 S2 =>
    if z1 = 0 then (
    fX8_mostAlike_14 x1 x2 x3 x4 n x5 (x6 + 1) S2) else (
    if cpIn x2 28 then (
    if cpIn x2 28 then (
    cpB (fX0_wearAt (cpLs x2.toNatClampNeg) (cpOs x2.toNatClampNeg) x3 x4 x6 S2) fun z3 S4 =>
    cpLt ((1 : Int32) + (cpMax (-1 : Int32) z3)) fun y5 =>
    if cpIn y5 11 then (
    if cpIn y5 11 then (
    cpLt (cpI S4 132 y5.toNatClampNeg ((S4.1 132 y5.toNatClampNeg) + (1 : Int32))) fun S6 =>
    if cpIn y5 11 then (
    cpLt (cpMax x5 (S6.1 132 y5.toNatClampNeg)) fun y7 =>
    fX8_mostAlike_14 x1 x2 x3 x4 n y7 (x6 + 1) S6) else none) else none) else none) else none) else none))
set_option maxRecDepth 100000 in
set_option maxHeartbeats 4000000 in
theorem wX8_mostAlike_14 (C : cpCx p s m args meth c w A cX8_mostAlike RX8 9) (hr : meth.sig.returnType = (some .int)) {r : Int32 × cpS} (x1 : Int32) (x2 : Int32) (x3 : Int32) (x4 : Int32) : ∀ (n : Nat) (x5 : Int32) (x6 : Int32) (S : cpS), fX8_mostAlike_14 x1 x2 x3 x4 n x5 x6 S = some r → cpJ p l e (cpRm 5) s m args below meth c (MQ below (va_Qi (fun x S' => (x, S') = r) (cpWorld w A) A) args s 0 0 A) w A 9 14 [some (.ref (w.2.1 130)), some (.int x1), some (.int x2), some (.int x3), some (.int x4), some (.int x5), some (.int x6), none, none] [] S := by
  intro n
  induction n with
  | zero => intro x5 x6 S h; rw [fX8_mostAlike_14] at h; cases h
  | succ n ih =>
    intro x5 x6 S h
    rw [fX8_mostAlike_14] at h
    refine cj_iload C dX8_mostAlike_14 rfl ?_
    refine cj_bipush C (v := (10 : Int32)) dX8_mostAlike_16 rfl ?_
    refine cj_icmp_ge C (tgt := 95) dX8_mostAlike_18 rfl h (fun _ h => ?_) (fun _ h => ?_)
    · refine cj_iload C dX8_mostAlike_95 rfl ?_
      exact cj_ireturn C hr h dX8_mostAlike_97
    · refine cj_iload_n C (i := 1) dX8_mostAlike_21 rfl rfl ?_
      refine cj_iload C dX8_mostAlike_22 rfl ?_
      refine cj_callNi C (As := [.int x1, .int x6]) (rest := []) qX11_isIn (List.mem_of_getElem? (i := 0) rfl) rfl rfl (Nat.le_of_ble_eq_true rfl) (by decide) dX8_mostAlike_24 h (fun _ _ hf => m_X11_isIn l w A x1 x6 S _ hf) (fun z1 S2 h => ?_)
      refine cj_if_eq C (tgt := 89) dX8_mostAlike_27 rfl h (fun _ h => ?_) (fun _ h => ?_)
      · refine cj_iinc C (v := (x6 + 1)) (lv' := [some (.ref (w.2.1 130)), some (.int x1), some (.int x2), some (.int x3), some (.int x4), some (.int x5), some (.int (x6 + 1)), none, none]) dX8_mostAlike_89 rfl rfl (by decide) rfl rfl ?_
        refine cj_goto C (tgt := 14) dX8_mostAlike_92 rfl ?_
        exact ih x5 (x6 + 1) S2 h
      · refine cj_aload_n C (i := 0) dX8_mostAlike_30 rfl rfl ?_
        refine cj_getR C (d := 117) o_130 rfl gfX8_32 dX8_mostAlike_31 ?_
        refine cj_getsN0 C (List.mem_of_getElem? (i := 1) rfl) dX8_mostAlike_34 ?_
        refine cj_iload_n C (i := 2) dX8_mostAlike_37 rfl rfl ?_
        refine cj_tab0 C h dX8_mostAlike_38 (fun h => ?_)
        refine cj_getsN1 C (List.mem_of_getElem? (i := 0) rfl) dX8_mostAlike_39 ?_
        refine cj_iload_n C (i := 2) dX8_mostAlike_42 rfl rfl ?_
        refine cj_tab1 C h dX8_mostAlike_43 (fun h => ?_)
        refine cj_iload_n C (i := 3) dX8_mostAlike_44 rfl rfl ?_
        refine cj_iload C dX8_mostAlike_45 rfl ?_
        refine cj_iload C dX8_mostAlike_47 rfl ?_
        refine cj_callVi C (As := [.int (cpLs x2.toNatClampNeg), .int (cpOs x2.toNatClampNeg), .int x3, .int x4, .int x6]) (rest := []) qX0_wearAt mw_70_3 o_117 rfl rfl rfl (Nat.le_of_ble_eq_true rfl) (by decide) dX8_mostAlike_49 h (fun _ _ hf => m_X0_wearAt l w A (cpLs x2.toNatClampNeg) (cpOs x2.toNatClampNeg) x3 x4 x6 S2 _ hf) (fun z3 S4 h => ?_)
        refine cj_istore C (lv' := [some (.ref (w.2.1 130)), some (.int x1), some (.int x2), some (.int x3), some (.int x4), some (.int x5), some (.int x6), some (.int z3), none]) dX8_mostAlike_52 (by decide) rfl rfl ?_
        refine cj_iconst C (v := (1 : Int32)) dX8_mostAlike_54 rfl ?_
        refine cj_iconst C (v := (-1 : Int32)) dX8_mostAlike_55 rfl ?_
        refine cj_iload C dX8_mostAlike_56 rfl ?_
        refine ck_mmax C mw_70_1 mw_12_13 mw_12_14 mw_12_15 (by decide) (Nat.le_of_ble_eq_true rfl) dX8_mostAlike_58 ?_
        refine cj_iadd C dX8_mostAlike_61 ?_
        refine cj_let h (fun y5 h => ?_)
        refine cj_istore C (lv' := [some (.ref (w.2.1 130)), some (.int x1), some (.int x2), some (.int x3), some (.int x4), some (.int x5), some (.int x6), some (.int z3), some (.int y5)]) dX8_mostAlike_62 (by decide) rfl rfl ?_
        refine cj_aload_n C (i := 0) dX8_mostAlike_64 rfl rfl ?_
        refine cj_getR C (d := 132) o_130 rfl gfX8_15 dX8_mostAlike_65 ?_
        refine cj_iload C dX8_mostAlike_68 rfl ?_
        refine cj_dup2 C dX8_mostAlike_70 rfl rfl ?_
        refine cj_iaload C o_132 h dX8_mostAlike_71 (fun h => ?_)
        refine cj_iconst C (v := (1 : Int32)) dX8_mostAlike_72 rfl ?_
        refine cj_iadd C dX8_mostAlike_73 ?_
        refine cj_iastore C o_132 h dX8_mostAlike_74 (fun h => ?_)
        refine cj_lets h (fun S6 h => ?_)
        refine cj_iload C dX8_mostAlike_75 rfl ?_
        refine cj_aload_n C (i := 0) dX8_mostAlike_77 rfl rfl ?_
        refine cj_getR C (d := 132) o_130 rfl gfX8_15 dX8_mostAlike_78 ?_
        refine cj_iload C dX8_mostAlike_81 rfl ?_
        refine cj_iaload C o_132 h dX8_mostAlike_83 (fun h => ?_)
        refine ck_mmax C mw_70_1 mw_12_13 mw_12_14 mw_12_15 (by decide) (Nat.le_of_ble_eq_true rfl) dX8_mostAlike_84 ?_
        refine cj_let h (fun y7 h => ?_)
        refine cj_istore C (lv' := [some (.ref (w.2.1 130)), some (.int x1), some (.int x2), some (.int x3), some (.int x4), some (.int y7), some (.int x6), some (.int z3), some (.int y5)]) dX8_mostAlike_87 (by decide) rfl rfl ?_
        refine cj_iinc C (v := (x6 + 1)) (lv' := [some (.ref (w.2.1 130)), some (.int x1), some (.int x2), some (.int x3), some (.int x4), some (.int y7), some (.int (x6 + 1)), some (.int z3), some (.int y5)]) dX8_mostAlike_89 rfl rfl (by decide) rfl rfl ?_
        refine cj_goto C (tgt := 14) dX8_mostAlike_92 rfl ?_
        refine cj_weak C (lv' := [some (.ref (w.2.1 130)), some (.int x1), some (.int x2), some (.int x3), some (.int x4), some (.int y7), some (.int (x6 + 1)), none, none]) (cpSub_s (cpSub_s (cpSub_s (cpSub_s (cpSub_s (cpSub_s (cpSub_s (cpSub_n (cpSub_n cpSub_nil))))))))) ?_
        exact ih y7 (x6 + 1) S6 h
def fX8_mostAlike (x1 : Int32) (x2 : Int32) (x3 : Int32) (x4 : Int32) (S : cpS) : Option (Int32 × cpS) :=
    cpB (fJ7_fill_53178 132 11 (0 : Int32) S) fun _ S2 =>
    fX8_mostAlike_14 x1 x2 x3 x4 cpFu (0 : Int32) (0 : Int32) S2
set_option maxRecDepth 100000 in
set_option maxHeartbeats 4000000 in
theorem m_X8_mostAlike (l : Launch) (w : cpW) (A : Nat → Prop) (x1 : Int32) (x2 : Int32) (x3 : Int32) (x4 : Int32) (S : cpS) (r : Int32 × cpS) (h : fX8_mostAlike x1 x2 x3 x4 S = some r) : cpMi l yX8_mostAlike cX8_mostAlike 9 ((some .int)) 5 w A [.ref (w.2.1 130), .int x1, .int x2, .int x3, .int x4] S r := by
  refine cpMi.of (lv := [some (.ref (w.2.1 130)), some (.int x1), some (.int x2), some (.int x3), some (.int x4), none, none, none, none]) (by decide) (Nat.le_of_ble_eq_true rfl) rfl (fun p e s m args below meth c C hr => ?_)
  replace C : cpCx p s m args meth c w A cX8_mostAlike RX8 9 := C
  rw [fX8_mostAlike] at h
  refine cj_aload_n C (i := 0) dX8_mostAlike_0 rfl rfl ?_
  refine cj_getR C (d := 132) o_130 rfl gfX8_15 dX8_mostAlike_1 ?_
  refine cj_iconst C (v := (0 : Int32)) dX8_mostAlike_4 rfl ?_
  refine cj_callSv C (As := [.ref (w.2.1 132), .int (0 : Int32)]) (rest := []) qJ7_fill_53178 mw_70_2 rfl rfl (Nat.le_of_ble_eq_true rfl) (by decide) dX8_mostAlike_5 h (fun _ _ hf => m_J7_fill_53178 l w A o_132 (0 : Int32) S _ hf) (fun z1 S2 h => ?_)
  refine cj_iconst C (v := (0 : Int32)) dX8_mostAlike_8 rfl ?_
  refine cj_istore C (lv' := [some (.ref (w.2.1 130)), some (.int x1), some (.int x2), some (.int x3), some (.int x4), some (.int (0 : Int32)), none, none, none]) dX8_mostAlike_9 (by decide) rfl rfl ?_
  refine cj_iconst C (v := (0 : Int32)) dX8_mostAlike_11 rfl ?_
  refine cj_istore C (lv' := [some (.ref (w.2.1 130)), some (.int x1), some (.int x2), some (.int x3), some (.int x4), some (.int (0 : Int32)), some (.int (0 : Int32)), none, none]) dX8_mostAlike_12 (by decide) rfl rfl ?_
  exact wX8_mostAlike_14 C hr x1 x2 x3 x4 cpFu (0 : Int32) (0 : Int32) S2 h
/-! X8_tellingPair -/
def fX8_tellingPair_10 (x1 : Int32) (x2 : Int32) (x3 : Int32) : Nat → Int32 → Int32 → Int32 → cpS → Option (Int32 × cpS)
  | 0, _, _, _, _ => none
  | n + 1, x4, x5, x6, S =>
    if (28 : Int32) ≤ x6 then (
    some (x4, S)) else (
    if cpIn x6 28 then (
    cpB (fX10_hasPerson 1 (cpOs x6.toNatClampNeg) S) fun z1 S2 =>
    if z1 = 0 then (
    fX8_tellingPair_10 x1 x2 x3 n x4 x5 (x6 + 1) S2) else (
    cpB (fX8_mostAlike x1 x6 x2 x3 S2) fun z3 S4 =>
    if x5 ≤ z3 then (
    fX8_tellingPair_10 x1 x2 x3 n x4 x5 (x6 + 1) S4) else (
    if cpIn x6 28 then (
    if cpIn x6 28 then (
    cpLt (((10 : Int32) * (cpLs x6.toNatClampNeg)) + (cpOs x6.toNatClampNeg)) fun y5 =>
    fX8_tellingPair_10 x1 x2 x3 n y5 z3 (x6 + 1) S4) else none) else none))) else none)
set_option maxRecDepth 100000 in
set_option maxHeartbeats 4000000 in
theorem wX8_tellingPair_10 (C : cpCx p s m args meth c w A cX8_tellingPair RX8 8) (hr : meth.sig.returnType = (some .int)) {r : Int32 × cpS} (x1 : Int32) (x2 : Int32) (x3 : Int32) : ∀ (n : Nat) (x4 : Int32) (x5 : Int32) (x6 : Int32) (S : cpS), fX8_tellingPair_10 x1 x2 x3 n x4 x5 x6 S = some r → cpJ p l e (cpRm 6) s m args below meth c (MQ below (va_Qi (fun x S' => (x, S') = r) (cpWorld w A) A) args s 0 0 A) w A 8 10 [some (.ref (w.2.1 130)), some (.int x1), some (.int x2), some (.int x3), some (.int x4), some (.int x5), some (.int x6), none] [] S := by
  intro n
  induction n with
  | zero => intro x4 x5 x6 S h; rw [fX8_tellingPair_10] at h; cases h
  | succ n ih =>
    intro x4 x5 x6 S h
    rw [fX8_tellingPair_10] at h
    refine cj_iload C dX8_tellingPair_10 rfl ?_
    refine cj_bipush C (v := (28 : Int32)) dX8_tellingPair_12 rfl ?_
    refine cj_icmp_ge C (tgt := 82) dX8_tellingPair_14 rfl h (fun _ h => ?_) (fun _ h => ?_)
    · refine cj_iload C dX8_tellingPair_82 rfl ?_
      exact cj_ireturn C hr h dX8_tellingPair_84
    · refine cj_aload_n C (i := 0) dX8_tellingPair_17 rfl rfl ?_
      refine cj_getR C (d := 117) o_130 rfl gfX8_32 dX8_tellingPair_18 ?_
      refine cj_getR C (d := 1) o_117 rfl gfX8_102 dX8_tellingPair_21 ?_
      refine cj_getsN1 C (List.mem_of_getElem? (i := 0) rfl) dX8_tellingPair_24 ?_
      refine cj_iload C dX8_tellingPair_27 rfl ?_
      refine cj_tab1 C h dX8_tellingPair_29 (fun h => ?_)
      refine cj_callVi C (As := [.int (cpOs x6.toNatClampNeg)]) (rest := []) qX10_hasPerson mw_69_20 o_1 rfl rfl rfl (Nat.le_of_ble_eq_true rfl) (by decide) dX8_tellingPair_30 h (fun _ _ hf => m_X10_hasPerson l w A kVy_1 (cpOs x6.toNatClampNeg) S _ hf) (fun z1 S2 h => ?_)
      refine cj_if_eq C (tgt := 76) dX8_tellingPair_33 rfl h (fun _ h => ?_) (fun _ h => ?_)
      · refine cj_iinc C (v := (x6 + 1)) (lv' := [some (.ref (w.2.1 130)), some (.int x1), some (.int x2), some (.int x3), some (.int x4), some (.int x5), some (.int (x6 + 1)), none]) dX8_tellingPair_76 rfl rfl (by decide) rfl rfl ?_
        refine cj_goto C (tgt := 10) dX8_tellingPair_79 rfl ?_
        exact ih x4 x5 (x6 + 1) S2 h
      · refine cj_aload_n C (i := 0) dX8_tellingPair_36 rfl rfl ?_
        refine cj_iload_n C (i := 1) dX8_tellingPair_37 rfl rfl ?_
        refine cj_iload C dX8_tellingPair_38 rfl ?_
        refine cj_iload_n C (i := 2) dX8_tellingPair_40 rfl rfl ?_
        refine cj_iload_n C (i := 3) dX8_tellingPair_41 rfl rfl ?_
        refine cj_callVi C (As := [.int x1, .int x6, .int x2, .int x3]) (rest := []) qX8_mostAlike mw_69_21 o_130 rfl rfl rfl (Nat.le_of_ble_eq_true rfl) (by decide) dX8_tellingPair_42 h (fun _ _ hf => m_X8_mostAlike l w A x1 x6 x2 x3 S2 _ hf) (fun z3 S4 h => ?_)
        refine cj_istore C (lv' := [some (.ref (w.2.1 130)), some (.int x1), some (.int x2), some (.int x3), some (.int x4), some (.int x5), some (.int x6), some (.int z3)]) dX8_tellingPair_45 (by decide) rfl rfl ?_
        refine cj_iload C dX8_tellingPair_47 rfl ?_
        refine cj_iload C dX8_tellingPair_49 rfl ?_
        refine cj_icmp_ge C (tgt := 76) dX8_tellingPair_51 rfl h (fun _ h => ?_) (fun _ h => ?_)
        · refine cj_iinc C (v := (x6 + 1)) (lv' := [some (.ref (w.2.1 130)), some (.int x1), some (.int x2), some (.int x3), some (.int x4), some (.int x5), some (.int (x6 + 1)), some (.int z3)]) dX8_tellingPair_76 rfl rfl (by decide) rfl rfl ?_
          refine cj_goto C (tgt := 10) dX8_tellingPair_79 rfl ?_
          refine cj_weak C (lv' := [some (.ref (w.2.1 130)), some (.int x1), some (.int x2), some (.int x3), some (.int x4), some (.int x5), some (.int (x6 + 1)), none]) (cpSub_s (cpSub_s (cpSub_s (cpSub_s (cpSub_s (cpSub_s (cpSub_s (cpSub_n cpSub_nil)))))))) ?_
          exact ih x4 x5 (x6 + 1) S4 h
        · refine cj_iload C dX8_tellingPair_54 rfl ?_
          refine cj_istore C (lv' := [some (.ref (w.2.1 130)), some (.int x1), some (.int x2), some (.int x3), some (.int x4), some (.int z3), some (.int x6), some (.int z3)]) dX8_tellingPair_56 (by decide) rfl rfl ?_
          refine cj_bipush C (v := (10 : Int32)) dX8_tellingPair_58 rfl ?_
          refine cj_getsN0 C (List.mem_of_getElem? (i := 1) rfl) dX8_tellingPair_60 ?_
          refine cj_iload C dX8_tellingPair_63 rfl ?_
          refine cj_tab0 C h dX8_tellingPair_65 (fun h => ?_)
          refine cj_imul C dX8_tellingPair_66 ?_
          refine cj_getsN1 C (List.mem_of_getElem? (i := 0) rfl) dX8_tellingPair_67 ?_
          refine cj_iload C dX8_tellingPair_70 rfl ?_
          refine cj_tab1 C h dX8_tellingPair_72 (fun h => ?_)
          refine cj_iadd C dX8_tellingPair_73 ?_
          refine cj_let h (fun y5 h => ?_)
          refine cj_istore C (lv' := [some (.ref (w.2.1 130)), some (.int x1), some (.int x2), some (.int x3), some (.int y5), some (.int z3), some (.int x6), some (.int z3)]) dX8_tellingPair_74 (by decide) rfl rfl ?_
          refine cj_iinc C (v := (x6 + 1)) (lv' := [some (.ref (w.2.1 130)), some (.int x1), some (.int x2), some (.int x3), some (.int y5), some (.int z3), some (.int (x6 + 1)), some (.int z3)]) dX8_tellingPair_76 rfl rfl (by decide) rfl rfl ?_
          refine cj_goto C (tgt := 10) dX8_tellingPair_79 rfl ?_
          refine cj_weak C (lv' := [some (.ref (w.2.1 130)), some (.int x1), some (.int x2), some (.int x3), some (.int y5), some (.int z3), some (.int (x6 + 1)), none]) (cpSub_s (cpSub_s (cpSub_s (cpSub_s (cpSub_s (cpSub_s (cpSub_s (cpSub_n cpSub_nil)))))))) ?_
          exact ih y5 z3 (x6 + 1) S4 h
def fX8_tellingPair (x1 : Int32) (x2 : Int32) (x3 : Int32) (S : cpS) : Option (Int32 × cpS) :=
    fX8_tellingPair_10 x1 x2 x3 cpFu (-1 : Int32) (11 : Int32) (0 : Int32) S
set_option maxRecDepth 100000 in
set_option maxHeartbeats 4000000 in
theorem m_X8_tellingPair (l : Launch) (w : cpW) (A : Nat → Prop) (x1 : Int32) (x2 : Int32) (x3 : Int32) (S : cpS) (r : Int32 × cpS) (h : fX8_tellingPair x1 x2 x3 S = some r) : cpMi l yX8_tellingPair cX8_tellingPair 8 ((some .int)) 6 w A [.ref (w.2.1 130), .int x1, .int x2, .int x3] S r := by
  refine cpMi.of (lv := [some (.ref (w.2.1 130)), some (.int x1), some (.int x2), some (.int x3), none, none, none, none]) (by decide) (Nat.le_of_ble_eq_true rfl) rfl (fun p e s m args below meth c C hr => ?_)
  replace C : cpCx p s m args meth c w A cX8_tellingPair RX8 8 := C
  rw [fX8_tellingPair] at h
  refine cj_iconst C (v := (-1 : Int32)) dX8_tellingPair_0 rfl ?_
  refine cj_istore C (lv' := [some (.ref (w.2.1 130)), some (.int x1), some (.int x2), some (.int x3), some (.int (-1 : Int32)), none, none, none]) dX8_tellingPair_1 (by decide) rfl rfl ?_
  refine cj_bipush C (v := (11 : Int32)) dX8_tellingPair_3 rfl ?_
  refine cj_istore C (lv' := [some (.ref (w.2.1 130)), some (.int x1), some (.int x2), some (.int x3), some (.int (-1 : Int32)), some (.int (11 : Int32)), none, none]) dX8_tellingPair_5 (by decide) rfl rfl ?_
  refine cj_iconst C (v := (0 : Int32)) dX8_tellingPair_7 rfl ?_
  refine cj_istore C (lv' := [some (.ref (w.2.1 130)), some (.int x1), some (.int x2), some (.int x3), some (.int (-1 : Int32)), some (.int (11 : Int32)), some (.int (0 : Int32)), none]) dX8_tellingPair_8 (by decide) rfl rfl ?_
  exact wX8_tellingPair_10 C hr x1 x2 x3 cpFu (-1 : Int32) (11 : Int32) (0 : Int32) S h
/-! X9_isMissing -/
def fX9_isMissing (v : Nat) (S : cpS) : Option (Int32 × cpS) :=
    if (S.1 v 2) = (-1 : Int32) then (
    some ((1 : Int32), S)) else (
    some ((0 : Int32), S))
set_option maxRecDepth 100000 in
set_option maxHeartbeats 4000000 in
theorem m_X9_isMissing (l : Launch) (w : cpW) (A : Nat → Prop) {v : Nat} (hv : cpTy v) (S : cpS) (r : Int32 × cpS) (h : fX9_isMissing v S = some r) : cpMi l yX9_isMissing cX9_isMissing 1 ((some .boolean)) 0 w A [.ref (w.2.1 v)] S r := by
  refine cpMi.of (lv := [some (.ref (w.2.1 v))]) (by decide) (Nat.le_of_ble_eq_true rfl) rfl (fun p e s m args below meth c C hr => ?_)
  replace C : cpCx p s m args meth c w A cX9_isMissing RX9 1 := C
  rw [fX9_isMissing] at h
  refine cj_aload_n C (i := 0) dX9_isMissing_0 rfl rfl ?_
  refine cj_getI C (j := 2) (cpTy_o0 hv) rfl gfX9_15 dX9_isMissing_1 ?_
  refine cj_iconst C (v := (-1 : Int32)) dX9_isMissing_4 rfl ?_
  refine cj_icmp_ne C (tgt := 12) dX9_isMissing_5 rfl h (fun _ h => ?_) (fun _ h => ?_)
  · refine cj_iconst C (v := (1 : Int32)) dX9_isMissing_8 rfl ?_
    refine cj_goto C (tgt := 13) dX9_isMissing_9 rfl ?_
    exact cj_zreturn C hr rfl h dX9_isMissing_13
  · refine cj_iconst C (v := (0 : Int32)) dX9_isMissing_12 rfl ?_
    exact cj_zreturn C hr rfl h dX9_isMissing_13
/-! X9_renew -/
def fX9_renew (v : Nat) (x1 : Int32) (x2 : Int32) (S : cpS) : Option (Unit × cpS) :=
    cpLt (cpI S v 2 x1) fun S1 =>
    cpLt (cpI S1 v 1 x2) fun S2 =>
    cpB (fJ7_fill_d0a16 (v + 1) 40 (0 : Int64) S2) fun _ S4 =>
    some ((), S4)
set_option maxRecDepth 100000 in
set_option maxHeartbeats 4000000 in
theorem m_X9_renew (l : Launch) (w : cpW) (A : Nat → Prop) {v : Nat} (hv : cpTy v) (x1 : Int32) (x2 : Int32) (S : cpS) (r : Unit × cpS) (h : fX9_renew v x1 x2 S = some r) : cpMv l yX9_renew cX9_renew 3 (none) 1 w A [.ref (w.2.1 v), .int x1, .int x2] S r := by
  refine cpMv.of (lv := [some (.ref (w.2.1 v)), some (.int x1), some (.int x2)]) (by decide) (Nat.le_of_ble_eq_true rfl) rfl (fun p e s m args below meth c C hr => ?_)
  replace C : cpCx p s m args meth c w A cX9_renew RX9 3 := C
  rw [fX9_renew] at h
  refine cj_aload_n C (i := 0) dX9_renew_0 rfl rfl ?_
  refine cj_iload_n C (i := 1) dX9_renew_1 rfl rfl ?_
  refine cj_put C (j := 2) (cpTy_o0 hv) rfl pfX9_15 rfl rfl dX9_renew_2 ?_
  refine cj_lets h (fun S1 h => ?_)
  refine cj_aload_n C (i := 0) dX9_renew_5 rfl rfl ?_
  refine cj_iload_n C (i := 2) dX9_renew_6 rfl rfl ?_
  refine cj_put C (j := 1) (cpTy_o0 hv) rfl pfX9_19 rfl rfl dX9_renew_7 ?_
  refine cj_lets h (fun S2 h => ?_)
  refine cj_aload_n C (i := 0) dX9_renew_10 rfl rfl ?_
  refine cj_getR C (d := (v + 1)) (cpTy_o0 hv) rfl gfX9_9 dX9_renew_11 ?_
  refine cj_lconst C (v := (0 : Int64)) dX9_renew_14 rfl ?_
  refine cj_callSv C (As := [.ref (w.2.1 (v + 1)), .long (0 : Int64)]) (rest := []) qJ7_fill_d0a16 mw_75_21 rfl rfl (Nat.le_of_ble_eq_true rfl) (by decide) dX9_renew_15 h (fun _ _ hf => m_J7_fill_d0a16 l w A (cpTy_o1 hv) (0 : Int64) S2 _ hf) (fun z3 S4 h => ?_)
  exact cj_vreturn C hr h dX9_renew_18
/-! X9_cut -/
def fX9_cut (v : Nat) (x1 : Int64) (S : cpS) : Option (Int64 × cpS) :=
    if (S.1 v 2) = (0 : Int32) then (
    some ((Int32.toInt64 (cpi2b (Int64.toInt32 x1))), S)) else (if (S.1 v 2) = (1 : Int32) then (
    some ((Int32.toInt64 (cpi2s (Int64.toInt32 x1))), S)) else (if (S.1 v 2) = (2 : Int32) then (
    some ((Int32.toInt64 (Int64.toInt32 x1)), S)) else (
    some (x1, S))))
set_option maxRecDepth 100000 in
set_option maxHeartbeats 4000000 in
theorem m_X9_cut (l : Launch) (w : cpW) (A : Nat → Prop) {v : Nat} (hv : cpTy v) (x1 : Int64) (S : cpS) (r : Int64 × cpS) (h : fX9_cut v x1 S = some r) : cpMl l yX9_cut cX9_cut 3 ((some .long)) 0 w A [.ref (w.2.1 v), .long x1] S r := by
  refine cpMl.of (lv := [some (.ref (w.2.1 v)), some (.long x1), none]) (by decide) (Nat.le_of_ble_eq_true rfl) rfl (fun p e s m args below meth c C hr => ?_)
  replace C : cpCx p s m args meth c w A cX9_cut RX9 3 := C
  rw [fX9_cut] at h
  refine cj_aload_n C (i := 0) dX9_cut_0 rfl rfl ?_
  refine cj_getI C (j := 2) (cpTy_o0 hv) rfl gfX9_15 dX9_cut_1 ?_
  by_cases hs0 : (S.1 v 2) = (0 : Int32)
  · rw [if_pos hs0] at h
    refine cj_tableIn C (tgt := 32) dX9_cut_4 (by rw [hs0]; decide) (by rw [hs0]; decide) (by rw [hs0]; rfl) rfl ?_
    refine cj_lload_n C (i := 1) dX9_cut_32 rfl rfl ?_
    refine cj_l2i C dX9_cut_33 ?_
    refine ck_i2b C dX9_cut_34 ?_
    refine cj_i2l C dX9_cut_35 ?_
    exact cj_lreturn C hr h dX9_cut_36
  rw [if_neg hs0] at h
  by_cases hs1 : (S.1 v 2) = (1 : Int32)
  · rw [if_pos hs1] at h
    refine cj_tableIn C (tgt := 37) dX9_cut_4 (by rw [hs1]; decide) (by rw [hs1]; decide) (by rw [hs1]; rfl) rfl ?_
    refine cj_lload_n C (i := 1) dX9_cut_37 rfl rfl ?_
    refine cj_l2i C dX9_cut_38 ?_
    refine ck_i2s C dX9_cut_39 ?_
    refine cj_i2l C dX9_cut_40 ?_
    exact cj_lreturn C hr h dX9_cut_41
  rw [if_neg hs1] at h
  by_cases hs2 : (S.1 v 2) = (2 : Int32)
  · rw [if_pos hs2] at h
    refine cj_tableIn C (tgt := 42) dX9_cut_4 (by rw [hs2]; decide) (by rw [hs2]; decide) (by rw [hs2]; rfl) rfl ?_
    refine cj_lload_n C (i := 1) dX9_cut_42 rfl rfl ?_
    refine cj_l2i C dX9_cut_43 ?_
    refine cj_i2l C dX9_cut_44 ?_
    exact cj_lreturn C hr h dX9_cut_45
  rw [if_neg hs2] at h
  refine cj_tableOut C (tgt := 46) dX9_cut_4 (cpOut (by decide) (by decide) (fun k h1 h2 => ?_)) rfl ?_
  · rcases (show k = 0 ∨ k = 1 ∨ k = 2 by omega) with rfl | rfl | rfl
    · exact hs0
    · exact hs1
    · exact hs2
  · refine cj_lload_n C (i := 1) dX9_cut_46 rfl rfl ?_
    exact cj_lreturn C hr h dX9_cut_47
/-! X9_put -/
def fX9_put (v : Nat) (x1 : Int32) (x2 : Int64) (S : cpS) : Option (Int64 × cpS) :=
    cpB (fX9_cut v x2 S) fun z1 S2 =>
    if cpIn x1 40 then (
    cpLt (cpL S2 (v + 1) x1.toNatClampNeg z1) fun S3 =>
    if cpIn x1 40 then (
    some ((S3.2 (v + 1) x1.toNatClampNeg), S3)) else none) else none
set_option maxRecDepth 100000 in
set_option maxHeartbeats 4000000 in
theorem m_X9_put (l : Launch) (w : cpW) (A : Nat → Prop) {v : Nat} (hv : cpTy v) (x1 : Int32) (x2 : Int64) (S : cpS) (r : Int64 × cpS) (h : fX9_put v x1 x2 S = some r) : cpMl l yX9_put cX9_put 4 ((some .long)) 1 w A [.ref (w.2.1 v), .int x1, .long x2] S r := by
  refine cpMl.of (lv := [some (.ref (w.2.1 v)), some (.int x1), some (.long x2), none]) (by decide) (Nat.le_of_ble_eq_true rfl) rfl (fun p e s m args below meth c C hr => ?_)
  replace C : cpCx p s m args meth c w A cX9_put RX9 4 := C
  rw [fX9_put] at h
  refine cj_aload_n C (i := 0) dX9_put_0 rfl rfl ?_
  refine cj_getR C (d := (v + 1)) (cpTy_o0 hv) rfl gfX9_9 dX9_put_1 ?_
  refine cj_iload_n C (i := 1) dX9_put_4 rfl rfl ?_
  refine cj_aload_n C (i := 0) dX9_put_5 rfl rfl ?_
  refine cj_lload_n C (i := 2) dX9_put_6 rfl rfl ?_
  refine cj_callVl C (As := [.long x2]) (rest := [.int x1, .ref (w.2.1 (v + 1))]) qX9_cut mw_76_12 (cpTy_o0 hv) rfl rfl rfl (Nat.le_of_ble_eq_true rfl) (by decide) dX9_put_7 h (fun _ _ hf => m_X9_cut l w A hv x2 S _ hf) (fun z1 S2 h => ?_)
  refine cj_lastore C (cpTy_o1 hv) h dX9_put_10 (fun h => ?_)
  refine cj_lets h (fun S3 h => ?_)
  refine cj_aload_n C (i := 0) dX9_put_11 rfl rfl ?_
  refine cj_getR C (d := (v + 1)) (cpTy_o0 hv) rfl gfX9_9 dX9_put_12 ?_
  refine cj_iload_n C (i := 1) dX9_put_15 rfl rfl ?_
  refine cj_laload C (cpTy_o1 hv) h dX9_put_16 (fun h => ?_)
  exact cj_lreturn C hr h dX9_put_17
/-! X9_rowCode -/
def fX9_rowCode (v : Nat) (S : cpS) : Option (Int32 × cpS) :=
    cpB (fX9_isMissing v S) fun z1 S2 =>
    if z1 = 0 then (
    if (S2.1 v 1) < (1 : Int32) then (
    some ((-4 : Int32), S2)) else (
    if (S2.1 v 1) ≤ (8 : Int32) then (
    some ((0 : Int32), S2)) else (
    some ((-4 : Int32), S2)))) else (
    some ((-6 : Int32), S2))
set_option maxRecDepth 100000 in
set_option maxHeartbeats 4000000 in
theorem m_X9_rowCode (l : Launch) (w : cpW) (A : Nat → Prop) {v : Nat} (hv : cpTy v) (S : cpS) (r : Int32 × cpS) (h : fX9_rowCode v S = some r) : cpMi l yX9_rowCode cX9_rowCode 1 ((some .int)) 1 w A [.ref (w.2.1 v)] S r := by
  refine cpMi.of (lv := [some (.ref (w.2.1 v))]) (by decide) (Nat.le_of_ble_eq_true rfl) rfl (fun p e s m args below meth c C hr => ?_)
  replace C : cpCx p s m args meth c w A cX9_rowCode RX9 1 := C
  rw [fX9_rowCode] at h
  refine cj_aload_n C (i := 0) dX9_rowCode_0 rfl rfl ?_
  refine cj_callVi C (As := []) (rest := []) qX9_isMissing mw_64_3 (cpTy_o0 hv) rfl rfl rfl (Nat.le_of_ble_eq_true rfl) (by decide) dX9_rowCode_1 h (fun _ _ hf => m_X9_isMissing l w A hv S _ hf) (fun z1 S2 h => ?_)
  refine cj_if_eq C (tgt := 10) dX9_rowCode_4 rfl h (fun _ h => ?_) (fun _ h => ?_)
  · refine cj_aload_n C (i := 0) dX9_rowCode_10 rfl rfl ?_
    refine cj_getI C (j := 1) (cpTy_o0 hv) rfl gfX9_19 dX9_rowCode_11 ?_
    refine cj_iconst C (v := (1 : Int32)) dX9_rowCode_14 rfl ?_
    refine cj_icmp_lt C (tgt := 27) dX9_rowCode_15 rfl h (fun _ h => ?_) (fun _ h => ?_)
    · refine cj_bipush C (v := (-4 : Int32)) dX9_rowCode_27 rfl ?_
      refine cj_goto C (tgt := 33) dX9_rowCode_29 rfl ?_
      exact cj_ireturn C hr h dX9_rowCode_33
    · refine cj_aload_n C (i := 0) dX9_rowCode_18 rfl rfl ?_
      refine cj_getI C (j := 1) (cpTy_o0 hv) rfl gfX9_19 dX9_rowCode_19 ?_
      refine cj_bipush C (v := (8 : Int32)) dX9_rowCode_22 rfl ?_
      refine cj_icmp_le C (tgt := 32) dX9_rowCode_24 rfl h (fun _ h => ?_) (fun _ h => ?_)
      · refine cj_iconst C (v := (0 : Int32)) dX9_rowCode_32 rfl ?_
        exact cj_ireturn C hr h dX9_rowCode_33
      · refine cj_bipush C (v := (-4 : Int32)) dX9_rowCode_27 rfl ?_
        refine cj_goto C (tgt := 33) dX9_rowCode_29 rfl ?_
        exact cj_ireturn C hr h dX9_rowCode_33
  · refine cj_bipush C (v := (-6 : Int32)) dX9_rowCode_7 rfl ?_
    exact cj_ireturn C hr h dX9_rowCode_9
/-! X9_allBetween -/
def fX9_allBetween_2 (v : Nat) (x1 : Int32) (x2 : Int32) : Nat → Int32 → cpS → Option (Int32 × cpS)
  | 0, _, _ => none
  | n + 1, x3, S =>
    if (S.1 v 1) ≤ x3 then (
    some ((1 : Int32), S)) else (
    if cpIn x3 40 then (
    if (lg_cmp (S.2 (v + 1) x3.toNatClampNeg) (Int32.toInt64 x1)) < 0 then (
    some ((0 : Int32), S)) else (
    if cpIn x3 40 then (
    if (lg_cmp (S.2 (v + 1) x3.toNatClampNeg) (Int32.toInt64 x2)) ≤ 0 then (
    fX9_allBetween_2 v x1 x2 n (x3 + 1) S) else (
    some ((0 : Int32), S))) else none)) else none)
set_option maxRecDepth 100000 in
set_option maxHeartbeats 4000000 in
theorem wX9_allBetween_2 (C : cpCx p s m args meth c w A cX9_allBetween RX9 4) (hr : meth.sig.returnType = (some .boolean)) {r : Int32 × cpS} {v : Nat} (hv : cpTy v) (x1 : Int32) (x2 : Int32) : ∀ (n : Nat) (x3 : Int32) (S : cpS), fX9_allBetween_2 v x1 x2 n x3 S = some r → cpJ p l e (cpRm 0) s m args below meth c (MQ below (va_Qi (fun x S' => (x, S') = r) (cpWorld w A) A) args s 0 0 A) w A 4 2 [some (.ref (w.2.1 v)), some (.int x1), some (.int x2), some (.int x3)] [] S := by
  intro n
  induction n with
  | zero => intro x3 S h; rw [fX9_allBetween_2] at h; cases h
  | succ n ih =>
    intro x3 S h
    rw [fX9_allBetween_2] at h
    refine cj_iload_n C (i := 3) dX9_allBetween_2 rfl rfl ?_
    refine cj_aload_n C (i := 0) dX9_allBetween_3 rfl rfl ?_
    refine cj_getI C (j := 1) (cpTy_o0 hv) rfl gfX9_19 dX9_allBetween_4 ?_
    refine cj_icmp_ge C (tgt := 42) dX9_allBetween_7 rfl h (fun _ h => ?_) (fun _ h => ?_)
    · refine cj_iconst C (v := (1 : Int32)) dX9_allBetween_42 rfl ?_
      exact cj_zreturn C hr rfl h dX9_allBetween_43
    · refine cj_aload_n C (i := 0) dX9_allBetween_10 rfl rfl ?_
      refine cj_getR C (d := (v + 1)) (cpTy_o0 hv) rfl gfX9_9 dX9_allBetween_11 ?_
      refine cj_iload_n C (i := 3) dX9_allBetween_14 rfl rfl ?_
      refine cj_laload C (cpTy_o1 hv) h dX9_allBetween_15 (fun h => ?_)
      refine cj_iload_n C (i := 1) dX9_allBetween_16 rfl rfl ?_
      refine cj_i2l C dX9_allBetween_17 ?_
      refine cj_lcmp C dX9_allBetween_18 ?_
      refine cj_if_lt C (tgt := 34) dX9_allBetween_19 rfl h (fun _ h => ?_) (fun _ h => ?_)
      · refine cj_iconst C (v := (0 : Int32)) dX9_allBetween_34 rfl ?_
        exact cj_zreturn C hr rfl h dX9_allBetween_35
      · refine cj_aload_n C (i := 0) dX9_allBetween_22 rfl rfl ?_
        refine cj_getR C (d := (v + 1)) (cpTy_o0 hv) rfl gfX9_9 dX9_allBetween_23 ?_
        refine cj_iload_n C (i := 3) dX9_allBetween_26 rfl rfl ?_
        refine cj_laload C (cpTy_o1 hv) h dX9_allBetween_27 (fun h => ?_)
        refine cj_iload_n C (i := 2) dX9_allBetween_28 rfl rfl ?_
        refine cj_i2l C dX9_allBetween_29 ?_
        refine cj_lcmp C dX9_allBetween_30 ?_
        refine cj_if_le C (tgt := 36) dX9_allBetween_31 rfl h (fun _ h => ?_) (fun _ h => ?_)
        · refine cj_iinc C (v := (x3 + 1)) (lv' := [some (.ref (w.2.1 v)), some (.int x1), some (.int x2), some (.int (x3 + 1))]) dX9_allBetween_36 rfl rfl (by decide) rfl rfl ?_
          refine cj_goto C (tgt := 2) dX9_allBetween_39 rfl ?_
          exact ih (x3 + 1) S h
        · refine cj_iconst C (v := (0 : Int32)) dX9_allBetween_34 rfl ?_
          exact cj_zreturn C hr rfl h dX9_allBetween_35
def fX9_allBetween (v : Nat) (x1 : Int32) (x2 : Int32) (S : cpS) : Option (Int32 × cpS) :=
    fX9_allBetween_2 v x1 x2 cpFu (0 : Int32) S
set_option maxRecDepth 100000 in
set_option maxHeartbeats 4000000 in
theorem m_X9_allBetween (l : Launch) (w : cpW) (A : Nat → Prop) {v : Nat} (hv : cpTy v) (x1 : Int32) (x2 : Int32) (S : cpS) (r : Int32 × cpS) (h : fX9_allBetween v x1 x2 S = some r) : cpMi l yX9_allBetween cX9_allBetween 4 ((some .boolean)) 0 w A [.ref (w.2.1 v), .int x1, .int x2] S r := by
  refine cpMi.of (lv := [some (.ref (w.2.1 v)), some (.int x1), some (.int x2), none]) (by decide) (Nat.le_of_ble_eq_true rfl) rfl (fun p e s m args below meth c C hr => ?_)
  replace C : cpCx p s m args meth c w A cX9_allBetween RX9 4 := C
  rw [fX9_allBetween] at h
  refine cj_iconst C (v := (0 : Int32)) dX9_allBetween_0 rfl ?_
  refine cj_istore_n C (i := 3) (lv' := [some (.ref (w.2.1 v)), some (.int x1), some (.int x2), some (.int (0 : Int32))]) dX9_allBetween_1 rfl (by decide) rfl rfl ?_
  exact wX9_allBetween_2 C hr hv x1 x2 cpFu (0 : Int32) S h
/-! X10_copyFrom -/
def fX10_copyFrom (v : Nat) (k1 : Nat) (S : cpS) : Option (Unit × cpS) :=
    cpLt (cpI S v 0 (S.1 k1 0)) fun S1 =>
    cpLt (cpI S1 v 1 (S1.1 k1 1)) fun S2 =>
    cpLt (cpI S2 v 2 (S2.1 k1 2)) fun S3 =>
    cpLt (cpI S3 v 3 (S3.1 k1 3)) fun S4 =>
    cpLt (cpI S4 v 7 (S4.1 k1 7)) fun S5 =>
    cpLt (cpI S5 v 11 (S5.1 k1 11)) fun S6 =>
    cpLt (cpRI S6 (v + 1) (va_cpy (S6.1 (k1 + 1)) (S6.1 (v + 1)) 0 0 9)) fun S7 =>
    cpLt (cpRI S7 (v + 2) (va_cpy (S7.1 (k1 + 2)) (S7.1 (v + 2)) 0 0 9)) fun S8 =>
    cpLt (cpRI S8 (v + 3) (va_cpy (S8.1 (k1 + 3)) (S8.1 (v + 3)) 0 0 9)) fun S9 =>
    cpLt (cpRI S9 (v + 4) (va_cpy (S9.1 (k1 + 4)) (S9.1 (v + 4)) 0 0 8)) fun S10 =>
    cpLt (cpRI S10 (v + 5) (va_cpy (S10.1 (k1 + 5)) (S10.1 (v + 5)) 0 0 8)) fun S11 =>
    cpLt (cpRI S11 (v + 6) (va_cpy (S11.1 (k1 + 6)) (S11.1 (v + 6)) 0 0 8)) fun S12 =>
    cpLt (cpRI S12 (v + 7) (va_cpy (S12.1 (k1 + 7)) (S12.1 (v + 7)) 0 0 4)) fun S13 =>
    cpLt (cpRI S13 (v + 8) (va_cpy (S13.1 (k1 + 8)) (S13.1 (v + 8)) 0 0 4)) fun S14 =>
    cpLt (cpRI S14 (v + 9) (va_cpy (S14.1 (k1 + 9)) (S14.1 (v + 9)) 0 0 4)) fun S15 =>
    cpLt (cpRI S15 (v + 10) (va_cpy (S15.1 (k1 + 10)) (S15.1 (v + 10)) 0 0 36)) fun S16 =>
    cpB (fX3_copyFrom (v + 11) (k1 + 11) S16) fun _ S18 =>
    some ((), S18)
set_option maxRecDepth 100000 in
set_option maxHeartbeats 4000000 in
theorem m_X10_copyFrom (l : Launch) (w : cpW) (A : Nat → Prop) {v : Nat} (hv : cpVy v) {k1 : Nat} (hk1 : cpVy k1) (S : cpS) (r : Unit × cpS) (h : fX10_copyFrom v k1 S = some r) : cpMv l yX10_copyFrom cX10_copyFrom 2 (none) 2 w A [.ref (w.2.1 v), .ref (w.2.1 k1)] S r := by
  refine cpMv.of (lv := [some (.ref (w.2.1 v)), some (.ref (w.2.1 k1))]) (by decide) (Nat.le_of_ble_eq_true rfl) rfl (fun p e s m args below meth c C hr => ?_)
  replace C : cpCx p s m args meth c w A cX10_copyFrom RX10 2 := C
  rw [fX10_copyFrom] at h
  refine cj_aload_n C (i := 0) dX10_copyFrom_0 rfl rfl ?_
  refine cj_aload_n C (i := 1) dX10_copyFrom_1 rfl rfl ?_
  refine cj_getI C (j := 0) (cpVy_o0 hk1) rfl gfX10_9 dX10_copyFrom_2 ?_
  refine cj_put C (j := 0) (cpVy_o0 hv) rfl pfX10_9 rfl rfl dX10_copyFrom_5 ?_
  refine cj_lets h (fun S1 h => ?_)
  refine cj_aload_n C (i := 0) dX10_copyFrom_8 rfl rfl ?_
  refine cj_aload_n C (i := 1) dX10_copyFrom_9 rfl rfl ?_
  refine cj_getI C (j := 1) (cpVy_o0 hk1) rfl gfX10_53 dX10_copyFrom_10 ?_
  refine cj_put C (j := 1) (cpVy_o0 hv) rfl pfX10_53 rfl rfl dX10_copyFrom_13 ?_
  refine cj_lets h (fun S2 h => ?_)
  refine cj_aload_n C (i := 0) dX10_copyFrom_16 rfl rfl ?_
  refine cj_aload_n C (i := 1) dX10_copyFrom_17 rfl rfl ?_
  refine cj_getI C (j := 2) (cpVy_o0 hk1) rfl gfX10_56 dX10_copyFrom_18 ?_
  refine cj_put C (j := 2) (cpVy_o0 hv) rfl pfX10_56 rfl rfl dX10_copyFrom_21 ?_
  refine cj_lets h (fun S3 h => ?_)
  refine cj_aload_n C (i := 0) dX10_copyFrom_24 rfl rfl ?_
  refine cj_aload_n C (i := 1) dX10_copyFrom_25 rfl rfl ?_
  refine cj_getI C (j := 3) (cpVy_o0 hk1) rfl gfX10_59 dX10_copyFrom_26 ?_
  refine cj_put C (j := 3) (cpVy_o0 hv) rfl pfX10_59 rfl rfl dX10_copyFrom_29 ?_
  refine cj_lets h (fun S4 h => ?_)
  refine cj_aload_n C (i := 0) dX10_copyFrom_32 rfl rfl ?_
  refine cj_aload_n C (i := 1) dX10_copyFrom_33 rfl rfl ?_
  refine cj_getI C (j := 7) (cpVy_o0 hk1) rfl gfX10_62 dX10_copyFrom_34 ?_
  refine cj_put C (j := 7) (cpVy_o0 hv) rfl pfX10_62 rfl rfl dX10_copyFrom_37 ?_
  refine cj_lets h (fun S5 h => ?_)
  refine cj_aload_n C (i := 0) dX10_copyFrom_40 rfl rfl ?_
  refine cj_aload_n C (i := 1) dX10_copyFrom_41 rfl rfl ?_
  refine cj_getI C (j := 11) (cpVy_o0 hk1) rfl gfX10_65 dX10_copyFrom_42 ?_
  refine cj_put C (j := 11) (cpVy_o0 hv) rfl pfX10_65 rfl rfl dX10_copyFrom_45 ?_
  refine cj_lets h (fun S6 h => ?_)
  refine cj_aload_n C (i := 1) dX10_copyFrom_48 rfl rfl ?_
  refine cj_getR C (d := (k1 + 1)) (cpVy_o0 hk1) rfl gfX10_15 dX10_copyFrom_49 ?_
  refine cj_iconst C (v := (0 : Int32)) dX10_copyFrom_52 rfl ?_
  refine cj_aload_n C (i := 0) dX10_copyFrom_53 rfl rfl ?_
  refine cj_getR C (d := (v + 1)) (cpVy_o0 hv) rfl gfX10_15 dX10_copyFrom_54 ?_
  refine cj_iconst C (v := (0 : Int32)) dX10_copyFrom_57 rfl ?_
  refine cj_bipush C (v := (9 : Int32)) dX10_copyFrom_58 rfl ?_
  refine ck_copyi C (sp' := 0) (dp' := 0) (n' := 9) (cpVy_o1 hk1) (cpVy_o1 hv) mw_22_4 mw_22_5 mw_22_6 mw_22_7 (by decide) (by decide) (by decide) (by decide) (by decide) rfl rfl rfl (by decide) (Nat.le_of_ble_eq_true rfl) dX10_copyFrom_60 ?_
  refine cj_lets h (fun S7 h => ?_)
  refine cj_aload_n C (i := 1) dX10_copyFrom_63 rfl rfl ?_
  refine cj_getR C (d := (k1 + 2)) (cpVy_o0 hk1) rfl gfX10_19 dX10_copyFrom_64 ?_
  refine cj_iconst C (v := (0 : Int32)) dX10_copyFrom_67 rfl ?_
  refine cj_aload_n C (i := 0) dX10_copyFrom_68 rfl rfl ?_
  refine cj_getR C (d := (v + 2)) (cpVy_o0 hv) rfl gfX10_19 dX10_copyFrom_69 ?_
  refine cj_iconst C (v := (0 : Int32)) dX10_copyFrom_72 rfl ?_
  refine cj_bipush C (v := (9 : Int32)) dX10_copyFrom_73 rfl ?_
  refine ck_copyi C (sp' := 0) (dp' := 0) (n' := 9) (cpVy_o2 hk1) (cpVy_o2 hv) mw_22_4 mw_22_5 mw_22_6 mw_22_7 (by decide) (by decide) (by decide) (by decide) (by decide) rfl rfl rfl (by decide) (Nat.le_of_ble_eq_true rfl) dX10_copyFrom_75 ?_
  refine cj_lets h (fun S8 h => ?_)
  refine cj_aload_n C (i := 1) dX10_copyFrom_78 rfl rfl ?_
  refine cj_getR C (d := (k1 + 3)) (cpVy_o0 hk1) rfl gfX10_22 dX10_copyFrom_79 ?_
  refine cj_iconst C (v := (0 : Int32)) dX10_copyFrom_82 rfl ?_
  refine cj_aload_n C (i := 0) dX10_copyFrom_83 rfl rfl ?_
  refine cj_getR C (d := (v + 3)) (cpVy_o0 hv) rfl gfX10_22 dX10_copyFrom_84 ?_
  refine cj_iconst C (v := (0 : Int32)) dX10_copyFrom_87 rfl ?_
  refine cj_bipush C (v := (9 : Int32)) dX10_copyFrom_88 rfl ?_
  refine ck_copyi C (sp' := 0) (dp' := 0) (n' := 9) (cpVy_o3 hk1) (cpVy_o3 hv) mw_22_4 mw_22_5 mw_22_6 mw_22_7 (by decide) (by decide) (by decide) (by decide) (by decide) rfl rfl rfl (by decide) (Nat.le_of_ble_eq_true rfl) dX10_copyFrom_90 ?_
  refine cj_lets h (fun S9 h => ?_)
  refine cj_aload_n C (i := 1) dX10_copyFrom_93 rfl rfl ?_
  refine cj_getR C (d := (k1 + 4)) (cpVy_o0 hk1) rfl gfX10_25 dX10_copyFrom_94 ?_
  refine cj_iconst C (v := (0 : Int32)) dX10_copyFrom_97 rfl ?_
  refine cj_aload_n C (i := 0) dX10_copyFrom_98 rfl rfl ?_
  refine cj_getR C (d := (v + 4)) (cpVy_o0 hv) rfl gfX10_25 dX10_copyFrom_99 ?_
  refine cj_iconst C (v := (0 : Int32)) dX10_copyFrom_102 rfl ?_
  refine cj_bipush C (v := (8 : Int32)) dX10_copyFrom_103 rfl ?_
  refine ck_copyi C (sp' := 0) (dp' := 0) (n' := 8) (cpVy_o4 hk1) (cpVy_o4 hv) mw_22_4 mw_22_5 mw_22_6 mw_22_7 (by decide) (by decide) (by decide) (by decide) (by decide) rfl rfl rfl (by decide) (Nat.le_of_ble_eq_true rfl) dX10_copyFrom_105 ?_
  refine cj_lets h (fun S10 h => ?_)
  refine cj_aload_n C (i := 1) dX10_copyFrom_108 rfl rfl ?_
  refine cj_getR C (d := (k1 + 5)) (cpVy_o0 hk1) rfl gfX10_28 dX10_copyFrom_109 ?_
  refine cj_iconst C (v := (0 : Int32)) dX10_copyFrom_112 rfl ?_
  refine cj_aload_n C (i := 0) dX10_copyFrom_113 rfl rfl ?_
  refine cj_getR C (d := (v + 5)) (cpVy_o0 hv) rfl gfX10_28 dX10_copyFrom_114 ?_
  refine cj_iconst C (v := (0 : Int32)) dX10_copyFrom_117 rfl ?_
  refine cj_bipush C (v := (8 : Int32)) dX10_copyFrom_118 rfl ?_
  refine ck_copyi C (sp' := 0) (dp' := 0) (n' := 8) (cpVy_o5 hk1) (cpVy_o5 hv) mw_22_4 mw_22_5 mw_22_6 mw_22_7 (by decide) (by decide) (by decide) (by decide) (by decide) rfl rfl rfl (by decide) (Nat.le_of_ble_eq_true rfl) dX10_copyFrom_120 ?_
  refine cj_lets h (fun S11 h => ?_)
  refine cj_aload_n C (i := 1) dX10_copyFrom_123 rfl rfl ?_
  refine cj_getR C (d := (k1 + 6)) (cpVy_o0 hk1) rfl gfX10_31 dX10_copyFrom_124 ?_
  refine cj_iconst C (v := (0 : Int32)) dX10_copyFrom_127 rfl ?_
  refine cj_aload_n C (i := 0) dX10_copyFrom_128 rfl rfl ?_
  refine cj_getR C (d := (v + 6)) (cpVy_o0 hv) rfl gfX10_31 dX10_copyFrom_129 ?_
  refine cj_iconst C (v := (0 : Int32)) dX10_copyFrom_132 rfl ?_
  refine cj_bipush C (v := (8 : Int32)) dX10_copyFrom_133 rfl ?_
  refine ck_copyi C (sp' := 0) (dp' := 0) (n' := 8) (cpVy_o6 hk1) (cpVy_o6 hv) mw_22_4 mw_22_5 mw_22_6 mw_22_7 (by decide) (by decide) (by decide) (by decide) (by decide) rfl rfl rfl (by decide) (Nat.le_of_ble_eq_true rfl) dX10_copyFrom_135 ?_
  refine cj_lets h (fun S12 h => ?_)
  refine cj_aload_n C (i := 1) dX10_copyFrom_138 rfl rfl ?_
  refine cj_getR C (d := (k1 + 7)) (cpVy_o0 hk1) rfl gfX10_34 dX10_copyFrom_139 ?_
  refine cj_iconst C (v := (0 : Int32)) dX10_copyFrom_142 rfl ?_
  refine cj_aload_n C (i := 0) dX10_copyFrom_143 rfl rfl ?_
  refine cj_getR C (d := (v + 7)) (cpVy_o0 hv) rfl gfX10_34 dX10_copyFrom_144 ?_
  refine cj_iconst C (v := (0 : Int32)) dX10_copyFrom_147 rfl ?_
  refine cj_iconst C (v := (4 : Int32)) dX10_copyFrom_148 rfl ?_
  refine ck_copyi C (sp' := 0) (dp' := 0) (n' := 4) (cpVy_o7 hk1) (cpVy_o7 hv) mw_22_4 mw_22_5 mw_22_6 mw_22_7 (by decide) (by decide) (by decide) (by decide) (by decide) rfl rfl rfl (by decide) (Nat.le_of_ble_eq_true rfl) dX10_copyFrom_149 ?_
  refine cj_lets h (fun S13 h => ?_)
  refine cj_aload_n C (i := 1) dX10_copyFrom_152 rfl rfl ?_
  refine cj_getR C (d := (k1 + 8)) (cpVy_o0 hk1) rfl gfX10_37 dX10_copyFrom_153 ?_
  refine cj_iconst C (v := (0 : Int32)) dX10_copyFrom_156 rfl ?_
  refine cj_aload_n C (i := 0) dX10_copyFrom_157 rfl rfl ?_
  refine cj_getR C (d := (v + 8)) (cpVy_o0 hv) rfl gfX10_37 dX10_copyFrom_158 ?_
  refine cj_iconst C (v := (0 : Int32)) dX10_copyFrom_161 rfl ?_
  refine cj_iconst C (v := (4 : Int32)) dX10_copyFrom_162 rfl ?_
  refine ck_copyi C (sp' := 0) (dp' := 0) (n' := 4) (cpVy_o8 hk1) (cpVy_o8 hv) mw_22_4 mw_22_5 mw_22_6 mw_22_7 (by decide) (by decide) (by decide) (by decide) (by decide) rfl rfl rfl (by decide) (Nat.le_of_ble_eq_true rfl) dX10_copyFrom_163 ?_
  refine cj_lets h (fun S14 h => ?_)
  refine cj_aload_n C (i := 1) dX10_copyFrom_166 rfl rfl ?_
  refine cj_getR C (d := (k1 + 9)) (cpVy_o0 hk1) rfl gfX10_40 dX10_copyFrom_167 ?_
  refine cj_iconst C (v := (0 : Int32)) dX10_copyFrom_170 rfl ?_
  refine cj_aload_n C (i := 0) dX10_copyFrom_171 rfl rfl ?_
  refine cj_getR C (d := (v + 9)) (cpVy_o0 hv) rfl gfX10_40 dX10_copyFrom_172 ?_
  refine cj_iconst C (v := (0 : Int32)) dX10_copyFrom_175 rfl ?_
  refine cj_iconst C (v := (4 : Int32)) dX10_copyFrom_176 rfl ?_
  refine ck_copyi C (sp' := 0) (dp' := 0) (n' := 4) (cpVy_o9 hk1) (cpVy_o9 hv) mw_22_4 mw_22_5 mw_22_6 mw_22_7 (by decide) (by decide) (by decide) (by decide) (by decide) rfl rfl rfl (by decide) (Nat.le_of_ble_eq_true rfl) dX10_copyFrom_177 ?_
  refine cj_lets h (fun S15 h => ?_)
  refine cj_aload_n C (i := 1) dX10_copyFrom_180 rfl rfl ?_
  refine cj_getR C (d := (k1 + 10)) (cpVy_o0 hk1) rfl gfX10_43 dX10_copyFrom_181 ?_
  refine cj_iconst C (v := (0 : Int32)) dX10_copyFrom_184 rfl ?_
  refine cj_aload_n C (i := 0) dX10_copyFrom_185 rfl rfl ?_
  refine cj_getR C (d := (v + 10)) (cpVy_o0 hv) rfl gfX10_43 dX10_copyFrom_186 ?_
  refine cj_iconst C (v := (0 : Int32)) dX10_copyFrom_189 rfl ?_
  refine cj_bipush C (v := (36 : Int32)) dX10_copyFrom_190 rfl ?_
  refine ck_copyi C (sp' := 0) (dp' := 0) (n' := 36) (cpVy_o10 hk1) (cpVy_o10 hv) mw_22_4 mw_22_5 mw_22_6 mw_22_7 (by decide) (by decide) (by decide) (by decide) (by decide) rfl rfl rfl (by decide) (Nat.le_of_ble_eq_true rfl) dX10_copyFrom_192 ?_
  refine cj_lets h (fun S16 h => ?_)
  refine cj_aload_n C (i := 0) dX10_copyFrom_195 rfl rfl ?_
  refine cj_getR C (d := (v + 11)) (cpVy_o0 hv) rfl gfX10_49 dX10_copyFrom_196 ?_
  refine cj_aload_n C (i := 1) dX10_copyFrom_199 rfl rfl ?_
  refine cj_getR C (d := (k1 + 11)) (cpVy_o0 hk1) rfl gfX10_49 dX10_copyFrom_200 ?_
  refine cj_callVv C (As := [.ref (w.2.1 (k1 + 11))]) (rest := []) qX3_copyFrom mw_22_8 (cpVy_o11 hv) rfl rfl rfl (Nat.le_of_ble_eq_true rfl) (by decide) dX10_copyFrom_203 h (fun _ _ hf => m_X3_copyFrom l w A (cpVy_l hv) (cpVy_l hk1) S16 _ hf) (fun z17 S18 h => ?_)
  exact cj_vreturn C hr h dX10_copyFrom_206
/-! X11_feed -/
def fX11_feed (x1 : Int32) (x2 : Int32) (x3 : Int32) (x4 : Int32) (x5 : Int32) (S : cpS) : Option (Int32 × cpS) :=
    if ((S.1 115 1) + (20 : Int32)) ≤ (900 : Int32) then (
    cpB (fX7_append x1 S) fun _ S2 =>
    cpB (fX7_append x2 S2) fun _ S4 =>
    cpB (fX7_append x3 S4) fun _ S6 =>
    cpB (fX7_append x4 S6) fun _ S8 =>
    cpB (fX7_append x5 S8) fun _ S10 =>
    some ((S10.1 115 1), S10)) else (
    some ((-5 : Int32), S))
set_option maxRecDepth 100000 in
set_option maxHeartbeats 4000000 in
theorem m_X11_feed (l : Launch) (w : cpW) (A : Nat → Prop) (x1 : Int32) (x2 : Int32) (x3 : Int32) (x4 : Int32) (x5 : Int32) (S : cpS) (r : Int32 × cpS) (h : fX11_feed x1 x2 x3 x4 x5 S = some r) : cpMi l yX11_feed cX11_feed 6 ((some .int)) 1 w A [.ref (w.2.1 0), .int x1, .int x2, .int x3, .int x4, .int x5] S r := by
  refine cpMi.of (lv := [some (.ref (w.2.1 0)), some (.int x1), some (.int x2), some (.int x3), some (.int x4), some (.int x5)]) (by decide) (Nat.le_of_ble_eq_true rfl) rfl (fun p e s m args below meth c C hr => ?_)
  replace C : cpCx p s m args meth c w A cX11_feed RX11 6 := C
  rw [fX11_feed] at h
  refine cj_aload_n C (i := 0) dX11_feed_0 rfl rfl ?_
  refine cj_getR C (d := 115) o_0 rfl gfX11_36 dX11_feed_1 ?_
  refine cj_getI C (j := 1) o_115 rfl gfX11_100 dX11_feed_4 ?_
  refine cj_bipush C (v := (20 : Int32)) dX11_feed_7 rfl ?_
  refine cj_iadd C dX11_feed_9 ?_
  refine cj_sipush C (v := (900 : Int32)) dX11_feed_10 rfl ?_
  refine cj_icmp_le C (tgt := 19) dX11_feed_13 rfl h (fun _ h => ?_) (fun _ h => ?_)
  · refine cj_aload_n C (i := 0) dX11_feed_19 rfl rfl ?_
    refine cj_getR C (d := 115) o_0 rfl gfX11_36 dX11_feed_20 ?_
    refine cj_iload_n C (i := 1) dX11_feed_23 rfl rfl ?_
    refine cj_callVv C (As := [.int x1]) (rest := []) qX7_append mw_9_10 o_115 rfl rfl rfl (Nat.le_of_ble_eq_true rfl) (by decide) dX11_feed_24 h (fun _ _ hf => m_X7_append l w A x1 S _ hf) (fun z1 S2 h => ?_)
    refine cj_aload_n C (i := 0) dX11_feed_27 rfl rfl ?_
    refine cj_getR C (d := 115) o_0 rfl gfX11_36 dX11_feed_28 ?_
    refine cj_iload_n C (i := 2) dX11_feed_31 rfl rfl ?_
    refine cj_callVv C (As := [.int x2]) (rest := []) qX7_append mw_9_10 o_115 rfl rfl rfl (Nat.le_of_ble_eq_true rfl) (by decide) dX11_feed_32 h (fun _ _ hf => m_X7_append l w A x2 S2 _ hf) (fun z3 S4 h => ?_)
    refine cj_aload_n C (i := 0) dX11_feed_35 rfl rfl ?_
    refine cj_getR C (d := 115) o_0 rfl gfX11_36 dX11_feed_36 ?_
    refine cj_iload_n C (i := 3) dX11_feed_39 rfl rfl ?_
    refine cj_callVv C (As := [.int x3]) (rest := []) qX7_append mw_9_10 o_115 rfl rfl rfl (Nat.le_of_ble_eq_true rfl) (by decide) dX11_feed_40 h (fun _ _ hf => m_X7_append l w A x3 S4 _ hf) (fun z5 S6 h => ?_)
    refine cj_aload_n C (i := 0) dX11_feed_43 rfl rfl ?_
    refine cj_getR C (d := 115) o_0 rfl gfX11_36 dX11_feed_44 ?_
    refine cj_iload C dX11_feed_47 rfl ?_
    refine cj_callVv C (As := [.int x4]) (rest := []) qX7_append mw_9_10 o_115 rfl rfl rfl (Nat.le_of_ble_eq_true rfl) (by decide) dX11_feed_49 h (fun _ _ hf => m_X7_append l w A x4 S6 _ hf) (fun z7 S8 h => ?_)
    refine cj_aload_n C (i := 0) dX11_feed_52 rfl rfl ?_
    refine cj_getR C (d := 115) o_0 rfl gfX11_36 dX11_feed_53 ?_
    refine cj_iload C dX11_feed_56 rfl ?_
    refine cj_callVv C (As := [.int x5]) (rest := []) qX7_append mw_9_10 o_115 rfl rfl rfl (Nat.le_of_ble_eq_true rfl) (by decide) dX11_feed_58 h (fun _ _ hf => m_X7_append l w A x5 S8 _ hf) (fun z9 S10 h => ?_)
    refine cj_aload_n C (i := 0) dX11_feed_61 rfl rfl ?_
    refine cj_getR C (d := 115) o_0 rfl gfX11_36 dX11_feed_62 ?_
    refine cj_getI C (j := 1) o_115 rfl gfX11_100 dX11_feed_65 ?_
    exact cj_ireturn C hr h dX11_feed_68
  · refine cj_bipush C (v := (-5 : Int32)) dX11_feed_16 rfl ?_
    exact cj_ireturn C hr h dX11_feed_18
/-! X11_valley -/
def fX11_valley (x1 : Int32) (S : cpS) : Option (Int32 × cpS) :=
    if x1 < 0 then (
    some ((-3 : Int32), S)) else (
    if x1 ≤ (S.1 115 1) then (
    cpB (fX7_readText x1 S) fun z1 S2 =>
    if z1 = 0 then (
    some (((-30 : Int32) - (S2.1 115 3)), S2)) else (
    cpB (fX10_copyFrom 1 15 S2) fun _ S4 =>
    cpB (fX5_begin 57 1 S4) fun _ S6 =>
    cpB (fX6_forget S6) fun _ S8 =>
    some ((S8.1 1 2), S8))) else (
    some ((-3 : Int32), S)))
set_option maxRecDepth 100000 in
set_option maxHeartbeats 4000000 in
theorem m_X11_valley (l : Launch) (w : cpW) (A : Nat → Prop) (x1 : Int32) (S : cpS) (r : Int32 × cpS) (h : fX11_valley x1 S = some r) : cpMi l yX11_valley cX11_valley 2 ((some .int)) 90 w A [.ref (w.2.1 0), .int x1] S r := by
  refine cpMi.of (lv := [some (.ref (w.2.1 0)), some (.int x1)]) (by decide) (Nat.le_of_ble_eq_true rfl) rfl (fun p e s m args below meth c C hr => ?_)
  replace C : cpCx p s m args meth c w A cX11_valley RX11 2 := C
  rw [fX11_valley] at h
  refine cj_iload_n C (i := 1) dX11_valley_0 rfl rfl ?_
  refine cj_if_lt C (tgt := 15) dX11_valley_1 rfl h (fun _ h => ?_) (fun _ h => ?_)
  · refine cj_bipush C (v := (-3 : Int32)) dX11_valley_15 rfl ?_
    exact cj_ireturn C hr h dX11_valley_17
  · refine cj_iload_n C (i := 1) dX11_valley_4 rfl rfl ?_
    refine cj_aload_n C (i := 0) dX11_valley_5 rfl rfl ?_
    refine cj_getR C (d := 115) o_0 rfl gfX11_36 dX11_valley_6 ?_
    refine cj_getI C (j := 1) o_115 rfl gfX11_100 dX11_valley_9 ?_
    refine cj_icmp_le C (tgt := 18) dX11_valley_12 rfl h (fun _ h => ?_) (fun _ h => ?_)
    · refine cj_aload_n C (i := 0) dX11_valley_18 rfl rfl ?_
      refine cj_getR C (d := 115) o_0 rfl gfX11_36 dX11_valley_19 ?_
      refine cj_iload_n C (i := 1) dX11_valley_22 rfl rfl ?_
      refine cj_callVi C (As := [.int x1]) (rest := []) qX7_readText mw_10_4 o_115 rfl rfl rfl (Nat.le_of_ble_eq_true rfl) (by decide) dX11_valley_23 h (fun _ _ hf => m_X7_readText l w A x1 S _ hf) (fun z1 S2 h => ?_)
      refine cj_if_ne C (tgt := 40) dX11_valley_26 rfl h (fun _ h => ?_) (fun _ h => ?_)
      · refine cj_bipush C (v := (-30 : Int32)) dX11_valley_29 rfl ?_
        refine cj_aload_n C (i := 0) dX11_valley_31 rfl rfl ?_
        refine cj_getR C (d := 115) o_0 rfl gfX11_36 dX11_valley_32 ?_
        refine cj_getI C (j := 3) o_115 rfl gfX11_112 dX11_valley_35 ?_
        refine cj_isub C dX11_valley_38 ?_
        exact cj_ireturn C hr h dX11_valley_39
      · refine cj_aload_n C (i := 0) dX11_valley_40 rfl rfl ?_
        refine cj_getR C (d := 1) o_0 rfl gfX11_10 dX11_valley_41 ?_
        refine cj_aload_n C (i := 0) dX11_valley_44 rfl rfl ?_
        refine cj_getR C (d := 115) o_0 rfl gfX11_36 dX11_valley_45 ?_
        refine cj_getR C (d := 15) o_115 rfl gfX11_115 dX11_valley_48 ?_
        refine cj_callVv C (As := [.ref (w.2.1 15)]) (rest := []) qX10_copyFrom mw_22_0 o_1 rfl rfl rfl (Nat.le_of_ble_eq_true rfl) (by decide) dX11_valley_51 h (fun _ _ hf => m_X10_copyFrom l w A kVy_1 kVy_15 S2 _ hf) (fun z3 S4 h => ?_)
        refine cj_aload_n C (i := 0) dX11_valley_54 rfl rfl ?_
        refine cj_getR C (d := 57) o_0 rfl gfX11_19 dX11_valley_55 ?_
        refine cj_aload_n C (i := 0) dX11_valley_58 rfl rfl ?_
        refine cj_getR C (d := 1) o_0 rfl gfX11_10 dX11_valley_59 ?_
        refine cj_callVv C (As := [.ref (w.2.1 1)]) (rest := []) qX5_begin mw_22_13 o_57 rfl rfl rfl (Nat.le_of_ble_eq_true rfl) (by decide) dX11_valley_62 h (fun _ _ hf => m_X5_begin l w A kNw_57 kVy_1 S4 _ hf) (fun z5 S6 h => ?_)
        refine cj_aload_n C (i := 0) dX11_valley_65 rfl rfl ?_
        refine cj_getR C (d := 113) o_0 rfl gfX11_29 dX11_valley_66 ?_
        refine cj_callVv C (As := []) (rest := []) qX6_forget mw_23_0 o_113 rfl rfl rfl (Nat.le_of_ble_eq_true rfl) (by decide) dX11_valley_69 h (fun _ _ hf => m_X6_forget l w A S6 _ hf) (fun z7 S8 h => ?_)
        refine cj_aload_n C (i := 0) dX11_valley_72 rfl rfl ?_
        refine cj_getR C (d := 1) o_0 rfl gfX11_10 dX11_valley_73 ?_
        refine cj_getI C (j := 2) o_1 rfl gfX11_128 dX11_valley_76 ?_
        exact cj_ireturn C hr h dX11_valley_79
    · refine cj_bipush C (v := (-3 : Int32)) dX11_valley_15 rfl ?_
      exact cj_ireturn C hr h dX11_valley_17
/-! X11_fault -/
def fX11_fault (x1 : Int32) (S : cpS) : Option (Int32 × cpS) :=
    if x1 = 0 then (
    some ((S.1 115 3), S)) else (
    if x1 = (1 : Int32) then (
    some ((S.1 115 4), S)) else (
    some ((-1 : Int32), S)))
set_option maxRecDepth 100000 in
set_option maxHeartbeats 4000000 in
theorem m_X11_fault (l : Launch) (w : cpW) (A : Nat → Prop) (x1 : Int32) (S : cpS) (r : Int32 × cpS) (h : fX11_fault x1 S = some r) : cpMi l yX11_fault cX11_fault 2 ((some .int)) 0 w A [.ref (w.2.1 0), .int x1] S r := by
  refine cpMi.of (lv := [some (.ref (w.2.1 0)), some (.int x1)]) (by decide) (Nat.le_of_ble_eq_true rfl) rfl (fun p e s m args below meth c C hr => ?_)
  replace C : cpCx p s m args meth c w A cX11_fault RX11 2 := C
  rw [fX11_fault] at h
  refine cj_iload_n C (i := 1) dX11_fault_0 rfl rfl ?_
  refine cj_if_ne C (tgt := 12) dX11_fault_1 rfl h (fun _ h => ?_) (fun _ h => ?_)
  · refine cj_aload_n C (i := 0) dX11_fault_4 rfl rfl ?_
    refine cj_getR C (d := 115) o_0 rfl gfX11_36 dX11_fault_5 ?_
    refine cj_getI C (j := 3) o_115 rfl gfX11_112 dX11_fault_8 ?_
    exact cj_ireturn C hr h dX11_fault_11
  · refine cj_iload_n C (i := 1) dX11_fault_12 rfl rfl ?_
    refine cj_iconst C (v := (1 : Int32)) dX11_fault_13 rfl ?_
    refine cj_icmp_ne C (tgt := 27) dX11_fault_14 rfl h (fun _ h => ?_) (fun _ h => ?_)
    · refine cj_aload_n C (i := 0) dX11_fault_17 rfl rfl ?_
      refine cj_getR C (d := 115) o_0 rfl gfX11_36 dX11_fault_18 ?_
      refine cj_getI C (j := 4) o_115 rfl gfX11_131 dX11_fault_21 ?_
      refine cj_goto C (tgt := 28) dX11_fault_24 rfl ?_
      exact cj_ireturn C hr h dX11_fault_28
    · refine cj_iconst C (v := (-1 : Int32)) dX11_fault_27 rfl ?_
      exact cj_ireturn C hr h dX11_fault_28
end CPV
