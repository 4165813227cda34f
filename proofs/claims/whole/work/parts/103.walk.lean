section CPV
variable {p : Program} {l : Launch} {e : Env} {s : State} {m : MethodId} {args : Array Value} {below : List Frame} {meth : Method} {c : Code} {w : cpW} {A : Nat → Prop}
/-! X2_fraction -/
def fX2_fraction_31 (x2 : Int32) (x3 : Int32) (x4 : Int32) (x5 : Int32) (k9 : Int32 → Int32 → Int32 → cpS → Option (Int32 × cpS)) (S : cpS) : Option (Int32 × cpS) :=
    if (cpRem x3 (5 : Int32)) = 0 then (
    cpLt (x3 / (5 : Int32)) fun y1 =>
    cpLt (x4 / (5 : Int32)) fun y2 =>
    k9 y1 y2 (x5 + 1) S) else (
    k9 x3 x4 (x5 + 1) S)
set_option maxRecDepth 100000 in
set_option maxHeartbeats 4000000 in
theorem wX2_fraction_31 (C : cpCx p s m args meth c w A cX2_fraction RX2 6) (hr : meth.sig.returnType = (some .int)) {r : Int32 × cpS} (x2 : Int32) (x3 : Int32) (x4 : Int32) (x5 : Int32) {k9 : Int32 → Int32 → Int32 → cpS → Option (Int32 × cpS)} (hk9 : ∀ (x3 : Int32) (x4 : Int32) (x5 : Int32) (S : cpS), k9 x3 x4 x5 S = some r → cpJ p l e (cpRm 0) s m args below meth c (MQ below (va_Qi (fun x S' => (x, S') = r) (cpWorld w A) A) args s 0 0 A) w A 6 9 [none, none, some (.int x2), some (.int x3), some (.int x4), some (.int x5)] [] S) (S : cpS) (h : fX2_fraction_31 x2 x3 x4 x5 k9 S = some r) : cpJ p l e (cpRm 0) s m args below meth c (MQ below (va_Qi (fun x S' => (x, S') = r) (cpWorld w A) A) args s 0 0 A) w A 6 31 [none, none, some (.int x2), some (.int x3), some (.int x4), some (.int x5)] [] S := by
  rw [fX2_fraction_31] at h
  refine cj_iload_n C (i := 3) dX2_fraction_31 rfl rfl ?_
  refine cj_iconst C (v := (5 : Int32)) dX2_fraction_32 rfl ?_
  refine ck_irem C dX2_fraction_33 (by decide) ?_
  refine cj_if_ne C (tgt := 47) dX2_fraction_34 rfl h (fun _ h => ?_) (fun _ h => ?_)
  · refine cj_iload_n C (i := 3) dX2_fraction_37 rfl rfl ?_
    refine cj_iconst C (v := (5 : Int32)) dX2_fraction_38 rfl ?_
    refine cj_idiv C dX2_fraction_39 (by decide) ?_
    refine cj_let h (fun y1 h => ?_)
    refine cj_istore_n C (i := 3) (lv' := [none, none, some (.int x2), some (.int y1), some (.int x4), some (.int x5)]) dX2_fraction_40 rfl (by decide) rfl rfl ?_
    refine cj_iload C dX2_fraction_41 rfl ?_
    refine cj_iconst C (v := (5 : Int32)) dX2_fraction_43 rfl ?_
    refine cj_idiv C dX2_fraction_44 (by decide) ?_
    refine cj_let h (fun y2 h => ?_)
    refine cj_istore C (lv' := [none, none, some (.int x2), some (.int y1), some (.int y2), some (.int x5)]) dX2_fraction_45 (by decide) rfl rfl ?_
    refine cj_iinc C (v := (x5 + 1)) (lv' := [none, none, some (.int x2), some (.int y1), some (.int y2), some (.int (x5 + 1))]) dX2_fraction_47 rfl rfl (by decide) rfl rfl ?_
    refine cj_goto C (tgt := 9) dX2_fraction_50 rfl ?_
    exact hk9 y1 y2 (x5 + 1) S h
  · refine cj_iinc C (v := (x5 + 1)) (lv' := [none, none, some (.int x2), some (.int x3), some (.int x4), some (.int (x5 + 1))]) dX2_fraction_47 rfl rfl (by decide) rfl rfl ?_
    refine cj_goto C (tgt := 9) dX2_fraction_50 rfl ?_
    exact hk9 x3 x4 (x5 + 1) S h
def fX2_fraction_9 (x2 : Int32) : Nat → Int32 → Int32 → Int32 → cpS → Option (Int32 × cpS)
  | 0, _, _, _, _ => none
  | n + 1, x3, x4, x5, S =>
    if (5 : Int32) ≤ x5 then (
    if x2 = 0 then (
    some (x3, S)) else (
    some (x4, S))) else (
    if (cpRem x3 (2 : Int32)) = 0 then (
    cpLt (x3 / (2 : Int32)) fun y1 =>
    cpLt (x4 / (2 : Int32)) fun y2 =>
    fX2_fraction_31 x2 y1 y2 x5 (fX2_fraction_9 x2 n) S) else (
    fX2_fraction_31 x2 x3 x4 x5 (fX2_fraction_9 x2 n) S))
set_option maxRecDepth 100000 in
set_option maxHeartbeats 4000000 in
theorem wX2_fraction_9 (C : cpCx p s m args meth c w A cX2_fraction RX2 6) (hr : meth.sig.returnType = (some .int)) {r : Int32 × cpS} (x2 : Int32) : ∀ (n : Nat) (x3 : Int32) (x4 : Int32) (x5 : Int32) (S : cpS), fX2_fraction_9 x2 n x3 x4 x5 S = some r → cpJ p l e (cpRm 0) s m args below meth c (MQ below (va_Qi (fun x S' => (x, S') = r) (cpWorld w A) A) args s 0 0 A) w A 6 9 [none, none, some (.int x2), some (.int x3), some (.int x4), some (.int x5)] [] S := by
  intro n
  induction n with
  | zero => intro x3 x4 x5 S h; rw [fX2_fraction_9] at h; cases h
  | succ n ih =>
    intro x3 x4 x5 S h
    rw [fX2_fraction_9] at h
    refine cj_iload C dX2_fraction_9 rfl ?_
    refine cj_iconst C (v := (5 : Int32)) dX2_fraction_11 rfl ?_
    refine cj_icmp_ge C (tgt := 53) dX2_fraction_12 rfl h (fun _ h => ?_) (fun _ h => ?_)
    · refine cj_iload_n C (i := 2) dX2_fraction_53 rfl rfl ?_
      refine cj_if_ne C (tgt := 61) dX2_fraction_54 rfl h (fun _ h => ?_) (fun _ h => ?_)
      · refine cj_iload_n C (i := 3) dX2_fraction_57 rfl rfl ?_
        refine cj_goto C (tgt := 63) dX2_fraction_58 rfl ?_
        exact cj_ireturn C hr h dX2_fraction_63
      · refine cj_iload C dX2_fraction_61 rfl ?_
        exact cj_ireturn C hr h dX2_fraction_63
    · refine cj_iload_n C (i := 3) dX2_fraction_15 rfl rfl ?_
      refine cj_iconst C (v := (2 : Int32)) dX2_fraction_16 rfl ?_
      refine ck_irem C dX2_fraction_17 (by decide) ?_
      refine cj_if_ne C (tgt := 31) dX2_fraction_18 rfl h (fun _ h => ?_) (fun _ h => ?_)
      · refine cj_iload_n C (i := 3) dX2_fraction_21 rfl rfl ?_
        refine cj_iconst C (v := (2 : Int32)) dX2_fraction_22 rfl ?_
        refine cj_idiv C dX2_fraction_23 (by decide) ?_
        refine cj_let h (fun y1 h => ?_)
        refine cj_istore_n C (i := 3) (lv' := [none, none, some (.int x2), some (.int y1), some (.int x4), some (.int x5)]) dX2_fraction_24 rfl (by decide) rfl rfl ?_
        refine cj_iload C dX2_fraction_25 rfl ?_
        refine cj_iconst C (v := (2 : Int32)) dX2_fraction_27 rfl ?_
        refine cj_idiv C dX2_fraction_28 (by decide) ?_
        refine cj_let h (fun y2 h => ?_)
        refine cj_istore C (lv' := [none, none, some (.int x2), some (.int y1), some (.int y2), some (.int x5)]) dX2_fraction_29 (by decide) rfl rfl ?_
        exact wX2_fraction_31 C hr x2 y1 y2 x5 ih S h
      · exact wX2_fraction_31 C hr x2 x3 x4 x5 ih S h
def fX2_fraction (x1 : Int32) (x2 : Int32) (S : cpS) : Option (Int32 × cpS) :=
    fX2_fraction_9 x2 cpFu x1 (100000 : Int32) (0 : Int32) S
set_option maxRecDepth 100000 in
set_option maxHeartbeats 4000000 in
theorem m_X2_fraction (l : Launch) (w : cpW) (A : Nat → Prop) (x1 : Int32) (x2 : Int32) (S : cpS) (r : Int32 × cpS) (h : fX2_fraction x1 x2 S = some r) : cpMi l yX2_fraction cX2_fraction 6 ((some .int)) 0 w A [.ref (w.2.1 134), .int x1, .int x2] S r := by
  refine cpMi.of (lv := [some (.ref (w.2.1 134)), some (.int x1), some (.int x2), none, none, none]) (by decide) (Nat.le_of_ble_eq_true rfl) rfl (fun p e s m args below meth c C hr => ?_)
  replace C : cpCx p s m args meth c w A cX2_fraction RX2 6 := C
  rw [fX2_fraction] at h
  refine cj_iload_n C (i := 1) dX2_fraction_0 rfl rfl ?_
  refine cj_istore_n C (i := 3) (lv' := [some (.ref (w.2.1 134)), some (.int x1), some (.int x2), some (.int x1), none, none]) dX2_fraction_1 rfl (by decide) rfl rfl ?_
  refine cj_ldc C (v := (100000 : Int32)) mw_72_19 dX2_fraction_2 ?_
  refine cj_istore C (lv' := [some (.ref (w.2.1 134)), some (.int x1), some (.int x2), some (.int x1), some (.int (100000 : Int32)), none]) dX2_fraction_4 (by decide) rfl rfl ?_
  refine cj_iconst C (v := (0 : Int32)) dX2_fraction_6 rfl ?_
  refine cj_istore C (lv' := [some (.ref (w.2.1 134)), some (.int x1), some (.int x2), some (.int x1), some (.int (100000 : Int32)), some (.int (0 : Int32))]) dX2_fraction_7 (by decide) rfl rfl ?_
  refine cj_weak C (lv' := [none, none, some (.int x2), some (.int x1), some (.int (100000 : Int32)), some (.int (0 : Int32))]) (cpSub_n (cpSub_n (cpSub_s (cpSub_s (cpSub_s (cpSub_s cpSub_nil)))))) ?_
  exact wX2_fraction_9 C hr x2 cpFu x1 (100000 : Int32) (0 : Int32) S h
/-! X3_clear -/
def fX3_clear (v : Nat) (S : cpS) : Option (Unit × cpS) :=
    cpLt (cpI S (v + 1) 0 (1000 : Int32)) fun S1 =>
    cpLt (cpI S1 (v + 1) 1 (1001 : Int32)) fun S2 =>
    cpLt (cpI S2 (v + 1) 2 (2004 : Int32)) fun S3 =>
    cpLt (cpI S3 (v + 1) 3 (2008 : Int32)) fun S4 =>
    cpLt (cpI S4 (v + 1) 4 (1003 : Int32)) fun S5 =>
    cpLt (cpI S5 v 2 (0 : Int32)) fun S6 =>
    cpLt (cpI S6 v 3 (4 : Int32)) fun S7 =>
    cpLt (cpI S7 v 4 (4 : Int32)) fun S8 =>
    cpLt (cpI S8 v 5 (5 : Int32)) fun S9 =>
    cpLt (cpI S9 v 1 (5 : Int32)) fun S10 =>
    some ((), S10)
set_option maxRecDepth 100000 in
set_option maxHeartbeats 4000000 in
theorem m_X3_clear (l : Launch) (w : cpW) (A : Nat → Prop) {v : Nat} (hv : cpLw v) (S : cpS) (r : Unit × cpS) (h : fX3_clear v S = some r) : cpMv l yX3_clear cX3_clear 1 (none) 0 w A [.ref (w.2.1 v)] S r := by
  refine cpMv.of (lv := [some (.ref (w.2.1 v))]) (by decide) (Nat.le_of_ble_eq_true rfl) rfl (fun p e s m args below meth c C hr => ?_)
  replace C : cpCx p s m args meth c w A cX3_clear RX3 1 := C
  rw [fX3_clear] at h
  refine cj_aload_n C (i := 0) dX3_clear_0 rfl rfl ?_
  refine cj_getR C (d := (v + 1)) (cpLw_o0 hv) rfl gfX3_9 dX3_clear_1 ?_
  refine cj_iconst C (v := (0 : Int32)) dX3_clear_4 rfl ?_
  refine cj_sipush C (v := (1000 : Int32)) dX3_clear_5 rfl ?_
  refine cj_iastoreC C (j := 0) (cpLw_o1 hv) (by decide) (by decide) dX3_clear_8 ?_
  refine cj_lets h (fun S1 h => ?_)
  refine cj_aload_n C (i := 0) dX3_clear_9 rfl rfl ?_
  refine cj_getR C (d := (v + 1)) (cpLw_o0 hv) rfl gfX3_9 dX3_clear_10 ?_
  refine cj_iconst C (v := (1 : Int32)) dX3_clear_13 rfl ?_
  refine cj_sipush C (v := (1001 : Int32)) dX3_clear_14 rfl ?_
  refine cj_iastoreC C (j := 1) (cpLw_o1 hv) (by decide) (by decide) dX3_clear_17 ?_
  refine cj_lets h (fun S2 h => ?_)
  refine cj_aload_n C (i := 0) dX3_clear_18 rfl rfl ?_
  refine cj_getR C (d := (v + 1)) (cpLw_o0 hv) rfl gfX3_9 dX3_clear_19 ?_
  refine cj_iconst C (v := (2 : Int32)) dX3_clear_22 rfl ?_
  refine cj_sipush C (v := (2004 : Int32)) dX3_clear_23 rfl ?_
  refine cj_iastoreC C (j := 2) (cpLw_o1 hv) (by decide) (by decide) dX3_clear_26 ?_
  refine cj_lets h (fun S3 h => ?_)
  refine cj_aload_n C (i := 0) dX3_clear_27 rfl rfl ?_
  refine cj_getR C (d := (v + 1)) (cpLw_o0 hv) rfl gfX3_9 dX3_clear_28 ?_
  refine cj_iconst C (v := (3 : Int32)) dX3_clear_31 rfl ?_
  refine cj_sipush C (v := (2008 : Int32)) dX3_clear_32 rfl ?_
  refine cj_iastoreC C (j := 3) (cpLw_o1 hv) (by decide) (by decide) dX3_clear_35 ?_
  refine cj_lets h (fun S4 h => ?_)
  refine cj_aload_n C (i := 0) dX3_clear_36 rfl rfl ?_
  refine cj_getR C (d := (v + 1)) (cpLw_o0 hv) rfl gfX3_9 dX3_clear_37 ?_
  refine cj_iconst C (v := (4 : Int32)) dX3_clear_40 rfl ?_
  refine cj_sipush C (v := (1003 : Int32)) dX3_clear_41 rfl ?_
  refine cj_iastoreC C (j := 4) (cpLw_o1 hv) (by decide) (by decide) dX3_clear_44 ?_
  refine cj_lets h (fun S5 h => ?_)
  refine cj_aload_n C (i := 0) dX3_clear_45 rfl rfl ?_
  refine cj_iconst C (v := (0 : Int32)) dX3_clear_46 rfl ?_
  refine cj_put C (j := 2) (cpLw_o0 hv) rfl pfX3_21 rfl rfl dX3_clear_47 ?_
  refine cj_lets h (fun S6 h => ?_)
  refine cj_aload_n C (i := 0) dX3_clear_50 rfl rfl ?_
  refine cj_iconst C (v := (4 : Int32)) dX3_clear_51 rfl ?_
  refine cj_put C (j := 3) (cpLw_o0 hv) rfl pfX3_25 rfl rfl dX3_clear_52 ?_
  refine cj_lets h (fun S7 h => ?_)
  refine cj_aload_n C (i := 0) dX3_clear_55 rfl rfl ?_
  refine cj_iconst C (v := (4 : Int32)) dX3_clear_56 rfl ?_
  refine cj_put C (j := 4) (cpLw_o0 hv) rfl pfX3_28 rfl rfl dX3_clear_57 ?_
  refine cj_lets h (fun S8 h => ?_)
  refine cj_aload_n C (i := 0) dX3_clear_60 rfl rfl ?_
  refine cj_iconst C (v := (5 : Int32)) dX3_clear_61 rfl ?_
  refine cj_put C (j := 5) (cpLw_o0 hv) rfl pfX3_31 rfl rfl dX3_clear_62 ?_
  refine cj_lets h (fun S9 h => ?_)
  refine cj_aload_n C (i := 0) dX3_clear_65 rfl rfl ?_
  refine cj_iconst C (v := (5 : Int32)) dX3_clear_66 rfl ?_
  refine cj_put C (j := 1) (cpLw_o0 hv) rfl pfX3_34 rfl rfl dX3_clear_67 ?_
  refine cj_lets h (fun S10 h => ?_)
  exact cj_vreturn C hr h dX3_clear_70
/-! X3_copyFrom -/
def fX3_copyFrom (v : Nat) (k1 : Nat) (S : cpS) : Option (Unit × cpS) :=
    cpLt (cpI S v 1 (S.1 k1 1)) fun S1 =>
    cpLt (cpI S1 v 2 (S1.1 k1 2)) fun S2 =>
    cpLt (cpI S2 v 3 (S2.1 k1 3)) fun S3 =>
    cpLt (cpI S3 v 4 (S3.1 k1 4)) fun S4 =>
    cpLt (cpI S4 v 5 (S4.1 k1 5)) fun S5 =>
    cpLt (cpRI S5 (v + 1) (va_cpy (S5.1 (k1 + 1)) (S5.1 (v + 1)) 0 0 900)) fun S6 =>
    some ((), S6)
set_option maxRecDepth 100000 in
set_option maxHeartbeats 4000000 in
theorem m_X3_copyFrom (l : Launch) (w : cpW) (A : Nat → Prop) {v : Nat} (hv : cpLw v) {k1 : Nat} (hk1 : cpLw k1) (S : cpS) (r : Unit × cpS) (h : fX3_copyFrom v k1 S = some r) : cpMv l yX3_copyFrom cX3_copyFrom 2 (none) 1 w A [.ref (w.2.1 v), .ref (w.2.1 k1)] S r := by
  refine cpMv.of (lv := [some (.ref (w.2.1 v)), some (.ref (w.2.1 k1))]) (by decide) (Nat.le_of_ble_eq_true rfl) rfl (fun p e s m args below meth c C hr => ?_)
  replace C : cpCx p s m args meth c w A cX3_copyFrom RX3 2 := C
  rw [fX3_copyFrom] at h
  refine cj_aload_n C (i := 0) dX3_copyFrom_0 rfl rfl ?_
  refine cj_aload_n C (i := 1) dX3_copyFrom_1 rfl rfl ?_
  refine cj_getI C (j := 1) (cpLw_o0 hk1) rfl gfX3_34 dX3_copyFrom_2 ?_
  refine cj_put C (j := 1) (cpLw_o0 hv) rfl pfX3_34 rfl rfl dX3_copyFrom_5 ?_
  refine cj_lets h (fun S1 h => ?_)
  refine cj_aload_n C (i := 0) dX3_copyFrom_8 rfl rfl ?_
  refine cj_aload_n C (i := 1) dX3_copyFrom_9 rfl rfl ?_
  refine cj_getI C (j := 2) (cpLw_o0 hk1) rfl gfX3_21 dX3_copyFrom_10 ?_
  refine cj_put C (j := 2) (cpLw_o0 hv) rfl pfX3_21 rfl rfl dX3_copyFrom_13 ?_
  refine cj_lets h (fun S2 h => ?_)
  refine cj_aload_n C (i := 0) dX3_copyFrom_16 rfl rfl ?_
  refine cj_aload_n C (i := 1) dX3_copyFrom_17 rfl rfl ?_
  refine cj_getI C (j := 3) (cpLw_o0 hk1) rfl gfX3_25 dX3_copyFrom_18 ?_
  refine cj_put C (j := 3) (cpLw_o0 hv) rfl pfX3_25 rfl rfl dX3_copyFrom_21 ?_
  refine cj_lets h (fun S3 h => ?_)
  refine cj_aload_n C (i := 0) dX3_copyFrom_24 rfl rfl ?_
  refine cj_aload_n C (i := 1) dX3_copyFrom_25 rfl rfl ?_
  refine cj_getI C (j := 4) (cpLw_o0 hk1) rfl gfX3_28 dX3_copyFrom_26 ?_
  refine cj_put C (j := 4) (cpLw_o0 hv) rfl pfX3_28 rfl rfl dX3_copyFrom_29 ?_
  refine cj_lets h (fun S4 h => ?_)
  refine cj_aload_n C (i := 0) dX3_copyFrom_32 rfl rfl ?_
  refine cj_aload_n C (i := 1) dX3_copyFrom_33 rfl rfl ?_
  refine cj_getI C (j := 5) (cpLw_o0 hk1) rfl gfX3_31 dX3_copyFrom_34 ?_
  refine cj_put C (j := 5) (cpLw_o0 hv) rfl pfX3_31 rfl rfl dX3_copyFrom_37 ?_
  refine cj_lets h (fun S5 h => ?_)
  refine cj_aload_n C (i := 1) dX3_copyFrom_40 rfl rfl ?_
  refine cj_getR C (d := (k1 + 1)) (cpLw_o0 hk1) rfl gfX3_9 dX3_copyFrom_41 ?_
  refine cj_iconst C (v := (0 : Int32)) dX3_copyFrom_44 rfl ?_
  refine cj_aload_n C (i := 0) dX3_copyFrom_45 rfl rfl ?_
  refine cj_getR C (d := (v + 1)) (cpLw_o0 hv) rfl gfX3_9 dX3_copyFrom_46 ?_
  refine cj_iconst C (v := (0 : Int32)) dX3_copyFrom_49 rfl ?_
  refine cj_sipush C (v := (900 : Int32)) dX3_copyFrom_50 rfl ?_
  refine ck_copyi C (sp' := 0) (dp' := 0) (n' := 900) (cpLw_o1 hk1) (cpLw_o1 hv) mw_22_12 mw_22_5 mw_22_6 mw_22_7 (by decide) (by decide) (by decide) (by decide) (by decide) rfl rfl rfl (by decide) (Nat.le_of_ble_eq_true rfl) dX3_copyFrom_53 ?_
  refine cj_lets h (fun S6 h => ?_)
  exact cj_vreturn C hr h dX3_copyFrom_56
/-! X3_append -/
def fX3_append (v : Nat) (x1 : Int32) (S : cpS) : Option (Unit × cpS) :=
    if (900 : Int32) ≤ (S.1 v 1) then (
    some ((), S)) else (
    if cpIn (S.1 v 1) 900 then (
    cpLt (cpI S (v + 1) (S.1 v 1).toNatClampNeg x1) fun S1 =>
    cpLt (cpI S1 v 1 ((S1.1 v 1) + (1 : Int32))) fun S2 =>
    some ((), S2)) else none)
set_option maxRecDepth 100000 in
set_option maxHeartbeats 4000000 in
theorem m_X3_append (l : Launch) (w : cpW) (A : Nat → Prop) {v : Nat} (hv : cpLw v) (x1 : Int32) (S : cpS) (r : Unit × cpS) (h : fX3_append v x1 S = some r) : cpMv l yX3_append cX3_append 2 (none) 0 w A [.ref (w.2.1 v), .int x1] S r := by
  refine cpMv.of (lv := [some (.ref (w.2.1 v)), some (.int x1)]) (by decide) (Nat.le_of_ble_eq_true rfl) rfl (fun p e s m args below meth c C hr => ?_)
  replace C : cpCx p s m args meth c w A cX3_append RX3 2 := C
  rw [fX3_append] at h
  refine cj_aload_n C (i := 0) dX3_append_0 rfl rfl ?_
  refine cj_getI C (j := 1) (cpLw_o0 hv) rfl gfX3_34 dX3_append_1 ?_
  refine cj_sipush C (v := (900 : Int32)) dX3_append_4 rfl ?_
  refine cj_icmp_ge C (tgt := 30) dX3_append_7 rfl h (fun _ h => ?_) (fun _ h => ?_)
  · exact cj_vreturn C hr h dX3_append_30
  · refine cj_aload_n C (i := 0) dX3_append_10 rfl rfl ?_
    refine cj_getR C (d := (v + 1)) (cpLw_o0 hv) rfl gfX3_9 dX3_append_11 ?_
    refine cj_aload_n C (i := 0) dX3_append_14 rfl rfl ?_
    refine cj_getI C (j := 1) (cpLw_o0 hv) rfl gfX3_34 dX3_append_15 ?_
    refine cj_iload_n C (i := 1) dX3_append_18 rfl rfl ?_
    refine cj_iastore C (cpLw_o1 hv) h dX3_append_19 (fun h => ?_)
    refine cj_lets h (fun S1 h => ?_)
    refine cj_aload_n C (i := 0) dX3_append_20 rfl rfl ?_
    refine cj_dup C dX3_append_21 rfl ?_
    refine cj_getI C (j := 1) (cpLw_o0 hv) rfl gfX3_34 dX3_append_22 ?_
    refine cj_iconst C (v := (1 : Int32)) dX3_append_25 rfl ?_
    refine cj_iadd C dX3_append_26 ?_
    refine cj_put C (j := 1) (cpLw_o0 hv) rfl pfX3_34 rfl rfl dX3_append_27 ?_
    refine cj_lets h (fun S2 h => ?_)
    exact cj_vreturn C hr h dX3_append_30
/-! X3_codeSoFar -/
def fX3_codeSoFar (v : Nat) (S : cpS) : Option (Int32 × cpS) :=
    some ((S.1 v 1), S)
set_option maxRecDepth 100000 in
set_option maxHeartbeats 4000000 in
theorem m_X3_codeSoFar (l : Launch) (w : cpW) (A : Nat → Prop) {v : Nat} (hv : cpLw v) (S : cpS) (r : Int32 × cpS) (h : fX3_codeSoFar v S = some r) : cpMi l yX3_codeSoFar cX3_codeSoFar 1 ((some .int)) 0 w A [.ref (w.2.1 v)] S r := by
  refine cpMi.of (lv := [some (.ref (w.2.1 v))]) (by decide) (Nat.le_of_ble_eq_true rfl) rfl (fun p e s m args below meth c C hr => ?_)
  replace C : cpCx p s m args meth c w A cX3_codeSoFar RX3 1 := C
  rw [fX3_codeSoFar] at h
  refine cj_aload_n C (i := 0) dX3_codeSoFar_0 rfl rfl ?_
  refine cj_getI C (j := 1) (cpLw_o0 hv) rfl gfX3_34 dX3_codeSoFar_1 ?_
  exact cj_ireturn C hr h dX3_codeSoFar_4
/-! X3_closeMay -/
def fX3_closeMay (v : Nat) (x1 : Int32) (S : cpS) : Option (Unit × cpS) :=
    cpLt (cpI S v 2 x1) fun S1 =>
    cpLt (cpI S1 v 3 (S1.1 v 1)) fun S2 =>
    some ((), S2)
set_option maxRecDepth 100000 in
set_option maxHeartbeats 4000000 in
theorem m_X3_closeMay (l : Launch) (w : cpW) (A : Nat → Prop) {v : Nat} (hv : cpLw v) (x1 : Int32) (S : cpS) (r : Unit × cpS) (h : fX3_closeMay v x1 S = some r) : cpMv l yX3_closeMay cX3_closeMay 2 (none) 0 w A [.ref (w.2.1 v), .int x1] S r := by
  refine cpMv.of (lv := [some (.ref (w.2.1 v)), some (.int x1)]) (by decide) (Nat.le_of_ble_eq_true rfl) rfl (fun p e s m args below meth c C hr => ?_)
  replace C : cpCx p s m args meth c w A cX3_closeMay RX3 2 := C
  rw [fX3_closeMay] at h
  refine cj_aload_n C (i := 0) dX3_closeMay_0 rfl rfl ?_
  refine cj_iload_n C (i := 1) dX3_closeMay_1 rfl rfl ?_
  refine cj_put C (j := 2) (cpLw_o0 hv) rfl pfX3_21 rfl rfl dX3_closeMay_2 ?_
  refine cj_lets h (fun S1 h => ?_)
  refine cj_aload_n C (i := 0) dX3_closeMay_5 rfl rfl ?_
  refine cj_aload_n C (i := 0) dX3_closeMay_6 rfl rfl ?_
  refine cj_getI C (j := 1) (cpLw_o0 hv) rfl gfX3_34 dX3_closeMay_7 ?_
  refine cj_put C (j := 3) (cpLw_o0 hv) rfl pfX3_25 rfl rfl dX3_closeMay_10 ?_
  refine cj_lets h (fun S2 h => ?_)
  exact cj_vreturn C hr h dX3_closeMay_13
/-! X3_closeWears -/
def fX3_closeWears (v : Nat) (x1 : Int32) (S : cpS) : Option (Unit × cpS) :=
    cpLt (cpI S v 4 x1) fun S1 =>
    cpLt (cpI S1 v 5 (S1.1 v 1)) fun S2 =>
    some ((), S2)
set_option maxRecDepth 100000 in
set_option maxHeartbeats 4000000 in
theorem m_X3_closeWears (l : Launch) (w : cpW) (A : Nat → Prop) {v : Nat} (hv : cpLw v) (x1 : Int32) (S : cpS) (r : Unit × cpS) (h : fX3_closeWears v x1 S = some r) : cpMv l yX3_closeWears cX3_closeWears 2 (none) 0 w A [.ref (w.2.1 v), .int x1] S r := by
  refine cpMv.of (lv := [some (.ref (w.2.1 v)), some (.int x1)]) (by decide) (Nat.le_of_ble_eq_true rfl) rfl (fun p e s m args below meth c C hr => ?_)
  replace C : cpCx p s m args meth c w A cX3_closeWears RX3 2 := C
  rw [fX3_closeWears] at h
  refine cj_aload_n C (i := 0) dX3_closeWears_0 rfl rfl ?_
  refine cj_iload_n C (i := 1) dX3_closeWears_1 rfl rfl ?_
  refine cj_put C (j := 4) (cpLw_o0 hv) rfl pfX3_28 rfl rfl dX3_closeWears_2 ?_
  refine cj_lets h (fun S1 h => ?_)
  refine cj_aload_n C (i := 0) dX3_closeWears_5 rfl rfl ?_
  refine cj_aload_n C (i := 0) dX3_closeWears_6 rfl rfl ?_
  refine cj_getI C (j := 1) (cpLw_o0 hv) rfl gfX3_34 dX3_closeWears_7 ?_
  refine cj_put C (j := 5) (cpLw_o0 hv) rfl pfX3_31 rfl rfl dX3_closeWears_10 ?_
  refine cj_lets h (fun S2 h => ?_)
  exact cj_vreturn C hr h dX3_closeWears_13
/-! X4_learnStep -/
def fX4_learnStep_137 (x1 : Int32) (x2 : Int32) (x3 : Int32) (x4 : Int32) (x5 : Int32) (x6 : Int32) (x7 : Int32) (x8 : Int32) (x9 : Int32) (k45 : Int32 → cpS → Option (Unit × cpS)) (S : cpS) : Option (Unit × cpS) :=
    if cpIn ((x5 * (28 : Int32)) + x8) 1008 then (
    cpLt (cpI S 120 ((x5 * (28 : Int32)) + x8).toNatClampNeg (cpMax (-1 : Int32) x9)) fun S1 =>
    if cpIn x5 36 then (
    if 0 ≤ x9 then (
    if cpIn x5 36 then (
    cpLt (cpI S1 121 x5.toNatClampNeg ((S1.1 121 x5.toNatClampNeg) + (1 : Int32))) fun S2 =>
    k45 (x8 + 1) S2) else none) else (
    if cpIn x5 36 then (
    cpLt (cpI S1 121 x5.toNatClampNeg ((S1.1 121 x5.toNatClampNeg) + (0 : Int32))) fun S3 =>
    k45 (x8 + 1) S3) else none)) else none) else none
set_option maxRecDepth 100000 in
set_option maxHeartbeats 4000000 in
theorem wX4_learnStep_137 (C : cpCx p s m args meth c w A cX4_learnStep RX4 10) (hr : meth.sig.returnType = none) {r : Unit × cpS} (x1 : Int32) (x2 : Int32) (x3 : Int32) (x4 : Int32) (x5 : Int32) (x6 : Int32) (x7 : Int32) (x8 : Int32) (x9 : Int32) {k45 : Int32 → cpS → Option (Unit × cpS)} (hk45 : ∀ (x8 : Int32) (S : cpS), k45 x8 S = some r → cpJ p l e (cpRm 4) s m args below meth c (MQ below (va_Qv (fun S' => ((), S') = r) (cpWorld w A) A) args s 0 0 A) w A 10 45 [some (.ref (w.2.1 119)), some (.int x1), some (.int x2), some (.int x3), some (.int x4), some (.int x5), some (.int x6), some (.int x7), some (.int x8), none] [] S) (S : cpS) (h : fX4_learnStep_137 x1 x2 x3 x4 x5 x6 x7 x8 x9 k45 S = some r) : cpJ p l e (cpRm 4) s m args below meth c (MQ below (va_Qv (fun S' => ((), S') = r) (cpWorld w A) A) args s 0 0 A) w A 10 137 [some (.ref (w.2.1 119)), some (.int x1), some (.int x2), some (.int x3), some (.int x4), some (.int x5), some (.int x6), some (.int x7), some (.int x8), some (.int x9)] [] S := by
  rw [fX4_learnStep_137] at h
  refine cj_aload_n C (i := 0) dX4_learnStep_137 rfl rfl ?_
  refine cj_getR C (d := 120) o_119 rfl gfX4_9 dX4_learnStep_138 ?_
  refine cj_iload C dX4_learnStep_141 rfl ?_
  refine cj_bipush C (v := (28 : Int32)) dX4_learnStep_143 rfl ?_
  refine cj_imul C dX4_learnStep_145 ?_
  refine cj_iload C dX4_learnStep_146 rfl ?_
  refine cj_iadd C dX4_learnStep_148 ?_
  refine cj_iconst C (v := (-1 : Int32)) dX4_learnStep_149 rfl ?_
  refine cj_iload C dX4_learnStep_150 rfl ?_
  refine ck_mmax C mw_48_8 mw_12_13 mw_12_14 mw_12_15 (by decide) (Nat.le_of_ble_eq_true rfl) dX4_learnStep_152 ?_
  refine cj_iastore C o_120 h dX4_learnStep_155 (fun h => ?_)
  refine cj_lets h (fun S1 h => ?_)
  refine cj_aload_n C (i := 0) dX4_learnStep_156 rfl rfl ?_
  refine cj_getR C (d := 121) o_119 rfl gfX4_15 dX4_learnStep_157 ?_
  refine cj_iload C dX4_learnStep_160 rfl ?_
  refine cj_dup2 C dX4_learnStep_162 rfl rfl ?_
  refine cj_iaload C o_121 h dX4_learnStep_163 (fun h => ?_)
  refine cj_iload C dX4_learnStep_164 rfl ?_
  refine cj_if_ge C (tgt := 173) dX4_learnStep_166 rfl h (fun _ h => ?_) (fun _ h => ?_)
  · refine cj_iconst C (v := (1 : Int32)) dX4_learnStep_173 rfl ?_
    refine cj_iadd C dX4_learnStep_174 ?_
    refine cj_iastore C o_121 h dX4_learnStep_175 (fun h => ?_)
    refine cj_lets h (fun S2 h => ?_)
    refine cj_iinc C (v := (x8 + 1)) (lv' := [some (.ref (w.2.1 119)), some (.int x1), some (.int x2), some (.int x3), some (.int x4), some (.int x5), some (.int x6), some (.int x7), some (.int (x8 + 1)), some (.int x9)]) dX4_learnStep_176 rfl rfl (by decide) rfl rfl ?_
    refine cj_goto C (tgt := 45) dX4_learnStep_179 rfl ?_
    refine cj_weak C (lv' := [some (.ref (w.2.1 119)), some (.int x1), some (.int x2), some (.int x3), some (.int x4), some (.int x5), some (.int x6), some (.int x7), some (.int (x8 + 1)), none]) (cpSub_s (cpSub_s (cpSub_s (cpSub_s (cpSub_s (cpSub_s (cpSub_s (cpSub_s (cpSub_s (cpSub_n cpSub_nil)))))))))) ?_
    exact hk45 (x8 + 1) S2 h
  · refine cj_iconst C (v := (0 : Int32)) dX4_learnStep_169 rfl ?_
    refine cj_goto C (tgt := 174) dX4_learnStep_170 rfl ?_
    refine cj_iadd C dX4_learnStep_174 ?_
    refine cj_iastore C o_121 h dX4_learnStep_175 (fun h => ?_)
    refine cj_lets h (fun S3 h => ?_)
    refine cj_iinc C (v := (x8 + 1)) (lv' := [some (.ref (w.2.1 119)), some (.int x1), some (.int x2), some (.int x3), some (.int x4), some (.int x5), some (.int x6), some (.int x7), some (.int (x8 + 1)), some (.int x9)]) dX4_learnStep_176 rfl rfl (by decide) rfl rfl ?_
    refine cj_goto C (tgt := 45) dX4_learnStep_179 rfl ?_
    refine cj_weak C (lv' := [some (.ref (w.2.1 119)), some (.int x1), some (.int x2), some (.int x3), some (.int x4), some (.int x5), some (.int x6), some (.int x7), some (.int (x8 + 1)), none]) (cpSub_s (cpSub_s (cpSub_s (cpSub_s (cpSub_s (cpSub_s (cpSub_s (cpSub_s (cpSub_s (cpSub_n cpSub_nil)))))))))) ?_
    exact hk45 (x8 + 1) S3 h
def fX4_learnStep_45 (x1 : Int32) (x2 : Int32) (x3 : Int32) (x4 : Int32) (x5 : Int32) (x6 : Int32) (x7 : Int32) : Nat → Int32 → cpS → Option (Unit × cpS)
  | 0, _, _ => none
  | n + 1, x8, S =>
    if (28 : Int32) ≤ x8 then (
    some ((), S)) else (
    if x7 = 0 then (
    fX4_learnStep_137 x1 x2 x3 x4 x5 x6 x7 x8 (-1 : Int32) (fX4_learnStep_45 x1 x2 x3 x4 x5 x6 x7 n) S) else (
    if cpIn x8 28 then (
    cpB (fX10_hasPerson 1 (cpOs x8.toNatClampNeg) S) fun z1 S2 =>
    if z1 = 0 then (
    fX4_learnStep_137 x1 x2 x3 x4 x5 x6 x7 x8 (-1 : Int32) (fX4_learnStep_45 x1 x2 x3 x4 x5 x6 x7 n) S2) else (
    if x4 = 0 then (
    if cpIn x8 28 then (
    if cpIn x8 28 then (
    cpB (fX0_roadTaken (cpLs x8.toNatClampNeg) (cpOs x8.toNatClampNeg) x1 x2 x3 x6 S2) fun z3 S4 =>
    fX4_learnStep_137 x1 x2 x3 x4 x5 x6 x7 x8 z3 (fX4_learnStep_45 x1 x2 x3 x4 x5 x6 x7 n) S4) else none) else none) else (
    if cpIn x8 28 then (
    if cpIn x8 28 then (
    cpB (fX0_wearFrom (cpLs x8.toNatClampNeg) (cpOs x8.toNatClampNeg) x1 x2 x3 x6 S2) fun z5 S6 =>
    fX4_learnStep_137 x1 x2 x3 x4 x5 x6 x7 x8 z5 (fX4_learnStep_45 x1 x2 x3 x4 x5 x6 x7 n) S6) else none) else none))) else none))
set_option maxRecDepth 100000 in
set_option maxHeartbeats 4000000 in
theorem wX4_learnStep_45 (C : cpCx p s m args meth c w A cX4_learnStep RX4 10) (hr : meth.sig.returnType = none) {r : Unit × cpS} (x1 : Int32) (x2 : Int32) (x3 : Int32) (x4 : Int32) (x5 : Int32) (x6 : Int32) (x7 : Int32) : ∀ (n : Nat) (x8 : Int32) (S : cpS), fX4_learnStep_45 x1 x2 x3 x4 x5 x6 x7 n x8 S = some r → cpJ p l e (cpRm 4) s m args below meth c (MQ below (va_Qv (fun S' => ((), S') = r) (cpWorld w A) A) args s 0 0 A) w A 10 45 [some (.ref (w.2.1 119)), some (.int x1), some (.int x2), some (.int x3), some (.int x4), some (.int x5), some (.int x6), some (.int x7), some (.int x8), none] [] S := by
  intro n
  induction n with
  | zero => intro x8 S h; rw [fX4_learnStep_45] at h; cases h
  | succ n ih =>
    intro x8 S h
    rw [fX4_learnStep_45] at h
    refine cj_iload C dX4_learnStep_45 rfl ?_
    refine cj_bipush C (v := (28 : Int32)) dX4_learnStep_47 rfl ?_
    refine cj_icmp_ge C (tgt := 182) dX4_learnStep_49 rfl h (fun _ h => ?_) (fun _ h => ?_)
    · exact cj_vreturn C hr h dX4_learnStep_182
    · refine cj_iconst C (v := (-1 : Int32)) dX4_learnStep_52 rfl ?_
      refine cj_istore C (lv' := [some (.ref (w.2.1 119)), some (.int x1), some (.int x2), some (.int x3), some (.int x4), some (.int x5), some (.int x6), some (.int x7), some (.int x8), some (.int (-1 : Int32))]) dX4_learnStep_53 (by decide) rfl rfl ?_
      refine cj_iload C dX4_learnStep_55 rfl ?_
      refine cj_if_eq C (tgt := 137) dX4_learnStep_57 rfl h (fun _ h => ?_) (fun _ h => ?_)
      · exact wX4_learnStep_137 C hr x1 x2 x3 x4 x5 x6 x7 x8 (-1 : Int32) ih S h
      · refine cj_aload_n C (i := 0) dX4_learnStep_60 rfl rfl ?_
        refine cj_getR C (d := 117) o_119 rfl gfX4_34 dX4_learnStep_61 ?_
        refine cj_getR C (d := 1) o_117 rfl gfX4_38 dX4_learnStep_64 ?_
        refine cj_getsN1 C (List.mem_of_getElem? (i := 3) rfl) dX4_learnStep_67 ?_
        refine cj_iload C dX4_learnStep_70 rfl ?_
        refine cj_tab1 C h dX4_learnStep_72 (fun h => ?_)
        refine cj_callVi C (As := [.int (cpOs x8.toNatClampNeg)]) (rest := []) qX10_hasPerson mw_48_10 o_1 rfl rfl rfl (Nat.le_of_ble_eq_true rfl) (by decide) dX4_learnStep_73 h (fun _ _ hf => m_X10_hasPerson l w A kVy_1 (cpOs x8.toNatClampNeg) S _ hf) (fun z1 S2 h => ?_)
        refine cj_if_eq C (tgt := 137) dX4_learnStep_76 rfl h (fun _ h => ?_) (fun _ h => ?_)
        · exact wX4_learnStep_137 C hr x1 x2 x3 x4 x5 x6 x7 x8 (-1 : Int32) ih S2 h
        · refine cj_iload C dX4_learnStep_79 rfl ?_
          refine cj_if_eq C (tgt := 111) dX4_learnStep_81 rfl h (fun _ h => ?_) (fun _ h => ?_)
          · refine cj_aload_n C (i := 0) dX4_learnStep_111 rfl rfl ?_
            refine cj_getR C (d := 117) o_119 rfl gfX4_34 dX4_learnStep_112 ?_
            refine cj_getsN0 C (List.mem_of_getElem? (i := 2) rfl) dX4_learnStep_115 ?_
            refine cj_iload C dX4_learnStep_118 rfl ?_
            refine cj_tab0 C h dX4_learnStep_120 (fun h => ?_)
            refine cj_getsN1 C (List.mem_of_getElem? (i := 3) rfl) dX4_learnStep_121 ?_
            refine cj_iload C dX4_learnStep_124 rfl ?_
            refine cj_tab1 C h dX4_learnStep_126 (fun h => ?_)
            refine cj_iload_n C (i := 1) dX4_learnStep_127 rfl rfl ?_
            refine cj_iload_n C (i := 2) dX4_learnStep_128 rfl rfl ?_
            refine cj_iload_n C (i := 3) dX4_learnStep_129 rfl rfl ?_
            refine cj_iload C dX4_learnStep_130 rfl ?_
            refine cj_callVi C (As := [.int (cpLs x8.toNatClampNeg), .int (cpOs x8.toNatClampNeg), .int x1, .int x2, .int x3, .int x6]) (rest := []) qX0_roadTaken mw_48_12 o_117 rfl rfl rfl (Nat.le_of_ble_eq_true rfl) (by decide) dX4_learnStep_132 h (fun _ _ hf => m_X0_roadTaken l w A (cpLs x8.toNatClampNeg) (cpOs x8.toNatClampNeg) x1 x2 x3 x6 S2 _ hf) (fun z3 S4 h => ?_)
            refine cj_istore C (lv' := [some (.ref (w.2.1 119)), some (.int x1), some (.int x2), some (.int x3), some (.int x4), some (.int x5), some (.int x6), some (.int x7), some (.int x8), some (.int z3)]) dX4_learnStep_135 (by decide) rfl rfl ?_
            exact wX4_learnStep_137 C hr x1 x2 x3 x4 x5 x6 x7 x8 z3 ih S4 h
          · refine cj_aload_n C (i := 0) dX4_learnStep_84 rfl rfl ?_
            refine cj_getR C (d := 117) o_119 rfl gfX4_34 dX4_learnStep_85 ?_
            refine cj_getsN0 C (List.mem_of_getElem? (i := 2) rfl) dX4_learnStep_88 ?_
            refine cj_iload C dX4_learnStep_91 rfl ?_
            refine cj_tab0 C h dX4_learnStep_93 (fun h => ?_)
            refine cj_getsN1 C (List.mem_of_getElem? (i := 3) rfl) dX4_learnStep_94 ?_
            refine cj_iload C dX4_learnStep_97 rfl ?_
            refine cj_tab1 C h dX4_learnStep_99 (fun h => ?_)
            refine cj_iload_n C (i := 1) dX4_learnStep_100 rfl rfl ?_
            refine cj_iload_n C (i := 2) dX4_learnStep_101 rfl rfl ?_
            refine cj_iload_n C (i := 3) dX4_learnStep_102 rfl rfl ?_
            refine cj_iload C dX4_learnStep_103 rfl ?_
            refine cj_callVi C (As := [.int (cpLs x8.toNatClampNeg), .int (cpOs x8.toNatClampNeg), .int x1, .int x2, .int x3, .int x6]) (rest := []) qX0_wearFrom mw_48_11 o_117 rfl rfl rfl (Nat.le_of_ble_eq_true rfl) (by decide) dX4_learnStep_105 h (fun _ _ hf => m_X0_wearFrom l w A (cpLs x8.toNatClampNeg) (cpOs x8.toNatClampNeg) x1 x2 x3 x6 S2 _ hf) (fun z5 S6 h => ?_)
            refine cj_goto C (tgt := 135) dX4_learnStep_108 rfl ?_
            refine cj_istore C (lv' := [some (.ref (w.2.1 119)), some (.int x1), some (.int x2), some (.int x3), some (.int x4), some (.int x5), some (.int x6), some (.int x7), some (.int x8), some (.int z5)]) dX4_learnStep_135 (by decide) rfl rfl ?_
            exact wX4_learnStep_137 C hr x1 x2 x3 x4 x5 x6 x7 x8 z5 ih S6 h
def fX4_learnStep (x1 : Int32) (x2 : Int32) (x3 : Int32) (x4 : Int32) (S : cpS) : Option (Unit × cpS) :=
    cpLt ((x2 * (6 : Int32)) + x3) fun y1 =>
    cpLt (S.1 57 3) fun y2 =>
    cpB (fX10_joined 1 x2 x3 S) fun z3 S4 =>
    if cpIn y1 36 then (
    cpLt (cpI S4 121 y1.toNatClampNeg (0 : Int32)) fun S5 =>
    fX4_learnStep_45 x1 x2 x3 x4 y1 y2 z3 cpFu (0 : Int32) S5) else none
set_option maxRecDepth 100000 in
set_option maxHeartbeats 4000000 in
theorem m_X4_learnStep (l : Launch) (w : cpW) (A : Nat → Prop) (x1 : Int32) (x2 : Int32) (x3 : Int32) (x4 : Int32) (S : cpS) (r : Unit × cpS) (h : fX4_learnStep x1 x2 x3 x4 S = some r) : cpMv l yX4_learnStep cX4_learnStep 10 (none) 4 w A [.ref (w.2.1 119), .int x1, .int x2, .int x3, .int x4] S r := by
  refine cpMv.of (lv := [some (.ref (w.2.1 119)), some (.int x1), some (.int x2), some (.int x3), some (.int x4), none, none, none, none, none]) (by decide) (Nat.le_of_ble_eq_true rfl) rfl (fun p e s m args below meth c C hr => ?_)
  replace C : cpCx p s m args meth c w A cX4_learnStep RX4 10 := C
  rw [fX4_learnStep] at h
  refine cj_iload_n C (i := 2) dX4_learnStep_0 rfl rfl ?_
  refine cj_bipush C (v := (6 : Int32)) dX4_learnStep_1 rfl ?_
  refine cj_imul C dX4_learnStep_3 ?_
  refine cj_iload_n C (i := 3) dX4_learnStep_4 rfl rfl ?_
  refine cj_iadd C dX4_learnStep_5 ?_
  refine cj_let h (fun y1 h => ?_)
  refine cj_istore C (lv' := [some (.ref (w.2.1 119)), some (.int x1), some (.int x2), some (.int x3), some (.int x4), some (.int y1), none, none, none, none]) dX4_learnStep_6 (by decide) rfl rfl ?_
  refine cj_aload_n C (i := 0) dX4_learnStep_8 rfl rfl ?_
  refine cj_getR C (d := 117) o_119 rfl gfX4_34 dX4_learnStep_9 ?_
  refine cj_getR C (d := 57) o_117 rfl gfX4_57 dX4_learnStep_12 ?_
  refine cj_getI C (j := 3) o_57 rfl gfX4_61 dX4_learnStep_15 ?_
  refine cj_let h (fun y2 h => ?_)
  refine cj_istore C (lv' := [some (.ref (w.2.1 119)), some (.int x1), some (.int x2), some (.int x3), some (.int x4), some (.int y1), some (.int y2), none, none, none]) dX4_learnStep_18 (by decide) rfl rfl ?_
  refine cj_aload_n C (i := 0) dX4_learnStep_20 rfl rfl ?_
  refine cj_getR C (d := 117) o_119 rfl gfX4_34 dX4_learnStep_21 ?_
  refine cj_getR C (d := 1) o_117 rfl gfX4_38 dX4_learnStep_24 ?_
  refine cj_iload_n C (i := 2) dX4_learnStep_27 rfl rfl ?_
  refine cj_iload_n C (i := 3) dX4_learnStep_28 rfl rfl ?_
  refine cj_callVi C (As := [.int x2, .int x3]) (rest := []) qX10_joined mw_48_9 o_1 rfl rfl rfl (Nat.le_of_ble_eq_true rfl) (by decide) dX4_learnStep_29 h (fun _ _ hf => m_X10_joined l w A kVy_1 x2 x3 S _ hf) (fun z3 S4 h => ?_)
  refine cj_istore C (lv' := [some (.ref (w.2.1 119)), some (.int x1), some (.int x2), some (.int x3), some (.int x4), some (.int y1), some (.int y2), some (.int z3), none, none]) dX4_learnStep_32 (by decide) rfl rfl ?_
  refine cj_aload_n C (i := 0) dX4_learnStep_34 rfl rfl ?_
  refine cj_getR C (d := 121) o_119 rfl gfX4_15 dX4_learnStep_35 ?_
  refine cj_iload C dX4_learnStep_38 rfl ?_
  refine cj_iconst C (v := (0 : Int32)) dX4_learnStep_40 rfl ?_
  refine cj_iastore C o_121 h dX4_learnStep_41 (fun h => ?_)
  refine cj_lets h (fun S5 h => ?_)
  refine cj_iconst C (v := (0 : Int32)) dX4_learnStep_42 rfl ?_
  refine cj_istore C (lv' := [some (.ref (w.2.1 119)), some (.int x1), some (.int x2), some (.int x3), some (.int x4), some (.int y1), some (.int y2), some (.int z3), some (.int (0 : Int32)), none]) dX4_learnStep_43 (by decide) rfl rfl ?_
  exact wX4_learnStep_45 C hr x1 x2 x3 x4 y1 y2 z3 cpFu (0 : Int32) S5 h
/-! X4_learn -/
def fX4_learn_13 (x1 : Int32) (x2 : Int32) (x3 : Int32) (k2 : Int32 → cpS → Option (Unit × cpS)) : Nat → Int32 → cpS → Option (Unit × cpS)
  | 0, _, _ => none
  | n + 1, x4, S =>
    cpB (fX4_places S) fun z1 S2 =>
    if z1 ≤ x4 then (
    k2 (x3 + 1) S2) else (
    cpB (fX4_learnStep x1 x3 x4 x2 S2) fun _ S4 =>
    fX4_learn_13 x1 x2 x3 k2 n (x4 + 1) S4)
set_option maxRecDepth 100000 in
set_option maxHeartbeats 4000000 in
theorem wX4_learn_13 (C : cpCx p s m args meth c w A cX4_learn RX4 5) (hr : meth.sig.returnType = none) {r : Unit × cpS} (x1 : Int32) (x2 : Int32) (x3 : Int32) {k2 : Int32 → cpS → Option (Unit × cpS)} (hk2 : ∀ (x3 : Int32) (S : cpS), k2 x3 S = some r → cpJ p l e (cpRm 5) s m args below meth c (MQ below (va_Qv (fun S' => ((), S') = r) (cpWorld w A) A) args s 0 0 A) w A 5 2 [some (.ref (w.2.1 119)), some (.int x1), some (.int x2), some (.int x3), none] [] S) : ∀ (n : Nat) (x4 : Int32) (S : cpS), fX4_learn_13 x1 x2 x3 k2 n x4 S = some r → cpJ p l e (cpRm 5) s m args below meth c (MQ below (va_Qv (fun S' => ((), S') = r) (cpWorld w A) A) args s 0 0 A) w A 5 13 [some (.ref (w.2.1 119)), some (.int x1), some (.int x2), some (.int x3), some (.int x4)] [] S := by
  intro n
  induction n with
  | zero => intro x4 S h; rw [fX4_learn_13] at h; cases h
  | succ n ih =>
    intro x4 S h
    rw [fX4_learn_13] at h
    refine cj_iload C dX4_learn_13 rfl ?_
    refine cj_aload_n C (i := 0) dX4_learn_15 rfl rfl ?_
    refine cj_callVi C (As := []) (rest := [.int x4]) qX4_places mw_47_20 o_119 rfl rfl rfl (Nat.le_of_ble_eq_true rfl) (by decide) dX4_learn_16 h (fun _ _ hf => m_X4_places l w A S _ hf) (fun z1 S2 h => ?_)
    refine cj_icmp_ge C (tgt := 37) dX4_learn_19 rfl h (fun _ h => ?_) (fun _ h => ?_)
    · refine cj_iinc C (v := (x3 + 1)) (lv' := [some (.ref (w.2.1 119)), some (.int x1), some (.int x2), some (.int (x3 + 1)), some (.int x4)]) dX4_learn_37 rfl rfl (by decide) rfl rfl ?_
      refine cj_goto C (tgt := 2) dX4_learn_40 rfl ?_
      refine cj_weak C (lv' := [some (.ref (w.2.1 119)), some (.int x1), some (.int x2), some (.int (x3 + 1)), none]) (cpSub_s (cpSub_s (cpSub_s (cpSub_s (cpSub_n cpSub_nil))))) ?_
      exact hk2 (x3 + 1) S2 h
    · refine cj_aload_n C (i := 0) dX4_learn_22 rfl rfl ?_
      refine cj_iload_n C (i := 1) dX4_learn_23 rfl rfl ?_
      refine cj_iload_n C (i := 3) dX4_learn_24 rfl rfl ?_
      refine cj_iload C dX4_learn_25 rfl ?_
      refine cj_iload_n C (i := 2) dX4_learn_27 rfl rfl ?_
      refine cj_callVv C (As := [.int x1, .int x3, .int x4, .int x2]) (rest := []) qX4_learnStep mw_48_2 o_119 rfl rfl rfl (Nat.le_of_ble_eq_true rfl) (by decide) dX4_learn_28 h (fun _ _ hf => m_X4_learnStep l w A x1 x3 x4 x2 S2 _ hf) (fun z3 S4 h => ?_)
      refine cj_iinc C (v := (x4 + 1)) (lv' := [some (.ref (w.2.1 119)), some (.int x1), some (.int x2), some (.int x3), some (.int (x4 + 1))]) dX4_learn_31 rfl rfl (by decide) rfl rfl ?_
      refine cj_goto C (tgt := 13) dX4_learn_34 rfl ?_
      exact ih (x4 + 1) S4 h
def fX4_learn_2 (x1 : Int32) (x2 : Int32) : Nat → Int32 → cpS → Option (Unit × cpS)
  | 0, _, _ => none
  | n + 1, x3, S =>
    cpB (fX4_places S) fun z1 S2 =>
    if z1 ≤ x3 then (
    some ((), S2)) else (
    fX4_learn_13 x1 x2 x3 (fX4_learn_2 x1 x2 n) cpFu (0 : Int32) S2)
set_option maxRecDepth 100000 in
set_option maxHeartbeats 4000000 in
theorem wX4_learn_2 (C : cpCx p s m args meth c w A cX4_learn RX4 5) (hr : meth.sig.returnType = none) {r : Unit × cpS} (x1 : Int32) (x2 : Int32) : ∀ (n : Nat) (x3 : Int32) (S : cpS), fX4_learn_2 x1 x2 n x3 S = some r → cpJ p l e (cpRm 5) s m args below meth c (MQ below (va_Qv (fun S' => ((), S') = r) (cpWorld w A) A) args s 0 0 A) w A 5 2 [some (.ref (w.2.1 119)), some (.int x1), some (.int x2), some (.int x3), none] [] S := by
  intro n
  induction n with
  | zero => intro x3 S h; rw [fX4_learn_2] at h; cases h
  | succ n ih =>
    intro x3 S h
    rw [fX4_learn_2] at h
    refine cj_iload_n C (i := 3) dX4_learn_2 rfl rfl ?_
    refine cj_aload_n C (i := 0) dX4_learn_3 rfl rfl ?_
    refine cj_callVi C (As := []) (rest := [.int x3]) qX4_places mw_47_20 o_119 rfl rfl rfl (Nat.le_of_ble_eq_true rfl) (by decide) dX4_learn_4 h (fun _ _ hf => m_X4_places l w A S _ hf) (fun z1 S2 h => ?_)
    refine cj_icmp_ge C (tgt := 43) dX4_learn_7 rfl h (fun _ h => ?_) (fun _ h => ?_)
    · exact cj_vreturn C hr h dX4_learn_43
    · refine cj_iconst C (v := (0 : Int32)) dX4_learn_10 rfl ?_
      refine cj_istore C (lv' := [some (.ref (w.2.1 119)), some (.int x1), some (.int x2), some (.int x3), some (.int (0 : Int32))]) dX4_learn_11 (by decide) rfl rfl ?_
      exact wX4_learn_13 C hr x1 x2 x3 ih cpFu (0 : Int32) S2 h
def fX4_learn (x1 : Int32) (x2 : Int32) (S : cpS) : Option (Unit × cpS) :=
    fX4_learn_2 x1 x2 cpFu (0 : Int32) S
set_option maxRecDepth 100000 in
set_option maxHeartbeats 4000000 in
theorem m_X4_learn (l : Launch) (w : cpW) (A : Nat → Prop) (x1 : Int32) (x2 : Int32) (S : cpS) (r : Unit × cpS) (h : fX4_learn x1 x2 S = some r) : cpMv l yX4_learn cX4_learn 5 (none) 5 w A [.ref (w.2.1 119), .int x1, .int x2] S r := by
  refine cpMv.of (lv := [some (.ref (w.2.1 119)), some (.int x1), some (.int x2), none, none]) (by decide) (Nat.le_of_ble_eq_true rfl) rfl (fun p e s m args below meth c C hr => ?_)
  replace C : cpCx p s m args meth c w A cX4_learn RX4 5 := C
  rw [fX4_learn] at h
  refine cj_iconst C (v := (0 : Int32)) dX4_learn_0 rfl ?_
  refine cj_istore_n C (i := 3) (lv' := [some (.ref (w.2.1 119)), some (.int x1), some (.int x2), some (.int (0 : Int32)), none]) dX4_learn_1 rfl (by decide) rfl rfl ?_
  exact wX4_learn_2 C hr x1 x2 cpFu (0 : Int32) S h
/-! X4_wearOf -/
def fX4_wearOf (x1 : Int32) (x2 : Int32) (x3 : Int32) (S : cpS) : Option (Int32 × cpS) :=
    if cpIn ((((x1 * (6 : Int32)) + x2) * (28 : Int32)) + x3) 1008 then (
    some ((S.1 120 ((((x1 * (6 : Int32)) + x2) * (28 : Int32)) + x3).toNatClampNeg), S)) else none
set_option maxRecDepth 100000 in
set_option maxHeartbeats 4000000 in
theorem m_X4_wearOf (l : Launch) (w : cpW) (A : Nat → Prop) (x1 : Int32) (x2 : Int32) (x3 : Int32) (S : cpS) (r : Int32 × cpS) (h : fX4_wearOf x1 x2 x3 S = some r) : cpMi l yX4_wearOf cX4_wearOf 4 ((some .int)) 0 w A [.ref (w.2.1 119), .int x1, .int x2, .int x3] S r := by
  refine cpMi.of (lv := [some (.ref (w.2.1 119)), some (.int x1), some (.int x2), some (.int x3)]) (by decide) (Nat.le_of_ble_eq_true rfl) rfl (fun p e s m args below meth c C hr => ?_)
  replace C : cpCx p s m args meth c w A cX4_wearOf RX4 4 := C
  rw [fX4_wearOf] at h
  refine cj_aload_n C (i := 0) dX4_wearOf_0 rfl rfl ?_
  refine cj_getR C (d := 120) o_119 rfl gfX4_9 dX4_wearOf_1 ?_
  refine cj_iload_n C (i := 1) dX4_wearOf_4 rfl rfl ?_
  refine cj_bipush C (v := (6 : Int32)) dX4_wearOf_5 rfl ?_
  refine cj_imul C dX4_wearOf_7 ?_
  refine cj_iload_n C (i := 2) dX4_wearOf_8 rfl rfl ?_
  refine cj_iadd C dX4_wearOf_9 ?_
  refine cj_bipush C (v := (28 : Int32)) dX4_wearOf_10 rfl ?_
  refine cj_imul C dX4_wearOf_12 ?_
  refine cj_iload_n C (i := 3) dX4_wearOf_13 rfl rfl ?_
  refine cj_iadd C dX4_wearOf_14 ?_
  refine cj_iaload C o_120 h dX4_wearOf_15 (fun h => ?_)
  exact cj_ireturn C hr h dX4_wearOf_16
/-! X4_stepsOnTo -/
def fX4_stepsOnTo_2 (x1 : Int32) (x2 : Int32) : Nat → Int32 → cpS → Option (Int32 × cpS)
  | 0, _, _ => none
  | n + 1, x3, S =>
    cpB (fX4_places S) fun z1 S2 =>
    if z1 ≤ x3 then (
    some ((0 : Int32), S2)) else (
    if cpIn x3 6 then (
    if (S2.1 122 x3.toNatClampNeg) = x2 then (
    cpB (fX4_canGo x1 x3 S2) fun z3 S4 =>
    if z3 = 0 then (
    fX4_stepsOnTo_2 x1 x2 n (x3 + 1) S4) else (
    some ((1 : Int32), S4))) else (
    fX4_stepsOnTo_2 x1 x2 n (x3 + 1) S2)) else none)
set_option maxRecDepth 100000 in
set_option maxHeartbeats 4000000 in
theorem wX4_stepsOnTo_2 (C : cpCx p s m args meth c w A cX4_stepsOnTo RX4 4) (hr : meth.sig.returnType = (some .boolean)) {r : Int32 × cpS} (x1 : Int32) (x2 : Int32) : ∀ (n : Nat) (x3 : Int32) (S : cpS), fX4_stepsOnTo_2 x1 x2 n x3 S = some r → cpJ p l e (cpRm 1) s m args below meth c (MQ below (va_Qi (fun x S' => (x, S') = r) (cpWorld w A) A) args s 0 0 A) w A 4 2 [some (.ref (w.2.1 119)), some (.int x1), some (.int x2), some (.int x3)] [] S := by
  intro n
  induction n with
  | zero => intro x3 S h; rw [fX4_stepsOnTo_2] at h; cases h
  | succ n ih =>
    intro x3 S h
    rw [fX4_stepsOnTo_2] at h
    refine cj_iload_n C (i := 3) dX4_stepsOnTo_2 rfl rfl ?_
    refine cj_aload_n C (i := 0) dX4_stepsOnTo_3 rfl rfl ?_
    refine cj_callVi C (As := []) (rest := [.int x3]) qX4_places mw_47_20 o_119 rfl rfl rfl (Nat.le_of_ble_eq_true rfl) (by decide) dX4_stepsOnTo_4 h (fun _ _ hf => m_X4_places l w A S _ hf) (fun z1 S2 h => ?_)
    refine cj_icmp_ge C (tgt := 37) dX4_stepsOnTo_7 rfl h (fun _ h => ?_) (fun _ h => ?_)
    · refine cj_iconst C (v := (0 : Int32)) dX4_stepsOnTo_37 rfl ?_
      exact cj_zreturn C hr rfl h dX4_stepsOnTo_38
    · refine cj_aload_n C (i := 0) dX4_stepsOnTo_10 rfl rfl ?_
      refine cj_getR C (d := 122) o_119 rfl gfX4_18 dX4_stepsOnTo_11 ?_
      refine cj_iload_n C (i := 3) dX4_stepsOnTo_14 rfl rfl ?_
      refine cj_iaload C o_122 h dX4_stepsOnTo_15 (fun h => ?_)
      refine cj_iload_n C (i := 2) dX4_stepsOnTo_16 rfl rfl ?_
      refine cj_icmp_ne C (tgt := 31) dX4_stepsOnTo_17 rfl h (fun _ h => ?_) (fun _ h => ?_)
      · refine cj_aload_n C (i := 0) dX4_stepsOnTo_20 rfl rfl ?_
        refine cj_iload_n C (i := 1) dX4_stepsOnTo_21 rfl rfl ?_
        refine cj_iload_n C (i := 3) dX4_stepsOnTo_22 rfl rfl ?_
        refine cj_callVi C (As := [.int x1, .int x3]) (rest := []) qX4_canGo mw_48_22 o_119 rfl rfl rfl (Nat.le_of_ble_eq_true rfl) (by decide) dX4_stepsOnTo_23 h (fun _ _ hf => m_X4_canGo l w A x1 x3 S2 _ hf) (fun z3 S4 h => ?_)
        refine cj_if_eq C (tgt := 31) dX4_stepsOnTo_26 rfl h (fun _ h => ?_) (fun _ h => ?_)
        · refine cj_iinc C (v := (x3 + 1)) (lv' := [some (.ref (w.2.1 119)), some (.int x1), some (.int x2), some (.int (x3 + 1))]) dX4_stepsOnTo_31 rfl rfl (by decide) rfl rfl ?_
          refine cj_goto C (tgt := 2) dX4_stepsOnTo_34 rfl ?_
          exact ih (x3 + 1) S4 h
        · refine cj_iconst C (v := (1 : Int32)) dX4_stepsOnTo_29 rfl ?_
          exact cj_zreturn C hr rfl h dX4_stepsOnTo_30
      · refine cj_iinc C (v := (x3 + 1)) (lv' := [some (.ref (w.2.1 119)), some (.int x1), some (.int x2), some (.int (x3 + 1))]) dX4_stepsOnTo_31 rfl rfl (by decide) rfl rfl ?_
        refine cj_goto C (tgt := 2) dX4_stepsOnTo_34 rfl ?_
        exact ih (x3 + 1) S2 h
def fX4_stepsOnTo (x1 : Int32) (x2 : Int32) (S : cpS) : Option (Int32 × cpS) :=
    fX4_stepsOnTo_2 x1 x2 cpFu (0 : Int32) S
set_option maxRecDepth 100000 in
set_option maxHeartbeats 4000000 in
theorem m_X4_stepsOnTo (l : Launch) (w : cpW) (A : Nat → Prop) (x1 : Int32) (x2 : Int32) (S : cpS) (r : Int32 × cpS) (h : fX4_stepsOnTo x1 x2 S = some r) : cpMi l yX4_stepsOnTo cX4_stepsOnTo 4 ((some .boolean)) 1 w A [.ref (w.2.1 119), .int x1, .int x2] S r := by
  refine cpMi.of (lv := [some (.ref (w.2.1 119)), some (.int x1), some (.int x2), none]) (by decide) (Nat.le_of_ble_eq_true rfl) rfl (fun p e s m args below meth c C hr => ?_)
  replace C : cpCx p s m args meth c w A cX4_stepsOnTo RX4 4 := C
  rw [fX4_stepsOnTo] at h
  refine cj_iconst C (v := (0 : Int32)) dX4_stepsOnTo_0 rfl ?_
  refine cj_istore_n C (i := 3) (lv' := [some (.ref (w.2.1 119)), some (.int x1), some (.int x2), some (.int (0 : Int32))]) dX4_stepsOnTo_1 rfl (by decide) rfl rfl ?_
  exact wX4_stepsOnTo_2 C hr x1 x2 cpFu (0 : Int32) S h
/-! X4_measureTo -/
def fX4_measureTo_27 (x2 : Int32) (k17 : Int32 → cpS → Option (Unit × cpS)) : Nat → Int32 → cpS → Option (Unit × cpS)
  | 0, _, _ => none
  | n + 1, x3, S =>
    cpB (fX4_places S) fun z1 S2 =>
    if z1 ≤ x3 then (
    k17 (x2 + 1) S2) else (
    if cpIn x3 6 then (
    if (S2.1 122 x3.toNatClampNeg) = (-1 : Int32) then (
    cpB (fX4_stepsOnTo x3 (x2 - (1 : Int32)) S2) fun z3 S4 =>
    if z3 = 0 then (
    fX4_measureTo_27 x2 k17 n (x3 + 1) S4) else (
    if cpIn x3 6 then (
    cpLt (cpI S4 122 x3.toNatClampNeg x2) fun S5 =>
    fX4_measureTo_27 x2 k17 n (x3 + 1) S5) else none)) else (
    fX4_measureTo_27 x2 k17 n (x3 + 1) S2)) else none)
set_option maxRecDepth 100000 in
set_option maxHeartbeats 4000000 in
theorem wX4_measureTo_27 (C : cpCx p s m args meth c w A cX4_measureTo RX4 4) (hr : meth.sig.returnType = none) {r : Unit × cpS} (x2 : Int32) {k17 : Int32 → cpS → Option (Unit × cpS)} (hk17 : ∀ (x2 : Int32) (S : cpS), k17 x2 S = some r → cpJ p l e (cpRm 2) s m args below meth c (MQ below (va_Qv (fun S' => ((), S') = r) (cpWorld w A) A) args s 0 0 A) w A 4 17 [some (.ref (w.2.1 119)), none, some (.int x2), none] [] S) : ∀ (n : Nat) (x3 : Int32) (S : cpS), fX4_measureTo_27 x2 k17 n x3 S = some r → cpJ p l e (cpRm 2) s m args below meth c (MQ below (va_Qv (fun S' => ((), S') = r) (cpWorld w A) A) args s 0 0 A) w A 4 27 [some (.ref (w.2.1 119)), none, some (.int x2), some (.int x3)] [] S := by
  intro n
  induction n with
  | zero => intro x3 S h; rw [fX4_measureTo_27] at h; cases h
  | succ n ih =>
    intro x3 S h
    rw [fX4_measureTo_27] at h
    refine cj_iload_n C (i := 3) dX4_measureTo_27 rfl rfl ?_
    refine cj_aload_n C (i := 0) dX4_measureTo_28 rfl rfl ?_
    refine cj_callVi C (As := []) (rest := [.int x3]) qX4_places mw_47_20 o_119 rfl rfl rfl (Nat.le_of_ble_eq_true rfl) (by decide) dX4_measureTo_29 h (fun _ _ hf => m_X4_places l w A S _ hf) (fun z1 S2 h => ?_)
    refine cj_icmp_ge C (tgt := 69) dX4_measureTo_32 rfl h (fun _ h => ?_) (fun _ h => ?_)
    · refine cj_iinc C (v := (x2 + 1)) (lv' := [some (.ref (w.2.1 119)), none, some (.int (x2 + 1)), some (.int x3)]) dX4_measureTo_69 rfl rfl (by decide) rfl rfl ?_
      refine cj_goto C (tgt := 17) dX4_measureTo_72 rfl ?_
      refine cj_weak C (lv' := [some (.ref (w.2.1 119)), none, some (.int (x2 + 1)), none]) (cpSub_s (cpSub_n (cpSub_s (cpSub_n cpSub_nil)))) ?_
      exact hk17 (x2 + 1) S2 h
    · refine cj_aload_n C (i := 0) dX4_measureTo_35 rfl rfl ?_
      refine cj_getR C (d := 122) o_119 rfl gfX4_18 dX4_measureTo_36 ?_
      refine cj_iload_n C (i := 3) dX4_measureTo_39 rfl rfl ?_
      refine cj_iaload C o_122 h dX4_measureTo_40 (fun h => ?_)
      refine cj_iconst C (v := (-1 : Int32)) dX4_measureTo_41 rfl ?_
      refine cj_icmp_ne C (tgt := 63) dX4_measureTo_42 rfl h (fun _ h => ?_) (fun _ h => ?_)
      · refine cj_aload_n C (i := 0) dX4_measureTo_45 rfl rfl ?_
        refine cj_iload_n C (i := 3) dX4_measureTo_46 rfl rfl ?_
        refine cj_iload_n C (i := 2) dX4_measureTo_47 rfl rfl ?_
        refine cj_iconst C (v := (1 : Int32)) dX4_measureTo_48 rfl ?_
        refine cj_isub C dX4_measureTo_49 ?_
        refine cj_callVi C (As := [.int x3, .int (x2 - (1 : Int32))]) (rest := []) qX4_stepsOnTo mw_48_18 o_119 rfl rfl rfl (Nat.le_of_ble_eq_true rfl) (by decide) dX4_measureTo_50 h (fun _ _ hf => m_X4_stepsOnTo l w A x3 (x2 - (1 : Int32)) S2 _ hf) (fun z3 S4 h => ?_)
        refine cj_if_eq C (tgt := 63) dX4_measureTo_53 rfl h (fun _ h => ?_) (fun _ h => ?_)
        · refine cj_iinc C (v := (x3 + 1)) (lv' := [some (.ref (w.2.1 119)), none, some (.int x2), some (.int (x3 + 1))]) dX4_measureTo_63 rfl rfl (by decide) rfl rfl ?_
          refine cj_goto C (tgt := 27) dX4_measureTo_66 rfl ?_
          exact ih (x3 + 1) S4 h
        · refine cj_aload_n C (i := 0) dX4_measureTo_56 rfl rfl ?_
          refine cj_getR C (d := 122) o_119 rfl gfX4_18 dX4_measureTo_57 ?_
          refine cj_iload_n C (i := 3) dX4_measureTo_60 rfl rfl ?_
          refine cj_iload_n C (i := 2) dX4_measureTo_61 rfl rfl ?_
          refine cj_iastore C o_122 h dX4_measureTo_62 (fun h => ?_)
          refine cj_lets h (fun S5 h => ?_)
          refine cj_iinc C (v := (x3 + 1)) (lv' := [some (.ref (w.2.1 119)), none, some (.int x2), some (.int (x3 + 1))]) dX4_measureTo_63 rfl rfl (by decide) rfl rfl ?_
          refine cj_goto C (tgt := 27) dX4_measureTo_66 rfl ?_
          exact ih (x3 + 1) S5 h
      · refine cj_iinc C (v := (x3 + 1)) (lv' := [some (.ref (w.2.1 119)), none, some (.int x2), some (.int (x3 + 1))]) dX4_measureTo_63 rfl rfl (by decide) rfl rfl ?_
        refine cj_goto C (tgt := 27) dX4_measureTo_66 rfl ?_
        exact ih (x3 + 1) S2 h
def fX4_measureTo_17 : Nat → Int32 → cpS → Option (Unit × cpS)
  | 0, _, _ => none
  | n + 1, x2, S =>
    cpB (fX4_places S) fun z1 S2 =>
    if z1 ≤ x2 then (
    some ((), S2)) else (
    fX4_measureTo_27 x2 (fX4_measureTo_17 n) cpFu (0 : Int32) S2)
set_option maxRecDepth 100000 in
set_option maxHeartbeats 4000000 in
theorem wX4_measureTo_17 (C : cpCx p s m args meth c w A cX4_measureTo RX4 4) (hr : meth.sig.returnType = none) {r : Unit × cpS} : ∀ (n : Nat) (x2 : Int32) (S : cpS), fX4_measureTo_17 n x2 S = some r → cpJ p l e (cpRm 2) s m args below meth c (MQ below (va_Qv (fun S' => ((), S') = r) (cpWorld w A) A) args s 0 0 A) w A 4 17 [some (.ref (w.2.1 119)), none, some (.int x2), none] [] S := by
  intro n
  induction n with
  | zero => intro x2 S h; rw [fX4_measureTo_17] at h; cases h
  | succ n ih =>
    intro x2 S h
    rw [fX4_measureTo_17] at h
    refine cj_iload_n C (i := 2) dX4_measureTo_17 rfl rfl ?_
    refine cj_aload_n C (i := 0) dX4_measureTo_18 rfl rfl ?_
    refine cj_callVi C (As := []) (rest := [.int x2]) qX4_places mw_47_20 o_119 rfl rfl rfl (Nat.le_of_ble_eq_true rfl) (by decide) dX4_measureTo_19 h (fun _ _ hf => m_X4_places l w A S _ hf) (fun z1 S2 h => ?_)
    refine cj_icmp_ge C (tgt := 75) dX4_measureTo_22 rfl h (fun _ h => ?_) (fun _ h => ?_)
    · exact cj_vreturn C hr h dX4_measureTo_75
    · refine cj_iconst C (v := (0 : Int32)) dX4_measureTo_25 rfl ?_
      refine cj_istore_n C (i := 3) (lv' := [some (.ref (w.2.1 119)), none, some (.int x2), some (.int (0 : Int32))]) dX4_measureTo_26 rfl (by decide) rfl rfl ?_
      exact wX4_measureTo_27 C hr x2 ih cpFu (0 : Int32) S2 h
def fX4_measureTo (x1 : Int32) (S : cpS) : Option (Unit × cpS) :=
    cpB (fJ7_fill_53178 122 6 (-1 : Int32) S) fun _ S2 =>
    if cpIn x1 6 then (
    cpLt (cpI S2 122 x1.toNatClampNeg (0 : Int32)) fun S3 =>
    fX4_measureTo_17 cpFu (1 : Int32) S3) else none
set_option maxRecDepth 100000 in
set_option maxHeartbeats 4000000 in
theorem m_X4_measureTo (l : Launch) (w : cpW) (A : Nat → Prop) (x1 : Int32) (S : cpS) (r : Unit × cpS) (h : fX4_measureTo x1 S = some r) : cpMv l yX4_measureTo cX4_measureTo 4 (none) 2 w A [.ref (w.2.1 119), .int x1] S r := by
  refine cpMv.of (lv := [some (.ref (w.2.1 119)), some (.int x1), none, none]) (by decide) (Nat.le_of_ble_eq_true rfl) rfl (fun p e s m args below meth c C hr => ?_)
  replace C : cpCx p s m args meth c w A cX4_measureTo RX4 4 := C
  rw [fX4_measureTo] at h
  refine cj_aload_n C (i := 0) dX4_measureTo_0 rfl rfl ?_
  refine cj_getR C (d := 122) o_119 rfl gfX4_18 dX4_measureTo_1 ?_
  refine cj_iconst C (v := (-1 : Int32)) dX4_measureTo_4 rfl ?_
  refine cj_callSv C (As := [.ref (w.2.1 122), .int (-1 : Int32)]) (rest := []) qJ7_fill_53178 mw_48_17 rfl rfl (Nat.le_of_ble_eq_true rfl) (by decide) dX4_measureTo_5 h (fun _ _ hf => m_J7_fill_53178 l w A o_122 (-1 : Int32) S _ hf) (fun z1 S2 h => ?_)
  refine cj_aload_n C (i := 0) dX4_measureTo_8 rfl rfl ?_
  refine cj_getR C (d := 122) o_119 rfl gfX4_18 dX4_measureTo_9 ?_
  refine cj_iload_n C (i := 1) dX4_measureTo_12 rfl rfl ?_
  refine cj_iconst C (v := (0 : Int32)) dX4_measureTo_13 rfl ?_
  refine cj_iastore C o_122 h dX4_measureTo_14 (fun h => ?_)
  refine cj_lets h (fun S3 h => ?_)
  refine cj_iconst C (v := (1 : Int32)) dX4_measureTo_15 rfl ?_
  refine cj_istore_n C (i := 2) (lv' := [some (.ref (w.2.1 119)), some (.int x1), some (.int (1 : Int32)), none]) dX4_measureTo_16 rfl (by decide) rfl rfl ?_
  refine cj_weak C (lv' := [some (.ref (w.2.1 119)), none, some (.int (1 : Int32)), none]) (cpSub_s (cpSub_n (cpSub_s (cpSub_n cpSub_nil)))) ?_
  exact wX4_measureTo_17 C hr cpFu (1 : Int32) S3 h
/-! X11_deedOf -/
def fX11_deedOf (x0 : Int32) (x1 : Int32) (x2 : Int32) (x3 : Int32) (S : cpS) : Option (Int32 × cpS) :=
    some ((((((10000 : Int32) + ((1000 : Int32) * x0)) + ((100 : Int32) * x1)) + ((10 : Int32) * x2)) + x3), S)
set_option maxRecDepth 100000 in
set_option maxHeartbeats 4000000 in
theorem m_X11_deedOf (l : Launch) (w : cpW) (A : Nat → Prop) (x0 : Int32) (x1 : Int32) (x2 : Int32) (x3 : Int32) (S : cpS) (r : Int32 × cpS) (h : fX11_deedOf x0 x1 x2 x3 S = some r) : cpMi l yX11_deedOf cX11_deedOf 4 ((some .int)) 0 w A [.int x0, .int x1, .int x2, .int x3] S r := by
  refine cpMi.of (lv := [some (.int x0), some (.int x1), some (.int x2), some (.int x3)]) (by decide) (Nat.le_of_ble_eq_true rfl) rfl (fun p e s m args below meth c C hr => ?_)
  replace C : cpCx p s m args meth c w A cX11_deedOf RX11 4 := C
  rw [fX11_deedOf] at h
  refine cj_sipush C (v := (10000 : Int32)) dX11_deedOf_0 rfl ?_
  refine cj_sipush C (v := (1000 : Int32)) dX11_deedOf_3 rfl ?_
  refine cj_iload_n C (i := 0) dX11_deedOf_6 rfl rfl ?_
  refine cj_imul C dX11_deedOf_7 ?_
  refine cj_iadd C dX11_deedOf_8 ?_
  refine cj_bipush C (v := (100 : Int32)) dX11_deedOf_9 rfl ?_
  refine cj_iload_n C (i := 1) dX11_deedOf_11 rfl rfl ?_
  refine cj_imul C dX11_deedOf_12 ?_
  refine cj_iadd C dX11_deedOf_13 ?_
  refine cj_bipush C (v := (10 : Int32)) dX11_deedOf_14 rfl ?_
  refine cj_iload_n C (i := 2) dX11_deedOf_16 rfl rfl ?_
  refine cj_imul C dX11_deedOf_17 ?_
  refine cj_iadd C dX11_deedOf_18 ?_
  refine cj_iload_n C (i := 3) dX11_deedOf_19 rfl rfl ?_
  refine cj_iadd C dX11_deedOf_20 ?_
  exact cj_ireturn C hr h dX11_deedOf_21
/-! X4_firstDeed -/
def fX4_firstDeed_11 (x1 : Int32) (x2 : Int32) (x3 : Int32) (k2 : Int32 → cpS → Option (Int32 × cpS)) : Nat → Int32 → cpS → Option (Int32 × cpS)
  | 0, _, _ => none
  | n + 1, x4, S =>
    cpB (fX4_places S) fun z1 S2 =>
    if z1 ≤ x4 then (
    k2 (x3 + 1) S2) else (
    cpB (fX4_wearOf x2 x4 x3 S2) fun z3 S4 =>
    if z3 = (-1 : Int32) then (
    fX4_firstDeed_11 x1 x2 x3 k2 n (x4 + 1) S4) else (
    if cpIn x4 6 then (
    if (S4.1 122 x4.toNatClampNeg) = (-1 : Int32) then (
    fX4_firstDeed_11 x1 x2 x3 k2 n (x4 + 1) S4) else (
    if cpIn x4 6 then (
    if cpIn x2 6 then (
    if (S4.1 122 x2.toNatClampNeg) ≤ (S4.1 122 x4.toNatClampNeg) then (
    fX4_firstDeed_11 x1 x2 x3 k2 n (x4 + 1) S4) else (
    if cpIn x3 28 then (
    if cpIn x3 28 then (
    cpB (fX11_deedOf (cpLs x3.toNatClampNeg) (cpOs x3.toNatClampNeg) x1 x4 S4) fun z5 S6 =>
    some (z5, S6)) else none) else none)) else none) else none)) else none))
set_option maxRecDepth 100000 in
set_option maxHeartbeats 4000000 in
theorem wX4_firstDeed_11 (C : cpCx p s m args meth c w A cX4_firstDeed RX4 5) (hr : meth.sig.returnType = (some .int)) {r : Int32 × cpS} (x1 : Int32) (x2 : Int32) (x3 : Int32) {k2 : Int32 → cpS → Option (Int32 × cpS)} (hk2 : ∀ (x3 : Int32) (S : cpS), k2 x3 S = some r → cpJ p l e (cpRm 1) s m args below meth c (MQ below (va_Qi (fun x S' => (x, S') = r) (cpWorld w A) A) args s 0 0 A) w A 5 2 [some (.ref (w.2.1 119)), some (.int x1), some (.int x2), some (.int x3), none] [] S) : ∀ (n : Nat) (x4 : Int32) (S : cpS), fX4_firstDeed_11 x1 x2 x3 k2 n x4 S = some r → cpJ p l e (cpRm 1) s m args below meth c (MQ below (va_Qi (fun x S' => (x, S') = r) (cpWorld w A) A) args s 0 0 A) w A 5 11 [some (.ref (w.2.1 119)), some (.int x1), some (.int x2), some (.int x3), some (.int x4)] [] S := by
  intro n
  induction n with
  | zero => intro x4 S h; rw [fX4_firstDeed_11] at h; cases h
  | succ n ih =>
    intro x4 S h
    rw [fX4_firstDeed_11] at h
    refine cj_iload C dX4_firstDeed_11 rfl ?_
    refine cj_aload_n C (i := 0) dX4_firstDeed_13 rfl rfl ?_
    refine cj_callVi C (As := []) (rest := [.int x4]) qX4_places mw_47_20 o_119 rfl rfl rfl (Nat.le_of_ble_eq_true rfl) (by decide) dX4_firstDeed_14 h (fun _ _ hf => m_X4_places l w A S _ hf) (fun z1 S2 h => ?_)
    refine cj_icmp_ge C (tgt := 82) dX4_firstDeed_17 rfl h (fun _ h => ?_) (fun _ h => ?_)
    · refine cj_iinc C (v := (x3 + 1)) (lv' := [some (.ref (w.2.1 119)), some (.int x1), some (.int x2), some (.int (x3 + 1)), some (.int x4)]) dX4_firstDeed_82 rfl rfl (by decide) rfl rfl ?_
      refine cj_goto C (tgt := 2) dX4_firstDeed_85 rfl ?_
      refine cj_weak C (lv' := [some (.ref (w.2.1 119)), some (.int x1), some (.int x2), some (.int (x3 + 1)), none]) (cpSub_s (cpSub_s (cpSub_s (cpSub_s (cpSub_n cpSub_nil))))) ?_
      exact hk2 (x3 + 1) S2 h
    · refine cj_aload_n C (i := 0) dX4_firstDeed_20 rfl rfl ?_
      refine cj_iload_n C (i := 2) dX4_firstDeed_21 rfl rfl ?_
      refine cj_iload C dX4_firstDeed_22 rfl ?_
      refine cj_iload_n C (i := 3) dX4_firstDeed_24 rfl rfl ?_
      refine cj_callVi C (As := [.int x2, .int x4, .int x3]) (rest := []) qX4_wearOf mw_50_6 o_119 rfl rfl rfl (Nat.le_of_ble_eq_true rfl) (by decide) dX4_firstDeed_25 h (fun _ _ hf => m_X4_wearOf l w A x2 x4 x3 S2 _ hf) (fun z3 S4 h => ?_)
      refine cj_iconst C (v := (-1 : Int32)) dX4_firstDeed_28 rfl ?_
      refine cj_icmp_eq C (tgt := 76) dX4_firstDeed_29 rfl h (fun _ h => ?_) (fun _ h => ?_)
      · refine cj_iinc C (v := (x4 + 1)) (lv' := [some (.ref (w.2.1 119)), some (.int x1), some (.int x2), some (.int x3), some (.int (x4 + 1))]) dX4_firstDeed_76 rfl rfl (by decide) rfl rfl ?_
        refine cj_goto C (tgt := 11) dX4_firstDeed_79 rfl ?_
        exact ih (x4 + 1) S4 h
      · refine cj_aload_n C (i := 0) dX4_firstDeed_32 rfl rfl ?_
        refine cj_getR C (d := 122) o_119 rfl gfX4_18 dX4_firstDeed_33 ?_
        refine cj_iload C dX4_firstDeed_36 rfl ?_
        refine cj_iaload C o_122 h dX4_firstDeed_38 (fun h => ?_)
        refine cj_iconst C (v := (-1 : Int32)) dX4_firstDeed_39 rfl ?_
        refine cj_icmp_eq C (tgt := 76) dX4_firstDeed_40 rfl h (fun _ h => ?_) (fun _ h => ?_)
        · refine cj_iinc C (v := (x4 + 1)) (lv' := [some (.ref (w.2.1 119)), some (.int x1), some (.int x2), some (.int x3), some (.int (x4 + 1))]) dX4_firstDeed_76 rfl rfl (by decide) rfl rfl ?_
          refine cj_goto C (tgt := 11) dX4_firstDeed_79 rfl ?_
          exact ih (x4 + 1) S4 h
        · refine cj_aload_n C (i := 0) dX4_firstDeed_43 rfl rfl ?_
          refine cj_getR C (d := 122) o_119 rfl gfX4_18 dX4_firstDeed_44 ?_
          refine cj_iload C dX4_firstDeed_47 rfl ?_
          refine cj_iaload C o_122 h dX4_firstDeed_49 (fun h => ?_)
          refine cj_aload_n C (i := 0) dX4_firstDeed_50 rfl rfl ?_
          refine cj_getR C (d := 122) o_119 rfl gfX4_18 dX4_firstDeed_51 ?_
          refine cj_iload_n C (i := 2) dX4_firstDeed_54 rfl rfl ?_
          refine cj_iaload C o_122 h dX4_firstDeed_55 (fun h => ?_)
          refine cj_icmp_ge C (tgt := 76) dX4_firstDeed_56 rfl h (fun _ h => ?_) (fun _ h => ?_)
          · refine cj_iinc C (v := (x4 + 1)) (lv' := [some (.ref (w.2.1 119)), some (.int x1), some (.int x2), some (.int x3), some (.int (x4 + 1))]) dX4_firstDeed_76 rfl rfl (by decide) rfl rfl ?_
            refine cj_goto C (tgt := 11) dX4_firstDeed_79 rfl ?_
            exact ih (x4 + 1) S4 h
          · refine cj_getsN0 C (List.mem_of_getElem? (i := 2) rfl) dX4_firstDeed_59 ?_
            refine cj_iload_n C (i := 3) dX4_firstDeed_62 rfl rfl ?_
            refine cj_tab0 C h dX4_firstDeed_63 (fun h => ?_)
            refine cj_getsN1 C (List.mem_of_getElem? (i := 3) rfl) dX4_firstDeed_64 ?_
            refine cj_iload_n C (i := 3) dX4_firstDeed_67 rfl rfl ?_
            refine cj_tab1 C h dX4_firstDeed_68 (fun h => ?_)
            refine cj_iload_n C (i := 1) dX4_firstDeed_69 rfl rfl ?_
            refine cj_iload C dX4_firstDeed_70 rfl ?_
            refine cj_callNi C (As := [.int (cpLs x3.toNatClampNeg), .int (cpOs x3.toNatClampNeg), .int x1, .int x4]) (rest := []) qX11_deedOf (List.mem_of_getElem? (i := 4) rfl) rfl rfl (Nat.le_of_ble_eq_true rfl) (by decide) dX4_firstDeed_72 h (fun _ _ hf => m_X11_deedOf l w A (cpLs x3.toNatClampNeg) (cpOs x3.toNatClampNeg) x1 x4 S4 _ hf) (fun z5 S6 h => ?_)
            exact cj_ireturn C hr h dX4_firstDeed_75
def fX4_firstDeed_2 (x1 : Int32) (x2 : Int32) : Nat → Int32 → cpS → Option (Int32 × cpS)
  | 0, _, _ => none
  | n + 1, x3, S =>
    if (28 : Int32) ≤ x3 then (
    some (((10000 : Int32) + x2), S)) else (
    fX4_firstDeed_11 x1 x2 x3 (fX4_firstDeed_2 x1 x2 n) cpFu (0 : Int32) S)
set_option maxRecDepth 100000 in
set_option maxHeartbeats 4000000 in
theorem wX4_firstDeed_2 (C : cpCx p s m args meth c w A cX4_firstDeed RX4 5) (hr : meth.sig.returnType = (some .int)) {r : Int32 × cpS} (x1 : Int32) (x2 : Int32) : ∀ (n : Nat) (x3 : Int32) (S : cpS), fX4_firstDeed_2 x1 x2 n x3 S = some r → cpJ p l e (cpRm 1) s m args below meth c (MQ below (va_Qi (fun x S' => (x, S') = r) (cpWorld w A) A) args s 0 0 A) w A 5 2 [some (.ref (w.2.1 119)), some (.int x1), some (.int x2), some (.int x3), none] [] S := by
  intro n
  induction n with
  | zero => intro x3 S h; rw [fX4_firstDeed_2] at h; cases h
  | succ n ih =>
    intro x3 S h
    rw [fX4_firstDeed_2] at h
    refine cj_iload_n C (i := 3) dX4_firstDeed_2 rfl rfl ?_
    refine cj_bipush C (v := (28 : Int32)) dX4_firstDeed_3 rfl ?_
    refine cj_icmp_ge C (tgt := 88) dX4_firstDeed_5 rfl h (fun _ h => ?_) (fun _ h => ?_)
    · refine cj_sipush C (v := (10000 : Int32)) dX4_firstDeed_88 rfl ?_
      refine cj_iload_n C (i := 2) dX4_firstDeed_91 rfl rfl ?_
      refine cj_iadd C dX4_firstDeed_92 ?_
      exact cj_ireturn C hr h dX4_firstDeed_93
    · refine cj_iconst C (v := (0 : Int32)) dX4_firstDeed_8 rfl ?_
      refine cj_istore C (lv' := [some (.ref (w.2.1 119)), some (.int x1), some (.int x2), some (.int x3), some (.int (0 : Int32))]) dX4_firstDeed_9 (by decide) rfl rfl ?_
      exact wX4_firstDeed_11 C hr x1 x2 x3 ih cpFu (0 : Int32) S h
def fX4_firstDeed (x1 : Int32) (x2 : Int32) (S : cpS) : Option (Int32 × cpS) :=
    fX4_firstDeed_2 x1 x2 cpFu (0 : Int32) S
set_option maxRecDepth 100000 in
set_option maxHeartbeats 4000000 in
theorem m_X4_firstDeed (l : Launch) (w : cpW) (A : Nat → Prop) (x1 : Int32) (x2 : Int32) (S : cpS) (r : Int32 × cpS) (h : fX4_firstDeed x1 x2 S = some r) : cpMi l yX4_firstDeed cX4_firstDeed 5 ((some .int)) 1 w A [.ref (w.2.1 119), .int x1, .int x2] S r := by
  refine cpMi.of (lv := [some (.ref (w.2.1 119)), some (.int x1), some (.int x2), none, none]) (by decide) (Nat.le_of_ble_eq_true rfl) rfl (fun p e s m args below meth c C hr => ?_)
  replace C : cpCx p s m args meth c w A cX4_firstDeed RX4 5 := C
  rw [fX4_firstDeed] at h
  refine cj_iconst C (v := (0 : Int32)) dX4_firstDeed_0 rfl ?_
  refine cj_istore_n C (i := 3) (lv' := [some (.ref (w.2.1 119)), some (.int x1), some (.int x2), some (.int (0 : Int32)), none]) dX4_firstDeed_1 rfl (by decide) rfl rfl ?_
  exact wX4_firstDeed_2 C hr x1 x2 cpFu (0 : Int32) S h
/-! J7_fill_d0a16 -/
def fJ7_fill_d0a16_6 (k0 nk0 : Nat) (x1 : Int64) (x4 : Int32) : Nat → Int32 → cpS → Option (Unit × cpS)
  | 0, _, _ => none
  | n + 1, x3, S =>
    if x4 ≤ x3 then (
    some ((), S)) else (
    if cpIn x3 nk0 then (
    cpLt (cpL S k0 x3.toNatClampNeg x1) fun S1 =>
    fJ7_fill_d0a16_6 k0 nk0 x1 x4 n (x3 + 1) S1) else none)
set_option maxRecDepth 100000 in
set_option maxHeartbeats 4000000 in
theorem wJ7_fill_d0a16_6 (C : cpCx p s m args meth c w A cJ7_fill_d0a16 RJ7 5) (hr : meth.sig.returnType = none) {r : Unit × cpS} {k0 nk0 : Nat} (hk0 : cpO k0 4 nk0 []) (x1 : Int64) (x4 : Int32) : ∀ (n : Nat) (x3 : Int32) (S : cpS), fJ7_fill_d0a16_6 k0 nk0 x1 x4 n x3 S = some r → cpJ p l e (cpRm 0) s m args below meth c (MQ below (va_Qv (fun S' => ((), S') = r) (cpWorld w A) A) args s 0 0 A) w A 5 6 [some (.ref (w.2.1 k0)), some (.long x1), none, some (.int x3), some (.int x4)] [] S := by
  intro n
  induction n with
  | zero => intro x3 S h; rw [fJ7_fill_d0a16_6] at h; cases h
  | succ n ih =>
    intro x3 S h
    rw [fJ7_fill_d0a16_6] at h
    refine cj_iload_n C (i := 3) dJ7_fill_d0a16_6 rfl rfl ?_
    refine cj_iload C dJ7_fill_d0a16_7 rfl ?_
    refine cj_icmp_ge C (tgt := 22) dJ7_fill_d0a16_9 rfl h (fun _ h => ?_) (fun _ h => ?_)
    · exact cj_vreturn C hr h dJ7_fill_d0a16_22
    · refine cj_aload_n C (i := 0) dJ7_fill_d0a16_12 rfl rfl ?_
      refine cj_iload_n C (i := 3) dJ7_fill_d0a16_13 rfl rfl ?_
      refine cj_lload_n C (i := 1) dJ7_fill_d0a16_14 rfl rfl ?_
      refine cj_lastore C hk0 h dJ7_fill_d0a16_15 (fun h => ?_)
      refine cj_lets h (fun S1 h => ?_)
      refine cj_iinc C (v := (x3 + 1)) (lv' := [some (.ref (w.2.1 k0)), some (.long x1), none, some (.int (x3 + 1)), some (.int x4)]) dJ7_fill_d0a16_16 rfl rfl (by decide) rfl rfl ?_
      refine cj_goto C (tgt := 6) dJ7_fill_d0a16_19 rfl ?_
      exact ih (x3 + 1) S1 h
def fJ7_fill_d0a16 (k0 nk0 : Nat) (x1 : Int64) (S : cpS) : Option (Unit × cpS) :=
    cpLt (nI nk0) fun y1 =>
    fJ7_fill_d0a16_6 k0 nk0 x1 y1 cpFu (0 : Int32) S
set_option maxRecDepth 100000 in
set_option maxHeartbeats 4000000 in
theorem m_J7_fill_d0a16 (l : Launch) (w : cpW) (A : Nat → Prop) {k0 nk0 : Nat} (hk0 : cpO k0 4 nk0 []) (x1 : Int64) (S : cpS) (r : Unit × cpS) (h : fJ7_fill_d0a16 k0 nk0 x1 S = some r) : cpMv l yJ7_fill_d0a16 cJ7_fill_d0a16 5 (none) 0 w A [.ref (w.2.1 k0), .long x1] S r := by
  refine cpMv.of (lv := [some (.ref (w.2.1 k0)), some (.long x1), none, none, none]) (by decide) (Nat.le_of_ble_eq_true rfl) rfl (fun p e s m args below meth c C hr => ?_)
  replace C : cpCx p s m args meth c w A cJ7_fill_d0a16 RJ7 5 := C
  rw [fJ7_fill_d0a16] at h
  refine cj_iconst C (v := (0 : Int32)) dJ7_fill_d0a16_0 rfl ?_
  refine cj_istore_n C (i := 3) (lv' := [some (.ref (w.2.1 k0)), some (.long x1), none, some (.int (0 : Int32)), none]) dJ7_fill_d0a16_1 rfl (by decide) rfl rfl ?_
  refine cj_aload_n C (i := 0) dJ7_fill_d0a16_2 rfl rfl ?_
  refine cj_alen4 C hk0 dJ7_fill_d0a16_3 ?_
  refine cj_let h (fun y1 h => ?_)
  refine cj_istore C (lv' := [some (.ref (w.2.1 k0)), some (.long x1), none, some (.int (0 : Int32)), some (.int y1)]) dJ7_fill_d0a16_4 (by decide) rfl rfl ?_
  exact wJ7_fill_d0a16_6 C hr hk0 x1 y1 cpFu (0 : Int32) S h
/-! X4_rowsOf -/
def fX4_rowsOf_47 (x2 : Int32) (x3 : Int32) (x4 : Int32) (x5 : Int32) (k18 : Int32 → cpS → Option (Int64 × cpS)) (k35 : Int32 → cpS → Option (Int64 × cpS)) : Nat → Int32 → cpS → Option (Int64 × cpS)
  | 0, _, _ => none
  | n + 1, x6, S =>
    cpB (fX4_places S) fun z1 S2 =>
    if z1 ≤ x6 then (
    k35 (x5 + 1) S2) else (
    if cpIn x6 6 then (
    if cpIn x5 6 then (
    if cpIn ((x5 * (6 : Int32)) + x6) 36 then (
    if cpIn x6 6 then (
    cpLt (cpL S2 124 x6.toNatClampNeg ((S2.2 124 x6.toNatClampNeg) + ((S2.2 123 x5.toNatClampNeg) * (Int32.toInt64 (S2.1 121 ((x5 * (6 : Int32)) + x6).toNatClampNeg))))) fun S3 =>
    fX4_rowsOf_47 x2 x3 x4 x5 k18 k35 n (x6 + 1) S3) else none) else none) else none) else none)
set_option maxRecDepth 100000 in
set_option maxHeartbeats 4000000 in
theorem wX4_rowsOf_47 (C : cpCx p s m args meth c w A cX4_rowsOf RX4 7) (hr : meth.sig.returnType = (some .long)) {r : Int64 × cpS} (x2 : Int32) (x3 : Int32) (x4 : Int32) (x5 : Int32) {k18 : Int32 → cpS → Option (Int64 × cpS)} (hk18 : ∀ (x4 : Int32) (S : cpS), k18 x4 S = some r → cpJ p l e (cpRm 1) s m args below meth c (MQ below (va_Ql (fun x S' => (x, S') = r) (cpWorld w A) A) args s 0 0 A) w A 7 18 [some (.ref (w.2.1 119)), none, some (.int x2), some (.int x3), some (.int x4), none, none] [] S) {k35 : Int32 → cpS → Option (Int64 × cpS)} (hk35 : ∀ (x5 : Int32) (S : cpS), k35 x5 S = some r → cpJ p l e (cpRm 1) s m args below meth c (MQ below (va_Ql (fun x S' => (x, S') = r) (cpWorld w A) A) args s 0 0 A) w A 7 35 [some (.ref (w.2.1 119)), none, some (.int x2), some (.int x3), some (.int x4), some (.int x5), none] [] S) : ∀ (n : Nat) (x6 : Int32) (S : cpS), fX4_rowsOf_47 x2 x3 x4 x5 k18 k35 n x6 S = some r → cpJ p l e (cpRm 1) s m args below meth c (MQ below (va_Ql (fun x S' => (x, S') = r) (cpWorld w A) A) args s 0 0 A) w A 7 47 [some (.ref (w.2.1 119)), none, some (.int x2), some (.int x3), some (.int x4), some (.int x5), some (.int x6)] [] S := by
  intro n
  induction n with
  | zero => intro x6 S h; rw [fX4_rowsOf_47] at h; cases h
  | succ n ih =>
    intro x6 S h
    rw [fX4_rowsOf_47] at h
    refine cj_iload C dX4_rowsOf_47 rfl ?_
    refine cj_aload_n C (i := 0) dX4_rowsOf_49 rfl rfl ?_
    refine cj_callVi C (As := []) (rest := [.int x6]) qX4_places mw_47_20 o_119 rfl rfl rfl (Nat.le_of_ble_eq_true rfl) (by decide) dX4_rowsOf_50 h (fun _ _ hf => m_X4_places l w A S _ hf) (fun z1 S2 h => ?_)
    refine cj_icmp_ge C (tgt := 94) dX4_rowsOf_53 rfl h (fun _ h => ?_) (fun _ h => ?_)
    · refine cj_iinc C (v := (x5 + 1)) (lv' := [some (.ref (w.2.1 119)), none, some (.int x2), some (.int x3), some (.int x4), some (.int (x5 + 1)), some (.int x6)]) dX4_rowsOf_94 rfl rfl (by decide) rfl rfl ?_
      refine cj_goto C (tgt := 35) dX4_rowsOf_97 rfl ?_
      refine cj_weak C (lv' := [some (.ref (w.2.1 119)), none, some (.int x2), some (.int x3), some (.int x4), some (.int (x5 + 1)), none]) (cpSub_s (cpSub_n (cpSub_s (cpSub_s (cpSub_s (cpSub_s (cpSub_n cpSub_nil))))))) ?_
      exact hk35 (x5 + 1) S2 h
    · refine cj_aload_n C (i := 0) dX4_rowsOf_56 rfl rfl ?_
      refine cj_getR C (d := 124) o_119 rfl gfX4_25 dX4_rowsOf_57 ?_
      refine cj_iload C dX4_rowsOf_60 rfl ?_
      refine cj_dup2 C dX4_rowsOf_62 rfl rfl ?_
      refine cj_laload C o_124 h dX4_rowsOf_63 (fun h => ?_)
      refine cj_aload_n C (i := 0) dX4_rowsOf_64 rfl rfl ?_
      refine cj_getR C (d := 123) o_119 rfl gfX4_21 dX4_rowsOf_65 ?_
      refine cj_iload C dX4_rowsOf_68 rfl ?_
      refine cj_laload C o_123 h dX4_rowsOf_70 (fun h => ?_)
      refine cj_aload_n C (i := 0) dX4_rowsOf_71 rfl rfl ?_
      refine cj_getR C (d := 121) o_119 rfl gfX4_15 dX4_rowsOf_72 ?_
      refine cj_iload C dX4_rowsOf_75 rfl ?_
      refine cj_bipush C (v := (6 : Int32)) dX4_rowsOf_77 rfl ?_
      refine cj_imul C dX4_rowsOf_79 ?_
      refine cj_iload C dX4_rowsOf_80 rfl ?_
      refine cj_iadd C dX4_rowsOf_82 ?_
      refine cj_iaload C o_121 h dX4_rowsOf_83 (fun h => ?_)
      refine cj_i2l C dX4_rowsOf_84 ?_
      refine cj_lmul C dX4_rowsOf_85 ?_
      refine cj_ladd C dX4_rowsOf_86 ?_
      refine cj_lastore C o_124 h dX4_rowsOf_87 (fun h => ?_)
      refine cj_lets h (fun S3 h => ?_)
      refine cj_iinc C (v := (x6 + 1)) (lv' := [some (.ref (w.2.1 119)), none, some (.int x2), some (.int x3), some (.int x4), some (.int x5), some (.int (x6 + 1))]) dX4_rowsOf_88 rfl rfl (by decide) rfl rfl ?_
      refine cj_goto C (tgt := 47) dX4_rowsOf_91 rfl ?_
      exact ih (x6 + 1) S3 h
def fX4_rowsOf_35 (x2 : Int32) (x3 : Int32) (x4 : Int32) (k18 : Int32 → cpS → Option (Int64 × cpS)) : Nat → Int32 → cpS → Option (Int64 × cpS)
  | 0, _, _ => none
  | n + 1, x5, S =>
    cpB (fX4_places S) fun z1 S2 =>
    if z1 ≤ x5 then (
    if cpCp (6 : Int32) 6 6 then (
    cpLt (cpRL S2 123 (va_cpy (S2.2 124) (S2.2 123) 0 0 (6 : Int32).toNatClampNeg)) fun S3 =>
    k18 (x4 + 1) S3) else none) else (
    fX4_rowsOf_47 x2 x3 x4 x5 k18 (fX4_rowsOf_35 x2 x3 x4 k18 n) cpFu (0 : Int32) S2)
set_option maxRecDepth 100000 in
set_option maxHeartbeats 4000000 in
theorem wX4_rowsOf_35 (C : cpCx p s m args meth c w A cX4_rowsOf RX4 7) (hr : meth.sig.returnType = (some .long)) {r : Int64 × cpS} (x2 : Int32) (x3 : Int32) (x4 : Int32) {k18 : Int32 → cpS → Option (Int64 × cpS)} (hk18 : ∀ (x4 : Int32) (S : cpS), k18 x4 S = some r → cpJ p l e (cpRm 1) s m args below meth c (MQ below (va_Ql (fun x S' => (x, S') = r) (cpWorld w A) A) args s 0 0 A) w A 7 18 [some (.ref (w.2.1 119)), none, some (.int x2), some (.int x3), some (.int x4), none, none] [] S) : ∀ (n : Nat) (x5 : Int32) (S : cpS), fX4_rowsOf_35 x2 x3 x4 k18 n x5 S = some r → cpJ p l e (cpRm 1) s m args below meth c (MQ below (va_Ql (fun x S' => (x, S') = r) (cpWorld w A) A) args s 0 0 A) w A 7 35 [some (.ref (w.2.1 119)), none, some (.int x2), some (.int x3), some (.int x4), some (.int x5), none] [] S := by
  intro n
  induction n with
  | zero => intro x5 S h; rw [fX4_rowsOf_35] at h; cases h
  | succ n ih =>
    intro x5 S h
    rw [fX4_rowsOf_35] at h
    refine cj_iload C dX4_rowsOf_35 rfl ?_
    refine cj_aload_n C (i := 0) dX4_rowsOf_37 rfl rfl ?_
    refine cj_callVi C (As := []) (rest := [.int x5]) qX4_places mw_47_20 o_119 rfl rfl rfl (Nat.le_of_ble_eq_true rfl) (by decide) dX4_rowsOf_38 h (fun _ _ hf => m_X4_places l w A S _ hf) (fun z1 S2 h => ?_)
    refine cj_icmp_ge C (tgt := 100) dX4_rowsOf_41 rfl h (fun _ h => ?_) (fun _ h => ?_)
    · refine cj_aload_n C (i := 0) dX4_rowsOf_100 rfl rfl ?_
      refine cj_getR C (d := 124) o_119 rfl gfX4_25 dX4_rowsOf_101 ?_
      refine cj_iconst C (v := (0 : Int32)) dX4_rowsOf_104 rfl ?_
      refine cj_aload_n C (i := 0) dX4_rowsOf_105 rfl rfl ?_
      refine cj_getR C (d := 123) o_119 rfl gfX4_21 dX4_rowsOf_106 ?_
      refine cj_iconst C (v := (0 : Int32)) dX4_rowsOf_109 rfl ?_
      refine cj_bipush C (v := (6 : Int32)) dX4_rowsOf_110 rfl ?_
      refine ck_copyl C (by decide) (by decide) o_124 o_123 mw_51_11 mw_22_5 mw_22_6 mw_22_7 h (by decide) (Nat.le_of_ble_eq_true rfl) dX4_rowsOf_112 (fun h => ?_)
      refine cj_lets h (fun S3 h => ?_)
      refine cj_iinc C (v := (x4 + 1)) (lv' := [some (.ref (w.2.1 119)), none, some (.int x2), some (.int x3), some (.int (x4 + 1)), some (.int x5), none]) dX4_rowsOf_115 rfl rfl (by decide) rfl rfl ?_
      refine cj_goto C (tgt := 18) dX4_rowsOf_118 rfl ?_
      refine cj_weak C (lv' := [some (.ref (w.2.1 119)), none, some (.int x2), some (.int x3), some (.int (x4 + 1)), none, none]) (cpSub_s (cpSub_n (cpSub_s (cpSub_s (cpSub_s (cpSub_n (cpSub_n cpSub_nil))))))) ?_
      exact hk18 (x4 + 1) S3 h
    · refine cj_iconst C (v := (0 : Int32)) dX4_rowsOf_44 rfl ?_
      refine cj_istore C (lv' := [some (.ref (w.2.1 119)), none, some (.int x2), some (.int x3), some (.int x4), some (.int x5), some (.int (0 : Int32))]) dX4_rowsOf_45 (by decide) rfl rfl ?_
      exact wX4_rowsOf_47 C hr x2 x3 x4 x5 hk18 ih cpFu (0 : Int32) S2 h
def fX4_rowsOf_18 (x2 : Int32) (x3 : Int32) : Nat → Int32 → cpS → Option (Int64 × cpS)
  | 0, _, _ => none
  | n + 1, x4, S =>
    if x3 ≤ x4 then (
    if cpIn x2 6 then (
    some ((S.2 123 x2.toNatClampNeg), S)) else none) else (
    cpB (fJ7_fill_d0a16 124 6 (0 : Int64) S) fun _ S2 =>
    fX4_rowsOf_35 x2 x3 x4 (fX4_rowsOf_18 x2 x3 n) cpFu (0 : Int32) S2)
set_option maxRecDepth 100000 in
set_option maxHeartbeats 4000000 in
theorem wX4_rowsOf_18 (C : cpCx p s m args meth c w A cX4_rowsOf RX4 7) (hr : meth.sig.returnType = (some .long)) {r : Int64 × cpS} (x2 : Int32) (x3 : Int32) : ∀ (n : Nat) (x4 : Int32) (S : cpS), fX4_rowsOf_18 x2 x3 n x4 S = some r → cpJ p l e (cpRm 1) s m args below meth c (MQ below (va_Ql (fun x S' => (x, S') = r) (cpWorld w A) A) args s 0 0 A) w A 7 18 [some (.ref (w.2.1 119)), none, some (.int x2), some (.int x3), some (.int x4), none, none] [] S := by
  intro n
  induction n with
  | zero => intro x4 S h; rw [fX4_rowsOf_18] at h; cases h
  | succ n ih =>
    intro x4 S h
    rw [fX4_rowsOf_18] at h
    refine cj_iload C dX4_rowsOf_18 rfl ?_
    refine cj_iload_n C (i := 3) dX4_rowsOf_20 rfl rfl ?_
    refine cj_icmp_ge C (tgt := 121) dX4_rowsOf_21 rfl h (fun _ h => ?_) (fun _ h => ?_)
    · refine cj_aload_n C (i := 0) dX4_rowsOf_121 rfl rfl ?_
      refine cj_getR C (d := 123) o_119 rfl gfX4_21 dX4_rowsOf_122 ?_
      refine cj_iload_n C (i := 2) dX4_rowsOf_125 rfl rfl ?_
      refine cj_laload C o_123 h dX4_rowsOf_126 (fun h => ?_)
      exact cj_lreturn C hr h dX4_rowsOf_127
    · refine cj_aload_n C (i := 0) dX4_rowsOf_24 rfl rfl ?_
      refine cj_getR C (d := 124) o_119 rfl gfX4_25 dX4_rowsOf_25 ?_
      refine cj_lconst C (v := (0 : Int64)) dX4_rowsOf_28 rfl ?_
      refine cj_callSv C (As := [.ref (w.2.1 124), .long (0 : Int64)]) (rest := []) qJ7_fill_d0a16 mw_51_12 rfl rfl (Nat.le_of_ble_eq_true rfl) (by decide) dX4_rowsOf_29 h (fun _ _ hf => m_J7_fill_d0a16 l w A o_124 (0 : Int64) S _ hf) (fun z1 S2 h => ?_)
      refine cj_iconst C (v := (0 : Int32)) dX4_rowsOf_32 rfl ?_
      refine cj_istore C (lv' := [some (.ref (w.2.1 119)), none, some (.int x2), some (.int x3), some (.int x4), some (.int (0 : Int32)), none]) dX4_rowsOf_33 (by decide) rfl rfl ?_
      exact wX4_rowsOf_35 C hr x2 x3 x4 ih cpFu (0 : Int32) S2 h
def fX4_rowsOf (x1 : Int32) (x2 : Int32) (x3 : Int32) (S : cpS) : Option (Int64 × cpS) :=
    cpB (fJ7_fill_d0a16 123 6 (0 : Int64) S) fun _ S2 =>
    if cpIn x1 6 then (
    cpLt (cpL S2 123 x1.toNatClampNeg (1 : Int64)) fun S3 =>
    fX4_rowsOf_18 x2 x3 cpFu (0 : Int32) S3) else none
set_option maxRecDepth 100000 in
set_option maxHeartbeats 4000000 in
theorem m_X4_rowsOf (l : Launch) (w : cpW) (A : Nat → Prop) (x1 : Int32) (x2 : Int32) (x3 : Int32) (S : cpS) (r : Int64 × cpS) (h : fX4_rowsOf x1 x2 x3 S = some r) : cpMl l yX4_rowsOf cX4_rowsOf 7 ((some .long)) 1 w A [.ref (w.2.1 119), .int x1, .int x2, .int x3] S r := by
  refine cpMl.of (lv := [some (.ref (w.2.1 119)), some (.int x1), some (.int x2), some (.int x3), none, none, none]) (by decide) (Nat.le_of_ble_eq_true rfl) rfl (fun p e s m args below meth c C hr => ?_)
  replace C : cpCx p s m args meth c w A cX4_rowsOf RX4 7 := C
  rw [fX4_rowsOf] at h
  refine cj_aload_n C (i := 0) dX4_rowsOf_0 rfl rfl ?_
  refine cj_getR C (d := 123) o_119 rfl gfX4_21 dX4_rowsOf_1 ?_
  refine cj_lconst C (v := (0 : Int64)) dX4_rowsOf_4 rfl ?_
  refine cj_callSv C (As := [.ref (w.2.1 123), .long (0 : Int64)]) (rest := []) qJ7_fill_d0a16 mw_51_12 rfl rfl (Nat.le_of_ble_eq_true rfl) (by decide) dX4_rowsOf_5 h (fun _ _ hf => m_J7_fill_d0a16 l w A o_123 (0 : Int64) S _ hf) (fun z1 S2 h => ?_)
  refine cj_aload_n C (i := 0) dX4_rowsOf_8 rfl rfl ?_
  refine cj_getR C (d := 123) o_119 rfl gfX4_21 dX4_rowsOf_9 ?_
  refine cj_iload_n C (i := 1) dX4_rowsOf_12 rfl rfl ?_
  refine cj_lconst C (v := (1 : Int64)) dX4_rowsOf_13 rfl ?_
  refine cj_lastore C o_123 h dX4_rowsOf_14 (fun h => ?_)
  refine cj_lets h (fun S3 h => ?_)
  refine cj_iconst C (v := (0 : Int32)) dX4_rowsOf_15 rfl ?_
  refine cj_istore C (lv' := [some (.ref (w.2.1 119)), some (.int x1), some (.int x2), some (.int x3), some (.int (0 : Int32)), none, none]) dX4_rowsOf_16 (by decide) rfl rfl ?_
  refine cj_weak C (lv' := [some (.ref (w.2.1 119)), none, some (.int x2), some (.int x3), some (.int (0 : Int32)), none, none]) (cpSub_s (cpSub_n (cpSub_s (cpSub_s (cpSub_s (cpSub_n (cpSub_n cpSub_nil))))))) ?_
  exact wX4_rowsOf_18 C hr x2 x3 cpFu (0 : Int32) S3 h
/-! X4_reachedFrom -/
def fX4_reachedFrom_17 (x3 : Int32) (k6 : Int32 → Int32 → cpS → Option (Int32 × cpS)) : Nat → Int32 → Int32 → cpS → Option (Int32 × cpS)
  | 0, _, _, _ => none
  | n + 1, x2, x4, S =>
    cpB (fX4_places S) fun z1 S2 =>
    if z1 ≤ x4 then (
    k6 x2 (x3 + 1) S2) else (
    cpB (fX11_isIn x2 x4 S2) fun z3 S4 =>
    if z3 = 0 then (
    fX4_reachedFrom_17 x3 k6 n x2 (x4 + 1) S4) else (
    cpB (fX4_placesNextTo x4 S4) fun z5 S6 =>
    cpLt (x2 ||| z5) fun y7 =>
    fX4_reachedFrom_17 x3 k6 n y7 (x4 + 1) S6))
set_option maxRecDepth 100000 in
set_option maxHeartbeats 4000000 in
theorem wX4_reachedFrom_17 (C : cpCx p s m args meth c w A cX4_reachedFrom RX4 5) (hr : meth.sig.returnType = (some .int)) {r : Int32 × cpS} (x3 : Int32) {k6 : Int32 → Int32 → cpS → Option (Int32 × cpS)} (hk6 : ∀ (x2 : Int32) (x3 : Int32) (S : cpS), k6 x2 x3 S = some r → cpJ p l e (cpRm 2) s m args below meth c (MQ below (va_Qi (fun x S' => (x, S') = r) (cpWorld w A) A) args s 0 0 A) w A 5 6 [some (.ref (w.2.1 119)), none, some (.int x2), some (.int x3), none] [] S) : ∀ (n : Nat) (x2 : Int32) (x4 : Int32) (S : cpS), fX4_reachedFrom_17 x3 k6 n x2 x4 S = some r → cpJ p l e (cpRm 2) s m args below meth c (MQ below (va_Qi (fun x S' => (x, S') = r) (cpWorld w A) A) args s 0 0 A) w A 5 17 [some (.ref (w.2.1 119)), none, some (.int x2), some (.int x3), some (.int x4)] [] S := by
  intro n
  induction n with
  | zero => intro x2 x4 S h; rw [fX4_reachedFrom_17] at h; cases h
  | succ n ih =>
    intro x2 x4 S h
    rw [fX4_reachedFrom_17] at h
    refine cj_iload C dX4_reachedFrom_17 rfl ?_
    refine cj_aload_n C (i := 0) dX4_reachedFrom_19 rfl rfl ?_
    refine cj_callVi C (As := []) (rest := [.int x4]) qX4_places mw_47_20 o_119 rfl rfl rfl (Nat.le_of_ble_eq_true rfl) (by decide) dX4_reachedFrom_20 h (fun _ _ hf => m_X4_places l w A S _ hf) (fun z1 S2 h => ?_)
    refine cj_icmp_ge C (tgt := 50) dX4_reachedFrom_23 rfl h (fun _ h => ?_) (fun _ h => ?_)
    · refine cj_iinc C (v := (x3 + 1)) (lv' := [some (.ref (w.2.1 119)), none, some (.int x2), some (.int (x3 + 1)), some (.int x4)]) dX4_reachedFrom_50 rfl rfl (by decide) rfl rfl ?_
      refine cj_goto C (tgt := 6) dX4_reachedFrom_53 rfl ?_
      refine cj_weak C (lv' := [some (.ref (w.2.1 119)), none, some (.int x2), some (.int (x3 + 1)), none]) (cpSub_s (cpSub_n (cpSub_s (cpSub_s (cpSub_n cpSub_nil))))) ?_
      exact hk6 x2 (x3 + 1) S2 h
    · refine cj_iload_n C (i := 2) dX4_reachedFrom_26 rfl rfl ?_
      refine cj_iload C dX4_reachedFrom_27 rfl ?_
      refine cj_callNi C (As := [.int x2, .int x4]) (rest := []) qX11_isIn (List.mem_of_getElem? (i := 3) rfl) rfl rfl (Nat.le_of_ble_eq_true rfl) (by decide) dX4_reachedFrom_29 h (fun _ _ hf => m_X11_isIn l w A x2 x4 S2 _ hf) (fun z3 S4 h => ?_)
      refine cj_if_eq C (tgt := 44) dX4_reachedFrom_32 rfl h (fun _ h => ?_) (fun _ h => ?_)
      · refine cj_iinc C (v := (x4 + 1)) (lv' := [some (.ref (w.2.1 119)), none, some (.int x2), some (.int x3), some (.int (x4 + 1))]) dX4_reachedFrom_44 rfl rfl (by decide) rfl rfl ?_
        refine cj_goto C (tgt := 17) dX4_reachedFrom_47 rfl ?_
        exact ih x2 (x4 + 1) S4 h
      · refine cj_iload_n C (i := 2) dX4_reachedFrom_35 rfl rfl ?_
        refine cj_aload_n C (i := 0) dX4_reachedFrom_36 rfl rfl ?_
        refine cj_iload C dX4_reachedFrom_37 rfl ?_
        refine cj_callVi C (As := [.int x4]) (rest := [.int x2]) qX4_placesNextTo mw_52_6 o_119 rfl rfl rfl (Nat.le_of_ble_eq_true rfl) (by decide) dX4_reachedFrom_39 h (fun _ _ hf => m_X4_placesNextTo l w A x4 S4 _ hf) (fun z5 S6 h => ?_)
        refine cj_ior C dX4_reachedFrom_42 ?_
        refine cj_let h (fun y7 h => ?_)
        refine cj_istore_n C (i := 2) (lv' := [some (.ref (w.2.1 119)), none, some (.int y7), some (.int x3), some (.int x4)]) dX4_reachedFrom_43 rfl (by decide) rfl rfl ?_
        refine cj_iinc C (v := (x4 + 1)) (lv' := [some (.ref (w.2.1 119)), none, some (.int y7), some (.int x3), some (.int (x4 + 1))]) dX4_reachedFrom_44 rfl rfl (by decide) rfl rfl ?_
        refine cj_goto C (tgt := 17) dX4_reachedFrom_47 rfl ?_
        exact ih y7 (x4 + 1) S6 h
def fX4_reachedFrom_6 : Nat → Int32 → Int32 → cpS → Option (Int32 × cpS)
  | 0, _, _, _ => none
  | n + 1, x2, x3, S =>
    cpB (fX4_places S) fun z1 S2 =>
    if z1 ≤ x3 then (
    some (x2, S2)) else (
    fX4_reachedFrom_17 x3 (fX4_reachedFrom_6 n) cpFu x2 (0 : Int32) S2)
set_option maxRecDepth 100000 in
set_option maxHeartbeats 4000000 in
theorem wX4_reachedFrom_6 (C : cpCx p s m args meth c w A cX4_reachedFrom RX4 5) (hr : meth.sig.returnType = (some .int)) {r : Int32 × cpS} : ∀ (n : Nat) (x2 : Int32) (x3 : Int32) (S : cpS), fX4_reachedFrom_6 n x2 x3 S = some r → cpJ p l e (cpRm 2) s m args below meth c (MQ below (va_Qi (fun x S' => (x, S') = r) (cpWorld w A) A) args s 0 0 A) w A 5 6 [some (.ref (w.2.1 119)), none, some (.int x2), some (.int x3), none] [] S := by
  intro n
  induction n with
  | zero => intro x2 x3 S h; rw [fX4_reachedFrom_6] at h; cases h
  | succ n ih =>
    intro x2 x3 S h
    rw [fX4_reachedFrom_6] at h
    refine cj_iload_n C (i := 3) dX4_reachedFrom_6 rfl rfl ?_
    refine cj_aload_n C (i := 0) dX4_reachedFrom_7 rfl rfl ?_
    refine cj_callVi C (As := []) (rest := [.int x3]) qX4_places mw_47_20 o_119 rfl rfl rfl (Nat.le_of_ble_eq_true rfl) (by decide) dX4_reachedFrom_8 h (fun _ _ hf => m_X4_places l w A S _ hf) (fun z1 S2 h => ?_)
    refine cj_icmp_ge C (tgt := 56) dX4_reachedFrom_11 rfl h (fun _ h => ?_) (fun _ h => ?_)
    · refine cj_iload_n C (i := 2) dX4_reachedFrom_56 rfl rfl ?_
      exact cj_ireturn C hr h dX4_reachedFrom_57
    · refine cj_iconst C (v := (0 : Int32)) dX4_reachedFrom_14 rfl ?_
      refine cj_istore C (lv' := [some (.ref (w.2.1 119)), none, some (.int x2), some (.int x3), some (.int (0 : Int32))]) dX4_reachedFrom_15 (by decide) rfl rfl ?_
      exact wX4_reachedFrom_17 C hr x3 ih cpFu x2 (0 : Int32) S2 h
def fX4_reachedFrom (x1 : Int32) (S : cpS) : Option (Int32 × cpS) :=
    cpLt (cpShl (1 : Int32) x1) fun y1 =>
    fX4_reachedFrom_6 cpFu y1 (1 : Int32) S
set_option maxRecDepth 100000 in
set_option maxHeartbeats 4000000 in
theorem m_X4_reachedFrom (l : Launch) (w : cpW) (A : Nat → Prop) (x1 : Int32) (S : cpS) (r : Int32 × cpS) (h : fX4_reachedFrom x1 S = some r) : cpMi l yX4_reachedFrom cX4_reachedFrom 5 ((some .int)) 2 w A [.ref (w.2.1 119), .int x1] S r := by
  refine cpMi.of (lv := [some (.ref (w.2.1 119)), some (.int x1), none, none, none]) (by decide) (Nat.le_of_ble_eq_true rfl) rfl (fun p e s m args below meth c C hr => ?_)
  replace C : cpCx p s m args meth c w A cX4_reachedFrom RX4 5 := C
  rw [fX4_reachedFrom] at h
  refine cj_iconst C (v := (1 : Int32)) dX4_reachedFrom_0 rfl ?_
  refine cj_iload_n C (i := 1) dX4_reachedFrom_1 rfl rfl ?_
  refine ck_ishl C dX4_reachedFrom_2 ?_
  refine cj_let h (fun y1 h => ?_)
  refine cj_istore_n C (i := 2) (lv' := [some (.ref (w.2.1 119)), some (.int x1), some (.int y1), none, none]) dX4_reachedFrom_3 rfl (by decide) rfl rfl ?_
  refine cj_iconst C (v := (1 : Int32)) dX4_reachedFrom_4 rfl ?_
  refine cj_istore_n C (i := 3) (lv' := [some (.ref (w.2.1 119)), some (.int x1), some (.int y1), some (.int (1 : Int32)), none]) dX4_reachedFrom_5 rfl (by decide) rfl rfl ?_
  refine cj_weak C (lv' := [some (.ref (w.2.1 119)), none, some (.int y1), some (.int (1 : Int32)), none]) (cpSub_s (cpSub_n (cpSub_s (cpSub_s (cpSub_n cpSub_nil))))) ?_
  exact wX4_reachedFrom_6 C hr cpFu y1 (1 : Int32) S h
/-! X4_learnPaying -/
def fX4_learnPaying_2 (x1 : Int32) : Nat → Int32 → cpS → Option (Unit × cpS)
  | 0, _, _ => none
  | n + 1, x2, S =>
    if (S.1 1 11) ≤ x2 then (
    some ((), S)) else (
    if cpIn x2 4 then (
    cpLt (S.1 58 x2.toNatClampNeg) fun y1 =>
    cpB (fX4_learn x2 (0 : Int32) S) fun _ S3 =>
    cpB (fX4_measureTo x1 S3) fun _ S5 =>
    if cpIn y1 6 then (
    if cpIn x2 4 then (
    cpLt (cpI S5 125 x2.toNatClampNeg (S5.1 122 y1.toNatClampNeg)) fun S6 =>
    if y1 = x1 then (
    cpB (fX4_placesNextTo x1 S6) fun z7 S8 =>
    if z7 = 0 then (
    if cpIn x2 4 then (
    cpLt (cpI S8 126 x2.toNatClampNeg (-1 : Int32)) fun S9 =>
    fX4_learnPaying_2 x1 n (x2 + 1) S9) else none) else (
    if cpIn x2 4 then (
    cpLt (cpI S8 126 x2.toNatClampNeg (1 : Int32)) fun S10 =>
    fX4_learnPaying_2 x1 n (x2 + 1) S10) else none)) else (
    if cpIn x2 4 then (
    cpLt (cpI S6 126 x2.toNatClampNeg (0 : Int32)) fun S11 =>
    fX4_learnPaying_2 x1 n (x2 + 1) S11) else none)) else none) else none) else none)
set_option maxRecDepth 100000 in
set_option maxHeartbeats 4000000 in
theorem wX4_learnPaying_2 (C : cpCx p s m args meth c w A cX4_learnPaying RX4 4) (hr : meth.sig.returnType = none) {r : Unit × cpS} (x1 : Int32) : ∀ (n : Nat) (x2 : Int32) (S : cpS), fX4_learnPaying_2 x1 n x2 S = some r → cpJ p l e (cpRm 6) s m args below meth c (MQ below (va_Qv (fun S' => ((), S') = r) (cpWorld w A) A) args s 0 0 A) w A 4 2 [some (.ref (w.2.1 119)), some (.int x1), some (.int x2), none] [] S := by
  intro n
  induction n with
  | zero => intro x2 S h; rw [fX4_learnPaying_2] at h; cases h
  | succ n ih =>
    intro x2 S h
    rw [fX4_learnPaying_2] at h
    refine cj_iload_n C (i := 2) dX4_learnPaying_2 rfl rfl ?_
    refine cj_aload_n C (i := 0) dX4_learnPaying_3 rfl rfl ?_
    refine cj_getR C (d := 117) o_119 rfl gfX4_34 dX4_learnPaying_4 ?_
    refine cj_getR C (d := 1) o_117 rfl gfX4_38 dX4_learnPaying_7 ?_
    refine cj_getI C (j := 11) o_1 rfl gfX4_129 dX4_learnPaying_10 ?_
    refine cj_icmp_ge C (tgt := 92) dX4_learnPaying_13 rfl h (fun _ h => ?_) (fun _ h => ?_)
    · exact cj_vreturn C hr h dX4_learnPaying_92
    · refine cj_aload_n C (i := 0) dX4_learnPaying_16 rfl rfl ?_
      refine cj_getR C (d := 117) o_119 rfl gfX4_34 dX4_learnPaying_17 ?_
      refine cj_getR C (d := 57) o_117 rfl gfX4_57 dX4_learnPaying_20 ?_
      refine cj_getR C (d := 58) o_57 rfl gfX4_132 dX4_learnPaying_23 ?_
      refine cj_iload_n C (i := 2) dX4_learnPaying_26 rfl rfl ?_
      refine cj_iaload C o_58 h dX4_learnPaying_27 (fun h => ?_)
      refine cj_let h (fun y1 h => ?_)
      refine cj_istore_n C (i := 3) (lv' := [some (.ref (w.2.1 119)), some (.int x1), some (.int x2), some (.int y1)]) dX4_learnPaying_28 rfl (by decide) rfl rfl ?_
      refine cj_aload_n C (i := 0) dX4_learnPaying_29 rfl rfl ?_
      refine cj_iload_n C (i := 2) dX4_learnPaying_30 rfl rfl ?_
      refine cj_iconst C (v := (0 : Int32)) dX4_learnPaying_31 rfl ?_
      refine cj_callVv C (As := [.int x2, .int (0 : Int32)]) (rest := []) qX4_learn mw_53_0 o_119 rfl rfl rfl (Nat.le_of_ble_eq_true rfl) (by decide) dX4_learnPaying_32 h (fun _ _ hf => m_X4_learn l w A x2 (0 : Int32) S _ hf) (fun z2 S3 h => ?_)
      refine cj_aload_n C (i := 0) dX4_learnPaying_35 rfl rfl ?_
      refine cj_iload_n C (i := 1) dX4_learnPaying_36 rfl rfl ?_
      refine cj_callVv C (As := [.int x1]) (rest := []) qX4_measureTo mw_53_1 o_119 rfl rfl rfl (Nat.le_of_ble_eq_true rfl) (by decide) dX4_learnPaying_37 h (fun _ _ hf => m_X4_measureTo l w A x1 S3 _ hf) (fun z4 S5 h => ?_)
      refine cj_aload_n C (i := 0) dX4_learnPaying_40 rfl rfl ?_
      refine cj_getR C (d := 125) o_119 rfl gfX4_28 dX4_learnPaying_41 ?_
      refine cj_iload_n C (i := 2) dX4_learnPaying_44 rfl rfl ?_
      refine cj_aload_n C (i := 0) dX4_learnPaying_45 rfl rfl ?_
      refine cj_getR C (d := 122) o_119 rfl gfX4_18 dX4_learnPaying_46 ?_
      refine cj_iload_n C (i := 3) dX4_learnPaying_49 rfl rfl ?_
      refine cj_iaload C o_122 h dX4_learnPaying_50 (fun h => ?_)
      refine cj_iastore C o_125 h dX4_learnPaying_51 (fun h => ?_)
      refine cj_lets h (fun S6 h => ?_)
      refine cj_iload_n C (i := 3) dX4_learnPaying_52 rfl rfl ?_
      refine cj_iload_n C (i := 1) dX4_learnPaying_53 rfl rfl ?_
      refine cj_icmp_eq C (tgt := 67) dX4_learnPaying_54 rfl h (fun _ h => ?_) (fun _ h => ?_)
      · refine cj_aload_n C (i := 0) dX4_learnPaying_67 rfl rfl ?_
        refine cj_getR C (d := 126) o_119 rfl gfX4_31 dX4_learnPaying_68 ?_
        refine cj_iload_n C (i := 2) dX4_learnPaying_71 rfl rfl ?_
        refine cj_aload_n C (i := 0) dX4_learnPaying_72 rfl rfl ?_
        refine cj_iload_n C (i := 1) dX4_learnPaying_73 rfl rfl ?_
        refine cj_callVi C (As := [.int x1]) (rest := [.int x2, .ref (w.2.1 126)]) qX4_placesNextTo mw_52_6 o_119 rfl rfl rfl (Nat.le_of_ble_eq_true rfl) (by decide) dX4_learnPaying_74 h (fun _ _ hf => m_X4_placesNextTo l w A x1 S6 _ hf) (fun z7 S8 h => ?_)
        refine cj_if_eq C (tgt := 84) dX4_learnPaying_77 rfl h (fun _ h => ?_) (fun _ h => ?_)
        · refine cj_iconst C (v := (-1 : Int32)) dX4_learnPaying_84 rfl ?_
          refine cj_iastore C o_126 h dX4_learnPaying_85 (fun h => ?_)
          refine cj_lets h (fun S9 h => ?_)
          refine cj_iinc C (v := (x2 + 1)) (lv' := [some (.ref (w.2.1 119)), some (.int x1), some (.int (x2 + 1)), some (.int y1)]) dX4_learnPaying_86 rfl rfl (by decide) rfl rfl ?_
          refine cj_goto C (tgt := 2) dX4_learnPaying_89 rfl ?_
          refine cj_weak C (lv' := [some (.ref (w.2.1 119)), some (.int x1), some (.int (x2 + 1)), none]) (cpSub_s (cpSub_s (cpSub_s (cpSub_n cpSub_nil)))) ?_
          exact ih (x2 + 1) S9 h
        · refine cj_iconst C (v := (1 : Int32)) dX4_learnPaying_80 rfl ?_
          refine cj_goto C (tgt := 85) dX4_learnPaying_81 rfl ?_
          refine cj_iastore C o_126 h dX4_learnPaying_85 (fun h => ?_)
          refine cj_lets h (fun S10 h => ?_)
          refine cj_iinc C (v := (x2 + 1)) (lv' := [some (.ref (w.2.1 119)), some (.int x1), some (.int (x2 + 1)), some (.int y1)]) dX4_learnPaying_86 rfl rfl (by decide) rfl rfl ?_
          refine cj_goto C (tgt := 2) dX4_learnPaying_89 rfl ?_
          refine cj_weak C (lv' := [some (.ref (w.2.1 119)), some (.int x1), some (.int (x2 + 1)), none]) (cpSub_s (cpSub_s (cpSub_s (cpSub_n cpSub_nil)))) ?_
          exact ih (x2 + 1) S10 h
      · refine cj_aload_n C (i := 0) dX4_learnPaying_57 rfl rfl ?_
        refine cj_getR C (d := 126) o_119 rfl gfX4_31 dX4_learnPaying_58 ?_
        refine cj_iload_n C (i := 2) dX4_learnPaying_61 rfl rfl ?_
        refine cj_iconst C (v := (0 : Int32)) dX4_learnPaying_62 rfl ?_
        refine cj_iastore C o_126 h dX4_learnPaying_63 (fun h => ?_)
        refine cj_lets h (fun S11 h => ?_)
        refine cj_goto C (tgt := 86) dX4_learnPaying_64 rfl ?_
        refine cj_iinc C (v := (x2 + 1)) (lv' := [some (.ref (w.2.1 119)), some (.int x1), some (.int (x2 + 1)), some (.int y1)]) dX4_learnPaying_86 rfl rfl (by decide) rfl rfl ?_
        refine cj_goto C (tgt := 2) dX4_learnPaying_89 rfl ?_
        refine cj_weak C (lv' := [some (.ref (w.2.1 119)), some (.int x1), some (.int (x2 + 1)), none]) (cpSub_s (cpSub_s (cpSub_s (cpSub_n cpSub_nil)))) ?_
        exact ih (x2 + 1) S11 h
def fX4_learnPaying (x1 : Int32) (S : cpS) : Option (Unit × cpS) :=
    fX4_learnPaying_2 x1 cpFu (0 : Int32) S
set_option maxRecDepth 100000 in
set_option maxHeartbeats 4000000 in
theorem m_X4_learnPaying (l : Launch) (w : cpW) (A : Nat → Prop) (x1 : Int32) (S : cpS) (r : Unit × cpS) (h : fX4_learnPaying x1 S = some r) : cpMv l yX4_learnPaying cX4_learnPaying 4 (none) 6 w A [.ref (w.2.1 119), .int x1] S r := by
  refine cpMv.of (lv := [some (.ref (w.2.1 119)), some (.int x1), none, none]) (by decide) (Nat.le_of_ble_eq_true rfl) rfl (fun p e s m args below meth c C hr => ?_)
  replace C : cpCx p s m args meth c w A cX4_learnPaying RX4 4 := C
  rw [fX4_learnPaying] at h
  refine cj_iconst C (v := (0 : Int32)) dX4_learnPaying_0 rfl ?_
  refine cj_istore_n C (i := 2) (lv' := [some (.ref (w.2.1 119)), some (.int x1), some (.int (0 : Int32)), none]) dX4_learnPaying_1 rfl (by decide) rfl rfl ?_
  exact wX4_learnPaying_2 C hr x1 cpFu (0 : Int32) S h
/-! X4_carryingsFor -/
def fX4_carryingsFor_41 (x1 : Int32) (x2 : Int32) (x3 : Int32) (s0 : Int32) (k4 : Int32 → Int32 → cpS → Option (Int32 × cpS)) (S : cpS) : Option (Int32 × cpS) :=
    if s0 = (-1 : Int32) then (
    some ((-1 : Int32), S)) else (
    cpLt (x2 + s0) fun y1 =>
    k4 y1 (x3 + 1) S)
set_option maxRecDepth 100000 in
set_option maxHeartbeats 4000000 in
theorem wX4_carryingsFor_41 (C : cpCx p s m args meth c w A cX4_carryingsFor RX4 5) (hr : meth.sig.returnType = (some .int)) {r : Int32 × cpS} (x1 : Int32) (x2 : Int32) (x3 : Int32) (s0 : Int32) {k4 : Int32 → Int32 → cpS → Option (Int32 × cpS)} (hk4 : ∀ (x2 : Int32) (x3 : Int32) (S : cpS), k4 x2 x3 S = some r → cpJ p l e (cpRm 1) s m args below meth c (MQ below (va_Qi (fun x S' => (x, S') = r) (cpWorld w A) A) args s 0 0 A) w A 5 4 [some (.ref (w.2.1 119)), some (.int x1), some (.int x2), some (.int x3), none] [] S) (S : cpS) (h : fX4_carryingsFor_41 x1 x2 x3 s0 k4 S = some r) : cpJ p l e (cpRm 1) s m args below meth c (MQ below (va_Qi (fun x S' => (x, S') = r) (cpWorld w A) A) args s 0 0 A) w A 5 41 [some (.ref (w.2.1 119)), some (.int x1), some (.int x2), some (.int x3), none] [.int s0] S := by
  rw [fX4_carryingsFor_41] at h
  refine cj_istore C (lv' := [some (.ref (w.2.1 119)), some (.int x1), some (.int x2), some (.int x3), some (.int s0)]) dX4_carryingsFor_41 (by decide) rfl rfl ?_
  refine cj_iload C dX4_carryingsFor_43 rfl ?_
  refine cj_iconst C (v := (-1 : Int32)) dX4_carryingsFor_45 rfl ?_
  refine cj_icmp_ne C (tgt := 51) dX4_carryingsFor_46 rfl h (fun _ h => ?_) (fun _ h => ?_)
  · refine cj_iconst C (v := (-1 : Int32)) dX4_carryingsFor_49 rfl ?_
    exact cj_ireturn C hr h dX4_carryingsFor_50
  · refine cj_iload_n C (i := 2) dX4_carryingsFor_51 rfl rfl ?_
    refine cj_iload C dX4_carryingsFor_52 rfl ?_
    refine cj_iadd C dX4_carryingsFor_54 ?_
    refine cj_let h (fun y1 h => ?_)
    refine cj_istore_n C (i := 2) (lv' := [some (.ref (w.2.1 119)), some (.int x1), some (.int y1), some (.int x3), some (.int s0)]) dX4_carryingsFor_55 rfl (by decide) rfl rfl ?_
    refine cj_iinc C (v := (x3 + 1)) (lv' := [some (.ref (w.2.1 119)), some (.int x1), some (.int y1), some (.int (x3 + 1)), some (.int s0)]) dX4_carryingsFor_56 rfl rfl (by decide) rfl rfl ?_
    refine cj_goto C (tgt := 4) dX4_carryingsFor_59 rfl ?_
    refine cj_weak C (lv' := [some (.ref (w.2.1 119)), some (.int x1), some (.int y1), some (.int (x3 + 1)), none]) (cpSub_s (cpSub_s (cpSub_s (cpSub_s (cpSub_n cpSub_nil))))) ?_
    exact hk4 y1 (x3 + 1) S h
def fX4_carryingsFor_4 (x1 : Int32) : Nat → Int32 → Int32 → cpS → Option (Int32 × cpS)
  | 0, _, _, _ => none
  | n + 1, x2, x3, S =>
    if (S.1 1 11) ≤ x3 then (
    some (x2, S)) else (
    cpB (fX11_isIn x1 x3 S) fun z1 S2 =>
    if z1 = 0 then (
    if cpIn x3 4 then (
    fX4_carryingsFor_41 x1 x2 x3 (S2.1 126 x3.toNatClampNeg) (fX4_carryingsFor_4 x1 n) S2) else none) else (
    if cpIn x3 4 then (
    fX4_carryingsFor_41 x1 x2 x3 (S2.1 125 x3.toNatClampNeg) (fX4_carryingsFor_4 x1 n) S2) else none))
set_option maxRecDepth 100000 in
set_option maxHeartbeats 4000000 in
theorem wX4_carryingsFor_4 (C : cpCx p s m args meth c w A cX4_carryingsFor RX4 5) (hr : meth.sig.returnType = (some .int)) {r : Int32 × cpS} (x1 : Int32) : ∀ (n : Nat) (x2 : Int32) (x3 : Int32) (S : cpS), fX4_carryingsFor_4 x1 n x2 x3 S = some r → cpJ p l e (cpRm 1) s m args below meth c (MQ below (va_Qi (fun x S' => (x, S') = r) (cpWorld w A) A) args s 0 0 A) w A 5 4 [some (.ref (w.2.1 119)), some (.int x1), some (.int x2), some (.int x3), none] [] S := by
  intro n
  induction n with
  | zero => intro x2 x3 S h; rw [fX4_carryingsFor_4] at h; cases h
  | succ n ih =>
    intro x2 x3 S h
    rw [fX4_carryingsFor_4] at h
    refine cj_iload_n C (i := 3) dX4_carryingsFor_4 rfl rfl ?_
    refine cj_aload_n C (i := 0) dX4_carryingsFor_5 rfl rfl ?_
    refine cj_getR C (d := 117) o_119 rfl gfX4_34 dX4_carryingsFor_6 ?_
    refine cj_getR C (d := 1) o_117 rfl gfX4_38 dX4_carryingsFor_9 ?_
    refine cj_getI C (j := 11) o_1 rfl gfX4_129 dX4_carryingsFor_12 ?_
    refine cj_icmp_ge C (tgt := 62) dX4_carryingsFor_15 rfl h (fun _ h => ?_) (fun _ h => ?_)
    · refine cj_iload_n C (i := 2) dX4_carryingsFor_62 rfl rfl ?_
      exact cj_ireturn C hr h dX4_carryingsFor_63
    · refine cj_iload_n C (i := 1) dX4_carryingsFor_18 rfl rfl ?_
      refine cj_iload_n C (i := 3) dX4_carryingsFor_19 rfl rfl ?_
      refine cj_callNi C (As := [.int x1, .int x3]) (rest := []) qX11_isIn (List.mem_of_getElem? (i := 3) rfl) rfl rfl (Nat.le_of_ble_eq_true rfl) (by decide) dX4_carryingsFor_20 h (fun _ _ hf => m_X11_isIn l w A x1 x3 S _ hf) (fun z1 S2 h => ?_)
      refine cj_if_eq C (tgt := 35) dX4_carryingsFor_23 rfl h (fun _ h => ?_) (fun _ h => ?_)
      · refine cj_aload_n C (i := 0) dX4_carryingsFor_35 rfl rfl ?_
        refine cj_getR C (d := 126) o_119 rfl gfX4_31 dX4_carryingsFor_36 ?_
        refine cj_iload_n C (i := 3) dX4_carryingsFor_39 rfl rfl ?_
        refine cj_iaload C o_126 h dX4_carryingsFor_40 (fun h => ?_)
        exact wX4_carryingsFor_41 C hr x1 x2 x3 (S2.1 126 x3.toNatClampNeg) ih S2 h
      · refine cj_aload_n C (i := 0) dX4_carryingsFor_26 rfl rfl ?_
        refine cj_getR C (d := 125) o_119 rfl gfX4_28 dX4_carryingsFor_27 ?_
        refine cj_iload_n C (i := 3) dX4_carryingsFor_30 rfl rfl ?_
        refine cj_iaload C o_125 h dX4_carryingsFor_31 (fun h => ?_)
        refine cj_goto C (tgt := 41) dX4_carryingsFor_32 rfl ?_
        exact wX4_carryingsFor_41 C hr x1 x2 x3 (S2.1 125 x3.toNatClampNeg) ih S2 h
def fX4_carryingsFor (x1 : Int32) (S : cpS) : Option (Int32 × cpS) :=
    fX4_carryingsFor_4 x1 cpFu (0 : Int32) (0 : Int32) S
set_option maxRecDepth 100000 in
set_option maxHeartbeats 4000000 in
theorem m_X4_carryingsFor (l : Launch) (w : cpW) (A : Nat → Prop) (x1 : Int32) (S : cpS) (r : Int32 × cpS) (h : fX4_carryingsFor x1 S = some r) : cpMi l yX4_carryingsFor cX4_carryingsFor 5 ((some .int)) 1 w A [.ref (w.2.1 119), .int x1] S r := by
  refine cpMi.of (lv := [some (.ref (w.2.1 119)), some (.int x1), none, none, none]) (by decide) (Nat.le_of_ble_eq_true rfl) rfl (fun p e s m args below meth c C hr => ?_)
  replace C : cpCx p s m args meth c w A cX4_carryingsFor RX4 5 := C
  rw [fX4_carryingsFor] at h
  refine cj_iconst C (v := (0 : Int32)) dX4_carryingsFor_0 rfl ?_
  refine cj_istore_n C (i := 2) (lv' := [some (.ref (w.2.1 119)), some (.int x1), some (.int (0 : Int32)), none, none]) dX4_carryingsFor_1 rfl (by decide) rfl rfl ?_
  refine cj_iconst C (v := (0 : Int32)) dX4_carryingsFor_2 rfl ?_
  refine cj_istore_n C (i := 3) (lv' := [some (.ref (w.2.1 119)), some (.int x1), some (.int (0 : Int32)), some (.int (0 : Int32)), none]) dX4_carryingsFor_3 rfl (by decide) rfl rfl ?_
  exact wX4_carryingsFor_4 C hr x1 cpFu (0 : Int32) (0 : Int32) S h
end CPV
