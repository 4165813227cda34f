section CPV
variable {p : Program} {l : Launch} {e : Env} {s : State} {m : MethodId} {args : Array Value} {below : List Frame} {meth : Method} {c : Code} {w : cpW} {A : Nat → Prop}
/-! X12_isWorn -/
def fX12_isWorn (x1 : Int32) (x2 : Int32) (x3 : Int32) (x4 : Int32) (S : cpS) : Option (Int32 × cpS) :=
    cpLt (cpRem (x3 / (1000 : Int32)) (10 : Int32)) fun y1 =>
    cpLt (cpRem (x3 / (100 : Int32)) (10 : Int32)) fun y2 =>
    cpLt (cpRem (x3 / (10 : Int32)) (10 : Int32)) fun y3 =>
    cpB (fX12_roadFor y1 y2 y3 x4 (cpRem x3 (10 : Int32)) S) fun z4 S5 =>
    if z4 = (-1 : Int32) then (
    some ((0 : Int32), S5)) else (
    if cpIn (((40 : Int32) * x1) + x2) 160 then (
    cpLt (S5.2 173 (((40 : Int32) * x1) + x2).toNatClampNeg) fun y6 =>
    if (lg_cmp y6 (-1 : Int64)) = 0 then (
    some ((1 : Int32), S5)) else (
    cpB (fX12_wearsBy y1 y2 y3 x4 z4 S5) fun z7 S8 =>
    if (lg_cmp y6 (Int32.toInt64 z7)) = 0 then (
    some ((1 : Int32), S8)) else (
    some ((0 : Int32), S8)))) else none)
set_option maxRecDepth 100000 in
set_option maxHeartbeats 4000000 in
theorem m_X12_isWorn (l : Launch) (w : cpW) (A : Nat → Prop) (x1 : Int32) (x2 : Int32) (x3 : Int32) (x4 : Int32) (S : cpS) (r : Int32 × cpS) (h : fX12_isWorn x1 x2 x3 x4 S = some r) : cpMi l yX12_isWorn cX12_isWorn 11 ((some .boolean)) 4 w A [.ref (w.2.1 150), .int x1, .int x2, .int x3, .int x4] S r := by
  refine cpMi.of (lv := [some (.ref (w.2.1 150)), some (.int x1), some (.int x2), some (.int x3), some (.int x4), none, none, none, none, none, none]) (by decide) (Nat.le_of_ble_eq_true rfl) rfl (fun p e s m args below meth c C hr => ?_)
  replace C : cpCx p s m args meth c w A cX12_isWorn RX12 11 := C
  rw [fX12_isWorn] at h
  refine cj_iload_n C (i := 3) dX12_isWorn_0 rfl rfl ?_
  refine cj_sipush C (v := (1000 : Int32)) dX12_isWorn_1 rfl ?_
  refine cj_idiv C dX12_isWorn_4 (by decide) ?_
  refine cj_bipush C (v := (10 : Int32)) dX12_isWorn_5 rfl ?_
  refine ck_irem C dX12_isWorn_7 (by decide) ?_
  refine cj_let h (fun y1 h => ?_)
  refine cj_istore C (lv' := [some (.ref (w.2.1 150)), some (.int x1), some (.int x2), some (.int x3), some (.int x4), some (.int y1), none, none, none, none, none]) dX12_isWorn_8 (by decide) rfl rfl ?_
  refine cj_iload_n C (i := 3) dX12_isWorn_10 rfl rfl ?_
  refine cj_bipush C (v := (100 : Int32)) dX12_isWorn_11 rfl ?_
  refine cj_idiv C dX12_isWorn_13 (by decide) ?_
  refine cj_bipush C (v := (10 : Int32)) dX12_isWorn_14 rfl ?_
  refine ck_irem C dX12_isWorn_16 (by decide) ?_
  refine cj_let h (fun y2 h => ?_)
  refine cj_istore C (lv' := [some (.ref (w.2.1 150)), some (.int x1), some (.int x2), some (.int x3), some (.int x4), some (.int y1), some (.int y2), none, none, none, none]) dX12_isWorn_17 (by decide) rfl rfl ?_
  refine cj_iload_n C (i := 3) dX12_isWorn_19 rfl rfl ?_
  refine cj_bipush C (v := (10 : Int32)) dX12_isWorn_20 rfl ?_
  refine cj_idiv C dX12_isWorn_22 (by decide) ?_
  refine cj_bipush C (v := (10 : Int32)) dX12_isWorn_23 rfl ?_
  refine ck_irem C dX12_isWorn_25 (by decide) ?_
  refine cj_let h (fun y3 h => ?_)
  refine cj_istore C (lv' := [some (.ref (w.2.1 150)), some (.int x1), some (.int x2), some (.int x3), some (.int x4), some (.int y1), some (.int y2), some (.int y3), none, none, none]) dX12_isWorn_26 (by decide) rfl rfl ?_
  refine cj_aload_n C (i := 0) dX12_isWorn_28 rfl rfl ?_
  refine cj_iload C dX12_isWorn_29 rfl ?_
  refine cj_iload C dX12_isWorn_31 rfl ?_
  refine cj_iload C dX12_isWorn_33 rfl ?_
  refine cj_iload C dX12_isWorn_35 rfl ?_
  refine cj_iload_n C (i := 3) dX12_isWorn_37 rfl rfl ?_
  refine cj_bipush C (v := (10 : Int32)) dX12_isWorn_38 rfl ?_
  refine ck_irem C dX12_isWorn_40 (by decide) ?_
  refine cj_callVi C (As := [.int y1, .int y2, .int y3, .int x4, .int (cpRem x3 (10 : Int32))]) (rest := []) qX12_roadFor mw_36_12 o_150 rfl rfl rfl (Nat.le_of_ble_eq_true rfl) (by decide) dX12_isWorn_41 h (fun _ _ hf => m_X12_roadFor l w A y1 y2 y3 x4 (cpRem x3 (10 : Int32)) S _ hf) (fun z4 S5 h => ?_)
  refine cj_istore C (lv' := [some (.ref (w.2.1 150)), some (.int x1), some (.int x2), some (.int x3), some (.int x4), some (.int y1), some (.int y2), some (.int y3), some (.int z4), none, none]) dX12_isWorn_44 (by decide) rfl rfl ?_
  refine cj_iload C dX12_isWorn_46 rfl ?_
  refine cj_iconst C (v := (-1 : Int32)) dX12_isWorn_48 rfl ?_
  refine cj_icmp_ne C (tgt := 54) dX12_isWorn_49 rfl h (fun _ h => ?_) (fun _ h => ?_)
  · refine cj_iconst C (v := (0 : Int32)) dX12_isWorn_52 rfl ?_
    exact cj_zreturn C hr rfl h dX12_isWorn_53
  · refine cj_aload_n C (i := 0) dX12_isWorn_54 rfl rfl ?_
    refine cj_getR C (d := 173) o_150 rfl gfX12_85 dX12_isWorn_55 ?_
    refine cj_bipush C (v := (40 : Int32)) dX12_isWorn_58 rfl ?_
    refine cj_iload_n C (i := 1) dX12_isWorn_60 rfl rfl ?_
    refine cj_imul C dX12_isWorn_61 ?_
    refine cj_iload_n C (i := 2) dX12_isWorn_62 rfl rfl ?_
    refine cj_iadd C dX12_isWorn_63 ?_
    refine cj_laload C o_173 h dX12_isWorn_64 (fun h => ?_)
    refine cj_letl h (fun y6 h => ?_)
    refine cj_lstore C (lv' := [some (.ref (w.2.1 150)), some (.int x1), some (.int x2), some (.int x3), some (.int x4), some (.int y1), some (.int y2), some (.int y3), some (.int z4), some (.long y6), none]) dX12_isWorn_65 (by decide) rfl rfl ?_
    refine cj_lload C dX12_isWorn_67 rfl ?_
    refine cj_ldc2 C (v := (-1 : Int64)) mw_66_10 dX12_isWorn_69 ?_
    refine cj_lcmp C dX12_isWorn_72 ?_
    refine cj_if_eq C (tgt := 97) dX12_isWorn_73 rfl h (fun _ h => ?_) (fun _ h => ?_)
    · refine cj_iconst C (v := (1 : Int32)) dX12_isWorn_97 rfl ?_
      refine cj_goto C (tgt := 102) dX12_isWorn_98 rfl ?_
      exact cj_zreturn C hr rfl h dX12_isWorn_102
    · refine cj_lload C dX12_isWorn_76 rfl ?_
      refine cj_aload_n C (i := 0) dX12_isWorn_78 rfl rfl ?_
      refine cj_iload C dX12_isWorn_79 rfl ?_
      refine cj_iload C dX12_isWorn_81 rfl ?_
      refine cj_iload C dX12_isWorn_83 rfl ?_
      refine cj_iload C dX12_isWorn_85 rfl ?_
      refine cj_iload C dX12_isWorn_87 rfl ?_
      refine cj_callVi C (As := [.int y1, .int y2, .int y3, .int x4, .int z4]) (rest := [.long y6]) qX12_wearsBy mw_37_21 o_150 rfl rfl rfl (Nat.le_of_ble_eq_true rfl) (by decide) dX12_isWorn_89 h (fun _ _ hf => m_X12_wearsBy l w A y1 y2 y3 x4 z4 S5 _ hf) (fun z7 S8 h => ?_)
      refine cj_i2l C dX12_isWorn_92 ?_
      refine cj_lcmp C dX12_isWorn_93 ?_
      refine cj_if_ne C (tgt := 101) dX12_isWorn_94 rfl h (fun _ h => ?_) (fun _ h => ?_)
      · refine cj_iconst C (v := (1 : Int32)) dX12_isWorn_97 rfl ?_
        refine cj_goto C (tgt := 102) dX12_isWorn_98 rfl ?_
        exact cj_zreturn C hr rfl h dX12_isWorn_102
      · refine cj_iconst C (v := (0 : Int32)) dX12_isWorn_101 rfl ?_
        exact cj_zreturn C hr rfl h dX12_isWorn_102
/-! X12_laysDeeds -/
def fX12_laysDeeds_34 (x1 : Int32) (x2 : Int32) (x3 : Int32) (k7 : Int32 → cpS → Option (Unit × cpS)) (k21 : Int32 → cpS → Option (Unit × cpS)) : Nat → Int32 → cpS → Option (Unit × cpS)
  | 0, _, _ => none
  | n + 1, x4, S =>
    if (S.1 151 1) ≤ x4 then (
    k21 (x3 + 1) S) else (
    cpB (fX12_deedOf x2 x3 x1 x4 S) fun z1 S2 =>
    if cpIn (S.1 150 33) 168 then (
    cpLt (cpI S2 168 (S.1 150 33).toNatClampNeg z1) fun S3 =>
    cpLt (cpI S3 150 33 ((S3.1 150 33) + (1 : Int32))) fun S4 =>
    fX12_laysDeeds_34 x1 x2 x3 k7 k21 n (x4 + 1) S4) else none)
set_option maxRecDepth 100000 in
set_option maxHeartbeats 4000000 in
theorem wX12_laysDeeds_34 (C : cpCx p s m args meth c w A cX12_laysDeeds RX12 5) (hr : meth.sig.returnType = none) {r : Unit × cpS} (x1 : Int32) (x2 : Int32) (x3 : Int32) {k7 : Int32 → cpS → Option (Unit × cpS)} (hk7 : ∀ (x2 : Int32) (S : cpS), k7 x2 S = some r → cpJ p l e (cpRm 1) s m args below meth c (MQ below (va_Qv (fun S' => ((), S') = r) (cpWorld w A) A) args s 0 0 A) w A 5 7 [some (.ref (w.2.1 150)), some (.int x1), some (.int x2), none, none] [] S) {k21 : Int32 → cpS → Option (Unit × cpS)} (hk21 : ∀ (x3 : Int32) (S : cpS), k21 x3 S = some r → cpJ p l e (cpRm 1) s m args below meth c (MQ below (va_Qv (fun S' => ((), S') = r) (cpWorld w A) A) args s 0 0 A) w A 5 21 [some (.ref (w.2.1 150)), some (.int x1), some (.int x2), some (.int x3), none] [] S) : ∀ (n : Nat) (x4 : Int32) (S : cpS), fX12_laysDeeds_34 x1 x2 x3 k7 k21 n x4 S = some r → cpJ p l e (cpRm 1) s m args below meth c (MQ below (va_Qv (fun S' => ((), S') = r) (cpWorld w A) A) args s 0 0 A) w A 5 34 [some (.ref (w.2.1 150)), some (.int x1), some (.int x2), some (.int x3), some (.int x4)] [] S := by
  intro n
  induction n with
  | zero => intro x4 S h; rw [fX12_laysDeeds_34] at h; cases h
  | succ n ih =>
    intro x4 S h
    rw [fX12_laysDeeds_34] at h
    refine cj_iload C dX12_laysDeeds_34 rfl ?_
    refine cj_aload_n C (i := 0) dX12_laysDeeds_36 rfl rfl ?_
    refine cj_getR C (d := 151) o_150 rfl gfX12_13 dX12_laysDeeds_37 ?_
    refine cj_iconst C (v := (1 : Int32)) dX12_laysDeeds_40 rfl ?_
    refine cj_ialoadC C (j := 1) o_151 (by decide) (by decide) dX12_laysDeeds_41 ?_
    refine cj_icmp_ge C (tgt := 78) dX12_laysDeeds_42 rfl h (fun _ h => ?_) (fun _ h => ?_)
    · refine cj_iinc C (v := (x3 + 1)) (lv' := [some (.ref (w.2.1 150)), some (.int x1), some (.int x2), some (.int (x3 + 1)), some (.int x4)]) dX12_laysDeeds_78 rfl rfl (by decide) rfl rfl ?_
      refine cj_goto C (tgt := 21) dX12_laysDeeds_81 rfl ?_
      refine cj_weak C (lv' := [some (.ref (w.2.1 150)), some (.int x1), some (.int x2), some (.int (x3 + 1)), none]) (cpSub_s (cpSub_s (cpSub_s (cpSub_s (cpSub_n cpSub_nil))))) ?_
      exact hk21 (x3 + 1) S h
    · refine cj_aload_n C (i := 0) dX12_laysDeeds_45 rfl rfl ?_
      refine cj_getR C (d := 168) o_150 rfl gfX12_70 dX12_laysDeeds_46 ?_
      refine cj_aload_n C (i := 0) dX12_laysDeeds_49 rfl rfl ?_
      refine cj_getI C (j := 33) o_150 rfl gfX12_450 dX12_laysDeeds_50 ?_
      refine cj_iload_n C (i := 2) dX12_laysDeeds_53 rfl rfl ?_
      refine cj_iload_n C (i := 3) dX12_laysDeeds_54 rfl rfl ?_
      refine cj_iload_n C (i := 1) dX12_laysDeeds_55 rfl rfl ?_
      refine cj_iload C dX12_laysDeeds_56 rfl ?_
      refine cj_callSi C (As := [.int x2, .int x3, .int x1, .int x4]) (rest := [.int (S.1 150 33), .ref (w.2.1 168)]) qX12_deedOf mw_50_22 rfl rfl (Nat.le_of_ble_eq_true rfl) (by decide) dX12_laysDeeds_58 h (fun _ _ hf => m_X12_deedOf l w A x2 x3 x1 x4 S _ hf) (fun z1 S2 h => ?_)
      refine cj_iastore C o_168 h dX12_laysDeeds_61 (fun h => ?_)
      refine cj_lets h (fun S3 h => ?_)
      refine cj_aload_n C (i := 0) dX12_laysDeeds_62 rfl rfl ?_
      refine cj_dup C dX12_laysDeeds_63 rfl ?_
      refine cj_getI C (j := 33) o_150 rfl gfX12_450 dX12_laysDeeds_64 ?_
      refine cj_iconst C (v := (1 : Int32)) dX12_laysDeeds_67 rfl ?_
      refine cj_iadd C dX12_laysDeeds_68 ?_
      refine cj_put C (j := 33) o_150 rfl pfX12_450 rfl rfl dX12_laysDeeds_69 ?_
      refine cj_lets h (fun S4 h => ?_)
      refine cj_iinc C (v := (x4 + 1)) (lv' := [some (.ref (w.2.1 150)), some (.int x1), some (.int x2), some (.int x3), some (.int (x4 + 1))]) dX12_laysDeeds_72 rfl rfl (by decide) rfl rfl ?_
      refine cj_goto C (tgt := 34) dX12_laysDeeds_75 rfl ?_
      exact ih (x4 + 1) S4 h
def fX12_laysDeeds_21 (x1 : Int32) (x2 : Int32) (k7 : Int32 → cpS → Option (Unit × cpS)) : Nat → Int32 → cpS → Option (Unit × cpS)
  | 0, _, _ => none
  | n + 1, x3, S =>
    if (S.1 151 3) ≤ x3 then (
    k7 (x2 + 1) S) else (
    fX12_laysDeeds_34 x1 x2 x3 k7 (fX12_laysDeeds_21 x1 x2 k7 n) cpFu (0 : Int32) S)
set_option maxRecDepth 100000 in
set_option maxHeartbeats 4000000 in
theorem wX12_laysDeeds_21 (C : cpCx p s m args meth c w A cX12_laysDeeds RX12 5) (hr : meth.sig.returnType = none) {r : Unit × cpS} (x1 : Int32) (x2 : Int32) {k7 : Int32 → cpS → Option (Unit × cpS)} (hk7 : ∀ (x2 : Int32) (S : cpS), k7 x2 S = some r → cpJ p l e (cpRm 1) s m args below meth c (MQ below (va_Qv (fun S' => ((), S') = r) (cpWorld w A) A) args s 0 0 A) w A 5 7 [some (.ref (w.2.1 150)), some (.int x1), some (.int x2), none, none] [] S) : ∀ (n : Nat) (x3 : Int32) (S : cpS), fX12_laysDeeds_21 x1 x2 k7 n x3 S = some r → cpJ p l e (cpRm 1) s m args below meth c (MQ below (va_Qv (fun S' => ((), S') = r) (cpWorld w A) A) args s 0 0 A) w A 5 21 [some (.ref (w.2.1 150)), some (.int x1), some (.int x2), some (.int x3), none] [] S := by
  intro n
  induction n with
  | zero => intro x3 S h; rw [fX12_laysDeeds_21] at h; cases h
  | succ n ih =>
    intro x3 S h
    rw [fX12_laysDeeds_21] at h
    refine cj_iload_n C (i := 3) dX12_laysDeeds_21 rfl rfl ?_
    refine cj_aload_n C (i := 0) dX12_laysDeeds_22 rfl rfl ?_
    refine cj_getR C (d := 151) o_150 rfl gfX12_13 dX12_laysDeeds_23 ?_
    refine cj_iconst C (v := (3 : Int32)) dX12_laysDeeds_26 rfl ?_
    refine cj_ialoadC C (j := 3) o_151 (by decide) (by decide) dX12_laysDeeds_27 ?_
    refine cj_icmp_ge C (tgt := 84) dX12_laysDeeds_28 rfl h (fun _ h => ?_) (fun _ h => ?_)
    · refine cj_iinc C (v := (x2 + 1)) (lv' := [some (.ref (w.2.1 150)), some (.int x1), some (.int (x2 + 1)), some (.int x3), none]) dX12_laysDeeds_84 rfl rfl (by decide) rfl rfl ?_
      refine cj_goto C (tgt := 7) dX12_laysDeeds_87 rfl ?_
      refine cj_weak C (lv' := [some (.ref (w.2.1 150)), some (.int x1), some (.int (x2 + 1)), none, none]) (cpSub_s (cpSub_s (cpSub_s (cpSub_n (cpSub_n cpSub_nil))))) ?_
      exact hk7 (x2 + 1) S h
    · refine cj_iconst C (v := (0 : Int32)) dX12_laysDeeds_31 rfl ?_
      refine cj_istore C (lv' := [some (.ref (w.2.1 150)), some (.int x1), some (.int x2), some (.int x3), some (.int (0 : Int32))]) dX12_laysDeeds_32 (by decide) rfl rfl ?_
      exact wX12_laysDeeds_34 C hr x1 x2 x3 hk7 ih cpFu (0 : Int32) S h
def fX12_laysDeeds_7 (x1 : Int32) : Nat → Int32 → cpS → Option (Unit × cpS)
  | 0, _, _ => none
  | n + 1, x2, S =>
    if (S.1 151 3) ≤ x2 then (
    some ((), S)) else (
    cpLt (x2 + (1 : Int32)) fun y1 =>
    fX12_laysDeeds_21 x1 x2 (fX12_laysDeeds_7 x1 n) cpFu y1 S)
set_option maxRecDepth 100000 in
set_option maxHeartbeats 4000000 in
theorem wX12_laysDeeds_7 (C : cpCx p s m args meth c w A cX12_laysDeeds RX12 5) (hr : meth.sig.returnType = none) {r : Unit × cpS} (x1 : Int32) : ∀ (n : Nat) (x2 : Int32) (S : cpS), fX12_laysDeeds_7 x1 n x2 S = some r → cpJ p l e (cpRm 1) s m args below meth c (MQ below (va_Qv (fun S' => ((), S') = r) (cpWorld w A) A) args s 0 0 A) w A 5 7 [some (.ref (w.2.1 150)), some (.int x1), some (.int x2), none, none] [] S := by
  intro n
  induction n with
  | zero => intro x2 S h; rw [fX12_laysDeeds_7] at h; cases h
  | succ n ih =>
    intro x2 S h
    rw [fX12_laysDeeds_7] at h
    refine cj_iload_n C (i := 2) dX12_laysDeeds_7 rfl rfl ?_
    refine cj_aload_n C (i := 0) dX12_laysDeeds_8 rfl rfl ?_
    refine cj_getR C (d := 151) o_150 rfl gfX12_13 dX12_laysDeeds_9 ?_
    refine cj_iconst C (v := (3 : Int32)) dX12_laysDeeds_12 rfl ?_
    refine cj_ialoadC C (j := 3) o_151 (by decide) (by decide) dX12_laysDeeds_13 ?_
    refine cj_icmp_ge C (tgt := 90) dX12_laysDeeds_14 rfl h (fun _ h => ?_) (fun _ h => ?_)
    · exact cj_vreturn C hr h dX12_laysDeeds_90
    · refine cj_iload_n C (i := 2) dX12_laysDeeds_17 rfl rfl ?_
      refine cj_iconst C (v := (1 : Int32)) dX12_laysDeeds_18 rfl ?_
      refine cj_iadd C dX12_laysDeeds_19 ?_
      refine cj_let h (fun y1 h => ?_)
      refine cj_istore_n C (i := 3) (lv' := [some (.ref (w.2.1 150)), some (.int x1), some (.int x2), some (.int y1), none]) dX12_laysDeeds_20 rfl (by decide) rfl rfl ?_
      exact wX12_laysDeeds_21 C hr x1 x2 ih cpFu y1 S h
def fX12_laysDeeds (x1 : Int32) (S : cpS) : Option (Unit × cpS) :=
    cpLt (cpI S 150 33 (0 : Int32)) fun S1 =>
    fX12_laysDeeds_7 x1 cpFu (0 : Int32) S1
set_option maxRecDepth 100000 in
set_option maxHeartbeats 4000000 in
theorem m_X12_laysDeeds (l : Launch) (w : cpW) (A : Nat → Prop) (x1 : Int32) (S : cpS) (r : Unit × cpS) (h : fX12_laysDeeds x1 S = some r) : cpMv l yX12_laysDeeds cX12_laysDeeds 5 (none) 1 w A [.ref (w.2.1 150), .int x1] S r := by
  refine cpMv.of (lv := [some (.ref (w.2.1 150)), some (.int x1), none, none, none]) (by decide) (Nat.le_of_ble_eq_true rfl) rfl (fun p e s m args below meth c C hr => ?_)
  replace C : cpCx p s m args meth c w A cX12_laysDeeds RX12 5 := C
  rw [fX12_laysDeeds] at h
  refine cj_aload_n C (i := 0) dX12_laysDeeds_0 rfl rfl ?_
  refine cj_iconst C (v := (0 : Int32)) dX12_laysDeeds_1 rfl ?_
  refine cj_put C (j := 33) o_150 rfl pfX12_450 rfl rfl dX12_laysDeeds_2 ?_
  refine cj_lets h (fun S1 h => ?_)
  refine cj_iconst C (v := (0 : Int32)) dX12_laysDeeds_5 rfl ?_
  refine cj_istore_n C (i := 2) (lv' := [some (.ref (w.2.1 150)), some (.int x1), some (.int (0 : Int32)), none, none]) dX12_laysDeeds_6 rfl (by decide) rfl rfl ?_
  exact wX12_laysDeeds_7 C hr x1 cpFu (0 : Int32) S1 h
/-! X12_laysWorn -/
def fX12_laysWorn_82 (x1 : Int32) (x2 : Int32) (x4 : Int32) (x5 : Int32) (k57 : Int32 → cpS → Option (Int64 × cpS)) (k65 : Int32 → cpS → Option (Int64 × cpS)) : Nat → Int64 → Int32 → cpS → Option (Int64 × cpS)
  | 0, _, _, _ => none
  | n + 1, x6, x8, S =>
    if (S.1 150 33) ≤ x8 then (
    if cpIn (((6 : Int32) * x4) + x5) 54 then (
    cpLt (cpL S 167 (((6 : Int32) * x4) + x5).toNatClampNeg x6) fun S1 =>
    k65 (x5 + 1) S1) else none) else (
    if cpIn x8 168 then (
    cpB (fX12_isWorn x1 x4 (S.1 168 x8.toNatClampNeg) x5 S) fun z2 S3 =>
    if z2 = 0 then (
    fX12_laysWorn_82 x1 x2 x4 x5 k57 k65 n x6 (x8 + 1) S3) else (
    if cpIn x8 168 then (
    if cpIn (((6 : Int32) * (x4 + (1 : Int32))) + (cpRem (S3.1 168 x8.toNatClampNeg) (10 : Int32))) 54 then (
    cpLt (x6 + (S3.2 167 (((6 : Int32) * (x4 + (1 : Int32))) + (cpRem (S3.1 168 x8.toNatClampNeg) (10 : Int32))).toNatClampNeg)) fun y4 =>
    fX12_laysWorn_82 x1 x2 x4 x5 k57 k65 n y4 (x8 + 1) S3) else none) else none)) else none)
set_option maxRecDepth 100000 in
set_option maxHeartbeats 4000000 in
theorem wX12_laysWorn_82 (C : cpCx p s m args meth c w A cX12_laysWorn RX12 9) (hr : meth.sig.returnType = (some .long)) {r : Int64 × cpS} (x1 : Int32) (x2 : Int32) (x4 : Int32) (x5 : Int32) {k57 : Int32 → cpS → Option (Int64 × cpS)} (hk57 : ∀ (x4 : Int32) (S : cpS), k57 x4 S = some r → cpJ p l e (cpRm 5) s m args below meth c (MQ below (va_Ql (fun x S' => (x, S') = r) (cpWorld w A) A) args s 0 0 A) w A 9 57 [some (.ref (w.2.1 150)), some (.int x1), some (.int x2), none, some (.int x4), none, none, none, none] [] S) {k65 : Int32 → cpS → Option (Int64 × cpS)} (hk65 : ∀ (x5 : Int32) (S : cpS), k65 x5 S = some r → cpJ p l e (cpRm 5) s m args below meth c (MQ below (va_Ql (fun x S' => (x, S') = r) (cpWorld w A) A) args s 0 0 A) w A 9 65 [some (.ref (w.2.1 150)), some (.int x1), some (.int x2), none, some (.int x4), some (.int x5), none, none, none] [] S) : ∀ (n : Nat) (x6 : Int64) (x8 : Int32) (S : cpS), fX12_laysWorn_82 x1 x2 x4 x5 k57 k65 n x6 x8 S = some r → cpJ p l e (cpRm 5) s m args below meth c (MQ below (va_Ql (fun x S' => (x, S') = r) (cpWorld w A) A) args s 0 0 A) w A 9 82 [some (.ref (w.2.1 150)), some (.int x1), some (.int x2), none, some (.int x4), some (.int x5), some (.long x6), none, some (.int x8)] [] S := by
  intro n
  induction n with
  | zero => intro x6 x8 S h; rw [fX12_laysWorn_82] at h; cases h
  | succ n ih =>
    intro x6 x8 S h
    rw [fX12_laysWorn_82] at h
    refine cj_iload C dX12_laysWorn_82 rfl ?_
    refine cj_aload_n C (i := 0) dX12_laysWorn_84 rfl rfl ?_
    refine cj_getI C (j := 33) o_150 rfl gfX12_450 dX12_laysWorn_85 ?_
    refine cj_icmp_ge C (tgt := 144) dX12_laysWorn_88 rfl h (fun _ h => ?_) (fun _ h => ?_)
    · refine cj_aload_n C (i := 0) dX12_laysWorn_144 rfl rfl ?_
      refine cj_getR C (d := 167) o_150 rfl gfX12_67 dX12_laysWorn_145 ?_
      refine cj_bipush C (v := (6 : Int32)) dX12_laysWorn_148 rfl ?_
      refine cj_iload C dX12_laysWorn_150 rfl ?_
      refine cj_imul C dX12_laysWorn_152 ?_
      refine cj_iload C dX12_laysWorn_153 rfl ?_
      refine cj_iadd C dX12_laysWorn_155 ?_
      refine cj_lload C dX12_laysWorn_156 rfl ?_
      refine cj_lastore C o_167 h dX12_laysWorn_158 (fun h => ?_)
      refine cj_lets h (fun S1 h => ?_)
      refine cj_iinc C (v := (x5 + 1)) (lv' := [some (.ref (w.2.1 150)), some (.int x1), some (.int x2), none, some (.int x4), some (.int (x5 + 1)), some (.long x6), none, some (.int x8)]) dX12_laysWorn_159 rfl rfl (by decide) rfl rfl ?_
      refine cj_goto C (tgt := 65) dX12_laysWorn_162 rfl ?_
      refine cj_weak C (lv' := [some (.ref (w.2.1 150)), some (.int x1), some (.int x2), none, some (.int x4), some (.int (x5 + 1)), none, none, none]) (cpSub_s (cpSub_s (cpSub_s (cpSub_n (cpSub_s (cpSub_s (cpSub_n (cpSub_n (cpSub_n cpSub_nil))))))))) ?_
      exact hk65 (x5 + 1) S1 h
    · refine cj_aload_n C (i := 0) dX12_laysWorn_91 rfl rfl ?_
      refine cj_iload_n C (i := 1) dX12_laysWorn_92 rfl rfl ?_
      refine cj_iload C dX12_laysWorn_93 rfl ?_
      refine cj_aload_n C (i := 0) dX12_laysWorn_95 rfl rfl ?_
      refine cj_getR C (d := 168) o_150 rfl gfX12_70 dX12_laysWorn_96 ?_
      refine cj_iload C dX12_laysWorn_99 rfl ?_
      refine cj_iaload C o_168 h dX12_laysWorn_101 (fun h => ?_)
      refine cj_iload C dX12_laysWorn_102 rfl ?_
      refine cj_callVi C (As := [.int x1, .int x4, .int (S.1 168 x8.toNatClampNeg), .int x5]) (rest := []) qX12_isWorn mw_66_6 o_150 rfl rfl rfl (Nat.le_of_ble_eq_true rfl) (by decide) dX12_laysWorn_104 h (fun _ _ hf => m_X12_isWorn l w A x1 x4 (S.1 168 x8.toNatClampNeg) x5 S _ hf) (fun z2 S3 h => ?_)
      refine cj_if_eq C (tgt := 138) dX12_laysWorn_107 rfl h (fun _ h => ?_) (fun _ h => ?_)
      · refine cj_iinc C (v := (x8 + 1)) (lv' := [some (.ref (w.2.1 150)), some (.int x1), some (.int x2), none, some (.int x4), some (.int x5), some (.long x6), none, some (.int (x8 + 1))]) dX12_laysWorn_138 rfl rfl (by decide) rfl rfl ?_
        refine cj_goto C (tgt := 82) dX12_laysWorn_141 rfl ?_
        exact ih x6 (x8 + 1) S3 h
      · refine cj_lload C dX12_laysWorn_110 rfl ?_
        refine cj_aload_n C (i := 0) dX12_laysWorn_112 rfl rfl ?_
        refine cj_getR C (d := 167) o_150 rfl gfX12_67 dX12_laysWorn_113 ?_
        refine cj_bipush C (v := (6 : Int32)) dX12_laysWorn_116 rfl ?_
        refine cj_iload C dX12_laysWorn_118 rfl ?_
        refine cj_iconst C (v := (1 : Int32)) dX12_laysWorn_120 rfl ?_
        refine cj_iadd C dX12_laysWorn_121 ?_
        refine cj_imul C dX12_laysWorn_122 ?_
        refine cj_aload_n C (i := 0) dX12_laysWorn_123 rfl rfl ?_
        refine cj_getR C (d := 168) o_150 rfl gfX12_70 dX12_laysWorn_124 ?_
        refine cj_iload C dX12_laysWorn_127 rfl ?_
        refine cj_iaload C o_168 h dX12_laysWorn_129 (fun h => ?_)
        refine cj_bipush C (v := (10 : Int32)) dX12_laysWorn_130 rfl ?_
        refine ck_irem C dX12_laysWorn_132 (by decide) ?_
        refine cj_iadd C dX12_laysWorn_133 ?_
        refine cj_laload C o_167 h dX12_laysWorn_134 (fun h => ?_)
        refine cj_ladd C dX12_laysWorn_135 ?_
        refine cj_letl h (fun y4 h => ?_)
        refine cj_lstore C (lv' := [some (.ref (w.2.1 150)), some (.int x1), some (.int x2), none, some (.int x4), some (.int x5), some (.long y4), none, some (.int x8)]) dX12_laysWorn_136 (by decide) rfl rfl ?_
        refine cj_iinc C (v := (x8 + 1)) (lv' := [some (.ref (w.2.1 150)), some (.int x1), some (.int x2), none, some (.int x4), some (.int x5), some (.long y4), none, some (.int (x8 + 1))]) dX12_laysWorn_138 rfl rfl (by decide) rfl rfl ?_
        refine cj_goto C (tgt := 82) dX12_laysWorn_141 rfl ?_
        exact ih y4 (x8 + 1) S3 h
def fX12_laysWorn_65 (x1 : Int32) (x2 : Int32) (x4 : Int32) (k57 : Int32 → cpS → Option (Int64 × cpS)) : Nat → Int32 → cpS → Option (Int64 × cpS)
  | 0, _, _ => none
  | n + 1, x5, S =>
    if (S.1 151 1) ≤ x5 then (
    k57 (x4 + (-1)) S) else (
    fX12_laysWorn_82 x1 x2 x4 x5 k57 (fX12_laysWorn_65 x1 x2 x4 k57 n) cpFu (0 : Int64) (0 : Int32) S)
set_option maxRecDepth 100000 in
set_option maxHeartbeats 4000000 in
theorem wX12_laysWorn_65 (C : cpCx p s m args meth c w A cX12_laysWorn RX12 9) (hr : meth.sig.returnType = (some .long)) {r : Int64 × cpS} (x1 : Int32) (x2 : Int32) (x4 : Int32) {k57 : Int32 → cpS → Option (Int64 × cpS)} (hk57 : ∀ (x4 : Int32) (S : cpS), k57 x4 S = some r → cpJ p l e (cpRm 5) s m args below meth c (MQ below (va_Ql (fun x S' => (x, S') = r) (cpWorld w A) A) args s 0 0 A) w A 9 57 [some (.ref (w.2.1 150)), some (.int x1), some (.int x2), none, some (.int x4), none, none, none, none] [] S) : ∀ (n : Nat) (x5 : Int32) (S : cpS), fX12_laysWorn_65 x1 x2 x4 k57 n x5 S = some r → cpJ p l e (cpRm 5) s m args below meth c (MQ below (va_Ql (fun x S' => (x, S') = r) (cpWorld w A) A) args s 0 0 A) w A 9 65 [some (.ref (w.2.1 150)), some (.int x1), some (.int x2), none, some (.int x4), some (.int x5), none, none, none] [] S := by
  intro n
  induction n with
  | zero => intro x5 S h; rw [fX12_laysWorn_65] at h; cases h
  | succ n ih =>
    intro x5 S h
    rw [fX12_laysWorn_65] at h
    refine cj_iload C dX12_laysWorn_65 rfl ?_
    refine cj_aload_n C (i := 0) dX12_laysWorn_67 rfl rfl ?_
    refine cj_getR C (d := 151) o_150 rfl gfX12_13 dX12_laysWorn_68 ?_
    refine cj_iconst C (v := (1 : Int32)) dX12_laysWorn_71 rfl ?_
    refine cj_ialoadC C (j := 1) o_151 (by decide) (by decide) dX12_laysWorn_72 ?_
    refine cj_icmp_ge C (tgt := 165) dX12_laysWorn_73 rfl h (fun _ h => ?_) (fun _ h => ?_)
    · refine cj_iinc C (v := (x4 + (-1))) (lv' := [some (.ref (w.2.1 150)), some (.int x1), some (.int x2), none, some (.int (x4 + (-1))), some (.int x5), none, none, none]) dX12_laysWorn_165 rfl rfl (by decide) rfl rfl ?_
      refine cj_goto C (tgt := 57) dX12_laysWorn_168 rfl ?_
      refine cj_weak C (lv' := [some (.ref (w.2.1 150)), some (.int x1), some (.int x2), none, some (.int (x4 + (-1))), none, none, none, none]) (cpSub_s (cpSub_s (cpSub_s (cpSub_n (cpSub_s (cpSub_n (cpSub_n (cpSub_n (cpSub_n cpSub_nil))))))))) ?_
      exact hk57 (x4 + (-1)) S h
    · refine cj_lconst C (v := (0 : Int64)) dX12_laysWorn_76 rfl ?_
      refine cj_lstore C (lv' := [some (.ref (w.2.1 150)), some (.int x1), some (.int x2), none, some (.int x4), some (.int x5), some (.long (0 : Int64)), none, none]) dX12_laysWorn_77 (by decide) rfl rfl ?_
      refine cj_iconst C (v := (0 : Int32)) dX12_laysWorn_79 rfl ?_
      refine cj_istore C (lv' := [some (.ref (w.2.1 150)), some (.int x1), some (.int x2), none, some (.int x4), some (.int x5), some (.long (0 : Int64)), none, some (.int (0 : Int32))]) dX12_laysWorn_80 (by decide) rfl rfl ?_
      exact wX12_laysWorn_82 C hr x1 x2 x4 x5 hk57 ih cpFu (0 : Int64) (0 : Int32) S h
def fX12_laysWorn_57 (x1 : Int32) (x2 : Int32) : Nat → Int32 → cpS → Option (Int64 × cpS)
  | 0, _, _ => none
  | n + 1, x4, S =>
    if x4 < 0 then (
    if cpIn ((62 : Int32) + x2) 3486 then (
    if cpIn (S.1 151 ((62 : Int32) + x2).toNatClampNeg) 54 then (
    some ((S.2 167 (S.1 151 ((62 : Int32) + x2).toNatClampNeg).toNatClampNeg), S)) else none) else none) else (
    fX12_laysWorn_65 x1 x2 x4 (fX12_laysWorn_57 x1 x2 n) cpFu (0 : Int32) S)
set_option maxRecDepth 100000 in
set_option maxHeartbeats 4000000 in
theorem wX12_laysWorn_57 (C : cpCx p s m args meth c w A cX12_laysWorn RX12 9) (hr : meth.sig.returnType = (some .long)) {r : Int64 × cpS} (x1 : Int32) (x2 : Int32) : ∀ (n : Nat) (x4 : Int32) (S : cpS), fX12_laysWorn_57 x1 x2 n x4 S = some r → cpJ p l e (cpRm 5) s m args below meth c (MQ below (va_Ql (fun x S' => (x, S') = r) (cpWorld w A) A) args s 0 0 A) w A 9 57 [some (.ref (w.2.1 150)), some (.int x1), some (.int x2), none, some (.int x4), none, none, none, none] [] S := by
  intro n
  induction n with
  | zero => intro x4 S h; rw [fX12_laysWorn_57] at h; cases h
  | succ n ih =>
    intro x4 S h
    rw [fX12_laysWorn_57] at h
    refine cj_iload C dX12_laysWorn_57 rfl ?_
    refine cj_if_lt C (tgt := 171) dX12_laysWorn_59 rfl h (fun _ h => ?_) (fun _ h => ?_)
    · refine cj_aload_n C (i := 0) dX12_laysWorn_171 rfl rfl ?_
      refine cj_getR C (d := 167) o_150 rfl gfX12_67 dX12_laysWorn_172 ?_
      refine cj_aload_n C (i := 0) dX12_laysWorn_175 rfl rfl ?_
      refine cj_getR C (d := 151) o_150 rfl gfX12_13 dX12_laysWorn_176 ?_
      refine cj_bipush C (v := (62 : Int32)) dX12_laysWorn_179 rfl ?_
      refine cj_iload_n C (i := 2) dX12_laysWorn_181 rfl rfl ?_
      refine cj_iadd C dX12_laysWorn_182 ?_
      refine cj_iaload C o_151 h dX12_laysWorn_183 (fun h => ?_)
      refine cj_laload C o_167 h dX12_laysWorn_184 (fun h => ?_)
      exact cj_lreturn C hr h dX12_laysWorn_185
    · refine cj_iconst C (v := (0 : Int32)) dX12_laysWorn_62 rfl ?_
      refine cj_istore C (lv' := [some (.ref (w.2.1 150)), some (.int x1), some (.int x2), none, some (.int x4), some (.int (0 : Int32)), none, none, none]) dX12_laysWorn_63 (by decide) rfl rfl ?_
      exact wX12_laysWorn_65 C hr x1 x2 x4 ih cpFu (0 : Int32) S h
def fX12_laysWorn_26 (x1 : Int32) (x2 : Int32) (x3 : Int32) : Nat → Int32 → cpS → Option (Int64 × cpS)
  | 0, _, _ => none
  | n + 1, x4, S =>
    if (6 : Int32) ≤ x4 then (
    cpLt (x3 - (1 : Int32)) fun y1 =>
    fX12_laysWorn_57 x1 x2 cpFu y1 S) else (
    if cpIn (((6 : Int32) * x3) + x4) 54 then (
    cpLt (cpL S 167 (((6 : Int32) * x3) + x4).toNatClampNeg (1 : Int64)) fun S2 =>
    fX12_laysWorn_26 x1 x2 x3 n (x4 + 1) S2) else none)
set_option maxRecDepth 100000 in
set_option maxHeartbeats 4000000 in
theorem wX12_laysWorn_26 (C : cpCx p s m args meth c w A cX12_laysWorn RX12 9) (hr : meth.sig.returnType = (some .long)) {r : Int64 × cpS} (x1 : Int32) (x2 : Int32) (x3 : Int32) : ∀ (n : Nat) (x4 : Int32) (S : cpS), fX12_laysWorn_26 x1 x2 x3 n x4 S = some r → cpJ p l e (cpRm 5) s m args below meth c (MQ below (va_Ql (fun x S' => (x, S') = r) (cpWorld w A) A) args s 0 0 A) w A 9 26 [some (.ref (w.2.1 150)), some (.int x1), some (.int x2), some (.int x3), some (.int x4), none, none, none, none] [] S := by
  intro n
  induction n with
  | zero => intro x4 S h; rw [fX12_laysWorn_26] at h; cases h
  | succ n ih =>
    intro x4 S h
    rw [fX12_laysWorn_26] at h
    refine cj_iload C dX12_laysWorn_26 rfl ?_
    refine cj_bipush C (v := (6 : Int32)) dX12_laysWorn_28 rfl ?_
    refine cj_icmp_ge C (tgt := 52) dX12_laysWorn_30 rfl h (fun _ h => ?_) (fun _ h => ?_)
    · refine cj_iload_n C (i := 3) dX12_laysWorn_52 rfl rfl ?_
      refine cj_iconst C (v := (1 : Int32)) dX12_laysWorn_53 rfl ?_
      refine cj_isub C dX12_laysWorn_54 ?_
      refine cj_let h (fun y1 h => ?_)
      refine cj_istore C (lv' := [some (.ref (w.2.1 150)), some (.int x1), some (.int x2), some (.int x3), some (.int y1), none, none, none, none]) dX12_laysWorn_55 (by decide) rfl rfl ?_
      refine cj_weak C (lv' := [some (.ref (w.2.1 150)), some (.int x1), some (.int x2), none, some (.int y1), none, none, none, none]) (cpSub_s (cpSub_s (cpSub_s (cpSub_n (cpSub_s (cpSub_n (cpSub_n (cpSub_n (cpSub_n cpSub_nil))))))))) ?_
      exact wX12_laysWorn_57 C hr x1 x2 cpFu y1 S h
    · refine cj_aload_n C (i := 0) dX12_laysWorn_33 rfl rfl ?_
      refine cj_getR C (d := 167) o_150 rfl gfX12_67 dX12_laysWorn_34 ?_
      refine cj_bipush C (v := (6 : Int32)) dX12_laysWorn_37 rfl ?_
      refine cj_iload_n C (i := 3) dX12_laysWorn_39 rfl rfl ?_
      refine cj_imul C dX12_laysWorn_40 ?_
      refine cj_iload C dX12_laysWorn_41 rfl ?_
      refine cj_iadd C dX12_laysWorn_43 ?_
      refine cj_lconst C (v := (1 : Int64)) dX12_laysWorn_44 rfl ?_
      refine cj_lastore C o_167 h dX12_laysWorn_45 (fun h => ?_)
      refine cj_lets h (fun S2 h => ?_)
      refine cj_iinc C (v := (x4 + 1)) (lv' := [some (.ref (w.2.1 150)), some (.int x1), some (.int x2), some (.int x3), some (.int (x4 + 1)), none, none, none, none]) dX12_laysWorn_46 rfl rfl (by decide) rfl rfl ?_
      refine cj_goto C (tgt := 26) dX12_laysWorn_49 rfl ?_
      exact ih (x4 + 1) S2 h
def fX12_laysWorn (x1 : Int32) (x2 : Int32) (S : cpS) : Option (Int64 × cpS) :=
    cpB (fX12_laysNow (S.1 151 78) S) fun _ S2 =>
    cpB (fX12_laysDeeds x2 S2) fun _ S4 =>
    if cpIn x1 4 then (
    cpLt (S4.1 172 x1.toNatClampNeg) fun y5 =>
    fX12_laysWorn_26 x1 x2 y5 cpFu (0 : Int32) S4) else none
set_option maxRecDepth 100000 in
set_option maxHeartbeats 4000000 in
theorem m_X12_laysWorn (l : Launch) (w : cpW) (A : Nat → Prop) (x1 : Int32) (x2 : Int32) (S : cpS) (r : Int64 × cpS) (h : fX12_laysWorn x1 x2 S = some r) : cpMl l yX12_laysWorn cX12_laysWorn 9 ((some .long)) 5 w A [.ref (w.2.1 150), .int x1, .int x2] S r := by
  refine cpMl.of (lv := [some (.ref (w.2.1 150)), some (.int x1), some (.int x2), none, none, none, none, none, none]) (by decide) (Nat.le_of_ble_eq_true rfl) rfl (fun p e s m args below meth c C hr => ?_)
  replace C : cpCx p s m args meth c w A cX12_laysWorn RX12 9 := C
  rw [fX12_laysWorn] at h
  refine cj_aload_n C (i := 0) dX12_laysWorn_0 rfl rfl ?_
  refine cj_aload_n C (i := 0) dX12_laysWorn_1 rfl rfl ?_
  refine cj_getR C (d := 151) o_150 rfl gfX12_13 dX12_laysWorn_2 ?_
  refine cj_bipush C (v := (78 : Int32)) dX12_laysWorn_5 rfl ?_
  refine cj_ialoadC C (j := 78) o_151 (by decide) (by decide) dX12_laysWorn_7 ?_
  refine cj_callVv C (As := [.int (S.1 151 78)]) (rest := []) qX12_laysNow mw_36_7 o_150 rfl rfl rfl (Nat.le_of_ble_eq_true rfl) (by decide) dX12_laysWorn_8 h (fun _ _ hf => m_X12_laysNow l w A (S.1 151 78) S _ hf) (fun z1 S2 h => ?_)
  refine cj_aload_n C (i := 0) dX12_laysWorn_11 rfl rfl ?_
  refine cj_iload_n C (i := 2) dX12_laysWorn_12 rfl rfl ?_
  refine cj_callVv C (As := [.int x2]) (rest := []) qX12_laysDeeds mw_66_2 o_150 rfl rfl rfl (Nat.le_of_ble_eq_true rfl) (by decide) dX12_laysWorn_13 h (fun _ _ hf => m_X12_laysDeeds l w A x2 S2 _ hf) (fun z3 S4 h => ?_)
  refine cj_aload_n C (i := 0) dX12_laysWorn_16 rfl rfl ?_
  refine cj_getR C (d := 172) o_150 rfl gfX12_82 dX12_laysWorn_17 ?_
  refine cj_iload_n C (i := 1) dX12_laysWorn_20 rfl rfl ?_
  refine cj_iaload C o_172 h dX12_laysWorn_21 (fun h => ?_)
  refine cj_let h (fun y5 h => ?_)
  refine cj_istore_n C (i := 3) (lv' := [some (.ref (w.2.1 150)), some (.int x1), some (.int x2), some (.int y5), none, none, none, none, none]) dX12_laysWorn_22 rfl (by decide) rfl rfl ?_
  refine cj_iconst C (v := (0 : Int32)) dX12_laysWorn_23 rfl ?_
  refine cj_istore C (lv' := [some (.ref (w.2.1 150)), some (.int x1), some (.int x2), some (.int y5), some (.int (0 : Int32)), none, none, none, none]) dX12_laysWorn_24 (by decide) rfl rfl ?_
  exact wX12_laysWorn_26 C hr x1 x2 y5 cpFu (0 : Int32) S4 h
/-! X12_wornBy -/
def fX12_wornBy (x1 : Int32) (x2 : Int32) (S : cpS) : Option (Int64 × cpS) :=
    cpLt (cpI S 150 0 (0 : Int32)) fun S1 =>
    cpB (fX12_noWorn x1 x2 S1) fun z2 S3 =>
    if z2 = 0 then (
    cpB (fX12_laysWorn x1 x2 S3) fun z4 S5 =>
    some (z4, S5)) else (
    some ((Int32.toInt64 z2), S3))
set_option maxRecDepth 100000 in
set_option maxHeartbeats 4000000 in
theorem m_X12_wornBy (l : Launch) (w : cpW) (A : Nat → Prop) (x1 : Int32) (x2 : Int32) (S : cpS) (r : Int64 × cpS) (h : fX12_wornBy x1 x2 S = some r) : cpMl l yX12_wornBy cX12_wornBy 4 ((some .long)) 6 w A [.ref (w.2.1 150), .int x1, .int x2] S r := by
  refine cpMl.of (lv := [some (.ref (w.2.1 150)), some (.int x1), some (.int x2), none]) (by decide) (Nat.le_of_ble_eq_true rfl) rfl (fun p e s m args below meth c C hr => ?_)
  replace C : cpCx p s m args meth c w A cX12_wornBy RX12 4 := C
  rw [fX12_wornBy] at h
  refine cj_aload_n C (i := 0) dX12_wornBy_0 rfl rfl ?_
  refine cj_iconst C (v := (0 : Int32)) dX12_wornBy_1 rfl ?_
  refine cj_put C (j := 0) o_150 rfl pfX12_1 rfl rfl dX12_wornBy_2 ?_
  refine cj_lets h (fun S1 h => ?_)
  refine cj_aload_n C (i := 0) dX12_wornBy_5 rfl rfl ?_
  refine cj_iload_n C (i := 1) dX12_wornBy_6 rfl rfl ?_
  refine cj_iload_n C (i := 2) dX12_wornBy_7 rfl rfl ?_
  refine cj_callVi C (As := [.int x1, .int x2]) (rest := []) qX12_noWorn mw_65_13 o_150 rfl rfl rfl (Nat.le_of_ble_eq_true rfl) (by decide) dX12_wornBy_8 h (fun _ _ hf => m_X12_noWorn l w A x1 x2 S1 _ hf) (fun z2 S3 h => ?_)
  refine cj_istore_n C (i := 3) (lv' := [some (.ref (w.2.1 150)), some (.int x1), some (.int x2), some (.int z2)]) dX12_wornBy_11 rfl (by decide) rfl rfl ?_
  refine cj_iload_n C (i := 3) dX12_wornBy_12 rfl rfl ?_
  refine cj_if_eq C (tgt := 21) dX12_wornBy_13 rfl h (fun _ h => ?_) (fun _ h => ?_)
  · refine cj_aload_n C (i := 0) dX12_wornBy_21 rfl rfl ?_
    refine cj_iload_n C (i := 1) dX12_wornBy_22 rfl rfl ?_
    refine cj_iload_n C (i := 2) dX12_wornBy_23 rfl rfl ?_
    refine cj_callVl C (As := [.int x1, .int x2]) (rest := []) qX12_laysWorn mw_65_21 o_150 rfl rfl rfl (Nat.le_of_ble_eq_true rfl) (by decide) dX12_wornBy_24 h (fun _ _ hf => m_X12_laysWorn l w A x1 x2 S3 _ hf) (fun z4 S5 h => ?_)
    exact cj_lreturn C hr h dX12_wornBy_27
  · refine cj_iload_n C (i := 3) dX12_wornBy_16 rfl rfl ?_
    refine cj_i2l C dX12_wornBy_17 ?_
    refine cj_goto C (tgt := 27) dX12_wornBy_18 rfl ?_
    exact cj_lreturn C hr h dX12_wornBy_27
/-! X12_canGo -/
def fX12_canGo (x1 : Int32) (x2 : Int32) (x3 : Int32) (x4 : Int32) (S : cpS) : Option (Int32 × cpS) :=
    if cpIn (((6 : Int32) * (x2 + (1 : Int32))) + (cpRem x3 (10 : Int32))) 54 then (
    if (lg_cmp (S.2 167 (((6 : Int32) * (x2 + (1 : Int32))) + (cpRem x3 (10 : Int32))).toNatClampNeg) (0 : Int64)) ≤ 0 then (
    some ((0 : Int32), S)) else (
    cpB (fX12_isWorn x1 x2 x3 x4 S) fun z1 S2 =>
    if z1 = 0 then (
    some ((0 : Int32), S2)) else (
    some ((1 : Int32), S2)))) else none
set_option maxRecDepth 100000 in
set_option maxHeartbeats 4000000 in
theorem m_X12_canGo (l : Launch) (w : cpW) (A : Nat → Prop) (x1 : Int32) (x2 : Int32) (x3 : Int32) (x4 : Int32) (S : cpS) (r : Int32 × cpS) (h : fX12_canGo x1 x2 x3 x4 S = some r) : cpMi l yX12_canGo cX12_canGo 5 ((some .boolean)) 5 w A [.ref (w.2.1 150), .int x1, .int x2, .int x3, .int x4] S r := by
  refine cpMi.of (lv := [some (.ref (w.2.1 150)), some (.int x1), some (.int x2), some (.int x3), some (.int x4)]) (by decide) (Nat.le_of_ble_eq_true rfl) rfl (fun p e s m args below meth c C hr => ?_)
  replace C : cpCx p s m args meth c w A cX12_canGo RX12 5 := C
  rw [fX12_canGo] at h
  refine cj_aload_n C (i := 0) dX12_canGo_0 rfl rfl ?_
  refine cj_getR C (d := 167) o_150 rfl gfX12_67 dX12_canGo_1 ?_
  refine cj_bipush C (v := (6 : Int32)) dX12_canGo_4 rfl ?_
  refine cj_iload_n C (i := 2) dX12_canGo_6 rfl rfl ?_
  refine cj_iconst C (v := (1 : Int32)) dX12_canGo_7 rfl ?_
  refine cj_iadd C dX12_canGo_8 ?_
  refine cj_imul C dX12_canGo_9 ?_
  refine cj_iload_n C (i := 3) dX12_canGo_10 rfl rfl ?_
  refine cj_bipush C (v := (10 : Int32)) dX12_canGo_11 rfl ?_
  refine ck_irem C dX12_canGo_13 (by decide) ?_
  refine cj_iadd C dX12_canGo_14 ?_
  refine cj_laload C o_167 h dX12_canGo_15 (fun h => ?_)
  refine cj_lconst C (v := (0 : Int64)) dX12_canGo_16 rfl ?_
  refine cj_lcmp C dX12_canGo_17 ?_
  refine cj_if_le C (tgt := 37) dX12_canGo_18 rfl h (fun _ h => ?_) (fun _ h => ?_)
  · refine cj_iconst C (v := (0 : Int32)) dX12_canGo_37 rfl ?_
    exact cj_zreturn C hr rfl h dX12_canGo_38
  · refine cj_aload_n C (i := 0) dX12_canGo_21 rfl rfl ?_
    refine cj_iload_n C (i := 1) dX12_canGo_22 rfl rfl ?_
    refine cj_iload_n C (i := 2) dX12_canGo_23 rfl rfl ?_
    refine cj_iload_n C (i := 3) dX12_canGo_24 rfl rfl ?_
    refine cj_iload C dX12_canGo_25 rfl ?_
    refine cj_callVi C (As := [.int x1, .int x2, .int x3, .int x4]) (rest := []) qX12_isWorn mw_66_6 o_150 rfl rfl rfl (Nat.le_of_ble_eq_true rfl) (by decide) dX12_canGo_27 h (fun _ _ hf => m_X12_isWorn l w A x1 x2 x3 x4 S _ hf) (fun z1 S2 h => ?_)
    refine cj_if_eq C (tgt := 37) dX12_canGo_30 rfl h (fun _ h => ?_) (fun _ h => ?_)
    · refine cj_iconst C (v := (0 : Int32)) dX12_canGo_37 rfl ?_
      exact cj_zreturn C hr rfl h dX12_canGo_38
    · refine cj_iconst C (v := (1 : Int32)) dX12_canGo_33 rfl ?_
      refine cj_goto C (tgt := 38) dX12_canGo_34 rfl ?_
      exact cj_zreturn C hr rfl h dX12_canGo_38
/-! X12_wornFirst -/
def fX12_wornFirst_68 (x1 : Int32) (x3 : Int32) (x5 : Int32) (x6 : Int32) (k65 : Int32 → Int32 → cpS → Option (Int32 × cpS)) : Nat → Int32 → cpS → Option (Int32 × cpS)
  | 0, _, _ => none
  | n + 1, x7, S =>
    if cpIn x7 168 then (
    cpB (fX12_canGo x1 x6 (S.1 168 x7.toNatClampNeg) x5 S) fun z1 S2 =>
    if z1 = 0 then (
    fX12_wornFirst_68 x1 x3 x5 x6 k65 n (x7 + 1) S2) else (
    if x6 = x3 then (
    if cpIn x7 168 then (
    some ((S2.1 168 x7.toNatClampNeg), S2)) else none) else (
    if cpIn x7 168 then (
    cpLt (cpRem (S2.1 168 x7.toNatClampNeg) (10 : Int32)) fun y3 =>
    k65 y3 (x6 + 1) S2) else none))) else none
set_option maxRecDepth 100000 in
set_option maxHeartbeats 4000000 in
theorem wX12_wornFirst_68 (C : cpCx p s m args meth c w A cX12_wornFirst RX12 8) (hr : meth.sig.returnType = (some .int)) {r : Int32 × cpS} (x1 : Int32) (x3 : Int32) (x5 : Int32) (x6 : Int32) {k65 : Int32 → Int32 → cpS → Option (Int32 × cpS)} (hk65 : ∀ (x5 : Int32) (x6 : Int32) (S : cpS), k65 x5 x6 S = some r → cpJ p l e (cpRm 6) s m args below meth c (MQ below (va_Qi (fun x S' => (x, S') = r) (cpWorld w A) A) args s 0 0 A) w A 8 65 [some (.ref (w.2.1 150)), some (.int x1), none, some (.int x3), none, some (.int x5), some (.int x6), none] [] S) : ∀ (n : Nat) (x7 : Int32) (S : cpS), fX12_wornFirst_68 x1 x3 x5 x6 k65 n x7 S = some r → cpJ p l e (cpRm 6) s m args below meth c (MQ below (va_Qi (fun x S' => (x, S') = r) (cpWorld w A) A) args s 0 0 A) w A 8 68 [some (.ref (w.2.1 150)), some (.int x1), none, some (.int x3), none, some (.int x5), some (.int x6), some (.int x7)] [] S := by
  intro n
  induction n with
  | zero => intro x7 S h; rw [fX12_wornFirst_68] at h; cases h
  | succ n ih =>
    intro x7 S h
    rw [fX12_wornFirst_68] at h
    refine cj_aload_n C (i := 0) dX12_wornFirst_68 rfl rfl ?_
    refine cj_iload_n C (i := 1) dX12_wornFirst_69 rfl rfl ?_
    refine cj_iload C dX12_wornFirst_70 rfl ?_
    refine cj_aload_n C (i := 0) dX12_wornFirst_72 rfl rfl ?_
    refine cj_getR C (d := 168) o_150 rfl gfX12_70 dX12_wornFirst_73 ?_
    refine cj_iload C dX12_wornFirst_76 rfl ?_
    refine cj_iaload C o_168 h dX12_wornFirst_78 (fun h => ?_)
    refine cj_iload C dX12_wornFirst_79 rfl ?_
    refine cj_callVi C (As := [.int x1, .int x6, .int (S.1 168 x7.toNatClampNeg), .int x5]) (rest := []) qX12_canGo mw_67_3 o_150 rfl rfl rfl (Nat.le_of_ble_eq_true rfl) (by decide) dX12_wornFirst_81 h (fun _ _ hf => m_X12_canGo l w A x1 x6 (S.1 168 x7.toNatClampNeg) x5 S _ hf) (fun z1 S2 h => ?_)
    refine cj_if_ne C (tgt := 93) dX12_wornFirst_84 rfl h (fun _ h => ?_) (fun _ h => ?_)
    · refine cj_iinc C (v := (x7 + 1)) (lv' := [some (.ref (w.2.1 150)), some (.int x1), none, some (.int x3), none, some (.int x5), some (.int x6), some (.int (x7 + 1))]) dX12_wornFirst_87 rfl rfl (by decide) rfl rfl ?_
      refine cj_goto C (tgt := 68) dX12_wornFirst_90 rfl ?_
      exact ih (x7 + 1) S2 h
    · refine cj_iload C dX12_wornFirst_93 rfl ?_
      refine cj_iload_n C (i := 3) dX12_wornFirst_95 rfl rfl ?_
      refine cj_icmp_ne C (tgt := 107) dX12_wornFirst_96 rfl h (fun _ h => ?_) (fun _ h => ?_)
      · refine cj_aload_n C (i := 0) dX12_wornFirst_99 rfl rfl ?_
        refine cj_getR C (d := 168) o_150 rfl gfX12_70 dX12_wornFirst_100 ?_
        refine cj_iload C dX12_wornFirst_103 rfl ?_
        refine cj_iaload C o_168 h dX12_wornFirst_105 (fun h => ?_)
        exact cj_ireturn C hr h dX12_wornFirst_106
      · refine cj_aload_n C (i := 0) dX12_wornFirst_107 rfl rfl ?_
        refine cj_getR C (d := 168) o_150 rfl gfX12_70 dX12_wornFirst_108 ?_
        refine cj_iload C dX12_wornFirst_111 rfl ?_
        refine cj_iaload C o_168 h dX12_wornFirst_113 (fun h => ?_)
        refine cj_bipush C (v := (10 : Int32)) dX12_wornFirst_114 rfl ?_
        refine ck_irem C dX12_wornFirst_116 (by decide) ?_
        refine cj_let h (fun y3 h => ?_)
        refine cj_istore C (lv' := [some (.ref (w.2.1 150)), some (.int x1), none, some (.int x3), none, some (.int y3), some (.int x6), some (.int x7)]) dX12_wornFirst_117 (by decide) rfl rfl ?_
        refine cj_iinc C (v := (x6 + 1)) (lv' := [some (.ref (w.2.1 150)), some (.int x1), none, some (.int x3), none, some (.int y3), some (.int (x6 + 1)), some (.int x7)]) dX12_wornFirst_119 rfl rfl (by decide) rfl rfl ?_
        refine cj_goto C (tgt := 65) dX12_wornFirst_122 rfl ?_
        refine cj_weak C (lv' := [some (.ref (w.2.1 150)), some (.int x1), none, some (.int x3), none, some (.int y3), some (.int (x6 + 1)), none]) (cpSub_s (cpSub_s (cpSub_n (cpSub_s (cpSub_n (cpSub_s (cpSub_s (cpSub_n cpSub_nil)))))))) ?_
        exact hk65 y3 (x6 + 1) S2 h
def fX12_wornFirst_65 (x1 : Int32) (x3 : Int32) : Nat → Int32 → Int32 → cpS → Option (Int32 × cpS)
  | 0, _, _, _ => none
  | n + 1, x5, x6, S =>
    fX12_wornFirst_68 x1 x3 x5 x6 (fX12_wornFirst_65 x1 x3 n) cpFu (0 : Int32) S
set_option maxRecDepth 100000 in
set_option maxHeartbeats 4000000 in
theorem wX12_wornFirst_65 (C : cpCx p s m args meth c w A cX12_wornFirst RX12 8) (hr : meth.sig.returnType = (some .int)) {r : Int32 × cpS} (x1 : Int32) (x3 : Int32) : ∀ (n : Nat) (x5 : Int32) (x6 : Int32) (S : cpS), fX12_wornFirst_65 x1 x3 n x5 x6 S = some r → cpJ p l e (cpRm 6) s m args below meth c (MQ below (va_Qi (fun x S' => (x, S') = r) (cpWorld w A) A) args s 0 0 A) w A 8 65 [some (.ref (w.2.1 150)), some (.int x1), none, some (.int x3), none, some (.int x5), some (.int x6), none] [] S := by
  intro n
  induction n with
  | zero => intro x5 x6 S h; rw [fX12_wornFirst_65] at h; cases h
  | succ n ih =>
    intro x5 x6 S h
    rw [fX12_wornFirst_65] at h
    refine cj_iconst C (v := (0 : Int32)) dX12_wornFirst_65 rfl ?_
    refine cj_istore C (lv' := [some (.ref (w.2.1 150)), some (.int x1), none, some (.int x3), none, some (.int x5), some (.int x6), some (.int (0 : Int32))]) dX12_wornFirst_66 (by decide) rfl rfl ?_
    exact wX12_wornFirst_68 C hr x1 x3 x5 x6 ih cpFu (0 : Int32) S h
def fX12_wornFirst (x1 : Int32) (x2 : Int32) (x3 : Int32) (S : cpS) : Option (Int32 × cpS) :=
    cpLt (cpI S 150 0 (0 : Int32)) fun S1 =>
    cpB (fX12_noWorn x1 x2 S1) fun z2 S3 =>
    if z2 = 0 then (
    if 0 ≤ x3 then (
    cpB (fX12_laysWorn x1 x2 S3) fun z4 S5 =>
    if (lg_cmp z4 (0 : Int64)) = 0 then (
    some ((-1 : Int32), S5)) else (
    if cpIn x1 4 then (
    if x3 < (S5.1 172 x1.toNatClampNeg) then (
    if cpIn ((62 : Int32) + x2) 3486 then (
    cpLt (S5.1 151 ((62 : Int32) + x2).toNatClampNeg) fun y6 =>
    fX12_wornFirst_65 x1 x3 cpFu y6 (0 : Int32) S5) else none) else (
    some ((-1 : Int32), S5))) else none)) else (
    some ((-3 : Int32), S3))) else (
    some (z2, S3))
set_option maxRecDepth 100000 in
set_option maxHeartbeats 4000000 in
theorem m_X12_wornFirst (l : Launch) (w : cpW) (A : Nat → Prop) (x1 : Int32) (x2 : Int32) (x3 : Int32) (S : cpS) (r : Int32 × cpS) (h : fX12_wornFirst x1 x2 x3 S = some r) : cpMi l yX12_wornFirst cX12_wornFirst 8 ((some .int)) 6 w A [.ref (w.2.1 150), .int x1, .int x2, .int x3] S r := by
  refine cpMi.of (lv := [some (.ref (w.2.1 150)), some (.int x1), some (.int x2), some (.int x3), none, none, none, none]) (by decide) (Nat.le_of_ble_eq_true rfl) rfl (fun p e s m args below meth c C hr => ?_)
  replace C : cpCx p s m args meth c w A cX12_wornFirst RX12 8 := C
  rw [fX12_wornFirst] at h
  refine cj_aload_n C (i := 0) dX12_wornFirst_0 rfl rfl ?_
  refine cj_iconst C (v := (0 : Int32)) dX12_wornFirst_1 rfl ?_
  refine cj_put C (j := 0) o_150 rfl pfX12_1 rfl rfl dX12_wornFirst_2 ?_
  refine cj_lets h (fun S1 h => ?_)
  refine cj_aload_n C (i := 0) dX12_wornFirst_5 rfl rfl ?_
  refine cj_iload_n C (i := 1) dX12_wornFirst_6 rfl rfl ?_
  refine cj_iload_n C (i := 2) dX12_wornFirst_7 rfl rfl ?_
  refine cj_callVi C (As := [.int x1, .int x2]) (rest := []) qX12_noWorn mw_65_13 o_150 rfl rfl rfl (Nat.le_of_ble_eq_true rfl) (by decide) dX12_wornFirst_8 h (fun _ _ hf => m_X12_noWorn l w A x1 x2 S1 _ hf) (fun z2 S3 h => ?_)
  refine cj_istore C (lv' := [some (.ref (w.2.1 150)), some (.int x1), some (.int x2), some (.int x3), some (.int z2), none, none, none]) dX12_wornFirst_11 (by decide) rfl rfl ?_
  refine cj_iload C dX12_wornFirst_13 rfl ?_
  refine cj_if_eq C (tgt := 21) dX12_wornFirst_15 rfl h (fun _ h => ?_) (fun _ h => ?_)
  · refine cj_iload_n C (i := 3) dX12_wornFirst_21 rfl rfl ?_
    refine cj_if_ge C (tgt := 28) dX12_wornFirst_22 rfl h (fun _ h => ?_) (fun _ h => ?_)
    · refine cj_aload_n C (i := 0) dX12_wornFirst_28 rfl rfl ?_
      refine cj_iload_n C (i := 1) dX12_wornFirst_29 rfl rfl ?_
      refine cj_iload_n C (i := 2) dX12_wornFirst_30 rfl rfl ?_
      refine cj_callVl C (As := [.int x1, .int x2]) (rest := []) qX12_laysWorn mw_65_21 o_150 rfl rfl rfl (Nat.le_of_ble_eq_true rfl) (by decide) dX12_wornFirst_31 h (fun _ _ hf => m_X12_laysWorn l w A x1 x2 S3 _ hf) (fun z4 S5 h => ?_)
      refine cj_lconst C (v := (0 : Int64)) dX12_wornFirst_34 rfl ?_
      refine cj_lcmp C dX12_wornFirst_35 ?_
      refine cj_if_eq C (tgt := 49) dX12_wornFirst_36 rfl h (fun _ h => ?_) (fun _ h => ?_)
      · refine cj_iconst C (v := (-1 : Int32)) dX12_wornFirst_49 rfl ?_
        exact cj_ireturn C hr h dX12_wornFirst_50
      · refine cj_iload_n C (i := 3) dX12_wornFirst_39 rfl rfl ?_
        refine cj_aload_n C (i := 0) dX12_wornFirst_40 rfl rfl ?_
        refine cj_getR C (d := 172) o_150 rfl gfX12_82 dX12_wornFirst_41 ?_
        refine cj_iload_n C (i := 1) dX12_wornFirst_44 rfl rfl ?_
        refine cj_iaload C o_172 h dX12_wornFirst_45 (fun h => ?_)
        refine cj_icmp_lt C (tgt := 51) dX12_wornFirst_46 rfl h (fun _ h => ?_) (fun _ h => ?_)
        · refine cj_aload_n C (i := 0) dX12_wornFirst_51 rfl rfl ?_
          refine cj_getR C (d := 151) o_150 rfl gfX12_13 dX12_wornFirst_52 ?_
          refine cj_bipush C (v := (62 : Int32)) dX12_wornFirst_55 rfl ?_
          refine cj_iload_n C (i := 2) dX12_wornFirst_57 rfl rfl ?_
          refine cj_iadd C dX12_wornFirst_58 ?_
          refine cj_iaload C o_151 h dX12_wornFirst_59 (fun h => ?_)
          refine cj_let h (fun y6 h => ?_)
          refine cj_istore C (lv' := [some (.ref (w.2.1 150)), some (.int x1), some (.int x2), some (.int x3), some (.int z2), some (.int y6), none, none]) dX12_wornFirst_60 (by decide) rfl rfl ?_
          refine cj_iconst C (v := (0 : Int32)) dX12_wornFirst_62 rfl ?_
          refine cj_istore C (lv' := [some (.ref (w.2.1 150)), some (.int x1), some (.int x2), some (.int x3), some (.int z2), some (.int y6), some (.int (0 : Int32)), none]) dX12_wornFirst_63 (by decide) rfl rfl ?_
          refine cj_weak C (lv' := [some (.ref (w.2.1 150)), some (.int x1), none, some (.int x3), none, some (.int y6), some (.int (0 : Int32)), none]) (cpSub_s (cpSub_s (cpSub_n (cpSub_s (cpSub_n (cpSub_s (cpSub_s (cpSub_n cpSub_nil)))))))) ?_
          exact wX12_wornFirst_65 C hr x1 x3 cpFu y6 (0 : Int32) S5 h
        · refine cj_iconst C (v := (-1 : Int32)) dX12_wornFirst_49 rfl ?_
          exact cj_ireturn C hr h dX12_wornFirst_50
    · refine cj_bipush C (v := (-3 : Int32)) dX12_wornFirst_25 rfl ?_
      exact cj_ireturn C hr h dX12_wornFirst_27
  · refine cj_iload C dX12_wornFirst_18 rfl ?_
    exact cj_ireturn C hr h dX12_wornFirst_20
/-! X12_who -/
def fX12_who_102 (x1 : Int32) (x3 : Int32) (x5 : Int32) (x7 : Int32) (x9 : Int32) (k73 : Int32 → Int32 → Int32 → cpS → Option (Int32 × cpS)) (k88 : Int32 → Int32 → Int32 → cpS → Option (Int32 × cpS)) : Nat → Int32 → Int32 → Int32 → cpS → Option (Int32 × cpS)
  | 0, _, _, _, _ => none
  | n + 1, x6, x8, x10, S =>
    if (S.1 150 33) ≤ x10 then (
    k88 x6 x8 (x9 + 1) S) else (
    cpB (fX12_isIn (Int32.toInt64 x5) x9 S) fun z1 S2 =>
    if z1 = 0 then (
    k88 x6 x8 (x9 + 1) S2) else (
    if cpIn x10 168 then (
    cpB (fX12_canGo x1 x7 (S2.1 168 x10.toNatClampNeg) x9 S2) fun z3 S4 =>
    if z3 = 0 then (
    fX12_who_102 x1 x3 x5 x7 x9 k73 k88 n x6 x8 (x10 + 1) S4) else (
    if cpIn x10 168 then (
    cpLt (x8 ||| (cpShl (1 : Int32) (cpRem (S4.1 168 x10.toNatClampNeg) (10 : Int32)))) fun y5 =>
    if cpIn x10 168 then (
    if cpIn x10 168 then (
    cpLt (x6 ||| ((cpShl (1 : Int32) (cpRem ((S4.1 168 x10.toNatClampNeg) / (1000 : Int32)) (10 : Int32))) ||| (cpShl (1 : Int32) (cpRem ((S4.1 168 x10.toNatClampNeg) / (100 : Int32)) (10 : Int32))))) fun y6 =>
    fX12_who_102 x1 x3 x5 x7 x9 k73 k88 n y6 y5 (x10 + 1) S4) else none) else none) else none)) else none))
set_option maxRecDepth 100000 in
set_option maxHeartbeats 4000000 in
theorem wX12_who_102 (C : cpCx p s m args meth c w A cX12_who RX12 11) (hr : meth.sig.returnType = (some .int)) {r : Int32 × cpS} (x1 : Int32) (x3 : Int32) (x5 : Int32) (x7 : Int32) (x9 : Int32) {k73 : Int32 → Int32 → Int32 → cpS → Option (Int32 × cpS)} (hk73 : ∀ (x5 : Int32) (x6 : Int32) (x7 : Int32) (S : cpS), k73 x5 x6 x7 S = some r → cpJ p l e (cpRm 6) s m args below meth c (MQ below (va_Qi (fun x S' => (x, S') = r) (cpWorld w A) A) args s 0 0 A) w A 11 73 [some (.ref (w.2.1 150)), some (.int x1), none, some (.int x3), none, some (.int x5), some (.int x6), some (.int x7), none, none, none] [] S) {k88 : Int32 → Int32 → Int32 → cpS → Option (Int32 × cpS)} (hk88 : ∀ (x6 : Int32) (x8 : Int32) (x9 : Int32) (S : cpS), k88 x6 x8 x9 S = some r → cpJ p l e (cpRm 6) s m args below meth c (MQ below (va_Qi (fun x S' => (x, S') = r) (cpWorld w A) A) args s 0 0 A) w A 11 88 [some (.ref (w.2.1 150)), some (.int x1), none, some (.int x3), none, some (.int x5), some (.int x6), some (.int x7), some (.int x8), some (.int x9), none] [] S) : ∀ (n : Nat) (x6 : Int32) (x8 : Int32) (x10 : Int32) (S : cpS), fX12_who_102 x1 x3 x5 x7 x9 k73 k88 n x6 x8 x10 S = some r → cpJ p l e (cpRm 6) s m args below meth c (MQ below (va_Qi (fun x S' => (x, S') = r) (cpWorld w A) A) args s 0 0 A) w A 11 102 [some (.ref (w.2.1 150)), some (.int x1), none, some (.int x3), none, some (.int x5), some (.int x6), some (.int x7), some (.int x8), some (.int x9), some (.int x10)] [] S := by
  intro n
  induction n with
  | zero => intro x6 x8 x10 S h; rw [fX12_who_102] at h; cases h
  | succ n ih =>
    intro x6 x8 x10 S h
    rw [fX12_who_102] at h
    refine cj_iload C dX12_who_102 rfl ?_
    refine cj_aload_n C (i := 0) dX12_who_104 rfl rfl ?_
    refine cj_getI C (j := 33) o_150 rfl gfX12_450 dX12_who_105 ?_
    refine cj_icmp_ge C (tgt := 204) dX12_who_108 rfl h (fun _ h => ?_) (fun _ h => ?_)
    · refine cj_iinc C (v := (x9 + 1)) (lv' := [some (.ref (w.2.1 150)), some (.int x1), none, some (.int x3), none, some (.int x5), some (.int x6), some (.int x7), some (.int x8), some (.int (x9 + 1)), some (.int x10)]) dX12_who_204 rfl rfl (by decide) rfl rfl ?_
      refine cj_goto C (tgt := 88) dX12_who_207 rfl ?_
      refine cj_weak C (lv' := [some (.ref (w.2.1 150)), some (.int x1), none, some (.int x3), none, some (.int x5), some (.int x6), some (.int x7), some (.int x8), some (.int (x9 + 1)), none]) (cpSub_s (cpSub_s (cpSub_n (cpSub_s (cpSub_n (cpSub_s (cpSub_s (cpSub_s (cpSub_s (cpSub_s (cpSub_n cpSub_nil))))))))))) ?_
      exact hk88 x6 x8 (x9 + 1) S h
    · refine cj_iload C dX12_who_111 rfl ?_
      refine cj_i2l C dX12_who_113 ?_
      refine cj_iload C dX12_who_114 rfl ?_
      refine cj_callSi C (As := [.long (Int32.toInt64 x5), .int x9]) (rest := []) qX12_isIn mw_36_4 rfl rfl (Nat.le_of_ble_eq_true rfl) (by decide) dX12_who_116 h (fun _ _ hf => m_X12_isIn l w A (Int32.toInt64 x5) x9 S _ hf) (fun z1 S2 h => ?_)
      refine cj_if_eq C (tgt := 204) dX12_who_119 rfl h (fun _ h => ?_) (fun _ h => ?_)
      · refine cj_iinc C (v := (x9 + 1)) (lv' := [some (.ref (w.2.1 150)), some (.int x1), none, some (.int x3), none, some (.int x5), some (.int x6), some (.int x7), some (.int x8), some (.int (x9 + 1)), some (.int x10)]) dX12_who_204 rfl rfl (by decide) rfl rfl ?_
        refine cj_goto C (tgt := 88) dX12_who_207 rfl ?_
        refine cj_weak C (lv' := [some (.ref (w.2.1 150)), some (.int x1), none, some (.int x3), none, some (.int x5), some (.int x6), some (.int x7), some (.int x8), some (.int (x9 + 1)), none]) (cpSub_s (cpSub_s (cpSub_n (cpSub_s (cpSub_n (cpSub_s (cpSub_s (cpSub_s (cpSub_s (cpSub_s (cpSub_n cpSub_nil))))))))))) ?_
        exact hk88 x6 x8 (x9 + 1) S2 h
      · refine cj_aload_n C (i := 0) dX12_who_122 rfl rfl ?_
        refine cj_iload_n C (i := 1) dX12_who_123 rfl rfl ?_
        refine cj_iload C dX12_who_124 rfl ?_
        refine cj_aload_n C (i := 0) dX12_who_126 rfl rfl ?_
        refine cj_getR C (d := 168) o_150 rfl gfX12_70 dX12_who_127 ?_
        refine cj_iload C dX12_who_130 rfl ?_
        refine cj_iaload C o_168 h dX12_who_132 (fun h => ?_)
        refine cj_iload C dX12_who_133 rfl ?_
        refine cj_callVi C (As := [.int x1, .int x7, .int (S2.1 168 x10.toNatClampNeg), .int x9]) (rest := []) qX12_canGo mw_67_3 o_150 rfl rfl rfl (Nat.le_of_ble_eq_true rfl) (by decide) dX12_who_135 h (fun _ _ hf => m_X12_canGo l w A x1 x7 (S2.1 168 x10.toNatClampNeg) x9 S2 _ hf) (fun z3 S4 h => ?_)
        refine cj_if_ne C (tgt := 144) dX12_who_138 rfl h (fun _ h => ?_) (fun _ h => ?_)
        · refine cj_goto C (tgt := 198) dX12_who_141 rfl ?_
          refine cj_iinc C (v := (x10 + 1)) (lv' := [some (.ref (w.2.1 150)), some (.int x1), none, some (.int x3), none, some (.int x5), some (.int x6), some (.int x7), some (.int x8), some (.int x9), some (.int (x10 + 1))]) dX12_who_198 rfl rfl (by decide) rfl rfl ?_
          refine cj_goto C (tgt := 102) dX12_who_201 rfl ?_
          exact ih x6 x8 (x10 + 1) S4 h
        · refine cj_iload C dX12_who_144 rfl ?_
          refine cj_iconst C (v := (1 : Int32)) dX12_who_146 rfl ?_
          refine cj_aload_n C (i := 0) dX12_who_147 rfl rfl ?_
          refine cj_getR C (d := 168) o_150 rfl gfX12_70 dX12_who_148 ?_
          refine cj_iload C dX12_who_151 rfl ?_
          refine cj_iaload C o_168 h dX12_who_153 (fun h => ?_)
          refine cj_bipush C (v := (10 : Int32)) dX12_who_154 rfl ?_
          refine ck_irem C dX12_who_156 (by decide) ?_
          refine ck_ishl C dX12_who_157 ?_
          refine cj_ior C dX12_who_158 ?_
          refine cj_let h (fun y5 h => ?_)
          refine cj_istore C (lv' := [some (.ref (w.2.1 150)), some (.int x1), none, some (.int x3), none, some (.int x5), some (.int x6), some (.int x7), some (.int y5), some (.int x9), some (.int x10)]) dX12_who_159 (by decide) rfl rfl ?_
          refine cj_iload C dX12_who_161 rfl ?_
          refine cj_iconst C (v := (1 : Int32)) dX12_who_163 rfl ?_
          refine cj_aload_n C (i := 0) dX12_who_164 rfl rfl ?_
          refine cj_getR C (d := 168) o_150 rfl gfX12_70 dX12_who_165 ?_
          refine cj_iload C dX12_who_168 rfl ?_
          refine cj_iaload C o_168 h dX12_who_170 (fun h => ?_)
          refine cj_sipush C (v := (1000 : Int32)) dX12_who_171 rfl ?_
          refine cj_idiv C dX12_who_174 (by decide) ?_
          refine cj_bipush C (v := (10 : Int32)) dX12_who_175 rfl ?_
          refine ck_irem C dX12_who_177 (by decide) ?_
          refine ck_ishl C dX12_who_178 ?_
          refine cj_iconst C (v := (1 : Int32)) dX12_who_179 rfl ?_
          refine cj_aload_n C (i := 0) dX12_who_180 rfl rfl ?_
          refine cj_getR C (d := 168) o_150 rfl gfX12_70 dX12_who_181 ?_
          refine cj_iload C dX12_who_184 rfl ?_
          refine cj_iaload C o_168 h dX12_who_186 (fun h => ?_)
          refine cj_bipush C (v := (100 : Int32)) dX12_who_187 rfl ?_
          refine cj_idiv C dX12_who_189 (by decide) ?_
          refine cj_bipush C (v := (10 : Int32)) dX12_who_190 rfl ?_
          refine ck_irem C dX12_who_192 (by decide) ?_
          refine ck_ishl C dX12_who_193 ?_
          refine cj_ior C dX12_who_194 ?_
          refine cj_ior C dX12_who_195 ?_
          refine cj_let h (fun y6 h => ?_)
          refine cj_istore C (lv' := [some (.ref (w.2.1 150)), some (.int x1), none, some (.int x3), none, some (.int x5), some (.int y6), some (.int x7), some (.int y5), some (.int x9), some (.int x10)]) dX12_who_196 (by decide) rfl rfl ?_
          refine cj_iinc C (v := (x10 + 1)) (lv' := [some (.ref (w.2.1 150)), some (.int x1), none, some (.int x3), none, some (.int x5), some (.int y6), some (.int x7), some (.int y5), some (.int x9), some (.int (x10 + 1))]) dX12_who_198 rfl rfl (by decide) rfl rfl ?_
          refine cj_goto C (tgt := 102) dX12_who_201 rfl ?_
          exact ih y6 y5 (x10 + 1) S4 h
def fX12_who_88 (x1 : Int32) (x3 : Int32) (x5 : Int32) (x7 : Int32) (k73 : Int32 → Int32 → Int32 → cpS → Option (Int32 × cpS)) : Nat → Int32 → Int32 → Int32 → cpS → Option (Int32 × cpS)
  | 0, _, _, _, _ => none
  | n + 1, x6, x8, x9, S =>
    if (S.1 151 1) ≤ x9 then (
    k73 x8 x6 (x7 + 1) S) else (
    fX12_who_102 x1 x3 x5 x7 x9 k73 (fX12_who_88 x1 x3 x5 x7 k73 n) cpFu x6 x8 (0 : Int32) S)
set_option maxRecDepth 100000 in
set_option maxHeartbeats 4000000 in
theorem wX12_who_88 (C : cpCx p s m args meth c w A cX12_who RX12 11) (hr : meth.sig.returnType = (some .int)) {r : Int32 × cpS} (x1 : Int32) (x3 : Int32) (x5 : Int32) (x7 : Int32) {k73 : Int32 → Int32 → Int32 → cpS → Option (Int32 × cpS)} (hk73 : ∀ (x5 : Int32) (x6 : Int32) (x7 : Int32) (S : cpS), k73 x5 x6 x7 S = some r → cpJ p l e (cpRm 6) s m args below meth c (MQ below (va_Qi (fun x S' => (x, S') = r) (cpWorld w A) A) args s 0 0 A) w A 11 73 [some (.ref (w.2.1 150)), some (.int x1), none, some (.int x3), none, some (.int x5), some (.int x6), some (.int x7), none, none, none] [] S) : ∀ (n : Nat) (x6 : Int32) (x8 : Int32) (x9 : Int32) (S : cpS), fX12_who_88 x1 x3 x5 x7 k73 n x6 x8 x9 S = some r → cpJ p l e (cpRm 6) s m args below meth c (MQ below (va_Qi (fun x S' => (x, S') = r) (cpWorld w A) A) args s 0 0 A) w A 11 88 [some (.ref (w.2.1 150)), some (.int x1), none, some (.int x3), none, some (.int x5), some (.int x6), some (.int x7), some (.int x8), some (.int x9), none] [] S := by
  intro n
  induction n with
  | zero => intro x6 x8 x9 S h; rw [fX12_who_88] at h; cases h
  | succ n ih =>
    intro x6 x8 x9 S h
    rw [fX12_who_88] at h
    refine cj_iload C dX12_who_88 rfl ?_
    refine cj_aload_n C (i := 0) dX12_who_90 rfl rfl ?_
    refine cj_getR C (d := 151) o_150 rfl gfX12_13 dX12_who_91 ?_
    refine cj_iconst C (v := (1 : Int32)) dX12_who_94 rfl ?_
    refine cj_ialoadC C (j := 1) o_151 (by decide) (by decide) dX12_who_95 ?_
    refine cj_icmp_ge C (tgt := 210) dX12_who_96 rfl h (fun _ h => ?_) (fun _ h => ?_)
    · refine cj_iload C dX12_who_210 rfl ?_
      refine cj_istore C (lv' := [some (.ref (w.2.1 150)), some (.int x1), none, some (.int x3), none, some (.int x8), some (.int x6), some (.int x7), some (.int x8), some (.int x9), none]) dX12_who_212 (by decide) rfl rfl ?_
      refine cj_iinc C (v := (x7 + 1)) (lv' := [some (.ref (w.2.1 150)), some (.int x1), none, some (.int x3), none, some (.int x8), some (.int x6), some (.int (x7 + 1)), some (.int x8), some (.int x9), none]) dX12_who_214 rfl rfl (by decide) rfl rfl ?_
      refine cj_goto C (tgt := 73) dX12_who_217 rfl ?_
      refine cj_weak C (lv' := [some (.ref (w.2.1 150)), some (.int x1), none, some (.int x3), none, some (.int x8), some (.int x6), some (.int (x7 + 1)), none, none, none]) (cpSub_s (cpSub_s (cpSub_n (cpSub_s (cpSub_n (cpSub_s (cpSub_s (cpSub_s (cpSub_n (cpSub_n (cpSub_n cpSub_nil))))))))))) ?_
      exact hk73 x8 x6 (x7 + 1) S h
    · refine cj_iconst C (v := (0 : Int32)) dX12_who_99 rfl ?_
      refine cj_istore C (lv' := [some (.ref (w.2.1 150)), some (.int x1), none, some (.int x3), none, some (.int x5), some (.int x6), some (.int x7), some (.int x8), some (.int x9), some (.int (0 : Int32))]) dX12_who_100 (by decide) rfl rfl ?_
      exact wX12_who_102 C hr x1 x3 x5 x7 x9 hk73 ih cpFu x6 x8 (0 : Int32) S h
def fX12_who_73 (x1 : Int32) (x3 : Int32) : Nat → Int32 → Int32 → Int32 → cpS → Option (Int32 × cpS)
  | 0, _, _, _, _ => none
  | n + 1, x5, x6, x7, S =>
    if x3 < x7 then (
    some (x6, S)) else (
    fX12_who_88 x1 x3 x5 x7 (fX12_who_73 x1 x3 n) cpFu (0 : Int32) (0 : Int32) (0 : Int32) S)
set_option maxRecDepth 100000 in
set_option maxHeartbeats 4000000 in
theorem wX12_who_73 (C : cpCx p s m args meth c w A cX12_who RX12 11) (hr : meth.sig.returnType = (some .int)) {r : Int32 × cpS} (x1 : Int32) (x3 : Int32) : ∀ (n : Nat) (x5 : Int32) (x6 : Int32) (x7 : Int32) (S : cpS), fX12_who_73 x1 x3 n x5 x6 x7 S = some r → cpJ p l e (cpRm 6) s m args below meth c (MQ below (va_Qi (fun x S' => (x, S') = r) (cpWorld w A) A) args s 0 0 A) w A 11 73 [some (.ref (w.2.1 150)), some (.int x1), none, some (.int x3), none, some (.int x5), some (.int x6), some (.int x7), none, none, none] [] S := by
  intro n
  induction n with
  | zero => intro x5 x6 x7 S h; rw [fX12_who_73] at h; cases h
  | succ n ih =>
    intro x5 x6 x7 S h
    rw [fX12_who_73] at h
    refine cj_iload C dX12_who_73 rfl ?_
    refine cj_iload_n C (i := 3) dX12_who_75 rfl rfl ?_
    refine cj_icmp_gt C (tgt := 220) dX12_who_76 rfl h (fun _ h => ?_) (fun _ h => ?_)
    · refine cj_iload C dX12_who_220 rfl ?_
      exact cj_ireturn C hr h dX12_who_222
    · refine cj_iconst C (v := (0 : Int32)) dX12_who_79 rfl ?_
      refine cj_istore C (lv' := [some (.ref (w.2.1 150)), some (.int x1), none, some (.int x3), none, some (.int x5), some (.int x6), some (.int x7), some (.int (0 : Int32)), none, none]) dX12_who_80 (by decide) rfl rfl ?_
      refine cj_iconst C (v := (0 : Int32)) dX12_who_82 rfl ?_
      refine cj_istore C (lv' := [some (.ref (w.2.1 150)), some (.int x1), none, some (.int x3), none, some (.int x5), some (.int (0 : Int32)), some (.int x7), some (.int (0 : Int32)), none, none]) dX12_who_83 (by decide) rfl rfl ?_
      refine cj_iconst C (v := (0 : Int32)) dX12_who_85 rfl ?_
      refine cj_istore C (lv' := [some (.ref (w.2.1 150)), some (.int x1), none, some (.int x3), none, some (.int x5), some (.int (0 : Int32)), some (.int x7), some (.int (0 : Int32)), some (.int (0 : Int32)), none]) dX12_who_86 (by decide) rfl rfl ?_
      exact wX12_who_88 C hr x1 x3 x5 x7 ih cpFu (0 : Int32) (0 : Int32) (0 : Int32) S h
def fX12_who (x1 : Int32) (x2 : Int32) (x3 : Int32) (S : cpS) : Option (Int32 × cpS) :=
    cpLt (cpI S 150 0 (0 : Int32)) fun S1 =>
    cpB (fX12_noWorn x1 x2 S1) fun z2 S3 =>
    if z2 = 0 then (
    if 0 ≤ x3 then (
    if cpIn x1 4 then (
    if x3 < (S3.1 172 x1.toNatClampNeg) then (
    cpB (fX12_laysWorn x1 x2 S3) fun z4 S5 =>
    if (lg_cmp z4 (0 : Int64)) = 0 then (
    some ((0 : Int32), S5)) else (
    if cpIn ((62 : Int32) + x2) 3486 then (
    cpLt (cpShl (1 : Int32) (S5.1 151 ((62 : Int32) + x2).toNatClampNeg)) fun y6 =>
    fX12_who_73 x1 x3 cpFu y6 (0 : Int32) (0 : Int32) S5) else none)) else (
    some ((-7 : Int32), S3))) else none) else (
    some ((-3 : Int32), S3))) else (
    some (z2, S3))
set_option maxRecDepth 100000 in
set_option maxHeartbeats 4000000 in
theorem m_X12_who (l : Launch) (w : cpW) (A : Nat → Prop) (x1 : Int32) (x2 : Int32) (x3 : Int32) (S : cpS) (r : Int32 × cpS) (h : fX12_who x1 x2 x3 S = some r) : cpMi l yX12_who cX12_who 11 ((some .int)) 6 w A [.ref (w.2.1 150), .int x1, .int x2, .int x3] S r := by
  refine cpMi.of (lv := [some (.ref (w.2.1 150)), some (.int x1), some (.int x2), some (.int x3), none, none, none, none, none, none, none]) (by decide) (Nat.le_of_ble_eq_true rfl) rfl (fun p e s m args below meth c C hr => ?_)
  replace C : cpCx p s m args meth c w A cX12_who RX12 11 := C
  rw [fX12_who] at h
  refine cj_aload_n C (i := 0) dX12_who_0 rfl rfl ?_
  refine cj_iconst C (v := (0 : Int32)) dX12_who_1 rfl ?_
  refine cj_put C (j := 0) o_150 rfl pfX12_1 rfl rfl dX12_who_2 ?_
  refine cj_lets h (fun S1 h => ?_)
  refine cj_aload_n C (i := 0) dX12_who_5 rfl rfl ?_
  refine cj_iload_n C (i := 1) dX12_who_6 rfl rfl ?_
  refine cj_iload_n C (i := 2) dX12_who_7 rfl rfl ?_
  refine cj_callVi C (As := [.int x1, .int x2]) (rest := []) qX12_noWorn mw_65_13 o_150 rfl rfl rfl (Nat.le_of_ble_eq_true rfl) (by decide) dX12_who_8 h (fun _ _ hf => m_X12_noWorn l w A x1 x2 S1 _ hf) (fun z2 S3 h => ?_)
  refine cj_istore C (lv' := [some (.ref (w.2.1 150)), some (.int x1), some (.int x2), some (.int x3), some (.int z2), none, none, none, none, none, none]) dX12_who_11 (by decide) rfl rfl ?_
  refine cj_iload C dX12_who_13 rfl ?_
  refine cj_if_eq C (tgt := 21) dX12_who_15 rfl h (fun _ h => ?_) (fun _ h => ?_)
  · refine cj_iload_n C (i := 3) dX12_who_21 rfl rfl ?_
    refine cj_if_ge C (tgt := 28) dX12_who_22 rfl h (fun _ h => ?_) (fun _ h => ?_)
    · refine cj_iload_n C (i := 3) dX12_who_28 rfl rfl ?_
      refine cj_aload_n C (i := 0) dX12_who_29 rfl rfl ?_
      refine cj_getR C (d := 172) o_150 rfl gfX12_82 dX12_who_30 ?_
      refine cj_iload_n C (i := 1) dX12_who_33 rfl rfl ?_
      refine cj_iaload C o_172 h dX12_who_34 (fun h => ?_)
      refine cj_icmp_lt C (tgt := 41) dX12_who_35 rfl h (fun _ h => ?_) (fun _ h => ?_)
      · refine cj_aload_n C (i := 0) dX12_who_41 rfl rfl ?_
        refine cj_iload_n C (i := 1) dX12_who_42 rfl rfl ?_
        refine cj_iload_n C (i := 2) dX12_who_43 rfl rfl ?_
        refine cj_callVl C (As := [.int x1, .int x2]) (rest := []) qX12_laysWorn mw_65_21 o_150 rfl rfl rfl (Nat.le_of_ble_eq_true rfl) (by decide) dX12_who_44 h (fun _ _ hf => m_X12_laysWorn l w A x1 x2 S3 _ hf) (fun z4 S5 h => ?_)
        refine cj_lconst C (v := (0 : Int64)) dX12_who_47 rfl ?_
        refine cj_lcmp C dX12_who_48 ?_
        refine cj_if_ne C (tgt := 54) dX12_who_49 rfl h (fun _ h => ?_) (fun _ h => ?_)
        · refine cj_iconst C (v := (0 : Int32)) dX12_who_52 rfl ?_
          exact cj_ireturn C hr h dX12_who_53
        · refine cj_iconst C (v := (1 : Int32)) dX12_who_54 rfl ?_
          refine cj_aload_n C (i := 0) dX12_who_55 rfl rfl ?_
          refine cj_getR C (d := 151) o_150 rfl gfX12_13 dX12_who_56 ?_
          refine cj_bipush C (v := (62 : Int32)) dX12_who_59 rfl ?_
          refine cj_iload_n C (i := 2) dX12_who_61 rfl rfl ?_
          refine cj_iadd C dX12_who_62 ?_
          refine cj_iaload C o_151 h dX12_who_63 (fun h => ?_)
          refine ck_ishl C dX12_who_64 ?_
          refine cj_let h (fun y6 h => ?_)
          refine cj_istore C (lv' := [some (.ref (w.2.1 150)), some (.int x1), some (.int x2), some (.int x3), some (.int z2), some (.int y6), none, none, none, none, none]) dX12_who_65 (by decide) rfl rfl ?_
          refine cj_iconst C (v := (0 : Int32)) dX12_who_67 rfl ?_
          refine cj_istore C (lv' := [some (.ref (w.2.1 150)), some (.int x1), some (.int x2), some (.int x3), some (.int z2), some (.int y6), some (.int (0 : Int32)), none, none, none, none]) dX12_who_68 (by decide) rfl rfl ?_
          refine cj_iconst C (v := (0 : Int32)) dX12_who_70 rfl ?_
          refine cj_istore C (lv' := [some (.ref (w.2.1 150)), some (.int x1), some (.int x2), some (.int x3), some (.int z2), some (.int y6), some (.int (0 : Int32)), some (.int (0 : Int32)), none, none, none]) dX12_who_71 (by decide) rfl rfl ?_
          refine cj_weak C (lv' := [some (.ref (w.2.1 150)), some (.int x1), none, some (.int x3), none, some (.int y6), some (.int (0 : Int32)), some (.int (0 : Int32)), none, none, none]) (cpSub_s (cpSub_s (cpSub_n (cpSub_s (cpSub_n (cpSub_s (cpSub_s (cpSub_s (cpSub_n (cpSub_n (cpSub_n cpSub_nil))))))))))) ?_
          exact wX12_who_73 C hr x1 x3 cpFu y6 (0 : Int32) (0 : Int32) S5 h
      · refine cj_bipush C (v := (-7 : Int32)) dX12_who_38 rfl ?_
        exact cj_ireturn C hr h dX12_who_40
    · refine cj_bipush C (v := (-3 : Int32)) dX12_who_25 rfl ?_
      exact cj_ireturn C hr h dX12_who_27
  · refine cj_iload C dX12_who_18 rfl ?_
    exact cj_ireturn C hr h dX12_who_20
/-! X12_isTold -/
def fX12_isTold (x1 : Int32) (x2 : Int32) (S : cpS) : Option (Int32 × cpS) :=
    cpLt (x1 / (10 : Int32)) fun y1 =>
    cpB (fX12_whyTold y1 x2 S) fun z2 S3 =>
    if z2 = 0 then (
    cpB (fX12_wornTo (y1 / (1000 : Int32)) (cpRem (y1 / (100 : Int32)) (10 : Int32)) (cpRem (y1 / (10 : Int32)) (10 : Int32)) (cpRem y1 (10 : Int32)) x2 S3) fun z4 S5 =>
    if z4 = (cpRem x1 (10 : Int32)) then (
    some ((1 : Int32), S5)) else (
    some ((0 : Int32), S5))) else (
    some ((0 : Int32), S3))
set_option maxRecDepth 100000 in
set_option maxHeartbeats 4000000 in
theorem m_X12_isTold (l : Launch) (w : cpW) (A : Nat → Prop) (x1 : Int32) (x2 : Int32) (S : cpS) (r : Int32 × cpS) (h : fX12_isTold x1 x2 S = some r) : cpMi l yX12_isTold cX12_isTold 4 ((some .boolean)) 6 w A [.ref (w.2.1 150), .int x1, .int x2] S r := by
  refine cpMi.of (lv := [some (.ref (w.2.1 150)), some (.int x1), some (.int x2), none]) (by decide) (Nat.le_of_ble_eq_true rfl) rfl (fun p e s m args below meth c C hr => ?_)
  replace C : cpCx p s m args meth c w A cX12_isTold RX12 4 := C
  rw [fX12_isTold] at h
  refine cj_iload_n C (i := 1) dX12_isTold_0 rfl rfl ?_
  refine cj_bipush C (v := (10 : Int32)) dX12_isTold_1 rfl ?_
  refine cj_idiv C dX12_isTold_3 (by decide) ?_
  refine cj_let h (fun y1 h => ?_)
  refine cj_istore_n C (i := 3) (lv' := [some (.ref (w.2.1 150)), some (.int x1), some (.int x2), some (.int y1)]) dX12_isTold_4 rfl (by decide) rfl rfl ?_
  refine cj_aload_n C (i := 0) dX12_isTold_5 rfl rfl ?_
  refine cj_iload_n C (i := 3) dX12_isTold_6 rfl rfl ?_
  refine cj_iload_n C (i := 2) dX12_isTold_7 rfl rfl ?_
  refine cj_callVi C (As := [.int y1, .int x2]) (rest := []) qX12_whyTold mw_45_3 o_150 rfl rfl rfl (Nat.le_of_ble_eq_true rfl) (by decide) dX12_isTold_8 h (fun _ _ hf => m_X12_whyTold l w A y1 x2 S _ hf) (fun z2 S3 h => ?_)
  refine cj_if_ne C (tgt := 53) dX12_isTold_11 rfl h (fun _ h => ?_) (fun _ h => ?_)
  · refine cj_aload_n C (i := 0) dX12_isTold_14 rfl rfl ?_
    refine cj_iload_n C (i := 3) dX12_isTold_15 rfl rfl ?_
    refine cj_sipush C (v := (1000 : Int32)) dX12_isTold_16 rfl ?_
    refine cj_idiv C dX12_isTold_19 (by decide) ?_
    refine cj_iload_n C (i := 3) dX12_isTold_20 rfl rfl ?_
    refine cj_bipush C (v := (100 : Int32)) dX12_isTold_21 rfl ?_
    refine cj_idiv C dX12_isTold_23 (by decide) ?_
    refine cj_bipush C (v := (10 : Int32)) dX12_isTold_24 rfl ?_
    refine ck_irem C dX12_isTold_26 (by decide) ?_
    refine cj_iload_n C (i := 3) dX12_isTold_27 rfl rfl ?_
    refine cj_bipush C (v := (10 : Int32)) dX12_isTold_28 rfl ?_
    refine cj_idiv C dX12_isTold_30 (by decide) ?_
    refine cj_bipush C (v := (10 : Int32)) dX12_isTold_31 rfl ?_
    refine ck_irem C dX12_isTold_33 (by decide) ?_
    refine cj_iload_n C (i := 3) dX12_isTold_34 rfl rfl ?_
    refine cj_bipush C (v := (10 : Int32)) dX12_isTold_35 rfl ?_
    refine ck_irem C dX12_isTold_37 (by decide) ?_
    refine cj_iload_n C (i := 2) dX12_isTold_38 rfl rfl ?_
    refine cj_callVi C (As := [.int (y1 / (1000 : Int32)), .int (cpRem (y1 / (100 : Int32)) (10 : Int32)), .int (cpRem (y1 / (10 : Int32)) (10 : Int32)), .int (cpRem y1 (10 : Int32)), .int x2]) (rest := []) qX12_wornTo mw_37_17 o_150 rfl rfl rfl (Nat.le_of_ble_eq_true rfl) (by decide) dX12_isTold_39 h (fun _ _ hf => m_X12_wornTo l w A (y1 / (1000 : Int32)) (cpRem (y1 / (100 : Int32)) (10 : Int32)) (cpRem (y1 / (10 : Int32)) (10 : Int32)) (cpRem y1 (10 : Int32)) x2 S3 _ hf) (fun z4 S5 h => ?_)
    refine cj_iload_n C (i := 1) dX12_isTold_42 rfl rfl ?_
    refine cj_bipush C (v := (10 : Int32)) dX12_isTold_43 rfl ?_
    refine ck_irem C dX12_isTold_45 (by decide) ?_
    refine cj_icmp_ne C (tgt := 53) dX12_isTold_46 rfl h (fun _ h => ?_) (fun _ h => ?_)
    · refine cj_iconst C (v := (1 : Int32)) dX12_isTold_49 rfl ?_
      refine cj_goto C (tgt := 54) dX12_isTold_50 rfl ?_
      exact cj_zreturn C hr rfl h dX12_isTold_54
    · refine cj_iconst C (v := (0 : Int32)) dX12_isTold_53 rfl ?_
      exact cj_zreturn C hr rfl h dX12_isTold_54
  · refine cj_iconst C (v := (0 : Int32)) dX12_isTold_53 rfl ?_
    exact cj_zreturn C hr rfl h dX12_isTold_54
/-! X12_hoursOf -/
def fX12_hoursOf_16 (x1 : Int32) (x2 : Int32) (x3 : Int32) (k4 : Int32 → Int32 → cpS → Option (Int32 × cpS)) : Nat → Int32 → Int32 → cpS → Option (Int32 × cpS)
  | 0, _, _, _ => none
  | n + 1, x4, x5, S =>
    if cpIn x1 4 then (
    if (S.1 172 x1.toNatClampNeg) ≤ x5 then (
    if x4 = 0 then (
    cpLt (x2 ||| (0 : Int32)) fun y1 =>
    k4 y1 (x3 + 1) S) else (
    cpLt (x2 ||| (cpShl (1 : Int32) x3)) fun y2 =>
    k4 y2 (x3 + 1) S)) else (
    if cpIn (((40 : Int32) * x1) + x5) 160 then (
    cpB (fX12_isTold (Int64.toInt32 (S.2 173 (((40 : Int32) * x1) + x5).toNatClampNeg)) x3 S) fun z3 S4 =>
    cpLt (x4 &&& z3) fun y5 =>
    fX12_hoursOf_16 x1 x2 x3 k4 n y5 (x5 + 1) S4) else none)) else none
set_option maxRecDepth 100000 in
set_option maxHeartbeats 4000000 in
theorem wX12_hoursOf_16 (C : cpCx p s m args meth c w A cX12_hoursOf RX12 6) (hr : meth.sig.returnType = (some .int)) {r : Int32 × cpS} (x1 : Int32) (x2 : Int32) (x3 : Int32) {k4 : Int32 → Int32 → cpS → Option (Int32 × cpS)} (hk4 : ∀ (x2 : Int32) (x3 : Int32) (S : cpS), k4 x2 x3 S = some r → cpJ p l e (cpRm 7) s m args below meth c (MQ below (va_Qi (fun x S' => (x, S') = r) (cpWorld w A) A) args s 0 0 A) w A 6 4 [some (.ref (w.2.1 150)), some (.int x1), some (.int x2), some (.int x3), none, none] [] S) : ∀ (n : Nat) (x4 : Int32) (x5 : Int32) (S : cpS), fX12_hoursOf_16 x1 x2 x3 k4 n x4 x5 S = some r → cpJ p l e (cpRm 7) s m args below meth c (MQ below (va_Qi (fun x S' => (x, S') = r) (cpWorld w A) A) args s 0 0 A) w A 6 16 [some (.ref (w.2.1 150)), some (.int x1), some (.int x2), some (.int x3), some (.int x4), some (.int x5)] [] S := by
  intro n
  induction n with
  | zero => intro x4 x5 S h; rw [fX12_hoursOf_16] at h; cases h
  | succ n ih =>
    intro x4 x5 S h
    rw [fX12_hoursOf_16] at h
    refine cj_iload C dX12_hoursOf_16 rfl ?_
    refine cj_aload_n C (i := 0) dX12_hoursOf_18 rfl rfl ?_
    refine cj_getR C (d := 172) o_150 rfl gfX12_82 dX12_hoursOf_19 ?_
    refine cj_iload_n C (i := 1) dX12_hoursOf_22 rfl rfl ?_
    refine cj_iaload C o_172 h dX12_hoursOf_23 (fun h => ?_)
    refine cj_icmp_ge C (tgt := 56) dX12_hoursOf_24 rfl h (fun _ h => ?_) (fun _ h => ?_)
    · refine cj_iload_n C (i := 2) dX12_hoursOf_56 rfl rfl ?_
      refine cj_iload C dX12_hoursOf_57 rfl ?_
      refine cj_if_eq C (tgt := 68) dX12_hoursOf_59 rfl h (fun _ h => ?_) (fun _ h => ?_)
      · refine cj_iconst C (v := (0 : Int32)) dX12_hoursOf_68 rfl ?_
        refine cj_ior C dX12_hoursOf_69 ?_
        refine cj_let h (fun y1 h => ?_)
        refine cj_istore_n C (i := 2) (lv' := [some (.ref (w.2.1 150)), some (.int x1), some (.int y1), some (.int x3), some (.int x4), some (.int x5)]) dX12_hoursOf_70 rfl (by decide) rfl rfl ?_
        refine cj_iinc C (v := (x3 + 1)) (lv' := [some (.ref (w.2.1 150)), some (.int x1), some (.int y1), some (.int (x3 + 1)), some (.int x4), some (.int x5)]) dX12_hoursOf_71 rfl rfl (by decide) rfl rfl ?_
        refine cj_goto C (tgt := 4) dX12_hoursOf_74 rfl ?_
        refine cj_weak C (lv' := [some (.ref (w.2.1 150)), some (.int x1), some (.int y1), some (.int (x3 + 1)), none, none]) (cpSub_s (cpSub_s (cpSub_s (cpSub_s (cpSub_n (cpSub_n cpSub_nil)))))) ?_
        exact hk4 y1 (x3 + 1) S h
      · refine cj_iconst C (v := (1 : Int32)) dX12_hoursOf_62 rfl ?_
        refine cj_iload_n C (i := 3) dX12_hoursOf_63 rfl rfl ?_
        refine ck_ishl C dX12_hoursOf_64 ?_
        refine cj_goto C (tgt := 69) dX12_hoursOf_65 rfl ?_
        refine cj_ior C dX12_hoursOf_69 ?_
        refine cj_let h (fun y2 h => ?_)
        refine cj_istore_n C (i := 2) (lv' := [some (.ref (w.2.1 150)), some (.int x1), some (.int y2), some (.int x3), some (.int x4), some (.int x5)]) dX12_hoursOf_70 rfl (by decide) rfl rfl ?_
        refine cj_iinc C (v := (x3 + 1)) (lv' := [some (.ref (w.2.1 150)), some (.int x1), some (.int y2), some (.int (x3 + 1)), some (.int x4), some (.int x5)]) dX12_hoursOf_71 rfl rfl (by decide) rfl rfl ?_
        refine cj_goto C (tgt := 4) dX12_hoursOf_74 rfl ?_
        refine cj_weak C (lv' := [some (.ref (w.2.1 150)), some (.int x1), some (.int y2), some (.int (x3 + 1)), none, none]) (cpSub_s (cpSub_s (cpSub_s (cpSub_s (cpSub_n (cpSub_n cpSub_nil)))))) ?_
        exact hk4 y2 (x3 + 1) S h
    · refine cj_iload C dX12_hoursOf_27 rfl ?_
      refine cj_aload_n C (i := 0) dX12_hoursOf_29 rfl rfl ?_
      refine cj_aload_n C (i := 0) dX12_hoursOf_30 rfl rfl ?_
      refine cj_getR C (d := 173) o_150 rfl gfX12_85 dX12_hoursOf_31 ?_
      refine cj_bipush C (v := (40 : Int32)) dX12_hoursOf_34 rfl ?_
      refine cj_iload_n C (i := 1) dX12_hoursOf_36 rfl rfl ?_
      refine cj_imul C dX12_hoursOf_37 ?_
      refine cj_iload C dX12_hoursOf_38 rfl ?_
      refine cj_iadd C dX12_hoursOf_40 ?_
      refine cj_laload C o_173 h dX12_hoursOf_41 (fun h => ?_)
      refine cj_l2i C dX12_hoursOf_42 ?_
      refine cj_iload_n C (i := 3) dX12_hoursOf_43 rfl rfl ?_
      refine cj_callVi C (As := [.int (Int64.toInt32 (S.2 173 (((40 : Int32) * x1) + x5).toNatClampNeg)), .int x3]) (rest := [.int x4]) qX12_isTold mw_69_7 o_150 rfl rfl rfl (Nat.le_of_ble_eq_true rfl) (by decide) dX12_hoursOf_44 h (fun _ _ hf => m_X12_isTold l w A (Int64.toInt32 (S.2 173 (((40 : Int32) * x1) + x5).toNatClampNeg)) x3 S _ hf) (fun z3 S4 h => ?_)
      refine cj_iand C dX12_hoursOf_47 ?_
      refine cj_let h (fun y5 h => ?_)
      refine cj_istore C (lv' := [some (.ref (w.2.1 150)), some (.int x1), some (.int x2), some (.int x3), some (.int y5), some (.int x5)]) dX12_hoursOf_48 (by decide) rfl rfl ?_
      refine cj_iinc C (v := (x5 + 1)) (lv' := [some (.ref (w.2.1 150)), some (.int x1), some (.int x2), some (.int x3), some (.int y5), some (.int (x5 + 1))]) dX12_hoursOf_50 rfl rfl (by decide) rfl rfl ?_
      refine cj_goto C (tgt := 16) dX12_hoursOf_53 rfl ?_
      exact ih y5 (x5 + 1) S4 h
def fX12_hoursOf_4 (x1 : Int32) : Nat → Int32 → Int32 → cpS → Option (Int32 × cpS)
  | 0, _, _, _ => none
  | n + 1, x2, x3, S =>
    if (10 : Int32) ≤ x3 then (
    some (x2, S)) else (
    fX12_hoursOf_16 x1 x2 x3 (fX12_hoursOf_4 x1 n) cpFu (1 : Int32) (0 : Int32) S)
set_option maxRecDepth 100000 in
set_option maxHeartbeats 4000000 in
theorem wX12_hoursOf_4 (C : cpCx p s m args meth c w A cX12_hoursOf RX12 6) (hr : meth.sig.returnType = (some .int)) {r : Int32 × cpS} (x1 : Int32) : ∀ (n : Nat) (x2 : Int32) (x3 : Int32) (S : cpS), fX12_hoursOf_4 x1 n x2 x3 S = some r → cpJ p l e (cpRm 7) s m args below meth c (MQ below (va_Qi (fun x S' => (x, S') = r) (cpWorld w A) A) args s 0 0 A) w A 6 4 [some (.ref (w.2.1 150)), some (.int x1), some (.int x2), some (.int x3), none, none] [] S := by
  intro n
  induction n with
  | zero => intro x2 x3 S h; rw [fX12_hoursOf_4] at h; cases h
  | succ n ih =>
    intro x2 x3 S h
    rw [fX12_hoursOf_4] at h
    refine cj_iload_n C (i := 3) dX12_hoursOf_4 rfl rfl ?_
    refine cj_bipush C (v := (10 : Int32)) dX12_hoursOf_5 rfl ?_
    refine cj_icmp_ge C (tgt := 77) dX12_hoursOf_7 rfl h (fun _ h => ?_) (fun _ h => ?_)
    · refine cj_iload_n C (i := 2) dX12_hoursOf_77 rfl rfl ?_
      exact cj_ireturn C hr h dX12_hoursOf_78
    · refine cj_iconst C (v := (1 : Int32)) dX12_hoursOf_10 rfl ?_
      refine cj_istore C (lv' := [some (.ref (w.2.1 150)), some (.int x1), some (.int x2), some (.int x3), some (.int (1 : Int32)), none]) dX12_hoursOf_11 (by decide) rfl rfl ?_
      refine cj_iconst C (v := (0 : Int32)) dX12_hoursOf_13 rfl ?_
      refine cj_istore C (lv' := [some (.ref (w.2.1 150)), some (.int x1), some (.int x2), some (.int x3), some (.int (1 : Int32)), some (.int (0 : Int32))]) dX12_hoursOf_14 (by decide) rfl rfl ?_
      exact wX12_hoursOf_16 C hr x1 x2 x3 ih cpFu (1 : Int32) (0 : Int32) S h
def fX12_hoursOf (x1 : Int32) (S : cpS) : Option (Int32 × cpS) :=
    fX12_hoursOf_4 x1 cpFu (0 : Int32) (0 : Int32) S
set_option maxRecDepth 100000 in
set_option maxHeartbeats 4000000 in
theorem m_X12_hoursOf (l : Launch) (w : cpW) (A : Nat → Prop) (x1 : Int32) (S : cpS) (r : Int32 × cpS) (h : fX12_hoursOf x1 S = some r) : cpMi l yX12_hoursOf cX12_hoursOf 6 ((some .int)) 7 w A [.ref (w.2.1 150), .int x1] S r := by
  refine cpMi.of (lv := [some (.ref (w.2.1 150)), some (.int x1), none, none, none, none]) (by decide) (Nat.le_of_ble_eq_true rfl) rfl (fun p e s m args below meth c C hr => ?_)
  replace C : cpCx p s m args meth c w A cX12_hoursOf RX12 6 := C
  rw [fX12_hoursOf] at h
  refine cj_iconst C (v := (0 : Int32)) dX12_hoursOf_0 rfl ?_
  refine cj_istore_n C (i := 2) (lv' := [some (.ref (w.2.1 150)), some (.int x1), some (.int (0 : Int32)), none, none, none]) dX12_hoursOf_1 rfl (by decide) rfl rfl ?_
  refine cj_iconst C (v := (0 : Int32)) dX12_hoursOf_2 rfl ?_
  refine cj_istore_n C (i := 3) (lv' := [some (.ref (w.2.1 150)), some (.int x1), some (.int (0 : Int32)), some (.int (0 : Int32)), none, none]) dX12_hoursOf_3 rfl (by decide) rfl rfl ?_
  exact wX12_hoursOf_4 C hr x1 cpFu (0 : Int32) (0 : Int32) S h
/-! X12_hours -/
def fX12_hours (x1 : Int32) (S : cpS) : Option (Int32 × cpS) :=
    cpLt (cpI S 150 0 (0 : Int32)) fun S1 =>
    cpB (fX12_noTold x1 (0 : Int32) (99999 : Int32) S1) fun z2 S3 =>
    if z2 = 0 then (
    cpB (fX12_hoursOf x1 S3) fun z4 S5 =>
    some (z4, S5)) else (
    some (z2, S3))
set_option maxRecDepth 100000 in
set_option maxHeartbeats 4000000 in
theorem m_X12_hours (l : Launch) (w : cpW) (A : Nat → Prop) (x1 : Int32) (S : cpS) (r : Int32 × cpS) (h : fX12_hours x1 S = some r) : cpMi l yX12_hours cX12_hours 3 ((some .int)) 8 w A [.ref (w.2.1 150), .int x1] S r := by
  refine cpMi.of (lv := [some (.ref (w.2.1 150)), some (.int x1), none]) (by decide) (Nat.le_of_ble_eq_true rfl) rfl (fun p e s m args below meth c C hr => ?_)
  replace C : cpCx p s m args meth c w A cX12_hours RX12 3 := C
  rw [fX12_hours] at h
  refine cj_aload_n C (i := 0) dX12_hours_0 rfl rfl ?_
  refine cj_iconst C (v := (0 : Int32)) dX12_hours_1 rfl ?_
  refine cj_put C (j := 0) o_150 rfl pfX12_1 rfl rfl dX12_hours_2 ?_
  refine cj_lets h (fun S1 h => ?_)
  refine cj_aload_n C (i := 0) dX12_hours_5 rfl rfl ?_
  refine cj_iload_n C (i := 1) dX12_hours_6 rfl rfl ?_
  refine cj_iconst C (v := (0 : Int32)) dX12_hours_7 rfl ?_
  refine cj_ldcw C (v := (99999 : Int32)) mw_69_2 dX12_hours_8 ?_
  refine cj_callVi C (As := [.int x1, .int (0 : Int32), .int (99999 : Int32)]) (rest := []) qX12_noTold mw_65_17 o_150 rfl rfl rfl (Nat.le_of_ble_eq_true rfl) (by decide) dX12_hours_11 h (fun _ _ hf => m_X12_noTold l w A x1 (0 : Int32) (99999 : Int32) S1 _ hf) (fun z2 S3 h => ?_)
  refine cj_istore_n C (i := 2) (lv' := [some (.ref (w.2.1 150)), some (.int x1), some (.int z2)]) dX12_hours_14 rfl (by decide) rfl rfl ?_
  refine cj_iload_n C (i := 2) dX12_hours_15 rfl rfl ?_
  refine cj_if_eq C (tgt := 23) dX12_hours_16 rfl h (fun _ h => ?_) (fun _ h => ?_)
  · refine cj_aload_n C (i := 0) dX12_hours_23 rfl rfl ?_
    refine cj_iload_n C (i := 1) dX12_hours_24 rfl rfl ?_
    refine cj_callVi C (As := [.int x1]) (rest := []) qX12_hoursOf mw_69_3 o_150 rfl rfl rfl (Nat.le_of_ble_eq_true rfl) (by decide) dX12_hours_25 h (fun _ _ hf => m_X12_hoursOf l w A x1 S3 _ hf) (fun z4 S5 h => ?_)
    exact cj_ireturn C hr h dX12_hours_28
  · refine cj_iload_n C (i := 2) dX12_hours_19 rfl rfl ?_
    refine cj_goto C (tgt := 28) dX12_hours_20 rfl ?_
    exact cj_ireturn C hr h dX12_hours_28
/-! X12_mostOften -/
def fX12_mostOften_82 (x1 : Int32) (x2 : Int32) (x3 : Int32) (x4 : Int32) (x5 : Int32) (x6 : Int32) (x7 : Int32) (s0 : Int32) (k30 : Int32 → Int32 → cpS → Option (Int32 × cpS)) (S : cpS) : Option (Int32 × cpS) :=
    if cpIn s0 11 then (
    if cpIn s0 11 then (
    cpLt (cpI S 169 s0.toNatClampNeg ((S.1 169 s0.toNatClampNeg) + (1 : Int32))) fun S1 =>
    if cpIn s0 11 then (
    if (S1.1 169 s0.toNatClampNeg) ≤ x6 then (
    k30 x6 (x7 + 1) S1) else (
    if cpIn s0 11 then (
    cpLt (S1.1 169 s0.toNatClampNeg) fun y2 =>
    k30 y2 (x7 + 1) S1) else none)) else none) else none) else none
set_option maxRecDepth 100000 in
set_option maxHeartbeats 4000000 in
theorem wX12_mostOften_82 (C : cpCx p s m args meth c w A cX12_mostOften RX12 9) (hr : meth.sig.returnType = (some .int)) {r : Int32 × cpS} (x1 : Int32) (x2 : Int32) (x3 : Int32) (x4 : Int32) (x5 : Int32) (x6 : Int32) (x7 : Int32) (s0 : Int32) {k30 : Int32 → Int32 → cpS → Option (Int32 × cpS)} (hk30 : ∀ (x6 : Int32) (x7 : Int32) (S : cpS), k30 x6 x7 S = some r → cpJ p l e (cpRm 5) s m args below meth c (MQ below (va_Qi (fun x S' => (x, S') = r) (cpWorld w A) A) args s 0 0 A) w A 9 30 [some (.ref (w.2.1 150)), some (.int x1), some (.int x2), some (.int x3), some (.int x4), some (.int x5), some (.int x6), some (.int x7), none] [] S) (S : cpS) (h : fX12_mostOften_82 x1 x2 x3 x4 x5 x6 x7 s0 k30 S = some r) : cpJ p l e (cpRm 5) s m args below meth c (MQ below (va_Qi (fun x S' => (x, S') = r) (cpWorld w A) A) args s 0 0 A) w A 9 82 [some (.ref (w.2.1 150)), some (.int x1), some (.int x2), some (.int x3), some (.int x4), some (.int x5), some (.int x6), some (.int x7), none] [.int s0] S := by
  rw [fX12_mostOften_82] at h
  refine cj_istore C (lv' := [some (.ref (w.2.1 150)), some (.int x1), some (.int x2), some (.int x3), some (.int x4), some (.int x5), some (.int x6), some (.int x7), some (.int s0)]) dX12_mostOften_82 (by decide) rfl rfl ?_
  refine cj_aload_n C (i := 0) dX12_mostOften_84 rfl rfl ?_
  refine cj_getR C (d := 169) o_150 rfl gfX12_73 dX12_mostOften_85 ?_
  refine cj_iload C dX12_mostOften_88 rfl ?_
  refine cj_dup2 C dX12_mostOften_90 rfl rfl ?_
  refine cj_iaload C o_169 h dX12_mostOften_91 (fun h => ?_)
  refine cj_iconst C (v := (1 : Int32)) dX12_mostOften_92 rfl ?_
  refine cj_iadd C dX12_mostOften_93 ?_
  refine cj_iastore C o_169 h dX12_mostOften_94 (fun h => ?_)
  refine cj_lets h (fun S1 h => ?_)
  refine cj_aload_n C (i := 0) dX12_mostOften_95 rfl rfl ?_
  refine cj_getR C (d := 169) o_150 rfl gfX12_73 dX12_mostOften_96 ?_
  refine cj_iload C dX12_mostOften_99 rfl ?_
  refine cj_iaload C o_169 h dX12_mostOften_101 (fun h => ?_)
  refine cj_iload C dX12_mostOften_102 rfl ?_
  refine cj_icmp_le C (tgt := 117) dX12_mostOften_104 rfl h (fun _ h => ?_) (fun _ h => ?_)
  · refine cj_iload C dX12_mostOften_117 rfl ?_
    refine cj_istore C (lv' := [some (.ref (w.2.1 150)), some (.int x1), some (.int x2), some (.int x3), some (.int x4), some (.int x5), some (.int x6), some (.int x7), some (.int s0)]) dX12_mostOften_119 (by decide) rfl rfl ?_
    refine cj_iinc C (v := (x7 + 1)) (lv' := [some (.ref (w.2.1 150)), some (.int x1), some (.int x2), some (.int x3), some (.int x4), some (.int x5), some (.int x6), some (.int (x7 + 1)), some (.int s0)]) dX12_mostOften_121 rfl rfl (by decide) rfl rfl ?_
    refine cj_goto C (tgt := 30) dX12_mostOften_124 rfl ?_
    refine cj_weak C (lv' := [some (.ref (w.2.1 150)), some (.int x1), some (.int x2), some (.int x3), some (.int x4), some (.int x5), some (.int x6), some (.int (x7 + 1)), none]) (cpSub_s (cpSub_s (cpSub_s (cpSub_s (cpSub_s (cpSub_s (cpSub_s (cpSub_s (cpSub_n cpSub_nil))))))))) ?_
    exact hk30 x6 (x7 + 1) S1 h
  · refine cj_aload_n C (i := 0) dX12_mostOften_107 rfl rfl ?_
    refine cj_getR C (d := 169) o_150 rfl gfX12_73 dX12_mostOften_108 ?_
    refine cj_iload C dX12_mostOften_111 rfl ?_
    refine cj_iaload C o_169 h dX12_mostOften_113 (fun h => ?_)
    refine cj_goto C (tgt := 119) dX12_mostOften_114 rfl ?_
    refine cj_let h (fun y2 h => ?_)
    refine cj_istore C (lv' := [some (.ref (w.2.1 150)), some (.int x1), some (.int x2), some (.int x3), some (.int x4), some (.int x5), some (.int y2), some (.int x7), some (.int s0)]) dX12_mostOften_119 (by decide) rfl rfl ?_
    refine cj_iinc C (v := (x7 + 1)) (lv' := [some (.ref (w.2.1 150)), some (.int x1), some (.int x2), some (.int x3), some (.int x4), some (.int x5), some (.int y2), some (.int (x7 + 1)), some (.int s0)]) dX12_mostOften_121 rfl rfl (by decide) rfl rfl ?_
    refine cj_goto C (tgt := 30) dX12_mostOften_124 rfl ?_
    refine cj_weak C (lv' := [some (.ref (w.2.1 150)), some (.int x1), some (.int x2), some (.int x3), some (.int x4), some (.int x5), some (.int y2), some (.int (x7 + 1)), none]) (cpSub_s (cpSub_s (cpSub_s (cpSub_s (cpSub_s (cpSub_s (cpSub_s (cpSub_s (cpSub_n cpSub_nil))))))))) ?_
    exact hk30 y2 (x7 + 1) S1 h
def fX12_mostOften_30 (x1 : Int32) (x2 : Int32) (x3 : Int32) (x4 : Int32) (x5 : Int32) : Nat → Int32 → Int32 → cpS → Option (Int32 × cpS)
  | 0, _, _, _ => none
  | n + 1, x6, x7, S =>
    if (10 : Int32) ≤ x7 then (
    some (x6, S)) else (
    cpB (fX12_isIn (Int32.toInt64 x1) x7 S) fun z1 S2 =>
    if z1 = 0 then (
    fX12_mostOften_30 x1 x2 x3 x4 x5 n x6 (x7 + 1) S2) else (
    cpB (fX12_whyCarry x2 x3 x4 x5 x7 S2) fun z3 S4 =>
    if z3 = 0 then (
    cpB (fX12_wornTo x2 x3 x4 x5 x7 S4) fun z5 S6 =>
    fX12_mostOften_82 x1 x2 x3 x4 x5 x6 x7 z5 (fX12_mostOften_30 x1 x2 x3 x4 x5 n) S6) else (
    fX12_mostOften_82 x1 x2 x3 x4 x5 x6 x7 (10 : Int32) (fX12_mostOften_30 x1 x2 x3 x4 x5 n) S4)))
set_option maxRecDepth 100000 in
set_option maxHeartbeats 4000000 in
theorem wX12_mostOften_30 (C : cpCx p s m args meth c w A cX12_mostOften RX12 9) (hr : meth.sig.returnType = (some .int)) {r : Int32 × cpS} (x1 : Int32) (x2 : Int32) (x3 : Int32) (x4 : Int32) (x5 : Int32) : ∀ (n : Nat) (x6 : Int32) (x7 : Int32) (S : cpS), fX12_mostOften_30 x1 x2 x3 x4 x5 n x6 x7 S = some r → cpJ p l e (cpRm 5) s m args below meth c (MQ below (va_Qi (fun x S' => (x, S') = r) (cpWorld w A) A) args s 0 0 A) w A 9 30 [some (.ref (w.2.1 150)), some (.int x1), some (.int x2), some (.int x3), some (.int x4), some (.int x5), some (.int x6), some (.int x7), none] [] S := by
  intro n
  induction n with
  | zero => intro x6 x7 S h; rw [fX12_mostOften_30] at h; cases h
  | succ n ih =>
    intro x6 x7 S h
    rw [fX12_mostOften_30] at h
    refine cj_iload C dX12_mostOften_30 rfl ?_
    refine cj_bipush C (v := (10 : Int32)) dX12_mostOften_32 rfl ?_
    refine cj_icmp_ge C (tgt := 127) dX12_mostOften_34 rfl h (fun _ h => ?_) (fun _ h => ?_)
    · refine cj_iload C dX12_mostOften_127 rfl ?_
      exact cj_ireturn C hr h dX12_mostOften_129
    · refine cj_iload_n C (i := 1) dX12_mostOften_37 rfl rfl ?_
      refine cj_i2l C dX12_mostOften_38 ?_
      refine cj_iload C dX12_mostOften_39 rfl ?_
      refine cj_callSi C (As := [.long (Int32.toInt64 x1), .int x7]) (rest := []) qX12_isIn mw_36_4 rfl rfl (Nat.le_of_ble_eq_true rfl) (by decide) dX12_mostOften_41 h (fun _ _ hf => m_X12_isIn l w A (Int32.toInt64 x1) x7 S _ hf) (fun z1 S2 h => ?_)
      refine cj_if_ne C (tgt := 50) dX12_mostOften_44 rfl h (fun _ h => ?_) (fun _ h => ?_)
      · refine cj_goto C (tgt := 121) dX12_mostOften_47 rfl ?_
        refine cj_iinc C (v := (x7 + 1)) (lv' := [some (.ref (w.2.1 150)), some (.int x1), some (.int x2), some (.int x3), some (.int x4), some (.int x5), some (.int x6), some (.int (x7 + 1)), none]) dX12_mostOften_121 rfl rfl (by decide) rfl rfl ?_
        refine cj_goto C (tgt := 30) dX12_mostOften_124 rfl ?_
        exact ih x6 (x7 + 1) S2 h
      · refine cj_aload_n C (i := 0) dX12_mostOften_50 rfl rfl ?_
        refine cj_iload_n C (i := 2) dX12_mostOften_51 rfl rfl ?_
        refine cj_iload_n C (i := 3) dX12_mostOften_52 rfl rfl ?_
        refine cj_iload C dX12_mostOften_53 rfl ?_
        refine cj_iload C dX12_mostOften_55 rfl ?_
        refine cj_iload C dX12_mostOften_57 rfl ?_
        refine cj_callVi C (As := [.int x2, .int x3, .int x4, .int x5, .int x7]) (rest := []) qX12_whyCarry mw_35_12 o_150 rfl rfl rfl (Nat.le_of_ble_eq_true rfl) (by decide) dX12_mostOften_59 h (fun _ _ hf => m_X12_whyCarry l w A x2 x3 x4 x5 x7 S2 _ hf) (fun z3 S4 h => ?_)
        refine cj_if_eq C (tgt := 70) dX12_mostOften_62 rfl h (fun _ h => ?_) (fun _ h => ?_)
        · refine cj_aload_n C (i := 0) dX12_mostOften_70 rfl rfl ?_
          refine cj_iload_n C (i := 2) dX12_mostOften_71 rfl rfl ?_
          refine cj_iload_n C (i := 3) dX12_mostOften_72 rfl rfl ?_
          refine cj_iload C dX12_mostOften_73 rfl ?_
          refine cj_iload C dX12_mostOften_75 rfl ?_
          refine cj_iload C dX12_mostOften_77 rfl ?_
          refine cj_callVi C (As := [.int x2, .int x3, .int x4, .int x5, .int x7]) (rest := []) qX12_wornTo mw_37_17 o_150 rfl rfl rfl (Nat.le_of_ble_eq_true rfl) (by decide) dX12_mostOften_79 h (fun _ _ hf => m_X12_wornTo l w A x2 x3 x4 x5 x7 S4 _ hf) (fun z5 S6 h => ?_)
          exact wX12_mostOften_82 C hr x1 x2 x3 x4 x5 x6 x7 z5 ih S6 h
        · refine cj_bipush C (v := (10 : Int32)) dX12_mostOften_65 rfl ?_
          refine cj_goto C (tgt := 82) dX12_mostOften_67 rfl ?_
          exact wX12_mostOften_82 C hr x1 x2 x3 x4 x5 x6 x7 (10 : Int32) ih S4 h
def fX12_mostOften_6 (x1 : Int32) (x2 : Int32) (x3 : Int32) (x4 : Int32) (x5 : Int32) (x6 : Int32) : Nat → Int32 → cpS → Option (Int32 × cpS)
  | 0, _, _ => none
  | n + 1, x7, S =>
    if (11 : Int32) ≤ x7 then (
    fX12_mostOften_30 x1 x2 x3 x4 x5 cpFu x6 (0 : Int32) S) else (
    if cpIn x7 11 then (
    cpLt (cpI S 169 x7.toNatClampNeg (0 : Int32)) fun S1 =>
    fX12_mostOften_6 x1 x2 x3 x4 x5 x6 n (x7 + 1) S1) else none)
set_option maxRecDepth 100000 in
set_option maxHeartbeats 4000000 in
theorem wX12_mostOften_6 (C : cpCx p s m args meth c w A cX12_mostOften RX12 9) (hr : meth.sig.returnType = (some .int)) {r : Int32 × cpS} (x1 : Int32) (x2 : Int32) (x3 : Int32) (x4 : Int32) (x5 : Int32) (x6 : Int32) : ∀ (n : Nat) (x7 : Int32) (S : cpS), fX12_mostOften_6 x1 x2 x3 x4 x5 x6 n x7 S = some r → cpJ p l e (cpRm 5) s m args below meth c (MQ below (va_Qi (fun x S' => (x, S') = r) (cpWorld w A) A) args s 0 0 A) w A 9 6 [some (.ref (w.2.1 150)), some (.int x1), some (.int x2), some (.int x3), some (.int x4), some (.int x5), some (.int x6), some (.int x7), none] [] S := by
  intro n
  induction n with
  | zero => intro x7 S h; rw [fX12_mostOften_6] at h; cases h
  | succ n ih =>
    intro x7 S h
    rw [fX12_mostOften_6] at h
    refine cj_iload C dX12_mostOften_6 rfl ?_
    refine cj_bipush C (v := (11 : Int32)) dX12_mostOften_8 rfl ?_
    refine cj_icmp_ge C (tgt := 27) dX12_mostOften_10 rfl h (fun _ h => ?_) (fun _ h => ?_)
    · refine cj_iconst C (v := (0 : Int32)) dX12_mostOften_27 rfl ?_
      refine cj_istore C (lv' := [some (.ref (w.2.1 150)), some (.int x1), some (.int x2), some (.int x3), some (.int x4), some (.int x5), some (.int x6), some (.int (0 : Int32)), none]) dX12_mostOften_28 (by decide) rfl rfl ?_
      exact wX12_mostOften_30 C hr x1 x2 x3 x4 x5 cpFu x6 (0 : Int32) S h
    · refine cj_aload_n C (i := 0) dX12_mostOften_13 rfl rfl ?_
      refine cj_getR C (d := 169) o_150 rfl gfX12_73 dX12_mostOften_14 ?_
      refine cj_iload C dX12_mostOften_17 rfl ?_
      refine cj_iconst C (v := (0 : Int32)) dX12_mostOften_19 rfl ?_
      refine cj_iastore C o_169 h dX12_mostOften_20 (fun h => ?_)
      refine cj_lets h (fun S1 h => ?_)
      refine cj_iinc C (v := (x7 + 1)) (lv' := [some (.ref (w.2.1 150)), some (.int x1), some (.int x2), some (.int x3), some (.int x4), some (.int x5), some (.int x6), some (.int (x7 + 1)), none]) dX12_mostOften_21 rfl rfl (by decide) rfl rfl ?_
      refine cj_goto C (tgt := 6) dX12_mostOften_24 rfl ?_
      exact ih (x7 + 1) S1 h
def fX12_mostOften (x1 : Int32) (x2 : Int32) (x3 : Int32) (x4 : Int32) (x5 : Int32) (S : cpS) : Option (Int32 × cpS) :=
    fX12_mostOften_6 x1 x2 x3 x4 x5 (0 : Int32) cpFu (0 : Int32) S
set_option maxRecDepth 100000 in
set_option maxHeartbeats 4000000 in
theorem m_X12_mostOften (l : Launch) (w : cpW) (A : Nat → Prop) (x1 : Int32) (x2 : Int32) (x3 : Int32) (x4 : Int32) (x5 : Int32) (S : cpS) (r : Int32 × cpS) (h : fX12_mostOften x1 x2 x3 x4 x5 S = some r) : cpMi l yX12_mostOften cX12_mostOften 9 ((some .int)) 5 w A [.ref (w.2.1 150), .int x1, .int x2, .int x3, .int x4, .int x5] S r := by
  refine cpMi.of (lv := [some (.ref (w.2.1 150)), some (.int x1), some (.int x2), some (.int x3), some (.int x4), some (.int x5), none, none, none]) (by decide) (Nat.le_of_ble_eq_true rfl) rfl (fun p e s m args below meth c C hr => ?_)
  replace C : cpCx p s m args meth c w A cX12_mostOften RX12 9 := C
  rw [fX12_mostOften] at h
  refine cj_iconst C (v := (0 : Int32)) dX12_mostOften_0 rfl ?_
  refine cj_istore C (lv' := [some (.ref (w.2.1 150)), some (.int x1), some (.int x2), some (.int x3), some (.int x4), some (.int x5), some (.int (0 : Int32)), none, none]) dX12_mostOften_1 (by decide) rfl rfl ?_
  refine cj_iconst C (v := (0 : Int32)) dX12_mostOften_3 rfl ?_
  refine cj_istore C (lv' := [some (.ref (w.2.1 150)), some (.int x1), some (.int x2), some (.int x3), some (.int x4), some (.int x5), some (.int (0 : Int32)), some (.int (0 : Int32)), none]) dX12_mostOften_4 (by decide) rfl rfl ?_
  exact wX12_mostOften_6 C hr x1 x2 x3 x4 x5 (0 : Int32) cpFu (0 : Int32) S h
end CPV
