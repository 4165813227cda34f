section CPV
variable {p : Program} {l : Launch} {e : Env} {s : State} {m : MethodId} {args : Array Value} {below : List Frame} {meth : Method} {c : Code} {w : cpW} {A : Nat → Prop}
/-! X12_why -/
def fX12_why (x1 : Int32) (x2 : Int32) (x3 : Int32) (x4 : Int32) (S : cpS) : Option (Int32 × cpS) :=
    cpLt (cpI S 150 0 (0 : Int32)) fun S1 =>
    cpB (fX12_whyCarry x1 x2 x3 x4 (S1.1 151 78) S1) fun z2 S3 =>
    some (z2, S3)
set_option maxRecDepth 100000 in
set_option maxHeartbeats 4000000 in
theorem m_X12_why (l : Launch) (w : cpW) (A : Nat → Prop) (x1 : Int32) (x2 : Int32) (x3 : Int32) (x4 : Int32) (S : cpS) (r : Int32 × cpS) (h : fX12_why x1 x2 x3 x4 S = some r) : cpMi l yX12_why cX12_why 5 ((some .int)) 5 w A [.ref (w.2.1 150), .int x1, .int x2, .int x3, .int x4] S r := by
  refine cpMi.of (lv := [some (.ref (w.2.1 150)), some (.int x1), some (.int x2), some (.int x3), some (.int x4)]) (by decide) (Nat.le_of_ble_eq_true rfl) rfl (fun p e s m args below meth c C hr => ?_)
  replace C : cpCx p s m args meth c w A cX12_why RX12 5 := C
  rw [fX12_why] at h
  refine cj_aload_n C (i := 0) dX12_why_0 rfl rfl ?_
  refine cj_iconst C (v := (0 : Int32)) dX12_why_1 rfl ?_
  refine cj_put C (j := 0) o_150 rfl pfX12_1 rfl rfl dX12_why_2 ?_
  refine cj_lets h (fun S1 h => ?_)
  refine cj_aload_n C (i := 0) dX12_why_5 rfl rfl ?_
  refine cj_iload_n C (i := 1) dX12_why_6 rfl rfl ?_
  refine cj_iload_n C (i := 2) dX12_why_7 rfl rfl ?_
  refine cj_iload_n C (i := 3) dX12_why_8 rfl rfl ?_
  refine cj_iload C dX12_why_9 rfl ?_
  refine cj_aload_n C (i := 0) dX12_why_11 rfl rfl ?_
  refine cj_getR C (d := 151) o_150 rfl gfX12_13 dX12_why_12 ?_
  refine cj_bipush C (v := (78 : Int32)) dX12_why_15 rfl ?_
  refine cj_ialoadC C (j := 78) o_151 (by decide) (by decide) dX12_why_17 ?_
  refine cj_callVi C (As := [.int x1, .int x2, .int x3, .int x4, .int (S1.1 151 78)]) (rest := []) qX12_whyCarry mw_35_12 o_150 rfl rfl rfl (Nat.le_of_ble_eq_true rfl) (by decide) dX12_why_18 h (fun _ _ hf => m_X12_whyCarry l w A x1 x2 x3 x4 (S1.1 151 78) S1 _ hf) (fun z2 S3 h => ?_)
  exact cj_ireturn C hr h dX12_why_21
/-! X12_worn -/
def fX12_worn (x1 : Int32) (x2 : Int32) (x3 : Int32) (x4 : Int32) (S : cpS) : Option (Int32 × cpS) :=
    cpLt (cpI S 150 0 (0 : Int32)) fun S1 =>
    cpB (fX12_whyCarry x1 x2 x3 x4 (S1.1 151 78) S1) fun z2 S3 =>
    if z2 = (1 : Int32) then (
    some ((-2 : Int32), S3)) else (
    if z2 = 0 then (
    cpB (fX12_wornTo x1 x2 x3 x4 (S3.1 151 78) S3) fun z4 S5 =>
    some (z4, S5)) else (
    some ((-5 : Int32), S3)))
set_option maxRecDepth 100000 in
set_option maxHeartbeats 4000000 in
theorem m_X12_worn (l : Launch) (w : cpW) (A : Nat → Prop) (x1 : Int32) (x2 : Int32) (x3 : Int32) (x4 : Int32) (S : cpS) (r : Int32 × cpS) (h : fX12_worn x1 x2 x3 x4 S = some r) : cpMi l yX12_worn cX12_worn 6 ((some .int)) 5 w A [.ref (w.2.1 150), .int x1, .int x2, .int x3, .int x4] S r := by
  refine cpMi.of (lv := [some (.ref (w.2.1 150)), some (.int x1), some (.int x2), some (.int x3), some (.int x4), none]) (by decide) (Nat.le_of_ble_eq_true rfl) rfl (fun p e s m args below meth c C hr => ?_)
  replace C : cpCx p s m args meth c w A cX12_worn RX12 6 := C
  rw [fX12_worn] at h
  refine cj_aload_n C (i := 0) dX12_worn_0 rfl rfl ?_
  refine cj_iconst C (v := (0 : Int32)) dX12_worn_1 rfl ?_
  refine cj_put C (j := 0) o_150 rfl pfX12_1 rfl rfl dX12_worn_2 ?_
  refine cj_lets h (fun S1 h => ?_)
  refine cj_aload_n C (i := 0) dX12_worn_5 rfl rfl ?_
  refine cj_iload_n C (i := 1) dX12_worn_6 rfl rfl ?_
  refine cj_iload_n C (i := 2) dX12_worn_7 rfl rfl ?_
  refine cj_iload_n C (i := 3) dX12_worn_8 rfl rfl ?_
  refine cj_iload C dX12_worn_9 rfl ?_
  refine cj_aload_n C (i := 0) dX12_worn_11 rfl rfl ?_
  refine cj_getR C (d := 151) o_150 rfl gfX12_13 dX12_worn_12 ?_
  refine cj_bipush C (v := (78 : Int32)) dX12_worn_15 rfl ?_
  refine cj_ialoadC C (j := 78) o_151 (by decide) (by decide) dX12_worn_17 ?_
  refine cj_callVi C (As := [.int x1, .int x2, .int x3, .int x4, .int (S1.1 151 78)]) (rest := []) qX12_whyCarry mw_35_12 o_150 rfl rfl rfl (Nat.le_of_ble_eq_true rfl) (by decide) dX12_worn_18 h (fun _ _ hf => m_X12_whyCarry l w A x1 x2 x3 x4 (S1.1 151 78) S1 _ hf) (fun z2 S3 h => ?_)
  refine cj_istore C (lv' := [some (.ref (w.2.1 150)), some (.int x1), some (.int x2), some (.int x3), some (.int x4), some (.int z2)]) dX12_worn_21 (by decide) rfl rfl ?_
  refine cj_iload C dX12_worn_23 rfl ?_
  refine cj_iconst C (v := (1 : Int32)) dX12_worn_25 rfl ?_
  refine cj_icmp_ne C (tgt := 34) dX12_worn_26 rfl h (fun _ h => ?_) (fun _ h => ?_)
  · refine cj_bipush C (v := (-2 : Int32)) dX12_worn_29 rfl ?_
    refine cj_goto C (tgt := 60) dX12_worn_31 rfl ?_
    exact cj_ireturn C hr h dX12_worn_60
  · refine cj_iload C dX12_worn_34 rfl ?_
    refine cj_if_eq C (tgt := 44) dX12_worn_36 rfl h (fun _ h => ?_) (fun _ h => ?_)
    · refine cj_aload_n C (i := 0) dX12_worn_44 rfl rfl ?_
      refine cj_iload_n C (i := 1) dX12_worn_45 rfl rfl ?_
      refine cj_iload_n C (i := 2) dX12_worn_46 rfl rfl ?_
      refine cj_iload_n C (i := 3) dX12_worn_47 rfl rfl ?_
      refine cj_iload C dX12_worn_48 rfl ?_
      refine cj_aload_n C (i := 0) dX12_worn_50 rfl rfl ?_
      refine cj_getR C (d := 151) o_150 rfl gfX12_13 dX12_worn_51 ?_
      refine cj_bipush C (v := (78 : Int32)) dX12_worn_54 rfl ?_
      refine cj_ialoadC C (j := 78) o_151 (by decide) (by decide) dX12_worn_56 ?_
      refine cj_callVi C (As := [.int x1, .int x2, .int x3, .int x4, .int (S3.1 151 78)]) (rest := []) qX12_wornTo mw_37_17 o_150 rfl rfl rfl (Nat.le_of_ble_eq_true rfl) (by decide) dX12_worn_57 h (fun _ _ hf => m_X12_wornTo l w A x1 x2 x3 x4 (S3.1 151 78) S3 _ hf) (fun z4 S5 h => ?_)
      exact cj_ireturn C hr h dX12_worn_60
    · refine cj_bipush C (v := (-5 : Int32)) dX12_worn_39 rfl ?_
      refine cj_goto C (tgt := 60) dX12_worn_41 rfl ?_
      exact cj_ireturn C hr h dX12_worn_60
/-! X12_bearersOf -/
def fX12_bearersOf_23 (x1 : Int32) (x2 : Int32) (x3 : Int32) (x5 : Int32) (k6 : Int32 → Int32 → cpS → Option (Int32 × cpS)) : Nat → Int32 → Int32 → cpS → Option (Int32 × cpS)
  | 0, _, _, _ => none
  | n + 1, x4, x6, S =>
    if (S.1 151 3) ≤ x6 then (
    k6 x4 (x5 + 1) S) else (
    cpB (fX12_roadFor x5 x6 x1 x2 x3 S) fun z1 S2 =>
    if z1 = (-1 : Int32) then (
    cpLt (x4 + (0 : Int32)) fun y3 =>
    fX12_bearersOf_23 x1 x2 x3 x5 k6 n y3 (x6 + 1) S2) else (
    cpLt (x4 + (1 : Int32)) fun y4 =>
    fX12_bearersOf_23 x1 x2 x3 x5 k6 n y4 (x6 + 1) S2))
set_option maxRecDepth 100000 in
set_option maxHeartbeats 4000000 in
theorem wX12_bearersOf_23 (C : cpCx p s m args meth c w A cX12_bearersOf RX12 7) (hr : meth.sig.returnType = (some .int)) {r : Int32 × cpS} (x1 : Int32) (x2 : Int32) (x3 : Int32) (x5 : Int32) {k6 : Int32 → Int32 → cpS → Option (Int32 × cpS)} (hk6 : ∀ (x4 : Int32) (x5 : Int32) (S : cpS), k6 x4 x5 S = some r → cpJ p l e (cpRm 4) s m args below meth c (MQ below (va_Qi (fun x S' => (x, S') = r) (cpWorld w A) A) args s 0 0 A) w A 7 6 [some (.ref (w.2.1 150)), some (.int x1), some (.int x2), some (.int x3), some (.int x4), some (.int x5), none] [] S) : ∀ (n : Nat) (x4 : Int32) (x6 : Int32) (S : cpS), fX12_bearersOf_23 x1 x2 x3 x5 k6 n x4 x6 S = some r → cpJ p l e (cpRm 4) s m args below meth c (MQ below (va_Qi (fun x S' => (x, S') = r) (cpWorld w A) A) args s 0 0 A) w A 7 23 [some (.ref (w.2.1 150)), some (.int x1), some (.int x2), some (.int x3), some (.int x4), some (.int x5), some (.int x6)] [] S := by
  intro n
  induction n with
  | zero => intro x4 x6 S h; rw [fX12_bearersOf_23] at h; cases h
  | succ n ih =>
    intro x4 x6 S h
    rw [fX12_bearersOf_23] at h
    refine cj_iload C dX12_bearersOf_23 rfl ?_
    refine cj_aload_n C (i := 0) dX12_bearersOf_25 rfl rfl ?_
    refine cj_getR C (d := 151) o_150 rfl gfX12_13 dX12_bearersOf_26 ?_
    refine cj_iconst C (v := (3 : Int32)) dX12_bearersOf_29 rfl ?_
    refine cj_ialoadC C (j := 3) o_151 (by decide) (by decide) dX12_bearersOf_30 ?_
    refine cj_icmp_ge C (tgt := 65) dX12_bearersOf_31 rfl h (fun _ h => ?_) (fun _ h => ?_)
    · refine cj_iinc C (v := (x5 + 1)) (lv' := [some (.ref (w.2.1 150)), some (.int x1), some (.int x2), some (.int x3), some (.int x4), some (.int (x5 + 1)), some (.int x6)]) dX12_bearersOf_65 rfl rfl (by decide) rfl rfl ?_
      refine cj_goto C (tgt := 6) dX12_bearersOf_68 rfl ?_
      refine cj_weak C (lv' := [some (.ref (w.2.1 150)), some (.int x1), some (.int x2), some (.int x3), some (.int x4), some (.int (x5 + 1)), none]) (cpSub_s (cpSub_s (cpSub_s (cpSub_s (cpSub_s (cpSub_s (cpSub_n cpSub_nil))))))) ?_
      exact hk6 x4 (x5 + 1) S h
    · refine cj_iload C dX12_bearersOf_34 rfl ?_
      refine cj_aload_n C (i := 0) dX12_bearersOf_36 rfl rfl ?_
      refine cj_iload C dX12_bearersOf_37 rfl ?_
      refine cj_iload C dX12_bearersOf_39 rfl ?_
      refine cj_iload_n C (i := 1) dX12_bearersOf_41 rfl rfl ?_
      refine cj_iload_n C (i := 2) dX12_bearersOf_42 rfl rfl ?_
      refine cj_iload_n C (i := 3) dX12_bearersOf_43 rfl rfl ?_
      refine cj_callVi C (As := [.int x5, .int x6, .int x1, .int x2, .int x3]) (rest := [.int x4]) qX12_roadFor mw_36_12 o_150 rfl rfl rfl (Nat.le_of_ble_eq_true rfl) (by decide) dX12_bearersOf_44 h (fun _ _ hf => m_X12_roadFor l w A x5 x6 x1 x2 x3 S _ hf) (fun z1 S2 h => ?_)
      refine cj_iconst C (v := (-1 : Int32)) dX12_bearersOf_47 rfl ?_
      refine cj_icmp_eq C (tgt := 55) dX12_bearersOf_48 rfl h (fun _ h => ?_) (fun _ h => ?_)
      · refine cj_iconst C (v := (0 : Int32)) dX12_bearersOf_55 rfl ?_
        refine cj_iadd C dX12_bearersOf_56 ?_
        refine cj_let h (fun y3 h => ?_)
        refine cj_istore C (lv' := [some (.ref (w.2.1 150)), some (.int x1), some (.int x2), some (.int x3), some (.int y3), some (.int x5), some (.int x6)]) dX12_bearersOf_57 (by decide) rfl rfl ?_
        refine cj_iinc C (v := (x6 + 1)) (lv' := [some (.ref (w.2.1 150)), some (.int x1), some (.int x2), some (.int x3), some (.int y3), some (.int x5), some (.int (x6 + 1))]) dX12_bearersOf_59 rfl rfl (by decide) rfl rfl ?_
        refine cj_goto C (tgt := 23) dX12_bearersOf_62 rfl ?_
        exact ih y3 (x6 + 1) S2 h
      · refine cj_iconst C (v := (1 : Int32)) dX12_bearersOf_51 rfl ?_
        refine cj_goto C (tgt := 56) dX12_bearersOf_52 rfl ?_
        refine cj_iadd C dX12_bearersOf_56 ?_
        refine cj_let h (fun y4 h => ?_)
        refine cj_istore C (lv' := [some (.ref (w.2.1 150)), some (.int x1), some (.int x2), some (.int x3), some (.int y4), some (.int x5), some (.int x6)]) dX12_bearersOf_57 (by decide) rfl rfl ?_
        refine cj_iinc C (v := (x6 + 1)) (lv' := [some (.ref (w.2.1 150)), some (.int x1), some (.int x2), some (.int x3), some (.int y4), some (.int x5), some (.int (x6 + 1))]) dX12_bearersOf_59 rfl rfl (by decide) rfl rfl ?_
        refine cj_goto C (tgt := 23) dX12_bearersOf_62 rfl ?_
        exact ih y4 (x6 + 1) S2 h
def fX12_bearersOf_6 (x1 : Int32) (x2 : Int32) (x3 : Int32) : Nat → Int32 → Int32 → cpS → Option (Int32 × cpS)
  | 0, _, _, _ => none
  | n + 1, x4, x5, S =>
    if (S.1 151 3) ≤ x5 then (
    some (x4, S)) else (
    cpLt (x5 + (1 : Int32)) fun y1 =>
    fX12_bearersOf_23 x1 x2 x3 x5 (fX12_bearersOf_6 x1 x2 x3 n) cpFu x4 y1 S)
set_option maxRecDepth 100000 in
set_option maxHeartbeats 4000000 in
theorem wX12_bearersOf_6 (C : cpCx p s m args meth c w A cX12_bearersOf RX12 7) (hr : meth.sig.returnType = (some .int)) {r : Int32 × cpS} (x1 : Int32) (x2 : Int32) (x3 : Int32) : ∀ (n : Nat) (x4 : Int32) (x5 : Int32) (S : cpS), fX12_bearersOf_6 x1 x2 x3 n x4 x5 S = some r → cpJ p l e (cpRm 4) s m args below meth c (MQ below (va_Qi (fun x S' => (x, S') = r) (cpWorld w A) A) args s 0 0 A) w A 7 6 [some (.ref (w.2.1 150)), some (.int x1), some (.int x2), some (.int x3), some (.int x4), some (.int x5), none] [] S := by
  intro n
  induction n with
  | zero => intro x4 x5 S h; rw [fX12_bearersOf_6] at h; cases h
  | succ n ih =>
    intro x4 x5 S h
    rw [fX12_bearersOf_6] at h
    refine cj_iload C dX12_bearersOf_6 rfl ?_
    refine cj_aload_n C (i := 0) dX12_bearersOf_8 rfl rfl ?_
    refine cj_getR C (d := 151) o_150 rfl gfX12_13 dX12_bearersOf_9 ?_
    refine cj_iconst C (v := (3 : Int32)) dX12_bearersOf_12 rfl ?_
    refine cj_ialoadC C (j := 3) o_151 (by decide) (by decide) dX12_bearersOf_13 ?_
    refine cj_icmp_ge C (tgt := 71) dX12_bearersOf_14 rfl h (fun _ h => ?_) (fun _ h => ?_)
    · refine cj_iload C dX12_bearersOf_71 rfl ?_
      exact cj_ireturn C hr h dX12_bearersOf_73
    · refine cj_iload C dX12_bearersOf_17 rfl ?_
      refine cj_iconst C (v := (1 : Int32)) dX12_bearersOf_19 rfl ?_
      refine cj_iadd C dX12_bearersOf_20 ?_
      refine cj_let h (fun y1 h => ?_)
      refine cj_istore C (lv' := [some (.ref (w.2.1 150)), some (.int x1), some (.int x2), some (.int x3), some (.int x4), some (.int x5), some (.int y1)]) dX12_bearersOf_21 (by decide) rfl rfl ?_
      exact wX12_bearersOf_23 C hr x1 x2 x3 x5 ih cpFu x4 y1 S h
def fX12_bearersOf (x1 : Int32) (x2 : Int32) (x3 : Int32) (S : cpS) : Option (Int32 × cpS) :=
    fX12_bearersOf_6 x1 x2 x3 cpFu (0 : Int32) (0 : Int32) S
set_option maxRecDepth 100000 in
set_option maxHeartbeats 4000000 in
theorem m_X12_bearersOf (l : Launch) (w : cpW) (A : Nat → Prop) (x1 : Int32) (x2 : Int32) (x3 : Int32) (S : cpS) (r : Int32 × cpS) (h : fX12_bearersOf x1 x2 x3 S = some r) : cpMi l yX12_bearersOf cX12_bearersOf 7 ((some .int)) 4 w A [.ref (w.2.1 150), .int x1, .int x2, .int x3] S r := by
  refine cpMi.of (lv := [some (.ref (w.2.1 150)), some (.int x1), some (.int x2), some (.int x3), none, none, none]) (by decide) (Nat.le_of_ble_eq_true rfl) rfl (fun p e s m args below meth c C hr => ?_)
  replace C : cpCx p s m args meth c w A cX12_bearersOf RX12 7 := C
  rw [fX12_bearersOf] at h
  refine cj_iconst C (v := (0 : Int32)) dX12_bearersOf_0 rfl ?_
  refine cj_istore C (lv' := [some (.ref (w.2.1 150)), some (.int x1), some (.int x2), some (.int x3), some (.int (0 : Int32)), none, none]) dX12_bearersOf_1 (by decide) rfl rfl ?_
  refine cj_iconst C (v := (0 : Int32)) dX12_bearersOf_3 rfl ?_
  refine cj_istore C (lv' := [some (.ref (w.2.1 150)), some (.int x1), some (.int x2), some (.int x3), some (.int (0 : Int32)), some (.int (0 : Int32)), none]) dX12_bearersOf_4 (by decide) rfl rfl ?_
  exact wX12_bearersOf_6 C hr x1 x2 x3 cpFu (0 : Int32) (0 : Int32) S h
/-! X12_bearers -/
def fX12_bearers (x1 : Int32) (x2 : Int32) (S : cpS) : Option (Int32 × cpS) :=
    cpLt (cpI S 150 0 (0 : Int32)) fun S1 =>
    cpB (fX12_isCoin (Int32.toInt64 x1) S1) fun z2 S3 =>
    if z2 = 0 then (
    some ((-2 : Int32), S3)) else (
    cpB (fX12_isPlace (Int32.toInt64 x2) S3) fun z4 S5 =>
    if z4 = 0 then (
    some ((-2 : Int32), S5)) else (
    cpB (fX12_laysNow (S5.1 151 78) S5) fun _ S7 =>
    if cpIn ((62 : Int32) + x1) 3486 then (
    cpB (fX12_bearersOf x1 (S7.1 151 ((62 : Int32) + x1).toNatClampNeg) x2 S7) fun z8 S9 =>
    some (z8, S9)) else none))
set_option maxRecDepth 100000 in
set_option maxHeartbeats 4000000 in
theorem m_X12_bearers (l : Launch) (w : cpW) (A : Nat → Prop) (x1 : Int32) (x2 : Int32) (S : cpS) (r : Int32 × cpS) (h : fX12_bearers x1 x2 S = some r) : cpMi l yX12_bearers cX12_bearers 3 ((some .int)) 5 w A [.ref (w.2.1 150), .int x1, .int x2] S r := by
  refine cpMi.of (lv := [some (.ref (w.2.1 150)), some (.int x1), some (.int x2)]) (by decide) (Nat.le_of_ble_eq_true rfl) rfl (fun p e s m args below meth c C hr => ?_)
  replace C : cpCx p s m args meth c w A cX12_bearers RX12 3 := C
  rw [fX12_bearers] at h
  refine cj_aload_n C (i := 0) dX12_bearers_0 rfl rfl ?_
  refine cj_iconst C (v := (0 : Int32)) dX12_bearers_1 rfl ?_
  refine cj_put C (j := 0) o_150 rfl pfX12_1 rfl rfl dX12_bearers_2 ?_
  refine cj_lets h (fun S1 h => ?_)
  refine cj_aload_n C (i := 0) dX12_bearers_5 rfl rfl ?_
  refine cj_iload_n C (i := 1) dX12_bearers_6 rfl rfl ?_
  refine cj_i2l C dX12_bearers_7 ?_
  refine cj_callVi C (As := [.long (Int32.toInt64 x1)]) (rest := []) qX12_isCoin mw_30_9 o_150 rfl rfl rfl (Nat.le_of_ble_eq_true rfl) (by decide) dX12_bearers_8 h (fun _ _ hf => m_X12_isCoin l w A (Int32.toInt64 x1) S1 _ hf) (fun z2 S3 h => ?_)
  refine cj_if_eq C (tgt := 23) dX12_bearers_11 rfl h (fun _ h => ?_) (fun _ h => ?_)
  · refine cj_bipush C (v := (-2 : Int32)) dX12_bearers_23 rfl ?_
    exact cj_ireturn C hr h dX12_bearers_25
  · refine cj_aload_n C (i := 0) dX12_bearers_14 rfl rfl ?_
    refine cj_iload_n C (i := 2) dX12_bearers_15 rfl rfl ?_
    refine cj_i2l C dX12_bearers_16 ?_
    refine cj_callVi C (As := [.long (Int32.toInt64 x2)]) (rest := []) qX12_isPlace mw_31_19 o_150 rfl rfl rfl (Nat.le_of_ble_eq_true rfl) (by decide) dX12_bearers_17 h (fun _ _ hf => m_X12_isPlace l w A (Int32.toInt64 x2) S3 _ hf) (fun z4 S5 h => ?_)
    refine cj_if_ne C (tgt := 26) dX12_bearers_20 rfl h (fun _ h => ?_) (fun _ h => ?_)
    · refine cj_bipush C (v := (-2 : Int32)) dX12_bearers_23 rfl ?_
      exact cj_ireturn C hr h dX12_bearers_25
    · refine cj_aload_n C (i := 0) dX12_bearers_26 rfl rfl ?_
      refine cj_aload_n C (i := 0) dX12_bearers_27 rfl rfl ?_
      refine cj_getR C (d := 151) o_150 rfl gfX12_13 dX12_bearers_28 ?_
      refine cj_bipush C (v := (78 : Int32)) dX12_bearers_31 rfl ?_
      refine cj_ialoadC C (j := 78) o_151 (by decide) (by decide) dX12_bearers_33 ?_
      refine cj_callVv C (As := [.int (S5.1 151 78)]) (rest := []) qX12_laysNow mw_36_7 o_150 rfl rfl rfl (Nat.le_of_ble_eq_true rfl) (by decide) dX12_bearers_34 h (fun _ _ hf => m_X12_laysNow l w A (S5.1 151 78) S5 _ hf) (fun z6 S7 h => ?_)
      refine cj_aload_n C (i := 0) dX12_bearers_37 rfl rfl ?_
      refine cj_iload_n C (i := 1) dX12_bearers_38 rfl rfl ?_
      refine cj_aload_n C (i := 0) dX12_bearers_39 rfl rfl ?_
      refine cj_getR C (d := 151) o_150 rfl gfX12_13 dX12_bearers_40 ?_
      refine cj_bipush C (v := (62 : Int32)) dX12_bearers_43 rfl ?_
      refine cj_iload_n C (i := 1) dX12_bearers_45 rfl rfl ?_
      refine cj_iadd C dX12_bearers_46 ?_
      refine cj_iaload C o_151 h dX12_bearers_47 (fun h => ?_)
      refine cj_iload_n C (i := 2) dX12_bearers_48 rfl rfl ?_
      refine cj_callVi C (As := [.int x1, .int (S7.1 151 ((62 : Int32) + x1).toNatClampNeg), .int x2]) (rest := []) qX12_bearersOf mw_38_15 o_150 rfl rfl rfl (Nat.le_of_ble_eq_true rfl) (by decide) dX12_bearers_49 h (fun _ _ hf => m_X12_bearersOf l w A x1 (S7.1 151 ((62 : Int32) + x1).toNatClampNeg) x2 S7 _ hf) (fun z8 S9 h => ?_)
      exact cj_ireturn C hr h dX12_bearers_52
/-! X12_stores -/
def fX12_stores_2 : Nat → Int32 → cpS → Option (Unit × cpS)
  | 0, _, _ => none
  | n + 1, x1, S =>
    if (18 : Int32) ≤ x1 then (
    some ((), S)) else (
    if cpIn ((62 : Int32) + x1) 3486 then (
    if cpIn x1 18 then (
    cpLt (cpI S 158 x1.toNatClampNeg (S.1 151 ((62 : Int32) + x1).toNatClampNeg)) fun S1 =>
    fX12_stores_2 n (x1 + 1) S1) else none) else none)
set_option maxRecDepth 100000 in
set_option maxHeartbeats 4000000 in
theorem wX12_stores_2 (C : cpCx p s m args meth c w A cX12_stores RX12 2) (hr : meth.sig.returnType = none) {r : Unit × cpS} : ∀ (n : Nat) (x1 : Int32) (S : cpS), fX12_stores_2 n x1 S = some r → cpJ p l e (cpRm 0) s m args below meth c (MQ below (va_Qv (fun S' => ((), S') = r) (cpWorld w A) A) args s 0 0 A) w A 2 2 [some (.ref (w.2.1 150)), some (.int x1)] [] S := by
  intro n
  induction n with
  | zero => intro x1 S h; rw [fX12_stores_2] at h; cases h
  | succ n ih =>
    intro x1 S h
    rw [fX12_stores_2] at h
    refine cj_iload_n C (i := 1) dX12_stores_2 rfl rfl ?_
    refine cj_bipush C (v := (18 : Int32)) dX12_stores_3 rfl ?_
    refine cj_icmp_ge C (tgt := 29) dX12_stores_5 rfl h (fun _ h => ?_) (fun _ h => ?_)
    · exact cj_vreturn C hr h dX12_stores_29
    · refine cj_aload_n C (i := 0) dX12_stores_8 rfl rfl ?_
      refine cj_getR C (d := 158) o_150 rfl gfX12_39 dX12_stores_9 ?_
      refine cj_iload_n C (i := 1) dX12_stores_12 rfl rfl ?_
      refine cj_aload_n C (i := 0) dX12_stores_13 rfl rfl ?_
      refine cj_getR C (d := 151) o_150 rfl gfX12_13 dX12_stores_14 ?_
      refine cj_bipush C (v := (62 : Int32)) dX12_stores_17 rfl ?_
      refine cj_iload_n C (i := 1) dX12_stores_19 rfl rfl ?_
      refine cj_iadd C dX12_stores_20 ?_
      refine cj_iaload C o_151 h dX12_stores_21 (fun h => ?_)
      refine cj_iastore C o_158 h dX12_stores_22 (fun h => ?_)
      refine cj_lets h (fun S1 h => ?_)
      refine cj_iinc C (v := (x1 + 1)) (lv' := [some (.ref (w.2.1 150)), some (.int (x1 + 1))]) dX12_stores_23 rfl rfl (by decide) rfl rfl ?_
      refine cj_goto C (tgt := 2) dX12_stores_26 rfl ?_
      exact ih (x1 + 1) S1 h
def fX12_stores (S : cpS) : Option (Unit × cpS) :=
    fX12_stores_2 cpFu (0 : Int32) S
set_option maxRecDepth 100000 in
set_option maxHeartbeats 4000000 in
theorem m_X12_stores (l : Launch) (w : cpW) (A : Nat → Prop) (S : cpS) (r : Unit × cpS) (h : fX12_stores S = some r) : cpMv l yX12_stores cX12_stores 2 (none) 0 w A [.ref (w.2.1 150)] S r := by
  refine cpMv.of (lv := [some (.ref (w.2.1 150)), none]) (by decide) (Nat.le_of_ble_eq_true rfl) rfl (fun p e s m args below meth c C hr => ?_)
  replace C : cpCx p s m args meth c w A cX12_stores RX12 2 := C
  rw [fX12_stores] at h
  refine cj_iconst C (v := (0 : Int32)) dX12_stores_0 rfl ?_
  refine cj_istore_n C (i := 1) (lv' := [some (.ref (w.2.1 150)), some (.int (0 : Int32))]) dX12_stores_1 rfl (by decide) rfl rfl ?_
  exact wX12_stores_2 C hr cpFu (0 : Int32) S h
/-! X12_isAgain -/
def fX12_isAgain_2 : Nat → Int32 → cpS → Option (Unit × cpS)
  | 0, _, _ => none
  | n + 1, x1, S =>
    if (18 : Int32) ≤ x1 then (
    some ((), S)) else (
    if cpIn x1 18 then (
    if cpIn ((62 : Int32) + x1) 3486 then (
    cpLt (cpI S 151 ((62 : Int32) + x1).toNatClampNeg (S.1 158 x1.toNatClampNeg)) fun S1 =>
    fX12_isAgain_2 n (x1 + 1) S1) else none) else none)
set_option maxRecDepth 100000 in
set_option maxHeartbeats 4000000 in
theorem wX12_isAgain_2 (C : cpCx p s m args meth c w A cX12_isAgain RX12 2) (hr : meth.sig.returnType = none) {r : Unit × cpS} : ∀ (n : Nat) (x1 : Int32) (S : cpS), fX12_isAgain_2 n x1 S = some r → cpJ p l e (cpRm 0) s m args below meth c (MQ below (va_Qv (fun S' => ((), S') = r) (cpWorld w A) A) args s 0 0 A) w A 2 2 [some (.ref (w.2.1 150)), some (.int x1)] [] S := by
  intro n
  induction n with
  | zero => intro x1 S h; rw [fX12_isAgain_2] at h; cases h
  | succ n ih =>
    intro x1 S h
    rw [fX12_isAgain_2] at h
    refine cj_iload_n C (i := 1) dX12_isAgain_2 rfl rfl ?_
    refine cj_bipush C (v := (18 : Int32)) dX12_isAgain_3 rfl ?_
    refine cj_icmp_ge C (tgt := 29) dX12_isAgain_5 rfl h (fun _ h => ?_) (fun _ h => ?_)
    · exact cj_vreturn C hr h dX12_isAgain_29
    · refine cj_aload_n C (i := 0) dX12_isAgain_8 rfl rfl ?_
      refine cj_getR C (d := 151) o_150 rfl gfX12_13 dX12_isAgain_9 ?_
      refine cj_bipush C (v := (62 : Int32)) dX12_isAgain_12 rfl ?_
      refine cj_iload_n C (i := 1) dX12_isAgain_14 rfl rfl ?_
      refine cj_iadd C dX12_isAgain_15 ?_
      refine cj_aload_n C (i := 0) dX12_isAgain_16 rfl rfl ?_
      refine cj_getR C (d := 158) o_150 rfl gfX12_39 dX12_isAgain_17 ?_
      refine cj_iload_n C (i := 1) dX12_isAgain_20 rfl rfl ?_
      refine cj_iaload C o_158 h dX12_isAgain_21 (fun h => ?_)
      refine cj_iastore C o_151 h dX12_isAgain_22 (fun h => ?_)
      refine cj_lets h (fun S1 h => ?_)
      refine cj_iinc C (v := (x1 + 1)) (lv' := [some (.ref (w.2.1 150)), some (.int (x1 + 1))]) dX12_isAgain_23 rfl rfl (by decide) rfl rfl ?_
      refine cj_goto C (tgt := 2) dX12_isAgain_26 rfl ?_
      exact ih (x1 + 1) S1 h
def fX12_isAgain (S : cpS) : Option (Unit × cpS) :=
    fX12_isAgain_2 cpFu (0 : Int32) S
set_option maxRecDepth 100000 in
set_option maxHeartbeats 4000000 in
theorem m_X12_isAgain (l : Launch) (w : cpW) (A : Nat → Prop) (S : cpS) (r : Unit × cpS) (h : fX12_isAgain S = some r) : cpMv l yX12_isAgain cX12_isAgain 2 (none) 0 w A [.ref (w.2.1 150)] S r := by
  refine cpMv.of (lv := [some (.ref (w.2.1 150)), none]) (by decide) (Nat.le_of_ble_eq_true rfl) rfl (fun p e s m args below meth c C hr => ?_)
  replace C : cpCx p s m args meth c w A cX12_isAgain RX12 2 := C
  rw [fX12_isAgain] at h
  refine cj_iconst C (v := (0 : Int32)) dX12_isAgain_0 rfl ?_
  refine cj_istore_n C (i := 1) (lv' := [some (.ref (w.2.1 150)), some (.int (0 : Int32))]) dX12_isAgain_1 rfl (by decide) rfl rfl ?_
  exact wX12_isAgain_2 C hr cpFu (0 : Int32) S h
/-! X12_notes -/
def fX12_notes_58 : Nat → Int32 → cpS → Option (Unit × cpS)
  | 0, _, _ => none
  | n + 1, x1, S =>
    if (18 : Int32) ≤ x1 then (
    cpLt (cpI S 151 80 ((S.1 151 80) + (1 : Int32))) fun S1 =>
    some ((), S1)) else (
    if cpIn x1 18 then (
    if cpIn (((81 : Int32) + ((18 : Int32) * (S.1 151 80))) + x1) 3486 then (
    cpLt (cpI S 151 (((81 : Int32) + ((18 : Int32) * (S.1 151 80))) + x1).toNatClampNeg (S.1 158 x1.toNatClampNeg)) fun S2 =>
    fX12_notes_58 n (x1 + 1) S2) else none) else none)
set_option maxRecDepth 100000 in
set_option maxHeartbeats 4000000 in
theorem wX12_notes_58 (C : cpCx p s m args meth c w A cX12_notes RX12 2) (hr : meth.sig.returnType = none) {r : Unit × cpS} : ∀ (n : Nat) (x1 : Int32) (S : cpS), fX12_notes_58 n x1 S = some r → cpJ p l e (cpRm 0) s m args below meth c (MQ below (va_Qv (fun S' => ((), S') = r) (cpWorld w A) A) args s 0 0 A) w A 2 58 [some (.ref (w.2.1 150)), some (.int x1)] [] S := by
  intro n
  induction n with
  | zero => intro x1 S h; rw [fX12_notes_58] at h; cases h
  | succ n ih =>
    intro x1 S h
    rw [fX12_notes_58] at h
    refine cj_iload_n C (i := 1) dX12_notes_58 rfl rfl ?_
    refine cj_bipush C (v := (18 : Int32)) dX12_notes_59 rfl ?_
    refine cj_icmp_ge C (tgt := 96) dX12_notes_61 rfl h (fun _ h => ?_) (fun _ h => ?_)
    · refine cj_aload_n C (i := 0) dX12_notes_96 rfl rfl ?_
      refine cj_getR C (d := 151) o_150 rfl gfX12_13 dX12_notes_97 ?_
      refine cj_bipush C (v := (80 : Int32)) dX12_notes_100 rfl ?_
      refine cj_dup2 C dX12_notes_102 rfl rfl ?_
      refine cj_ialoadC C (j := 80) o_151 (by decide) (by decide) dX12_notes_103 ?_
      refine cj_iconst C (v := (1 : Int32)) dX12_notes_104 rfl ?_
      refine cj_iadd C dX12_notes_105 ?_
      refine cj_iastoreC C (j := 80) o_151 (by decide) (by decide) dX12_notes_106 ?_
      refine cj_lets h (fun S1 h => ?_)
      exact cj_vreturn C hr h dX12_notes_107
    · refine cj_aload_n C (i := 0) dX12_notes_64 rfl rfl ?_
      refine cj_getR C (d := 151) o_150 rfl gfX12_13 dX12_notes_65 ?_
      refine cj_bipush C (v := (81 : Int32)) dX12_notes_68 rfl ?_
      refine cj_bipush C (v := (18 : Int32)) dX12_notes_70 rfl ?_
      refine cj_aload_n C (i := 0) dX12_notes_72 rfl rfl ?_
      refine cj_getR C (d := 151) o_150 rfl gfX12_13 dX12_notes_73 ?_
      refine cj_bipush C (v := (80 : Int32)) dX12_notes_76 rfl ?_
      refine cj_ialoadC C (j := 80) o_151 (by decide) (by decide) dX12_notes_78 ?_
      refine cj_imul C dX12_notes_79 ?_
      refine cj_iadd C dX12_notes_80 ?_
      refine cj_iload_n C (i := 1) dX12_notes_81 rfl rfl ?_
      refine cj_iadd C dX12_notes_82 ?_
      refine cj_aload_n C (i := 0) dX12_notes_83 rfl rfl ?_
      refine cj_getR C (d := 158) o_150 rfl gfX12_39 dX12_notes_84 ?_
      refine cj_iload_n C (i := 1) dX12_notes_87 rfl rfl ?_
      refine cj_iaload C o_158 h dX12_notes_88 (fun h => ?_)
      refine cj_iastore C o_151 h dX12_notes_89 (fun h => ?_)
      refine cj_lets h (fun S2 h => ?_)
      refine cj_iinc C (v := (x1 + 1)) (lv' := [some (.ref (w.2.1 150)), some (.int (x1 + 1))]) dX12_notes_90 rfl rfl (by decide) rfl rfl ?_
      refine cj_goto C (tgt := 58) dX12_notes_93 rfl ?_
      exact ih (x1 + 1) S2 h
def fX12_notes_14 : Nat → Int32 → cpS → Option (Unit × cpS)
  | 0, _, _ => none
  | n + 1, x1, S =>
    if (162 : Int32) ≤ x1 then (
    cpLt (cpI S 151 80 ((S.1 151 80) - (1 : Int32))) fun S1 =>
    fX12_notes_58 cpFu (0 : Int32) S1) else (
    if cpIn ((99 : Int32) + x1) 3486 then (
    if cpIn ((81 : Int32) + x1) 3486 then (
    cpLt (cpI S 151 ((81 : Int32) + x1).toNatClampNeg (S.1 151 ((99 : Int32) + x1).toNatClampNeg)) fun S2 =>
    fX12_notes_14 n (x1 + 1) S2) else none) else none)
set_option maxRecDepth 100000 in
set_option maxHeartbeats 4000000 in
theorem wX12_notes_14 (C : cpCx p s m args meth c w A cX12_notes RX12 2) (hr : meth.sig.returnType = none) {r : Unit × cpS} : ∀ (n : Nat) (x1 : Int32) (S : cpS), fX12_notes_14 n x1 S = some r → cpJ p l e (cpRm 0) s m args below meth c (MQ below (va_Qv (fun S' => ((), S') = r) (cpWorld w A) A) args s 0 0 A) w A 2 14 [some (.ref (w.2.1 150)), some (.int x1)] [] S := by
  intro n
  induction n with
  | zero => intro x1 S h; rw [fX12_notes_14] at h; cases h
  | succ n ih =>
    intro x1 S h
    rw [fX12_notes_14] at h
    refine cj_iload_n C (i := 1) dX12_notes_14 rfl rfl ?_
    refine cj_sipush C (v := (162 : Int32)) dX12_notes_15 rfl ?_
    refine cj_icmp_ge C (tgt := 45) dX12_notes_18 rfl h (fun _ h => ?_) (fun _ h => ?_)
    · refine cj_aload_n C (i := 0) dX12_notes_45 rfl rfl ?_
      refine cj_getR C (d := 151) o_150 rfl gfX12_13 dX12_notes_46 ?_
      refine cj_bipush C (v := (80 : Int32)) dX12_notes_49 rfl ?_
      refine cj_dup2 C dX12_notes_51 rfl rfl ?_
      refine cj_ialoadC C (j := 80) o_151 (by decide) (by decide) dX12_notes_52 ?_
      refine cj_iconst C (v := (1 : Int32)) dX12_notes_53 rfl ?_
      refine cj_isub C dX12_notes_54 ?_
      refine cj_iastoreC C (j := 80) o_151 (by decide) (by decide) dX12_notes_55 ?_
      refine cj_lets h (fun S1 h => ?_)
      refine cj_iconst C (v := (0 : Int32)) dX12_notes_56 rfl ?_
      refine cj_istore_n C (i := 1) (lv' := [some (.ref (w.2.1 150)), some (.int (0 : Int32))]) dX12_notes_57 rfl (by decide) rfl rfl ?_
      exact wX12_notes_58 C hr cpFu (0 : Int32) S1 h
    · refine cj_aload_n C (i := 0) dX12_notes_21 rfl rfl ?_
      refine cj_getR C (d := 151) o_150 rfl gfX12_13 dX12_notes_22 ?_
      refine cj_bipush C (v := (81 : Int32)) dX12_notes_25 rfl ?_
      refine cj_iload_n C (i := 1) dX12_notes_27 rfl rfl ?_
      refine cj_iadd C dX12_notes_28 ?_
      refine cj_aload_n C (i := 0) dX12_notes_29 rfl rfl ?_
      refine cj_getR C (d := 151) o_150 rfl gfX12_13 dX12_notes_30 ?_
      refine cj_bipush C (v := (99 : Int32)) dX12_notes_33 rfl ?_
      refine cj_iload_n C (i := 1) dX12_notes_35 rfl rfl ?_
      refine cj_iadd C dX12_notes_36 ?_
      refine cj_iaload C o_151 h dX12_notes_37 (fun h => ?_)
      refine cj_iastore C o_151 h dX12_notes_38 (fun h => ?_)
      refine cj_lets h (fun S2 h => ?_)
      refine cj_iinc C (v := (x1 + 1)) (lv' := [some (.ref (w.2.1 150)), some (.int (x1 + 1))]) dX12_notes_39 rfl rfl (by decide) rfl rfl ?_
      refine cj_goto C (tgt := 14) dX12_notes_42 rfl ?_
      exact ih (x1 + 1) S2 h
def fX12_notes (S : cpS) : Option (Unit × cpS) :=
    if (S.1 151 80) = (10 : Int32) then (
    fX12_notes_14 cpFu (0 : Int32) S) else (
    fX12_notes_58 cpFu (0 : Int32) S)
set_option maxRecDepth 100000 in
set_option maxHeartbeats 4000000 in
theorem m_X12_notes (l : Launch) (w : cpW) (A : Nat → Prop) (S : cpS) (r : Unit × cpS) (h : fX12_notes S = some r) : cpMv l yX12_notes cX12_notes 2 (none) 0 w A [.ref (w.2.1 150)] S r := by
  refine cpMv.of (lv := [some (.ref (w.2.1 150)), none]) (by decide) (Nat.le_of_ble_eq_true rfl) rfl (fun p e s m args below meth c C hr => ?_)
  replace C : cpCx p s m args meth c w A cX12_notes RX12 2 := C
  rw [fX12_notes] at h
  refine cj_aload_n C (i := 0) dX12_notes_0 rfl rfl ?_
  refine cj_getR C (d := 151) o_150 rfl gfX12_13 dX12_notes_1 ?_
  refine cj_bipush C (v := (80 : Int32)) dX12_notes_4 rfl ?_
  refine cj_ialoadC C (j := 80) o_151 (by decide) (by decide) dX12_notes_6 ?_
  refine cj_bipush C (v := (10 : Int32)) dX12_notes_7 rfl ?_
  refine cj_icmp_ne C (tgt := 56) dX12_notes_9 rfl h (fun _ h => ?_) (fun _ h => ?_)
  · refine cj_iconst C (v := (0 : Int32)) dX12_notes_12 rfl ?_
    refine cj_istore_n C (i := 1) (lv' := [some (.ref (w.2.1 150)), some (.int (0 : Int32))]) dX12_notes_13 rfl (by decide) rfl rfl ?_
    exact wX12_notes_14 C hr cpFu (0 : Int32) S h
  · refine cj_iconst C (v := (0 : Int32)) dX12_notes_56 rfl ?_
    refine cj_istore_n C (i := 1) (lv' := [some (.ref (w.2.1 150)), some (.int (0 : Int32))]) dX12_notes_57 rfl (by decide) rfl rfl ?_
    exact wX12_notes_58 C hr cpFu (0 : Int32) S h
/-! X12_goesCarry -/
def fX12_goesCarry (x1 : Int32) (x2 : Int32) (x3 : Int32) (x4 : Int32) (S : cpS) : Option (Int32 × cpS) :=
    cpB (fX12_wornTo x1 x2 x3 x4 (S.1 151 78) S) fun z1 S2 =>
    if cpIn ((66 : Int32) + x3) 3486 then (
    if cpIn ((66 : Int32) + x3) 3486 then (
    cpLt (cpI S2 151 ((66 : Int32) + x3).toNatClampNeg ((S2.1 151 ((66 : Int32) + x3).toNatClampNeg) + z1)) fun S3 =>
    if cpIn ((62 : Int32) + x3) 3486 then (
    cpLt (cpI S3 151 ((62 : Int32) + x3).toNatClampNeg x4) fun S4 =>
    cpLt (cpI S4 151 79 ((S4.1 151 79) + (1 : Int32))) fun S5 =>
    some (z1, S5)) else none) else none) else none
set_option maxRecDepth 100000 in
set_option maxHeartbeats 4000000 in
theorem m_X12_goesCarry (l : Launch) (w : cpW) (A : Nat → Prop) (x1 : Int32) (x2 : Int32) (x3 : Int32) (x4 : Int32) (S : cpS) (r : Int32 × cpS) (h : fX12_goesCarry x1 x2 x3 x4 S = some r) : cpMi l yX12_goesCarry cX12_goesCarry 6 ((some .int)) 5 w A [.ref (w.2.1 150), .int x1, .int x2, .int x3, .int x4] S r := by
  refine cpMi.of (lv := [some (.ref (w.2.1 150)), some (.int x1), some (.int x2), some (.int x3), some (.int x4), none]) (by decide) (Nat.le_of_ble_eq_true rfl) rfl (fun p e s m args below meth c C hr => ?_)
  replace C : cpCx p s m args meth c w A cX12_goesCarry RX12 6 := C
  rw [fX12_goesCarry] at h
  refine cj_aload_n C (i := 0) dX12_goesCarry_0 rfl rfl ?_
  refine cj_iload_n C (i := 1) dX12_goesCarry_1 rfl rfl ?_
  refine cj_iload_n C (i := 2) dX12_goesCarry_2 rfl rfl ?_
  refine cj_iload_n C (i := 3) dX12_goesCarry_3 rfl rfl ?_
  refine cj_iload C dX12_goesCarry_4 rfl ?_
  refine cj_aload_n C (i := 0) dX12_goesCarry_6 rfl rfl ?_
  refine cj_getR C (d := 151) o_150 rfl gfX12_13 dX12_goesCarry_7 ?_
  refine cj_bipush C (v := (78 : Int32)) dX12_goesCarry_10 rfl ?_
  refine cj_ialoadC C (j := 78) o_151 (by decide) (by decide) dX12_goesCarry_12 ?_
  refine cj_callVi C (As := [.int x1, .int x2, .int x3, .int x4, .int (S.1 151 78)]) (rest := []) qX12_wornTo mw_37_17 o_150 rfl rfl rfl (Nat.le_of_ble_eq_true rfl) (by decide) dX12_goesCarry_13 h (fun _ _ hf => m_X12_wornTo l w A x1 x2 x3 x4 (S.1 151 78) S _ hf) (fun z1 S2 h => ?_)
  refine cj_istore C (lv' := [some (.ref (w.2.1 150)), some (.int x1), some (.int x2), some (.int x3), some (.int x4), some (.int z1)]) dX12_goesCarry_16 (by decide) rfl rfl ?_
  refine cj_aload_n C (i := 0) dX12_goesCarry_18 rfl rfl ?_
  refine cj_getR C (d := 151) o_150 rfl gfX12_13 dX12_goesCarry_19 ?_
  refine cj_bipush C (v := (66 : Int32)) dX12_goesCarry_22 rfl ?_
  refine cj_iload_n C (i := 3) dX12_goesCarry_24 rfl rfl ?_
  refine cj_iadd C dX12_goesCarry_25 ?_
  refine cj_dup2 C dX12_goesCarry_26 rfl rfl ?_
  refine cj_iaload C o_151 h dX12_goesCarry_27 (fun h => ?_)
  refine cj_iload C dX12_goesCarry_28 rfl ?_
  refine cj_iadd C dX12_goesCarry_30 ?_
  refine cj_iastore C o_151 h dX12_goesCarry_31 (fun h => ?_)
  refine cj_lets h (fun S3 h => ?_)
  refine cj_aload_n C (i := 0) dX12_goesCarry_32 rfl rfl ?_
  refine cj_getR C (d := 151) o_150 rfl gfX12_13 dX12_goesCarry_33 ?_
  refine cj_bipush C (v := (62 : Int32)) dX12_goesCarry_36 rfl ?_
  refine cj_iload_n C (i := 3) dX12_goesCarry_38 rfl rfl ?_
  refine cj_iadd C dX12_goesCarry_39 ?_
  refine cj_iload C dX12_goesCarry_40 rfl ?_
  refine cj_iastore C o_151 h dX12_goesCarry_42 (fun h => ?_)
  refine cj_lets h (fun S4 h => ?_)
  refine cj_aload_n C (i := 0) dX12_goesCarry_43 rfl rfl ?_
  refine cj_getR C (d := 151) o_150 rfl gfX12_13 dX12_goesCarry_44 ?_
  refine cj_bipush C (v := (79 : Int32)) dX12_goesCarry_47 rfl ?_
  refine cj_dup2 C dX12_goesCarry_49 rfl rfl ?_
  refine cj_ialoadC C (j := 79) o_151 (by decide) (by decide) dX12_goesCarry_50 ?_
  refine cj_iconst C (v := (1 : Int32)) dX12_goesCarry_51 rfl ?_
  refine cj_iadd C dX12_goesCarry_52 ?_
  refine cj_iastoreC C (j := 79) o_151 (by decide) (by decide) dX12_goesCarry_53 ?_
  refine cj_lets h (fun S5 h => ?_)
  refine cj_iload C dX12_goesCarry_54 rfl ?_
  exact cj_ireturn C hr h dX12_goesCarry_56
/-! X12_goesQuarrel -/
def fX12_goesQuarrel (x1 : Int32) (x2 : Int32) (S : cpS) : Option (Unit × cpS) :=
    if cpIn ((70 : Int32) + x1) 3486 then (
    if cpIn ((70 : Int32) + x1) 3486 then (
    cpLt (cpI S 151 ((70 : Int32) + x1).toNatClampNeg ((S.1 151 ((70 : Int32) + x1).toNatClampNeg) ^^^ (cpShl (1 : Int32) x2))) fun S1 =>
    if cpIn ((70 : Int32) + x2) 3486 then (
    if cpIn ((70 : Int32) + x2) 3486 then (
    cpLt (cpI S1 151 ((70 : Int32) + x2).toNatClampNeg ((S1.1 151 ((70 : Int32) + x2).toNatClampNeg) ^^^ (cpShl (1 : Int32) x1))) fun S2 =>
    some ((), S2)) else none) else none) else none) else none
set_option maxRecDepth 100000 in
set_option maxHeartbeats 4000000 in
theorem m_X12_goesQuarrel (l : Launch) (w : cpW) (A : Nat → Prop) (x1 : Int32) (x2 : Int32) (S : cpS) (r : Unit × cpS) (h : fX12_goesQuarrel x1 x2 S = some r) : cpMv l yX12_goesQuarrel cX12_goesQuarrel 3 (none) 0 w A [.ref (w.2.1 150), .int x1, .int x2] S r := by
  refine cpMv.of (lv := [some (.ref (w.2.1 150)), some (.int x1), some (.int x2)]) (by decide) (Nat.le_of_ble_eq_true rfl) rfl (fun p e s m args below meth c C hr => ?_)
  replace C : cpCx p s m args meth c w A cX12_goesQuarrel RX12 3 := C
  rw [fX12_goesQuarrel] at h
  refine cj_aload_n C (i := 0) dX12_goesQuarrel_0 rfl rfl ?_
  refine cj_getR C (d := 151) o_150 rfl gfX12_13 dX12_goesQuarrel_1 ?_
  refine cj_bipush C (v := (70 : Int32)) dX12_goesQuarrel_4 rfl ?_
  refine cj_iload_n C (i := 1) dX12_goesQuarrel_6 rfl rfl ?_
  refine cj_iadd C dX12_goesQuarrel_7 ?_
  refine cj_dup2 C dX12_goesQuarrel_8 rfl rfl ?_
  refine cj_iaload C o_151 h dX12_goesQuarrel_9 (fun h => ?_)
  refine cj_iconst C (v := (1 : Int32)) dX12_goesQuarrel_10 rfl ?_
  refine cj_iload_n C (i := 2) dX12_goesQuarrel_11 rfl rfl ?_
  refine ck_ishl C dX12_goesQuarrel_12 ?_
  refine cj_ixor C dX12_goesQuarrel_13 ?_
  refine cj_iastore C o_151 h dX12_goesQuarrel_14 (fun h => ?_)
  refine cj_lets h (fun S1 h => ?_)
  refine cj_aload_n C (i := 0) dX12_goesQuarrel_15 rfl rfl ?_
  refine cj_getR C (d := 151) o_150 rfl gfX12_13 dX12_goesQuarrel_16 ?_
  refine cj_bipush C (v := (70 : Int32)) dX12_goesQuarrel_19 rfl ?_
  refine cj_iload_n C (i := 2) dX12_goesQuarrel_21 rfl rfl ?_
  refine cj_iadd C dX12_goesQuarrel_22 ?_
  refine cj_dup2 C dX12_goesQuarrel_23 rfl rfl ?_
  refine cj_iaload C o_151 h dX12_goesQuarrel_24 (fun h => ?_)
  refine cj_iconst C (v := (1 : Int32)) dX12_goesQuarrel_25 rfl ?_
  refine cj_iload_n C (i := 1) dX12_goesQuarrel_26 rfl rfl ?_
  refine ck_ishl C dX12_goesQuarrel_27 ?_
  refine cj_ixor C dX12_goesQuarrel_28 ?_
  refine cj_iastore C o_151 h dX12_goesQuarrel_29 (fun h => ?_)
  refine cj_lets h (fun S2 h => ?_)
  exact cj_vreturn C hr h dX12_goesQuarrel_30
/-! X12_carry -/
def fX12_carry (x1 : Int32) (x2 : Int32) (x3 : Int32) (x4 : Int32) (S : cpS) : Option (Int32 × cpS) :=
    cpLt (cpI S 150 0 (0 : Int32)) fun S1 =>
    cpB (fX12_whyCarry x1 x2 x3 x4 (S1.1 151 78) S1) fun z2 S3 =>
    if z2 = 0 then (
    cpB (fX12_stores S3) fun _ S5 =>
    cpB (fX12_goesCarry x1 x2 x3 x4 S5) fun z6 S7 =>
    cpB (fX12_notes S7) fun _ S9 =>
    some (z6, S9)) else (
    some (((-10 : Int32) - z2), S3))
set_option maxRecDepth 100000 in
set_option maxHeartbeats 4000000 in
theorem m_X12_carry (l : Launch) (w : cpW) (A : Nat → Prop) (x1 : Int32) (x2 : Int32) (x3 : Int32) (x4 : Int32) (S : cpS) (r : Int32 × cpS) (h : fX12_carry x1 x2 x3 x4 S = some r) : cpMi l yX12_carry cX12_carry 7 ((some .int)) 6 w A [.ref (w.2.1 150), .int x1, .int x2, .int x3, .int x4] S r := by
  refine cpMi.of (lv := [some (.ref (w.2.1 150)), some (.int x1), some (.int x2), some (.int x3), some (.int x4), none, none]) (by decide) (Nat.le_of_ble_eq_true rfl) rfl (fun p e s m args below meth c C hr => ?_)
  replace C : cpCx p s m args meth c w A cX12_carry RX12 7 := C
  rw [fX12_carry] at h
  refine cj_aload_n C (i := 0) dX12_carry_0 rfl rfl ?_
  refine cj_iconst C (v := (0 : Int32)) dX12_carry_1 rfl ?_
  refine cj_put C (j := 0) o_150 rfl pfX12_1 rfl rfl dX12_carry_2 ?_
  refine cj_lets h (fun S1 h => ?_)
  refine cj_aload_n C (i := 0) dX12_carry_5 rfl rfl ?_
  refine cj_iload_n C (i := 1) dX12_carry_6 rfl rfl ?_
  refine cj_iload_n C (i := 2) dX12_carry_7 rfl rfl ?_
  refine cj_iload_n C (i := 3) dX12_carry_8 rfl rfl ?_
  refine cj_iload C dX12_carry_9 rfl ?_
  refine cj_aload_n C (i := 0) dX12_carry_11 rfl rfl ?_
  refine cj_getR C (d := 151) o_150 rfl gfX12_13 dX12_carry_12 ?_
  refine cj_bipush C (v := (78 : Int32)) dX12_carry_15 rfl ?_
  refine cj_ialoadC C (j := 78) o_151 (by decide) (by decide) dX12_carry_17 ?_
  refine cj_callVi C (As := [.int x1, .int x2, .int x3, .int x4, .int (S1.1 151 78)]) (rest := []) qX12_whyCarry mw_35_12 o_150 rfl rfl rfl (Nat.le_of_ble_eq_true rfl) (by decide) dX12_carry_18 h (fun _ _ hf => m_X12_whyCarry l w A x1 x2 x3 x4 (S1.1 151 78) S1 _ hf) (fun z2 S3 h => ?_)
  refine cj_istore C (lv' := [some (.ref (w.2.1 150)), some (.int x1), some (.int x2), some (.int x3), some (.int x4), some (.int z2), none]) dX12_carry_21 (by decide) rfl rfl ?_
  refine cj_iload C dX12_carry_23 rfl ?_
  refine cj_if_eq C (tgt := 34) dX12_carry_25 rfl h (fun _ h => ?_) (fun _ h => ?_)
  · refine cj_aload_n C (i := 0) dX12_carry_34 rfl rfl ?_
    refine cj_callVv C (As := []) (rest := []) qX12_stores mw_39_17 o_150 rfl rfl rfl (Nat.le_of_ble_eq_true rfl) (by decide) dX12_carry_35 h (fun _ _ hf => m_X12_stores l w A S3 _ hf) (fun z4 S5 h => ?_)
    refine cj_aload_n C (i := 0) dX12_carry_38 rfl rfl ?_
    refine cj_iload_n C (i := 1) dX12_carry_39 rfl rfl ?_
    refine cj_iload_n C (i := 2) dX12_carry_40 rfl rfl ?_
    refine cj_iload_n C (i := 3) dX12_carry_41 rfl rfl ?_
    refine cj_iload C dX12_carry_42 rfl ?_
    refine cj_callVi C (As := [.int x1, .int x2, .int x3, .int x4]) (rest := []) qX12_goesCarry mw_39_21 o_150 rfl rfl rfl (Nat.le_of_ble_eq_true rfl) (by decide) dX12_carry_44 h (fun _ _ hf => m_X12_goesCarry l w A x1 x2 x3 x4 S5 _ hf) (fun z6 S7 h => ?_)
    refine cj_istore C (lv' := [some (.ref (w.2.1 150)), some (.int x1), some (.int x2), some (.int x3), some (.int x4), some (.int z2), some (.int z6)]) dX12_carry_47 (by decide) rfl rfl ?_
    refine cj_aload_n C (i := 0) dX12_carry_49 rfl rfl ?_
    refine cj_callVv C (As := []) (rest := []) qX12_notes mw_40_1 o_150 rfl rfl rfl (Nat.le_of_ble_eq_true rfl) (by decide) dX12_carry_50 h (fun _ _ hf => m_X12_notes l w A S7 _ hf) (fun z8 S9 h => ?_)
    refine cj_iload C dX12_carry_53 rfl ?_
    exact cj_ireturn C hr h dX12_carry_55
  · refine cj_bipush C (v := (-10 : Int32)) dX12_carry_28 rfl ?_
    refine cj_iload C dX12_carry_30 rfl ?_
    refine cj_isub C dX12_carry_32 ?_
    exact cj_ireturn C hr h dX12_carry_33
/-! X12_areTwo -/
def fX12_areTwo (x1 : Int64) (x3 : Int64) (S : cpS) : Option (Int32 × cpS) :=
    cpB (fX12_isPerson x1 S) fun z1 S2 =>
    if z1 = 0 then (
    some ((0 : Int32), S2)) else (
    cpB (fX12_isPerson x3 S2) fun z3 S4 =>
    if z3 = 0 then (
    some ((0 : Int32), S4)) else (
    if (lg_cmp x1 x3) = 0 then (
    some ((0 : Int32), S4)) else (
    some ((1 : Int32), S4))))
set_option maxRecDepth 100000 in
set_option maxHeartbeats 4000000 in
theorem m_X12_areTwo (l : Launch) (w : cpW) (A : Nat → Prop) (x1 : Int64) (x3 : Int64) (S : cpS) (r : Int32 × cpS) (h : fX12_areTwo x1 x3 S = some r) : cpMi l yX12_areTwo cX12_areTwo 5 ((some .boolean)) 2 w A [.ref (w.2.1 150), .long x1, .long x3] S r := by
  refine cpMi.of (lv := [some (.ref (w.2.1 150)), some (.long x1), none, some (.long x3), none]) (by decide) (Nat.le_of_ble_eq_true rfl) rfl (fun p e s m args below meth c C hr => ?_)
  replace C : cpCx p s m args meth c w A cX12_areTwo RX12 5 := C
  rw [fX12_areTwo] at h
  refine cj_aload_n C (i := 0) dX12_areTwo_0 rfl rfl ?_
  refine cj_lload_n C (i := 1) dX12_areTwo_1 rfl rfl ?_
  refine cj_callVi C (As := [.long x1]) (rest := []) qX12_isPerson mw_29_13 o_150 rfl rfl rfl (Nat.le_of_ble_eq_true rfl) (by decide) dX12_areTwo_2 h (fun _ _ hf => m_X12_isPerson l w A x1 S _ hf) (fun z1 S2 h => ?_)
  refine cj_if_eq C (tgt := 26) dX12_areTwo_5 rfl h (fun _ h => ?_) (fun _ h => ?_)
  · refine cj_iconst C (v := (0 : Int32)) dX12_areTwo_26 rfl ?_
    exact cj_zreturn C hr rfl h dX12_areTwo_27
  · refine cj_aload_n C (i := 0) dX12_areTwo_8 rfl rfl ?_
    refine cj_lload_n C (i := 3) dX12_areTwo_9 rfl rfl ?_
    refine cj_callVi C (As := [.long x3]) (rest := []) qX12_isPerson mw_29_13 o_150 rfl rfl rfl (Nat.le_of_ble_eq_true rfl) (by decide) dX12_areTwo_10 h (fun _ _ hf => m_X12_isPerson l w A x3 S2 _ hf) (fun z3 S4 h => ?_)
    refine cj_if_eq C (tgt := 26) dX12_areTwo_13 rfl h (fun _ h => ?_) (fun _ h => ?_)
    · refine cj_iconst C (v := (0 : Int32)) dX12_areTwo_26 rfl ?_
      exact cj_zreturn C hr rfl h dX12_areTwo_27
    · refine cj_lload_n C (i := 1) dX12_areTwo_16 rfl rfl ?_
      refine cj_lload_n C (i := 3) dX12_areTwo_17 rfl rfl ?_
      refine cj_lcmp C dX12_areTwo_18 ?_
      refine cj_if_eq C (tgt := 26) dX12_areTwo_19 rfl h (fun _ h => ?_) (fun _ h => ?_)
      · refine cj_iconst C (v := (0 : Int32)) dX12_areTwo_26 rfl ?_
        exact cj_zreturn C hr rfl h dX12_areTwo_27
      · refine cj_iconst C (v := (1 : Int32)) dX12_areTwo_22 rfl ?_
        refine cj_goto C (tgt := 27) dX12_areTwo_23 rfl ?_
        exact cj_zreturn C hr rfl h dX12_areTwo_27
/-! X12_quarrel -/
def fX12_quarrel (x1 : Int32) (x2 : Int32) (S : cpS) : Option (Int32 × cpS) :=
    cpLt (cpI S 150 0 (0 : Int32)) fun S1 =>
    cpB (fX12_areTwo (Int32.toInt64 x1) (Int32.toInt64 x2) S1) fun z2 S3 =>
    if z2 = 0 then (
    some ((-11 : Int32), S3)) else (
    cpB (fX12_stores S3) fun _ S5 =>
    cpB (fX12_goesQuarrel x1 x2 S5) fun _ S7 =>
    cpB (fX12_notes S7) fun _ S9 =>
    cpB (fX12_haveQuarrelled x1 x2 S9) fun z10 S11 =>
    if z10 = 0 then (
    some ((0 : Int32), S11)) else (
    some ((1 : Int32), S11)))
set_option maxRecDepth 100000 in
set_option maxHeartbeats 4000000 in
theorem m_X12_quarrel (l : Launch) (w : cpW) (A : Nat → Prop) (x1 : Int32) (x2 : Int32) (S : cpS) (r : Int32 × cpS) (h : fX12_quarrel x1 x2 S = some r) : cpMi l yX12_quarrel cX12_quarrel 3 ((some .int)) 3 w A [.ref (w.2.1 150), .int x1, .int x2] S r := by
  refine cpMi.of (lv := [some (.ref (w.2.1 150)), some (.int x1), some (.int x2)]) (by decide) (Nat.le_of_ble_eq_true rfl) rfl (fun p e s m args below meth c C hr => ?_)
  replace C : cpCx p s m args meth c w A cX12_quarrel RX12 3 := C
  rw [fX12_quarrel] at h
  refine cj_aload_n C (i := 0) dX12_quarrel_0 rfl rfl ?_
  refine cj_iconst C (v := (0 : Int32)) dX12_quarrel_1 rfl ?_
  refine cj_put C (j := 0) o_150 rfl pfX12_1 rfl rfl dX12_quarrel_2 ?_
  refine cj_lets h (fun S1 h => ?_)
  refine cj_aload_n C (i := 0) dX12_quarrel_5 rfl rfl ?_
  refine cj_iload_n C (i := 1) dX12_quarrel_6 rfl rfl ?_
  refine cj_i2l C dX12_quarrel_7 ?_
  refine cj_iload_n C (i := 2) dX12_quarrel_8 rfl rfl ?_
  refine cj_i2l C dX12_quarrel_9 ?_
  refine cj_callVi C (As := [.long (Int32.toInt64 x1), .long (Int32.toInt64 x2)]) (rest := []) qX12_areTwo mw_40_20 o_150 rfl rfl rfl (Nat.le_of_ble_eq_true rfl) (by decide) dX12_quarrel_10 h (fun _ _ hf => m_X12_areTwo l w A (Int32.toInt64 x1) (Int32.toInt64 x2) S1 _ hf) (fun z2 S3 h => ?_)
  refine cj_if_ne C (tgt := 19) dX12_quarrel_13 rfl h (fun _ h => ?_) (fun _ h => ?_)
  · refine cj_bipush C (v := (-11 : Int32)) dX12_quarrel_16 rfl ?_
    exact cj_ireturn C hr h dX12_quarrel_18
  · refine cj_aload_n C (i := 0) dX12_quarrel_19 rfl rfl ?_
    refine cj_callVv C (As := []) (rest := []) qX12_stores mw_39_17 o_150 rfl rfl rfl (Nat.le_of_ble_eq_true rfl) (by decide) dX12_quarrel_20 h (fun _ _ hf => m_X12_stores l w A S3 _ hf) (fun z4 S5 h => ?_)
    refine cj_aload_n C (i := 0) dX12_quarrel_23 rfl rfl ?_
    refine cj_iload_n C (i := 1) dX12_quarrel_24 rfl rfl ?_
    refine cj_iload_n C (i := 2) dX12_quarrel_25 rfl rfl ?_
    refine cj_callVv C (As := [.int x1, .int x2]) (rest := []) qX12_goesQuarrel mw_41_0 o_150 rfl rfl rfl (Nat.le_of_ble_eq_true rfl) (by decide) dX12_quarrel_26 h (fun _ _ hf => m_X12_goesQuarrel l w A x1 x2 S5 _ hf) (fun z6 S7 h => ?_)
    refine cj_aload_n C (i := 0) dX12_quarrel_29 rfl rfl ?_
    refine cj_callVv C (As := []) (rest := []) qX12_notes mw_40_1 o_150 rfl rfl rfl (Nat.le_of_ble_eq_true rfl) (by decide) dX12_quarrel_30 h (fun _ _ hf => m_X12_notes l w A S7 _ hf) (fun z8 S9 h => ?_)
    refine cj_aload_n C (i := 0) dX12_quarrel_33 rfl rfl ?_
    refine cj_iload_n C (i := 1) dX12_quarrel_34 rfl rfl ?_
    refine cj_iload_n C (i := 2) dX12_quarrel_35 rfl rfl ?_
    refine cj_callVi C (As := [.int x1, .int x2]) (rest := []) qX12_haveQuarrelled mw_36_0 o_150 rfl rfl rfl (Nat.le_of_ble_eq_true rfl) (by decide) dX12_quarrel_36 h (fun _ _ hf => m_X12_haveQuarrelled l w A x1 x2 S9 _ hf) (fun z10 S11 h => ?_)
    refine cj_if_eq C (tgt := 46) dX12_quarrel_39 rfl h (fun _ h => ?_) (fun _ h => ?_)
    · refine cj_iconst C (v := (0 : Int32)) dX12_quarrel_46 rfl ?_
      exact cj_ireturn C hr h dX12_quarrel_47
    · refine cj_iconst C (v := (1 : Int32)) dX12_quarrel_42 rfl ?_
      refine cj_goto C (tgt := 47) dX12_quarrel_43 rfl ?_
      exact cj_ireturn C hr h dX12_quarrel_47
/-! X12_hour -/
def fX12_hour (x1 : Int32) (S : cpS) : Option (Int32 × cpS) :=
    cpLt (cpI S 150 0 (0 : Int32)) fun S1 =>
    cpB (fX12_within (Int32.toInt64 x1) (0 : Int64) (9 : Int64) S1) fun z2 S3 =>
    if z2 = 0 then (
    some ((-11 : Int32), S3)) else (
    cpB (fX12_stores S3) fun _ S5 =>
    cpLt (cpI S5 151 78 x1) fun S6 =>
    cpB (fX12_notes S6) fun _ S8 =>
    some ((S8.1 158 16), S8))
set_option maxRecDepth 100000 in
set_option maxHeartbeats 4000000 in
theorem m_X12_hour (l : Launch) (w : cpW) (A : Nat → Prop) (x1 : Int32) (S : cpS) (r : Int32 × cpS) (h : fX12_hour x1 S = some r) : cpMi l yX12_hour cX12_hour 2 ((some .int)) 1 w A [.ref (w.2.1 150), .int x1] S r := by
  refine cpMi.of (lv := [some (.ref (w.2.1 150)), some (.int x1)]) (by decide) (Nat.le_of_ble_eq_true rfl) rfl (fun p e s m args below meth c C hr => ?_)
  replace C : cpCx p s m args meth c w A cX12_hour RX12 2 := C
  rw [fX12_hour] at h
  refine cj_aload_n C (i := 0) dX12_hour_0 rfl rfl ?_
  refine cj_iconst C (v := (0 : Int32)) dX12_hour_1 rfl ?_
  refine cj_put C (j := 0) o_150 rfl pfX12_1 rfl rfl dX12_hour_2 ?_
  refine cj_lets h (fun S1 h => ?_)
  refine cj_iload_n C (i := 1) dX12_hour_5 rfl rfl ?_
  refine cj_i2l C dX12_hour_6 ?_
  refine cj_lconst C (v := (0 : Int64)) dX12_hour_7 rfl ?_
  refine cj_ldc2 C (v := (9 : Int64)) mw_41_17 dX12_hour_8 ?_
  refine cj_callSi C (As := [.long (Int32.toInt64 x1), .long (0 : Int64), .long (9 : Int64)]) (rest := []) qX12_within mw_23_15 rfl rfl (Nat.le_of_ble_eq_true rfl) (by decide) dX12_hour_11 h (fun _ _ hf => m_X12_within l w A (Int32.toInt64 x1) (0 : Int64) (9 : Int64) S1 _ hf) (fun z2 S3 h => ?_)
  refine cj_if_ne C (tgt := 20) dX12_hour_14 rfl h (fun _ h => ?_) (fun _ h => ?_)
  · refine cj_bipush C (v := (-11 : Int32)) dX12_hour_17 rfl ?_
    exact cj_ireturn C hr h dX12_hour_19
  · refine cj_aload_n C (i := 0) dX12_hour_20 rfl rfl ?_
    refine cj_callVv C (As := []) (rest := []) qX12_stores mw_39_17 o_150 rfl rfl rfl (Nat.le_of_ble_eq_true rfl) (by decide) dX12_hour_21 h (fun _ _ hf => m_X12_stores l w A S3 _ hf) (fun z4 S5 h => ?_)
    refine cj_aload_n C (i := 0) dX12_hour_24 rfl rfl ?_
    refine cj_getR C (d := 151) o_150 rfl gfX12_13 dX12_hour_25 ?_
    refine cj_bipush C (v := (78 : Int32)) dX12_hour_28 rfl ?_
    refine cj_iload_n C (i := 1) dX12_hour_30 rfl rfl ?_
    refine cj_iastoreC C (j := 78) o_151 (by decide) (by decide) dX12_hour_31 ?_
    refine cj_lets h (fun S6 h => ?_)
    refine cj_aload_n C (i := 0) dX12_hour_32 rfl rfl ?_
    refine cj_callVv C (As := []) (rest := []) qX12_notes mw_40_1 o_150 rfl rfl rfl (Nat.le_of_ble_eq_true rfl) (by decide) dX12_hour_33 h (fun _ _ hf => m_X12_notes l w A S6 _ hf) (fun z7 S8 h => ?_)
    refine cj_aload_n C (i := 0) dX12_hour_36 rfl rfl ?_
    refine cj_getR C (d := 158) o_150 rfl gfX12_39 dX12_hour_37 ?_
    refine cj_bipush C (v := (16 : Int32)) dX12_hour_40 rfl ?_
    refine cj_ialoadC C (j := 16) o_158 (by decide) (by decide) dX12_hour_42 ?_
    exact cj_ireturn C hr h dX12_hour_43
/-! X12_undo -/
def fX12_undo_44 : Nat → Int32 → cpS → Option (Int32 × cpS)
  | 0, _, _ => none
  | n + 1, x2, S =>
    if (18 : Int32) ≤ x2 then (
    some ((S.1 151 80), S)) else (
    if cpIn (((81 : Int32) + ((18 : Int32) * (S.1 151 80))) + x2) 3486 then (
    if cpIn ((62 : Int32) + x2) 3486 then (
    cpLt (cpI S 151 ((62 : Int32) + x2).toNatClampNeg (S.1 151 (((81 : Int32) + ((18 : Int32) * (S.1 151 80))) + x2).toNatClampNeg)) fun S1 =>
    fX12_undo_44 n (x2 + 1) S1) else none) else none)
set_option maxRecDepth 100000 in
set_option maxHeartbeats 4000000 in
theorem wX12_undo_44 (C : cpCx p s m args meth c w A cX12_undo RX12 3) (hr : meth.sig.returnType = (some .int)) {r : Int32 × cpS} : ∀ (n : Nat) (x2 : Int32) (S : cpS), fX12_undo_44 n x2 S = some r → cpJ p l e (cpRm 1) s m args below meth c (MQ below (va_Qi (fun x S' => (x, S') = r) (cpWorld w A) A) args s 0 0 A) w A 3 44 [some (.ref (w.2.1 150)), none, some (.int x2)] [] S := by
  intro n
  induction n with
  | zero => intro x2 S h; rw [fX12_undo_44] at h; cases h
  | succ n ih =>
    intro x2 S h
    rw [fX12_undo_44] at h
    refine cj_iload_n C (i := 2) dX12_undo_44 rfl rfl ?_
    refine cj_bipush C (v := (18 : Int32)) dX12_undo_45 rfl ?_
    refine cj_icmp_ge C (tgt := 85) dX12_undo_47 rfl h (fun _ h => ?_) (fun _ h => ?_)
    · refine cj_aload_n C (i := 0) dX12_undo_85 rfl rfl ?_
      refine cj_getR C (d := 151) o_150 rfl gfX12_13 dX12_undo_86 ?_
      refine cj_bipush C (v := (80 : Int32)) dX12_undo_89 rfl ?_
      refine cj_ialoadC C (j := 80) o_151 (by decide) (by decide) dX12_undo_91 ?_
      exact cj_ireturn C hr h dX12_undo_92
    · refine cj_aload_n C (i := 0) dX12_undo_50 rfl rfl ?_
      refine cj_getR C (d := 151) o_150 rfl gfX12_13 dX12_undo_51 ?_
      refine cj_bipush C (v := (62 : Int32)) dX12_undo_54 rfl ?_
      refine cj_iload_n C (i := 2) dX12_undo_56 rfl rfl ?_
      refine cj_iadd C dX12_undo_57 ?_
      refine cj_aload_n C (i := 0) dX12_undo_58 rfl rfl ?_
      refine cj_getR C (d := 151) o_150 rfl gfX12_13 dX12_undo_59 ?_
      refine cj_bipush C (v := (81 : Int32)) dX12_undo_62 rfl ?_
      refine cj_bipush C (v := (18 : Int32)) dX12_undo_64 rfl ?_
      refine cj_aload_n C (i := 0) dX12_undo_66 rfl rfl ?_
      refine cj_getR C (d := 151) o_150 rfl gfX12_13 dX12_undo_67 ?_
      refine cj_bipush C (v := (80 : Int32)) dX12_undo_70 rfl ?_
      refine cj_ialoadC C (j := 80) o_151 (by decide) (by decide) dX12_undo_72 ?_
      refine cj_imul C dX12_undo_73 ?_
      refine cj_iadd C dX12_undo_74 ?_
      refine cj_iload_n C (i := 2) dX12_undo_75 rfl rfl ?_
      refine cj_iadd C dX12_undo_76 ?_
      refine cj_iaload C o_151 h dX12_undo_77 (fun h => ?_)
      refine cj_iastore C o_151 h dX12_undo_78 (fun h => ?_)
      refine cj_lets h (fun S1 h => ?_)
      refine cj_iinc C (v := (x2 + 1)) (lv' := [some (.ref (w.2.1 150)), none, some (.int (x2 + 1))]) dX12_undo_79 rfl rfl (by decide) rfl rfl ?_
      refine cj_goto C (tgt := 44) dX12_undo_82 rfl ?_
      exact ih (x2 + 1) S1 h
def fX12_undo (x1 : Int32) (S : cpS) : Option (Int32 × cpS) :=
    cpLt (cpI S 150 0 (0 : Int32)) fun S1 =>
    cpB (fX12_within (Int32.toInt64 x1) (1 : Int64) (10 : Int64) S1) fun z2 S3 =>
    if z2 = 0 then (
    some ((-3 : Int32), S3)) else (
    if x1 ≤ (S3.1 151 80) then (
    cpLt (cpI S3 151 80 ((S3.1 151 80) - x1)) fun S4 =>
    fX12_undo_44 cpFu (0 : Int32) S4) else (
    some ((-3 : Int32), S3)))
set_option maxRecDepth 100000 in
set_option maxHeartbeats 4000000 in
theorem m_X12_undo (l : Launch) (w : cpW) (A : Nat → Prop) (x1 : Int32) (S : cpS) (r : Int32 × cpS) (h : fX12_undo x1 S = some r) : cpMi l yX12_undo cX12_undo 3 ((some .int)) 1 w A [.ref (w.2.1 150), .int x1] S r := by
  refine cpMi.of (lv := [some (.ref (w.2.1 150)), some (.int x1), none]) (by decide) (Nat.le_of_ble_eq_true rfl) rfl (fun p e s m args below meth c C hr => ?_)
  replace C : cpCx p s m args meth c w A cX12_undo RX12 3 := C
  rw [fX12_undo] at h
  refine cj_aload_n C (i := 0) dX12_undo_0 rfl rfl ?_
  refine cj_iconst C (v := (0 : Int32)) dX12_undo_1 rfl ?_
  refine cj_put C (j := 0) o_150 rfl pfX12_1 rfl rfl dX12_undo_2 ?_
  refine cj_lets h (fun S1 h => ?_)
  refine cj_iload_n C (i := 1) dX12_undo_5 rfl rfl ?_
  refine cj_i2l C dX12_undo_6 ?_
  refine cj_lconst C (v := (1 : Int64)) dX12_undo_7 rfl ?_
  refine cj_ldc2 C (v := (10 : Int64)) mw_42_11 dX12_undo_8 ?_
  refine cj_callSi C (As := [.long (Int32.toInt64 x1), .long (1 : Int64), .long (10 : Int64)]) (rest := []) qX12_within mw_23_15 rfl rfl (Nat.le_of_ble_eq_true rfl) (by decide) dX12_undo_11 h (fun _ _ hf => m_X12_within l w A (Int32.toInt64 x1) (1 : Int64) (10 : Int64) S1 _ hf) (fun z2 S3 h => ?_)
  refine cj_if_eq C (tgt := 28) dX12_undo_14 rfl h (fun _ h => ?_) (fun _ h => ?_)
  · refine cj_bipush C (v := (-3 : Int32)) dX12_undo_28 rfl ?_
    exact cj_ireturn C hr h dX12_undo_30
  · refine cj_iload_n C (i := 1) dX12_undo_17 rfl rfl ?_
    refine cj_aload_n C (i := 0) dX12_undo_18 rfl rfl ?_
    refine cj_getR C (d := 151) o_150 rfl gfX12_13 dX12_undo_19 ?_
    refine cj_bipush C (v := (80 : Int32)) dX12_undo_22 rfl ?_
    refine cj_ialoadC C (j := 80) o_151 (by decide) (by decide) dX12_undo_24 ?_
    refine cj_icmp_le C (tgt := 31) dX12_undo_25 rfl h (fun _ h => ?_) (fun _ h => ?_)
    · refine cj_aload_n C (i := 0) dX12_undo_31 rfl rfl ?_
      refine cj_getR C (d := 151) o_150 rfl gfX12_13 dX12_undo_32 ?_
      refine cj_bipush C (v := (80 : Int32)) dX12_undo_35 rfl ?_
      refine cj_dup2 C dX12_undo_37 rfl rfl ?_
      refine cj_ialoadC C (j := 80) o_151 (by decide) (by decide) dX12_undo_38 ?_
      refine cj_iload_n C (i := 1) dX12_undo_39 rfl rfl ?_
      refine cj_isub C dX12_undo_40 ?_
      refine cj_iastoreC C (j := 80) o_151 (by decide) (by decide) dX12_undo_41 ?_
      refine cj_lets h (fun S4 h => ?_)
      refine cj_iconst C (v := (0 : Int32)) dX12_undo_42 rfl ?_
      refine cj_istore_n C (i := 2) (lv' := [some (.ref (w.2.1 150)), some (.int x1), some (.int (0 : Int32))]) dX12_undo_43 rfl (by decide) rfl rfl ?_
      refine cj_weak C (lv' := [some (.ref (w.2.1 150)), none, some (.int (0 : Int32))]) (cpSub_s (cpSub_n (cpSub_s cpSub_nil))) ?_
      exact wX12_undo_44 C hr cpFu (0 : Int32) S4 h
    · refine cj_bipush C (v := (-3 : Int32)) dX12_undo_28 rfl ?_
      exact cj_ireturn C hr h dX12_undo_30
/-! X12_whyTold -/
def fX12_whyTold (x1 : Int32) (x2 : Int32) (S : cpS) : Option (Int32 × cpS) :=
    cpLt (x1 / (1000 : Int32)) fun y1 =>
    cpLt (cpRem (x1 / (100 : Int32)) (10 : Int32)) fun y2 =>
    if y2 ≤ y1 then (
    some ((1 : Int32), S)) else (
    cpB (fX12_whyCarry y1 y2 (cpRem (x1 / (10 : Int32)) (10 : Int32)) (cpRem x1 (10 : Int32)) x2 S) fun z3 S4 =>
    some (z3, S4))
set_option maxRecDepth 100000 in
set_option maxHeartbeats 4000000 in
theorem m_X12_whyTold (l : Launch) (w : cpW) (A : Nat → Prop) (x1 : Int32) (x2 : Int32) (S : cpS) (r : Int32 × cpS) (h : fX12_whyTold x1 x2 S = some r) : cpMi l yX12_whyTold cX12_whyTold 5 ((some .int)) 5 w A [.ref (w.2.1 150), .int x1, .int x2] S r := by
  refine cpMi.of (lv := [some (.ref (w.2.1 150)), some (.int x1), some (.int x2), none, none]) (by decide) (Nat.le_of_ble_eq_true rfl) rfl (fun p e s m args below meth c C hr => ?_)
  replace C : cpCx p s m args meth c w A cX12_whyTold RX12 5 := C
  rw [fX12_whyTold] at h
  refine cj_iload_n C (i := 1) dX12_whyTold_0 rfl rfl ?_
  refine cj_sipush C (v := (1000 : Int32)) dX12_whyTold_1 rfl ?_
  refine cj_idiv C dX12_whyTold_4 (by decide) ?_
  refine cj_let h (fun y1 h => ?_)
  refine cj_istore_n C (i := 3) (lv' := [some (.ref (w.2.1 150)), some (.int x1), some (.int x2), some (.int y1), none]) dX12_whyTold_5 rfl (by decide) rfl rfl ?_
  refine cj_iload_n C (i := 1) dX12_whyTold_6 rfl rfl ?_
  refine cj_bipush C (v := (100 : Int32)) dX12_whyTold_7 rfl ?_
  refine cj_idiv C dX12_whyTold_9 (by decide) ?_
  refine cj_bipush C (v := (10 : Int32)) dX12_whyTold_10 rfl ?_
  refine ck_irem C dX12_whyTold_12 (by decide) ?_
  refine cj_let h (fun y2 h => ?_)
  refine cj_istore C (lv' := [some (.ref (w.2.1 150)), some (.int x1), some (.int x2), some (.int y1), some (.int y2)]) dX12_whyTold_13 (by decide) rfl rfl ?_
  refine cj_iload_n C (i := 3) dX12_whyTold_15 rfl rfl ?_
  refine cj_iload C dX12_whyTold_16 rfl ?_
  refine cj_icmp_ge C (tgt := 43) dX12_whyTold_18 rfl h (fun _ h => ?_) (fun _ h => ?_)
  · refine cj_iconst C (v := (1 : Int32)) dX12_whyTold_43 rfl ?_
    exact cj_ireturn C hr h dX12_whyTold_44
  · refine cj_aload_n C (i := 0) dX12_whyTold_21 rfl rfl ?_
    refine cj_iload_n C (i := 3) dX12_whyTold_22 rfl rfl ?_
    refine cj_iload C dX12_whyTold_23 rfl ?_
    refine cj_iload_n C (i := 1) dX12_whyTold_25 rfl rfl ?_
    refine cj_bipush C (v := (10 : Int32)) dX12_whyTold_26 rfl ?_
    refine cj_idiv C dX12_whyTold_28 (by decide) ?_
    refine cj_bipush C (v := (10 : Int32)) dX12_whyTold_29 rfl ?_
    refine ck_irem C dX12_whyTold_31 (by decide) ?_
    refine cj_iload_n C (i := 1) dX12_whyTold_32 rfl rfl ?_
    refine cj_bipush C (v := (10 : Int32)) dX12_whyTold_33 rfl ?_
    refine ck_irem C dX12_whyTold_35 (by decide) ?_
    refine cj_iload_n C (i := 2) dX12_whyTold_36 rfl rfl ?_
    refine cj_callVi C (As := [.int y1, .int y2, .int (cpRem (x1 / (10 : Int32)) (10 : Int32)), .int (cpRem x1 (10 : Int32)), .int x2]) (rest := []) qX12_whyCarry mw_35_12 o_150 rfl rfl rfl (Nat.le_of_ble_eq_true rfl) (by decide) dX12_whyTold_37 h (fun _ _ hf => m_X12_whyCarry l w A y1 y2 (cpRem (x1 / (10 : Int32)) (10 : Int32)) (cpRem x1 (10 : Int32)) x2 S _ hf) (fun z3 S4 h => ?_)
    refine cj_goto C (tgt := 44) dX12_whyTold_40 rfl ?_
    exact cj_ireturn C hr h dX12_whyTold_44
/-! X12_whyNot -/
def fX12_whyNot (x1 : Int64) (S : cpS) : Option (Int32 × cpS) :=
    cpB (fX12_within x1 (10 : Int64) (19 : Int64) S) fun z1 S2 =>
    if z1 = 0 then (
    cpB (fX12_within x1 (100 : Int64) (199 : Int64) S2) fun z3 S4 =>
    if z3 = 0 then (
    cpB (fX12_within x1 (10000 : Int64) (19999 : Int64) S4) fun z5 S6 =>
    if z5 = 0 then (
    some ((1 : Int32), S6)) else (
    cpB (fX12_whyTold ((Int64.toInt32 x1) - (10000 : Int32)) (S6.1 151 78) S6) fun z7 S8 =>
    some (z7, S8))) else (
    cpB (fX12_areTwo ((x1 - (100 : Int64)) / (10 : Int64)) (cpReml x1 (10 : Int64)) S4) fun z9 S10 =>
    if z9 = 0 then (
    some ((1 : Int32), S10)) else (
    some ((0 : Int32), S10)))) else (
    some ((0 : Int32), S2))
set_option maxRecDepth 100000 in
set_option maxHeartbeats 4000000 in
theorem m_X12_whyNot (l : Launch) (w : cpW) (A : Nat → Prop) (x1 : Int64) (S : cpS) (r : Int32 × cpS) (h : fX12_whyNot x1 S = some r) : cpMi l yX12_whyNot cX12_whyNot 3 ((some .int)) 6 w A [.ref (w.2.1 150), .long x1] S r := by
  refine cpMi.of (lv := [some (.ref (w.2.1 150)), some (.long x1), none]) (by decide) (Nat.le_of_ble_eq_true rfl) rfl (fun p e s m args below meth c C hr => ?_)
  replace C : cpCx p s m args meth c w A cX12_whyNot RX12 3 := C
  rw [fX12_whyNot] at h
  refine cj_lload_n C (i := 1) dX12_whyNot_0 rfl rfl ?_
  refine cj_ldc2 C (v := (10 : Int64)) mw_42_11 dX12_whyNot_1 ?_
  refine cj_ldc2 C (v := (19 : Int64)) mw_44_22 dX12_whyNot_4 ?_
  refine cj_callSi C (As := [.long x1, .long (10 : Int64), .long (19 : Int64)]) (rest := []) qX12_within mw_23_15 rfl rfl (Nat.le_of_ble_eq_true rfl) (by decide) dX12_whyNot_7 h (fun _ _ hf => m_X12_within l w A x1 (10 : Int64) (19 : Int64) S _ hf) (fun z1 S2 h => ?_)
  refine cj_if_eq C (tgt := 15) dX12_whyNot_10 rfl h (fun _ h => ?_) (fun _ h => ?_)
  · refine cj_lload_n C (i := 1) dX12_whyNot_15 rfl rfl ?_
    refine cj_ldc2 C (v := (100 : Int64)) mw_44_23 dX12_whyNot_16 ?_
    refine cj_ldc2 C (v := (199 : Int64)) mw_45_0 dX12_whyNot_19 ?_
    refine cj_callSi C (As := [.long x1, .long (100 : Int64), .long (199 : Int64)]) (rest := []) qX12_within mw_23_15 rfl rfl (Nat.le_of_ble_eq_true rfl) (by decide) dX12_whyNot_22 h (fun _ _ hf => m_X12_within l w A x1 (100 : Int64) (199 : Int64) S2 _ hf) (fun z3 S4 h => ?_)
    refine cj_if_eq C (tgt := 55) dX12_whyNot_25 rfl h (fun _ h => ?_) (fun _ h => ?_)
    · refine cj_lload_n C (i := 1) dX12_whyNot_55 rfl rfl ?_
      refine cj_ldc2 C (v := (10000 : Int64)) mw_45_1 dX12_whyNot_56 ?_
      refine cj_ldc2 C (v := (19999 : Int64)) mw_45_2 dX12_whyNot_59 ?_
      refine cj_callSi C (As := [.long x1, .long (10000 : Int64), .long (19999 : Int64)]) (rest := []) qX12_within mw_23_15 rfl rfl (Nat.le_of_ble_eq_true rfl) (by decide) dX12_whyNot_62 h (fun _ _ hf => m_X12_within l w A x1 (10000 : Int64) (19999 : Int64) S4 _ hf) (fun z5 S6 h => ?_)
      refine cj_if_eq C (tgt := 88) dX12_whyNot_65 rfl h (fun _ h => ?_) (fun _ h => ?_)
      · refine cj_iconst C (v := (1 : Int32)) dX12_whyNot_88 rfl ?_
        exact cj_ireturn C hr h dX12_whyNot_89
      · refine cj_aload_n C (i := 0) dX12_whyNot_68 rfl rfl ?_
        refine cj_lload_n C (i := 1) dX12_whyNot_69 rfl rfl ?_
        refine cj_l2i C dX12_whyNot_70 ?_
        refine cj_sipush C (v := (10000 : Int32)) dX12_whyNot_71 rfl ?_
        refine cj_isub C dX12_whyNot_74 ?_
        refine cj_aload_n C (i := 0) dX12_whyNot_75 rfl rfl ?_
        refine cj_getR C (d := 151) o_150 rfl gfX12_13 dX12_whyNot_76 ?_
        refine cj_bipush C (v := (78 : Int32)) dX12_whyNot_79 rfl ?_
        refine cj_ialoadC C (j := 78) o_151 (by decide) (by decide) dX12_whyNot_81 ?_
        refine cj_callVi C (As := [.int ((Int64.toInt32 x1) - (10000 : Int32)), .int (S6.1 151 78)]) (rest := []) qX12_whyTold mw_45_3 o_150 rfl rfl rfl (Nat.le_of_ble_eq_true rfl) (by decide) dX12_whyNot_82 h (fun _ _ hf => m_X12_whyTold l w A ((Int64.toInt32 x1) - (10000 : Int32)) (S6.1 151 78) S6 _ hf) (fun z7 S8 h => ?_)
        refine cj_goto C (tgt := 89) dX12_whyNot_85 rfl ?_
        exact cj_ireturn C hr h dX12_whyNot_89
    · refine cj_aload_n C (i := 0) dX12_whyNot_28 rfl rfl ?_
      refine cj_lload_n C (i := 1) dX12_whyNot_29 rfl rfl ?_
      refine cj_ldc2 C (v := (100 : Int64)) mw_44_23 dX12_whyNot_30 ?_
      refine cj_lsub C dX12_whyNot_33 ?_
      refine cj_ldc2 C (v := (10 : Int64)) mw_42_11 dX12_whyNot_34 ?_
      refine cj_ldiv C dX12_whyNot_37 (by decide) ?_
      refine cj_lload_n C (i := 1) dX12_whyNot_38 rfl rfl ?_
      refine cj_ldc2 C (v := (10 : Int64)) mw_42_11 dX12_whyNot_39 ?_
      refine ck_lrem C dX12_whyNot_42 (by decide) ?_
      refine cj_callVi C (As := [.long ((x1 - (100 : Int64)) / (10 : Int64)), .long (cpReml x1 (10 : Int64))]) (rest := []) qX12_areTwo mw_40_20 o_150 rfl rfl rfl (Nat.le_of_ble_eq_true rfl) (by decide) dX12_whyNot_43 h (fun _ _ hf => m_X12_areTwo l w A ((x1 - (100 : Int64)) / (10 : Int64)) (cpReml x1 (10 : Int64)) S4 _ hf) (fun z9 S10 h => ?_)
      refine cj_if_eq C (tgt := 53) dX12_whyNot_46 rfl h (fun _ h => ?_) (fun _ h => ?_)
      · refine cj_iconst C (v := (1 : Int32)) dX12_whyNot_53 rfl ?_
        exact cj_ireturn C hr h dX12_whyNot_54
      · refine cj_iconst C (v := (0 : Int32)) dX12_whyNot_49 rfl ?_
        refine cj_goto C (tgt := 54) dX12_whyNot_50 rfl ?_
        exact cj_ireturn C hr h dX12_whyNot_54
  · refine cj_iconst C (v := (0 : Int32)) dX12_whyNot_13 rfl ?_
    exact cj_ireturn C hr h dX12_whyNot_14
/-! X12_does -/
def fX12_does (x1 : Int32) (S : cpS) : Option (Unit × cpS) :=
    if (20 : Int32) ≤ x1 then (
    if (200 : Int32) ≤ x1 then (
    cpB (fX12_goesCarry (cpRem (x1 / (1000 : Int32)) (10 : Int32)) (cpRem (x1 / (100 : Int32)) (10 : Int32)) (cpRem (x1 / (10 : Int32)) (10 : Int32)) (cpRem x1 (10 : Int32)) S) fun z1 S2 =>
    some ((), S2)) else (
    cpB (fX12_goesQuarrel ((x1 - (100 : Int32)) / (10 : Int32)) (cpRem x1 (10 : Int32)) S) fun _ S4 =>
    some ((), S4))) else (
    cpLt (cpI S 151 78 (x1 - (10 : Int32))) fun S5 =>
    some ((), S5))
set_option maxRecDepth 100000 in
set_option maxHeartbeats 4000000 in
theorem m_X12_does (l : Launch) (w : cpW) (A : Nat → Prop) (x1 : Int32) (S : cpS) (r : Unit × cpS) (h : fX12_does x1 S = some r) : cpMv l yX12_does cX12_does 2 (none) 6 w A [.ref (w.2.1 150), .int x1] S r := by
  refine cpMv.of (lv := [some (.ref (w.2.1 150)), some (.int x1)]) (by decide) (Nat.le_of_ble_eq_true rfl) rfl (fun p e s m args below meth c C hr => ?_)
  replace C : cpCx p s m args meth c w A cX12_does RX12 2 := C
  rw [fX12_does] at h
  refine cj_iload_n C (i := 1) dX12_does_0 rfl rfl ?_
  refine cj_bipush C (v := (20 : Int32)) dX12_does_1 rfl ?_
  refine cj_icmp_ge C (tgt := 20) dX12_does_3 rfl h (fun _ h => ?_) (fun _ h => ?_)
  · refine cj_iload_n C (i := 1) dX12_does_20 rfl rfl ?_
    refine cj_sipush C (v := (200 : Int32)) dX12_does_21 rfl ?_
    refine cj_icmp_ge C (tgt := 45) dX12_does_24 rfl h (fun _ h => ?_) (fun _ h => ?_)
    · refine cj_aload_n C (i := 0) dX12_does_45 rfl rfl ?_
      refine cj_iload_n C (i := 1) dX12_does_46 rfl rfl ?_
      refine cj_sipush C (v := (1000 : Int32)) dX12_does_47 rfl ?_
      refine cj_idiv C dX12_does_50 (by decide) ?_
      refine cj_bipush C (v := (10 : Int32)) dX12_does_51 rfl ?_
      refine ck_irem C dX12_does_53 (by decide) ?_
      refine cj_iload_n C (i := 1) dX12_does_54 rfl rfl ?_
      refine cj_bipush C (v := (100 : Int32)) dX12_does_55 rfl ?_
      refine cj_idiv C dX12_does_57 (by decide) ?_
      refine cj_bipush C (v := (10 : Int32)) dX12_does_58 rfl ?_
      refine ck_irem C dX12_does_60 (by decide) ?_
      refine cj_iload_n C (i := 1) dX12_does_61 rfl rfl ?_
      refine cj_bipush C (v := (10 : Int32)) dX12_does_62 rfl ?_
      refine cj_idiv C dX12_does_64 (by decide) ?_
      refine cj_bipush C (v := (10 : Int32)) dX12_does_65 rfl ?_
      refine ck_irem C dX12_does_67 (by decide) ?_
      refine cj_iload_n C (i := 1) dX12_does_68 rfl rfl ?_
      refine cj_bipush C (v := (10 : Int32)) dX12_does_69 rfl ?_
      refine ck_irem C dX12_does_71 (by decide) ?_
      refine cj_callVi C (As := [.int (cpRem (x1 / (1000 : Int32)) (10 : Int32)), .int (cpRem (x1 / (100 : Int32)) (10 : Int32)), .int (cpRem (x1 / (10 : Int32)) (10 : Int32)), .int (cpRem x1 (10 : Int32))]) (rest := []) qX12_goesCarry mw_39_21 o_150 rfl rfl rfl (Nat.le_of_ble_eq_true rfl) (by decide) dX12_does_72 h (fun _ _ hf => m_X12_goesCarry l w A (cpRem (x1 / (1000 : Int32)) (10 : Int32)) (cpRem (x1 / (100 : Int32)) (10 : Int32)) (cpRem (x1 / (10 : Int32)) (10 : Int32)) (cpRem x1 (10 : Int32)) S _ hf) (fun z1 S2 h => ?_)
      refine cj_pop C dX12_does_75 rfl ?_
      exact cj_vreturn C hr h dX12_does_76
    · refine cj_aload_n C (i := 0) dX12_does_27 rfl rfl ?_
      refine cj_iload_n C (i := 1) dX12_does_28 rfl rfl ?_
      refine cj_bipush C (v := (100 : Int32)) dX12_does_29 rfl ?_
      refine cj_isub C dX12_does_31 ?_
      refine cj_bipush C (v := (10 : Int32)) dX12_does_32 rfl ?_
      refine cj_idiv C dX12_does_34 (by decide) ?_
      refine cj_iload_n C (i := 1) dX12_does_35 rfl rfl ?_
      refine cj_bipush C (v := (10 : Int32)) dX12_does_36 rfl ?_
      refine ck_irem C dX12_does_38 (by decide) ?_
      refine cj_callVv C (As := [.int ((x1 - (100 : Int32)) / (10 : Int32)), .int (cpRem x1 (10 : Int32))]) (rest := []) qX12_goesQuarrel mw_41_0 o_150 rfl rfl rfl (Nat.le_of_ble_eq_true rfl) (by decide) dX12_does_39 h (fun _ _ hf => m_X12_goesQuarrel l w A ((x1 - (100 : Int32)) / (10 : Int32)) (cpRem x1 (10 : Int32)) S _ hf) (fun z3 S4 h => ?_)
      refine cj_goto C (tgt := 76) dX12_does_42 rfl ?_
      exact cj_vreturn C hr h dX12_does_76
  · refine cj_aload_n C (i := 0) dX12_does_6 rfl rfl ?_
    refine cj_getR C (d := 151) o_150 rfl gfX12_13 dX12_does_7 ?_
    refine cj_bipush C (v := (78 : Int32)) dX12_does_10 rfl ?_
    refine cj_iload_n C (i := 1) dX12_does_12 rfl rfl ?_
    refine cj_bipush C (v := (10 : Int32)) dX12_does_13 rfl ?_
    refine cj_isub C dX12_does_15 ?_
    refine cj_iastoreC C (j := 78) o_151 (by decide) (by decide) dX12_does_16 ?_
    refine cj_lets h (fun S5 h => ?_)
    refine cj_goto C (tgt := 76) dX12_does_17 rfl ?_
    exact cj_vreturn C hr h dX12_does_76
/-! X12_tells -/
def fX12_tells_7 (x1 : Int32) : Nat → Int32 → cpS → Option (Int32 × cpS)
  | 0, _, _ => none
  | n + 1, x2, S =>
    if cpIn x1 4 then (
    if (S.1 172 x1.toNatClampNeg) ≤ x2 then (
    if cpIn x1 4 then (
    some ((S.1 172 x1.toNatClampNeg), S)) else none) else (
    if cpIn (((40 : Int32) * x1) + x2) 160 then (
    cpB (fX12_whyNot (S.2 173 (((40 : Int32) * x1) + x2).toNatClampNeg) S) fun z1 S2 =>
    cpLt (cpI S2 150 21 z1) fun S3 =>
    if (S3.1 150 21) = 0 then (
    if cpIn (((40 : Int32) * x1) + x2) 160 then (
    cpB (fX12_does (Int64.toInt32 (S3.2 173 (((40 : Int32) * x1) + x2).toNatClampNeg)) S3) fun _ S5 =>
    fX12_tells_7 x1 n (x2 + 1) S5) else none) else (
    some (x2, S3))) else none)) else none
set_option maxRecDepth 100000 in
set_option maxHeartbeats 4000000 in
theorem wX12_tells_7 (C : cpCx p s m args meth c w A cX12_tells RX12 3) (hr : meth.sig.returnType = (some .int)) {r : Int32 × cpS} (x1 : Int32) : ∀ (n : Nat) (x2 : Int32) (S : cpS), fX12_tells_7 x1 n x2 S = some r → cpJ p l e (cpRm 7) s m args below meth c (MQ below (va_Qi (fun x S' => (x, S') = r) (cpWorld w A) A) args s 0 0 A) w A 3 7 [some (.ref (w.2.1 150)), some (.int x1), some (.int x2)] [] S := by
  intro n
  induction n with
  | zero => intro x2 S h; rw [fX12_tells_7] at h; cases h
  | succ n ih =>
    intro x2 S h
    rw [fX12_tells_7] at h
    refine cj_iload_n C (i := 2) dX12_tells_7 rfl rfl ?_
    refine cj_aload_n C (i := 0) dX12_tells_8 rfl rfl ?_
    refine cj_getR C (d := 172) o_150 rfl gfX12_82 dX12_tells_9 ?_
    refine cj_iload_n C (i := 1) dX12_tells_12 rfl rfl ?_
    refine cj_iaload C o_172 h dX12_tells_13 (fun h => ?_)
    refine cj_icmp_ge C (tgt := 67) dX12_tells_14 rfl h (fun _ h => ?_) (fun _ h => ?_)
    · refine cj_aload_n C (i := 0) dX12_tells_67 rfl rfl ?_
      refine cj_getR C (d := 172) o_150 rfl gfX12_82 dX12_tells_68 ?_
      refine cj_iload_n C (i := 1) dX12_tells_71 rfl rfl ?_
      refine cj_iaload C o_172 h dX12_tells_72 (fun h => ?_)
      exact cj_ireturn C hr h dX12_tells_73
    · refine cj_aload_n C (i := 0) dX12_tells_17 rfl rfl ?_
      refine cj_aload_n C (i := 0) dX12_tells_18 rfl rfl ?_
      refine cj_aload_n C (i := 0) dX12_tells_19 rfl rfl ?_
      refine cj_getR C (d := 173) o_150 rfl gfX12_85 dX12_tells_20 ?_
      refine cj_bipush C (v := (40 : Int32)) dX12_tells_23 rfl ?_
      refine cj_iload_n C (i := 1) dX12_tells_25 rfl rfl ?_
      refine cj_imul C dX12_tells_26 ?_
      refine cj_iload_n C (i := 2) dX12_tells_27 rfl rfl ?_
      refine cj_iadd C dX12_tells_28 ?_
      refine cj_laload C o_173 h dX12_tells_29 (fun h => ?_)
      refine cj_callVi C (As := [.long (S.2 173 (((40 : Int32) * x1) + x2).toNatClampNeg)]) (rest := [.ref (w.2.1 150)]) qX12_whyNot mw_44_18 o_150 rfl rfl rfl (Nat.le_of_ble_eq_true rfl) (by decide) dX12_tells_30 h (fun _ _ hf => m_X12_whyNot l w A (S.2 173 (((40 : Int32) * x1) + x2).toNatClampNeg) S _ hf) (fun z1 S2 h => ?_)
      refine cj_put C (j := 21) o_150 rfl pfX12_344 rfl rfl dX12_tells_33 ?_
      refine cj_lets h (fun S3 h => ?_)
      refine cj_aload_n C (i := 0) dX12_tells_36 rfl rfl ?_
      refine cj_getI C (j := 21) o_150 rfl gfX12_344 dX12_tells_37 ?_
      refine cj_if_eq C (tgt := 45) dX12_tells_40 rfl h (fun _ h => ?_) (fun _ h => ?_)
      · refine cj_aload_n C (i := 0) dX12_tells_45 rfl rfl ?_
        refine cj_aload_n C (i := 0) dX12_tells_46 rfl rfl ?_
        refine cj_getR C (d := 173) o_150 rfl gfX12_85 dX12_tells_47 ?_
        refine cj_bipush C (v := (40 : Int32)) dX12_tells_50 rfl ?_
        refine cj_iload_n C (i := 1) dX12_tells_52 rfl rfl ?_
        refine cj_imul C dX12_tells_53 ?_
        refine cj_iload_n C (i := 2) dX12_tells_54 rfl rfl ?_
        refine cj_iadd C dX12_tells_55 ?_
        refine cj_laload C o_173 h dX12_tells_56 (fun h => ?_)
        refine cj_l2i C dX12_tells_57 ?_
        refine cj_callVv C (As := [.int (Int64.toInt32 (S3.2 173 (((40 : Int32) * x1) + x2).toNatClampNeg))]) (rest := []) qX12_does mw_45_7 o_150 rfl rfl rfl (Nat.le_of_ble_eq_true rfl) (by decide) dX12_tells_58 h (fun _ _ hf => m_X12_does l w A (Int64.toInt32 (S3.2 173 (((40 : Int32) * x1) + x2).toNatClampNeg)) S3 _ hf) (fun z4 S5 h => ?_)
        refine cj_iinc C (v := (x2 + 1)) (lv' := [some (.ref (w.2.1 150)), some (.int x1), some (.int (x2 + 1))]) dX12_tells_61 rfl rfl (by decide) rfl rfl ?_
        refine cj_goto C (tgt := 7) dX12_tells_64 rfl ?_
        exact ih (x2 + 1) S5 h
      · refine cj_iload_n C (i := 2) dX12_tells_43 rfl rfl ?_
        exact cj_ireturn C hr h dX12_tells_44
def fX12_tells (x1 : Int32) (S : cpS) : Option (Int32 × cpS) :=
    cpLt (cpI S 150 21 (0 : Int32)) fun S1 =>
    fX12_tells_7 x1 cpFu (0 : Int32) S1
set_option maxRecDepth 100000 in
set_option maxHeartbeats 4000000 in
theorem m_X12_tells (l : Launch) (w : cpW) (A : Nat → Prop) (x1 : Int32) (S : cpS) (r : Int32 × cpS) (h : fX12_tells x1 S = some r) : cpMi l yX12_tells cX12_tells 3 ((some .int)) 7 w A [.ref (w.2.1 150), .int x1] S r := by
  refine cpMi.of (lv := [some (.ref (w.2.1 150)), some (.int x1), none]) (by decide) (Nat.le_of_ble_eq_true rfl) rfl (fun p e s m args below meth c C hr => ?_)
  replace C : cpCx p s m args meth c w A cX12_tells RX12 3 := C
  rw [fX12_tells] at h
  refine cj_aload_n C (i := 0) dX12_tells_0 rfl rfl ?_
  refine cj_iconst C (v := (0 : Int32)) dX12_tells_1 rfl ?_
  refine cj_put C (j := 21) o_150 rfl pfX12_344 rfl rfl dX12_tells_2 ?_
  refine cj_lets h (fun S1 h => ?_)
  refine cj_iconst C (v := (0 : Int32)) dX12_tells_5 rfl ?_
  refine cj_istore_n C (i := 2) (lv' := [some (.ref (w.2.1 150)), some (.int x1), some (.int (0 : Int32))]) dX12_tells_6 rfl (by decide) rfl rfl ?_
  exact wX12_tells_7 C hr x1 cpFu (0 : Int32) S1 h
end CPV
