section CPV
variable {p : Program} {l : Launch} {e : Env} {s : State} {m : MethodId} {args : Array Value} {below : List Frame} {meth : Method} {c : Code} {w : cpW} {A : Nat → Prop}
/-! X12_by -/
def fX12_by (x1 : Int32) (x2 : Int32) (S : cpS) : Option (Int32 × cpS) :=
    cpLt (cpI S 150 0 (0 : Int32)) fun S1 =>
    cpB (fX12_noCoin x1 x2 S1) fun z2 S3 =>
    if z2 = 0 then (
    cpB (fX12_laysLikely x1 S3) fun _ S5 =>
    cpB (fX12_likeliestBy x2 S5) fun z6 S7 =>
    some (z6, S7)) else (
    some ((-2 : Int32), S3))
set_option maxRecDepth 100000 in
set_option maxHeartbeats 4000000 in
theorem m_X12_by (l : Launch) (w : cpW) (A : Nat → Prop) (x1 : Int32) (x2 : Int32) (S : cpS) (r : Int32 × cpS) (h : fX12_by x1 x2 S = some r) : cpMi l yX12_by cX12_by 3 ((some .int)) 6 w A [.ref (w.2.1 150), .int x1, .int x2] S r := by
  refine cpMi.of (lv := [some (.ref (w.2.1 150)), some (.int x1), some (.int x2)]) (by decide) (Nat.le_of_ble_eq_true rfl) rfl (fun p e s m args below meth c C hr => ?_)
  replace C : cpCx p s m args meth c w A cX12_by RX12 3 := C
  rw [fX12_by] at h
  refine cj_aload_n C (i := 0) dX12_by_0 rfl rfl ?_
  refine cj_iconst C (v := (0 : Int32)) dX12_by_1 rfl ?_
  refine cj_put C (j := 0) o_150 rfl pfX12_1 rfl rfl dX12_by_2 ?_
  refine cj_lets h (fun S1 h => ?_)
  refine cj_aload_n C (i := 0) dX12_by_5 rfl rfl ?_
  refine cj_iload_n C (i := 1) dX12_by_6 rfl rfl ?_
  refine cj_iload_n C (i := 2) dX12_by_7 rfl rfl ?_
  refine cj_callVi C (As := [.int x1, .int x2]) (rest := []) qX12_noCoin mw_49_6 o_150 rfl rfl rfl (Nat.le_of_ble_eq_true rfl) (by decide) dX12_by_8 h (fun _ _ hf => m_X12_noCoin l w A x1 x2 S1 _ hf) (fun z2 S3 h => ?_)
  refine cj_if_eq C (tgt := 17) dX12_by_11 rfl h (fun _ h => ?_) (fun _ h => ?_)
  · refine cj_aload_n C (i := 0) dX12_by_17 rfl rfl ?_
    refine cj_iload_n C (i := 1) dX12_by_18 rfl rfl ?_
    refine cj_callVv C (As := [.int x1]) (rest := []) qX12_laysLikely mw_74_2 o_150 rfl rfl rfl (Nat.le_of_ble_eq_true rfl) (by decide) dX12_by_19 h (fun _ _ hf => m_X12_laysLikely l w A x1 S3 _ hf) (fun z4 S5 h => ?_)
    refine cj_aload_n C (i := 0) dX12_by_22 rfl rfl ?_
    refine cj_iload_n C (i := 2) dX12_by_23 rfl rfl ?_
    refine cj_callVi C (As := [.int x2]) (rest := []) qX12_likeliestBy mw_74_14 o_150 rfl rfl rfl (Nat.le_of_ble_eq_true rfl) (by decide) dX12_by_24 h (fun _ _ hf => m_X12_likeliestBy l w A x2 S5 _ hf) (fun z6 S7 h => ?_)
    exact cj_ireturn C hr h dX12_by_27
  · refine cj_bipush C (v := (-2 : Int32)) dX12_by_14 rfl ?_
    exact cj_ireturn C hr h dX12_by_16
/-! X12_cut -/
def fX12_cut (x0 : Int64) (x2 : Int32) (S : cpS) : Option (Int64 × cpS) :=
    if x2 = 0 then (
    some ((Int32.toInt64 (cpi2b (Int64.toInt32 x0))), S)) else (
    if x2 = (1 : Int32) then (
    some ((Int32.toInt64 (cpi2s (Int64.toInt32 x0))), S)) else (
    if x2 = (2 : Int32) then (
    some ((Int32.toInt64 (Int64.toInt32 x0)), S)) else (
    some (x0, S))))
set_option maxRecDepth 100000 in
set_option maxHeartbeats 4000000 in
theorem m_X12_cut (l : Launch) (w : cpW) (A : Nat → Prop) (x0 : Int64) (x2 : Int32) (S : cpS) (r : Int64 × cpS) (h : fX12_cut x0 x2 S = some r) : cpMl l yX12_cut cX12_cut 3 ((some .long)) 0 w A [.long x0, .int x2] S r := by
  refine cpMl.of (lv := [some (.long x0), none, some (.int x2)]) (by decide) (Nat.le_of_ble_eq_true rfl) rfl (fun p e s m args below meth c C hr => ?_)
  replace C : cpCx p s m args meth c w A cX12_cut RX12 3 := C
  rw [fX12_cut] at h
  refine cj_iload_n C (i := 2) dX12_cut_0 rfl rfl ?_
  refine cj_if_ne C (tgt := 11) dX12_cut_1 rfl h (fun _ h => ?_) (fun _ h => ?_)
  · refine cj_lload_n C (i := 0) dX12_cut_4 rfl rfl ?_
    refine cj_l2i C dX12_cut_5 ?_
    refine ck_i2b C dX12_cut_6 ?_
    refine cj_i2l C dX12_cut_7 ?_
    refine cj_goto C (tgt := 35) dX12_cut_8 rfl ?_
    exact cj_lreturn C hr h dX12_cut_35
  · refine cj_iload_n C (i := 2) dX12_cut_11 rfl rfl ?_
    refine cj_iconst C (v := (1 : Int32)) dX12_cut_12 rfl ?_
    refine cj_icmp_ne C (tgt := 23) dX12_cut_13 rfl h (fun _ h => ?_) (fun _ h => ?_)
    · refine cj_lload_n C (i := 0) dX12_cut_16 rfl rfl ?_
      refine cj_l2i C dX12_cut_17 ?_
      refine ck_i2s C dX12_cut_18 ?_
      refine cj_i2l C dX12_cut_19 ?_
      refine cj_goto C (tgt := 35) dX12_cut_20 rfl ?_
      exact cj_lreturn C hr h dX12_cut_35
    · refine cj_iload_n C (i := 2) dX12_cut_23 rfl rfl ?_
      refine cj_iconst C (v := (2 : Int32)) dX12_cut_24 rfl ?_
      refine cj_icmp_ne C (tgt := 34) dX12_cut_25 rfl h (fun _ h => ?_) (fun _ h => ?_)
      · refine cj_lload_n C (i := 0) dX12_cut_28 rfl rfl ?_
        refine cj_l2i C dX12_cut_29 ?_
        refine cj_i2l C dX12_cut_30 ?_
        refine cj_goto C (tgt := 35) dX12_cut_31 rfl ?_
        exact cj_lreturn C hr h dX12_cut_35
      · refine cj_lload_n C (i := 0) dX12_cut_34 rfl rfl ?_
        exact cj_lreturn C hr h dX12_cut_35
/-! X12_numbers -/
def fX12_numbers_64 (x1 : Int32) (x3 : Int32) : Nat → Int32 → cpS → Option (Int32 × cpS)
  | 0, _, _ => none
  | n + 1, x4, S =>
    if x3 ≤ x4 then (
    some ((0 : Int32), S)) else (
    if cpIn (((40 : Int32) * x1) + x4) 160 then (
    cpLt (cpL S 173 (((40 : Int32) * x1) + x4).toNatClampNeg (0 : Int64)) fun S1 =>
    fX12_numbers_64 x1 x3 n (x4 + 1) S1) else none)
set_option maxRecDepth 100000 in
set_option maxHeartbeats 4000000 in
theorem wX12_numbers_64 (C : cpCx p s m args meth c w A cX12_numbers RX12 5) (hr : meth.sig.returnType = (some .int)) {r : Int32 × cpS} (x1 : Int32) (x3 : Int32) : ∀ (n : Nat) (x4 : Int32) (S : cpS), fX12_numbers_64 x1 x3 n x4 S = some r → cpJ p l e (cpRm 1) s m args below meth c (MQ below (va_Qi (fun x S' => (x, S') = r) (cpWorld w A) A) args s 0 0 A) w A 5 64 [some (.ref (w.2.1 150)), some (.int x1), none, some (.int x3), some (.int x4)] [] S := by
  intro n
  induction n with
  | zero => intro x4 S h; rw [fX12_numbers_64] at h; cases h
  | succ n ih =>
    intro x4 S h
    rw [fX12_numbers_64] at h
    refine cj_iload C dX12_numbers_64 rfl ?_
    refine cj_iload_n C (i := 3) dX12_numbers_66 rfl rfl ?_
    refine cj_icmp_ge C (tgt := 89) dX12_numbers_67 rfl h (fun _ h => ?_) (fun _ h => ?_)
    · refine cj_iconst C (v := (0 : Int32)) dX12_numbers_89 rfl ?_
      exact cj_ireturn C hr h dX12_numbers_90
    · refine cj_aload_n C (i := 0) dX12_numbers_70 rfl rfl ?_
      refine cj_getR C (d := 173) o_150 rfl gfX12_85 dX12_numbers_71 ?_
      refine cj_bipush C (v := (40 : Int32)) dX12_numbers_74 rfl ?_
      refine cj_iload_n C (i := 1) dX12_numbers_76 rfl rfl ?_
      refine cj_imul C dX12_numbers_77 ?_
      refine cj_iload C dX12_numbers_78 rfl ?_
      refine cj_iadd C dX12_numbers_80 ?_
      refine cj_lconst C (v := (0 : Int64)) dX12_numbers_81 rfl ?_
      refine cj_lastore C o_173 h dX12_numbers_82 (fun h => ?_)
      refine cj_lets h (fun S1 h => ?_)
      refine cj_iinc C (v := (x4 + 1)) (lv' := [some (.ref (w.2.1 150)), some (.int x1), none, some (.int x3), some (.int (x4 + 1))]) dX12_numbers_83 rfl rfl (by decide) rfl rfl ?_
      refine cj_goto C (tgt := 64) dX12_numbers_86 rfl ?_
      exact ih (x4 + 1) S1 h
def fX12_numbers (x1 : Int32) (x2 : Int32) (x3 : Int32) (S : cpS) : Option (Int32 × cpS) :=
    cpLt (cpI S 150 0 (0 : Int32)) fun S1 =>
    cpB (fX12_within (Int32.toInt64 x1) (0 : Int64) (3 : Int64) S1) fun z2 S3 =>
    if z2 = 0 then (
    some ((-2 : Int32), S3)) else (
    cpB (fX12_within (Int32.toInt64 x2) (0 : Int64) (3 : Int64) S3) fun z4 S5 =>
    if z4 = 0 then (
    some ((-2 : Int32), S5)) else (
    cpB (fX12_within (Int32.toInt64 x3) (0 : Int64) (40 : Int64) S5) fun z6 S7 =>
    if z6 = 0 then (
    some ((-3 : Int32), S7)) else (
    if cpIn x1 4 then (
    cpLt (cpI S7 171 x1.toNatClampNeg x2) fun S8 =>
    if cpIn x1 4 then (
    cpLt (cpI S8 172 x1.toNatClampNeg x3) fun S9 =>
    fX12_numbers_64 x1 x3 cpFu (0 : Int32) S9) else none) else none)))
set_option maxRecDepth 100000 in
set_option maxHeartbeats 4000000 in
theorem m_X12_numbers (l : Launch) (w : cpW) (A : Nat → Prop) (x1 : Int32) (x2 : Int32) (x3 : Int32) (S : cpS) (r : Int32 × cpS) (h : fX12_numbers x1 x2 x3 S = some r) : cpMi l yX12_numbers cX12_numbers 5 ((some .int)) 1 w A [.ref (w.2.1 150), .int x1, .int x2, .int x3] S r := by
  refine cpMi.of (lv := [some (.ref (w.2.1 150)), some (.int x1), some (.int x2), some (.int x3), none]) (by decide) (Nat.le_of_ble_eq_true rfl) rfl (fun p e s m args below meth c C hr => ?_)
  replace C : cpCx p s m args meth c w A cX12_numbers RX12 5 := C
  rw [fX12_numbers] at h
  refine cj_aload_n C (i := 0) dX12_numbers_0 rfl rfl ?_
  refine cj_iconst C (v := (0 : Int32)) dX12_numbers_1 rfl ?_
  refine cj_put C (j := 0) o_150 rfl pfX12_1 rfl rfl dX12_numbers_2 ?_
  refine cj_lets h (fun S1 h => ?_)
  refine cj_iload_n C (i := 1) dX12_numbers_5 rfl rfl ?_
  refine cj_i2l C dX12_numbers_6 ?_
  refine cj_lconst C (v := (0 : Int64)) dX12_numbers_7 rfl ?_
  refine cj_ldc2 C (v := (3 : Int64)) mw_44_8 dX12_numbers_8 ?_
  refine cj_callSi C (As := [.long (Int32.toInt64 x1), .long (0 : Int64), .long (3 : Int64)]) (rest := []) qX12_within mw_23_15 rfl rfl (Nat.le_of_ble_eq_true rfl) (by decide) dX12_numbers_11 h (fun _ _ hf => m_X12_within l w A (Int32.toInt64 x1) (0 : Int64) (3 : Int64) S1 _ hf) (fun z2 S3 h => ?_)
  refine cj_if_eq C (tgt := 29) dX12_numbers_14 rfl h (fun _ h => ?_) (fun _ h => ?_)
  · refine cj_bipush C (v := (-2 : Int32)) dX12_numbers_29 rfl ?_
    exact cj_ireturn C hr h dX12_numbers_31
  · refine cj_iload_n C (i := 2) dX12_numbers_17 rfl rfl ?_
    refine cj_i2l C dX12_numbers_18 ?_
    refine cj_lconst C (v := (0 : Int64)) dX12_numbers_19 rfl ?_
    refine cj_ldc2 C (v := (3 : Int64)) mw_44_8 dX12_numbers_20 ?_
    refine cj_callSi C (As := [.long (Int32.toInt64 x2), .long (0 : Int64), .long (3 : Int64)]) (rest := []) qX12_within mw_23_15 rfl rfl (Nat.le_of_ble_eq_true rfl) (by decide) dX12_numbers_23 h (fun _ _ hf => m_X12_within l w A (Int32.toInt64 x2) (0 : Int64) (3 : Int64) S3 _ hf) (fun z4 S5 h => ?_)
    refine cj_if_ne C (tgt := 32) dX12_numbers_26 rfl h (fun _ h => ?_) (fun _ h => ?_)
    · refine cj_bipush C (v := (-2 : Int32)) dX12_numbers_29 rfl ?_
      exact cj_ireturn C hr h dX12_numbers_31
    · refine cj_iload_n C (i := 3) dX12_numbers_32 rfl rfl ?_
      refine cj_i2l C dX12_numbers_33 ?_
      refine cj_lconst C (v := (0 : Int64)) dX12_numbers_34 rfl ?_
      refine cj_ldc2 C (v := (40 : Int64)) mw_47_0 dX12_numbers_35 ?_
      refine cj_callSi C (As := [.long (Int32.toInt64 x3), .long (0 : Int64), .long (40 : Int64)]) (rest := []) qX12_within mw_23_15 rfl rfl (Nat.le_of_ble_eq_true rfl) (by decide) dX12_numbers_38 h (fun _ _ hf => m_X12_within l w A (Int32.toInt64 x3) (0 : Int64) (40 : Int64) S5 _ hf) (fun z6 S7 h => ?_)
      refine cj_if_ne C (tgt := 47) dX12_numbers_41 rfl h (fun _ h => ?_) (fun _ h => ?_)
      · refine cj_bipush C (v := (-3 : Int32)) dX12_numbers_44 rfl ?_
        exact cj_ireturn C hr h dX12_numbers_46
      · refine cj_aload_n C (i := 0) dX12_numbers_47 rfl rfl ?_
        refine cj_getR C (d := 171) o_150 rfl gfX12_79 dX12_numbers_48 ?_
        refine cj_iload_n C (i := 1) dX12_numbers_51 rfl rfl ?_
        refine cj_iload_n C (i := 2) dX12_numbers_52 rfl rfl ?_
        refine cj_iastore C o_171 h dX12_numbers_53 (fun h => ?_)
        refine cj_lets h (fun S8 h => ?_)
        refine cj_aload_n C (i := 0) dX12_numbers_54 rfl rfl ?_
        refine cj_getR C (d := 172) o_150 rfl gfX12_82 dX12_numbers_55 ?_
        refine cj_iload_n C (i := 1) dX12_numbers_58 rfl rfl ?_
        refine cj_iload_n C (i := 3) dX12_numbers_59 rfl rfl ?_
        refine cj_iastore C o_172 h dX12_numbers_60 (fun h => ?_)
        refine cj_lets h (fun S9 h => ?_)
        refine cj_iconst C (v := (0 : Int32)) dX12_numbers_61 rfl ?_
        refine cj_istore C (lv' := [some (.ref (w.2.1 150)), some (.int x1), some (.int x2), some (.int x3), some (.int (0 : Int32))]) dX12_numbers_62 (by decide) rfl rfl ?_
        refine cj_weak C (lv' := [some (.ref (w.2.1 150)), some (.int x1), none, some (.int x3), some (.int (0 : Int32))]) (cpSub_s (cpSub_s (cpSub_n (cpSub_s (cpSub_s cpSub_nil))))) ?_
        exact wX12_numbers_64 C hr x1 x3 cpFu (0 : Int32) S9 h
/-! X12_write -/
def fX12_write (x1 : Int32) (x2 : Int32) (x3 : Int64) (S : cpS) : Option (Int64 × cpS) :=
    cpLt (cpI S 150 0 (0 : Int32)) fun S1 =>
    cpB (fX12_noTray x1 S1) fun z2 S3 =>
    if z2 = 0 then (
    if cpIn x1 4 then (
    cpB (fX12_within (Int32.toInt64 x2) (0 : Int64) (Int32.toInt64 ((S3.1 172 x1.toNatClampNeg) - (1 : Int32))) S3) fun z4 S5 =>
    if z4 = 0 then (
    some ((-7 : Int64), S5)) else (
    if cpIn x1 4 then (
    cpB (fX12_cut x3 (S5.1 171 x1.toNatClampNeg) S5) fun z6 S7 =>
    if cpIn (((40 : Int32) * x1) + x2) 160 then (
    cpLt (cpL S7 173 (((40 : Int32) * x1) + x2).toNatClampNeg z6) fun S8 =>
    if cpIn (((40 : Int32) * x1) + x2) 160 then (
    some ((S8.2 173 (((40 : Int32) * x1) + x2).toNatClampNeg), S8)) else none) else none) else none)) else none) else (
    some ((Int32.toInt64 z2), S3))
set_option maxRecDepth 100000 in
set_option maxHeartbeats 4000000 in
theorem m_X12_write (l : Launch) (w : cpW) (A : Nat → Prop) (x1 : Int32) (x2 : Int32) (x3 : Int64) (S : cpS) (r : Int64 × cpS) (h : fX12_write x1 x2 x3 S = some r) : cpMl l yX12_write cX12_write 6 ((some .long)) 2 w A [.ref (w.2.1 150), .int x1, .int x2, .long x3] S r := by
  refine cpMl.of (lv := [some (.ref (w.2.1 150)), some (.int x1), some (.int x2), some (.long x3), none, none]) (by decide) (Nat.le_of_ble_eq_true rfl) rfl (fun p e s m args below meth c C hr => ?_)
  replace C : cpCx p s m args meth c w A cX12_write RX12 6 := C
  rw [fX12_write] at h
  refine cj_aload_n C (i := 0) dX12_write_0 rfl rfl ?_
  refine cj_iconst C (v := (0 : Int32)) dX12_write_1 rfl ?_
  refine cj_put C (j := 0) o_150 rfl pfX12_1 rfl rfl dX12_write_2 ?_
  refine cj_lets h (fun S1 h => ?_)
  refine cj_aload_n C (i := 0) dX12_write_5 rfl rfl ?_
  refine cj_iload_n C (i := 1) dX12_write_6 rfl rfl ?_
  refine cj_callVi C (As := [.int x1]) (rest := []) qX12_noTray mw_44_10 o_150 rfl rfl rfl (Nat.le_of_ble_eq_true rfl) (by decide) dX12_write_7 h (fun _ _ hf => m_X12_noTray l w A x1 S1 _ hf) (fun z2 S3 h => ?_)
  refine cj_istore C (lv' := [some (.ref (w.2.1 150)), some (.int x1), some (.int x2), some (.long x3), none, some (.int z2)]) dX12_write_10 (by decide) rfl rfl ?_
  refine cj_iload C dX12_write_12 rfl ?_
  refine cj_if_eq C (tgt := 21) dX12_write_14 rfl h (fun _ h => ?_) (fun _ h => ?_)
  · refine cj_iload_n C (i := 2) dX12_write_21 rfl rfl ?_
    refine cj_i2l C dX12_write_22 ?_
    refine cj_lconst C (v := (0 : Int64)) dX12_write_23 rfl ?_
    refine cj_aload_n C (i := 0) dX12_write_24 rfl rfl ?_
    refine cj_getR C (d := 172) o_150 rfl gfX12_82 dX12_write_25 ?_
    refine cj_iload_n C (i := 1) dX12_write_28 rfl rfl ?_
    refine cj_iaload C o_172 h dX12_write_29 (fun h => ?_)
    refine cj_iconst C (v := (1 : Int32)) dX12_write_30 rfl ?_
    refine cj_isub C dX12_write_31 ?_
    refine cj_i2l C dX12_write_32 ?_
    refine cj_callSi C (As := [.long (Int32.toInt64 x2), .long (0 : Int64), .long (Int32.toInt64 ((S3.1 172 x1.toNatClampNeg) - (1 : Int32)))]) (rest := []) qX12_within mw_23_15 rfl rfl (Nat.le_of_ble_eq_true rfl) (by decide) dX12_write_33 h (fun _ _ hf => m_X12_within l w A (Int32.toInt64 x2) (0 : Int64) (Int32.toInt64 ((S3.1 172 x1.toNatClampNeg) - (1 : Int32))) S3 _ hf) (fun z4 S5 h => ?_)
    refine cj_if_ne C (tgt := 43) dX12_write_36 rfl h (fun _ h => ?_) (fun _ h => ?_)
    · refine cj_ldc2 C (v := (-7 : Int64)) mw_76_20 dX12_write_39 ?_
      exact cj_lreturn C hr h dX12_write_42
    · refine cj_aload_n C (i := 0) dX12_write_43 rfl rfl ?_
      refine cj_getR C (d := 173) o_150 rfl gfX12_85 dX12_write_44 ?_
      refine cj_bipush C (v := (40 : Int32)) dX12_write_47 rfl ?_
      refine cj_iload_n C (i := 1) dX12_write_49 rfl rfl ?_
      refine cj_imul C dX12_write_50 ?_
      refine cj_iload_n C (i := 2) dX12_write_51 rfl rfl ?_
      refine cj_iadd C dX12_write_52 ?_
      refine cj_lload_n C (i := 3) dX12_write_53 rfl rfl ?_
      refine cj_aload_n C (i := 0) dX12_write_54 rfl rfl ?_
      refine cj_getR C (d := 171) o_150 rfl gfX12_79 dX12_write_55 ?_
      refine cj_iload_n C (i := 1) dX12_write_58 rfl rfl ?_
      refine cj_iaload C o_171 h dX12_write_59 (fun h => ?_)
      refine cj_callSl C (As := [.long x3, .int (S5.1 171 x1.toNatClampNeg)]) (rest := [.int (((40 : Int32) * x1) + x2), .ref (w.2.1 173)]) qX12_cut mw_76_21 rfl rfl (Nat.le_of_ble_eq_true rfl) (by decide) dX12_write_60 h (fun _ _ hf => m_X12_cut l w A x3 (S5.1 171 x1.toNatClampNeg) S5 _ hf) (fun z6 S7 h => ?_)
      refine cj_lastore C o_173 h dX12_write_63 (fun h => ?_)
      refine cj_lets h (fun S8 h => ?_)
      refine cj_aload_n C (i := 0) dX12_write_64 rfl rfl ?_
      refine cj_getR C (d := 173) o_150 rfl gfX12_85 dX12_write_65 ?_
      refine cj_bipush C (v := (40 : Int32)) dX12_write_68 rfl ?_
      refine cj_iload_n C (i := 1) dX12_write_70 rfl rfl ?_
      refine cj_imul C dX12_write_71 ?_
      refine cj_iload_n C (i := 2) dX12_write_72 rfl rfl ?_
      refine cj_iadd C dX12_write_73 ?_
      refine cj_laload C o_173 h dX12_write_74 (fun h => ?_)
      exact cj_lreturn C hr h dX12_write_75
  · refine cj_iload C dX12_write_17 rfl ?_
    refine cj_i2l C dX12_write_19 ?_
    exact cj_lreturn C hr h dX12_write_20
/-! X12_lists -/
def fX12_lists_90 (x1 : Int32) (x2 : Int32) (x6 : Int32) : Nat → Int32 → cpS → Option (Int32 × cpS)
  | 0, _, _ => none
  | n + 1, x7, S =>
    if x6 ≤ x7 then (
    some (x6, S)) else (
    cpB (fX12_carryingAt x2 x7 S) fun z1 S2 =>
    if cpIn x1 4 then (
    cpB (fX12_cut (Int32.toInt64 z1) (S2.1 171 x1.toNatClampNeg) S2) fun z3 S4 =>
    if cpIn (((40 : Int32) * x1) + x7) 160 then (
    cpLt (cpL S4 173 (((40 : Int32) * x1) + x7).toNatClampNeg z3) fun S5 =>
    fX12_lists_90 x1 x2 x6 n (x7 + 1) S5) else none) else none)
set_option maxRecDepth 100000 in
set_option maxHeartbeats 4000000 in
theorem wX12_lists_90 (C : cpCx p s m args meth c w A cX12_lists RX12 8) (hr : meth.sig.returnType = (some .int)) {r : Int32 × cpS} (x1 : Int32) (x2 : Int32) (x6 : Int32) : ∀ (n : Nat) (x7 : Int32) (S : cpS), fX12_lists_90 x1 x2 x6 n x7 S = some r → cpJ p l e (cpRm 7) s m args below meth c (MQ below (va_Qi (fun x S' => (x, S') = r) (cpWorld w A) A) args s 0 0 A) w A 8 90 [some (.ref (w.2.1 150)), some (.int x1), some (.int x2), none, none, none, some (.int x6), some (.int x7)] [] S := by
  intro n
  induction n with
  | zero => intro x7 S h; rw [fX12_lists_90] at h; cases h
  | succ n ih =>
    intro x7 S h
    rw [fX12_lists_90] at h
    refine cj_iload C dX12_lists_90 rfl ?_
    refine cj_iload C dX12_lists_92 rfl ?_
    refine cj_icmp_ge C (tgt := 132) dX12_lists_94 rfl h (fun _ h => ?_) (fun _ h => ?_)
    · refine cj_iload C dX12_lists_132 rfl ?_
      exact cj_ireturn C hr h dX12_lists_134
    · refine cj_aload_n C (i := 0) dX12_lists_97 rfl rfl ?_
      refine cj_getR C (d := 173) o_150 rfl gfX12_85 dX12_lists_98 ?_
      refine cj_bipush C (v := (40 : Int32)) dX12_lists_101 rfl ?_
      refine cj_iload_n C (i := 1) dX12_lists_103 rfl rfl ?_
      refine cj_imul C dX12_lists_104 ?_
      refine cj_iload C dX12_lists_105 rfl ?_
      refine cj_iadd C dX12_lists_107 ?_
      refine cj_aload_n C (i := 0) dX12_lists_108 rfl rfl ?_
      refine cj_iload_n C (i := 2) dX12_lists_109 rfl rfl ?_
      refine cj_iload C dX12_lists_110 rfl ?_
      refine cj_callVi C (As := [.int x2, .int x7]) (rest := [.int (((40 : Int32) * x1) + x7), .ref (w.2.1 173)]) qX12_carryingAt mw_50_14 o_150 rfl rfl rfl (Nat.le_of_ble_eq_true rfl) (by decide) dX12_lists_112 h (fun _ _ hf => m_X12_carryingAt l w A x2 x7 S _ hf) (fun z1 S2 h => ?_)
      refine cj_i2l C dX12_lists_115 ?_
      refine cj_aload_n C (i := 0) dX12_lists_116 rfl rfl ?_
      refine cj_getR C (d := 171) o_150 rfl gfX12_79 dX12_lists_117 ?_
      refine cj_iload_n C (i := 1) dX12_lists_120 rfl rfl ?_
      refine cj_iaload C o_171 h dX12_lists_121 (fun h => ?_)
      refine cj_callSl C (As := [.long (Int32.toInt64 z1), .int (S2.1 171 x1.toNatClampNeg)]) (rest := [.int (((40 : Int32) * x1) + x7), .ref (w.2.1 173)]) qX12_cut mw_76_21 rfl rfl (Nat.le_of_ble_eq_true rfl) (by decide) dX12_lists_122 h (fun _ _ hf => m_X12_cut l w A (Int32.toInt64 z1) (S2.1 171 x1.toNatClampNeg) S2 _ hf) (fun z3 S4 h => ?_)
      refine cj_lastore C o_173 h dX12_lists_125 (fun h => ?_)
      refine cj_lets h (fun S5 h => ?_)
      refine cj_iinc C (v := (x7 + 1)) (lv' := [some (.ref (w.2.1 150)), some (.int x1), some (.int x2), none, none, none, some (.int x6), some (.int (x7 + 1))]) dX12_lists_126 rfl rfl (by decide) rfl rfl ?_
      refine cj_goto C (tgt := 90) dX12_lists_129 rfl ?_
      exact ih (x7 + 1) S5 h
def fX12_lists (x1 : Int32) (x2 : Int32) (x3 : Int32) (S : cpS) : Option (Int32 × cpS) :=
    cpLt (cpI S 150 0 (0 : Int32)) fun S1 =>
    cpB (fX12_within (Int32.toInt64 x1) (0 : Int64) (3 : Int64) S1) fun z2 S3 =>
    if z2 = 0 then (
    some ((-2 : Int32), S3)) else (
    cpB (fX12_noCoin x2 x3 S3) fun z4 S5 =>
    if z4 = 0 then (
    cpB (fX12_noTray x1 S5) fun z6 S7 =>
    if z6 = 0 then (
    cpB (fX12_laysStill x2 x3 S7) fun z8 S9 =>
    if z8 = (268435456 : Int32) then (
    some ((-5 : Int32), S9)) else (
    if cpIn x1 4 then (
    if (S9.1 172 x1.toNatClampNeg) ≤ z8 then (
    if cpIn x1 4 then (
    cpLt (S9.1 172 x1.toNatClampNeg) fun y10 =>
    fX12_lists_90 x1 x2 y10 cpFu (0 : Int32) S9) else none) else (
    fX12_lists_90 x1 x2 z8 cpFu (0 : Int32) S9)) else none)) else (
    some (z6, S7))) else (
    some ((-2 : Int32), S5)))
set_option maxRecDepth 100000 in
set_option maxHeartbeats 4000000 in
theorem m_X12_lists (l : Launch) (w : cpW) (A : Nat → Prop) (x1 : Int32) (x2 : Int32) (x3 : Int32) (S : cpS) (r : Int32 × cpS) (h : fX12_lists x1 x2 x3 S = some r) : cpMi l yX12_lists cX12_lists 8 ((some .int)) 7 w A [.ref (w.2.1 150), .int x1, .int x2, .int x3] S r := by
  refine cpMi.of (lv := [some (.ref (w.2.1 150)), some (.int x1), some (.int x2), some (.int x3), none, none, none, none]) (by decide) (Nat.le_of_ble_eq_true rfl) rfl (fun p e s m args below meth c C hr => ?_)
  replace C : cpCx p s m args meth c w A cX12_lists RX12 8 := C
  rw [fX12_lists] at h
  refine cj_aload_n C (i := 0) dX12_lists_0 rfl rfl ?_
  refine cj_iconst C (v := (0 : Int32)) dX12_lists_1 rfl ?_
  refine cj_put C (j := 0) o_150 rfl pfX12_1 rfl rfl dX12_lists_2 ?_
  refine cj_lets h (fun S1 h => ?_)
  refine cj_iload_n C (i := 1) dX12_lists_5 rfl rfl ?_
  refine cj_i2l C dX12_lists_6 ?_
  refine cj_lconst C (v := (0 : Int64)) dX12_lists_7 rfl ?_
  refine cj_ldc2 C (v := (3 : Int64)) mw_44_8 dX12_lists_8 ?_
  refine cj_callSi C (As := [.long (Int32.toInt64 x1), .long (0 : Int64), .long (3 : Int64)]) (rest := []) qX12_within mw_23_15 rfl rfl (Nat.le_of_ble_eq_true rfl) (by decide) dX12_lists_11 h (fun _ _ hf => m_X12_within l w A (Int32.toInt64 x1) (0 : Int64) (3 : Int64) S1 _ hf) (fun z2 S3 h => ?_)
  refine cj_if_eq C (tgt := 26) dX12_lists_14 rfl h (fun _ h => ?_) (fun _ h => ?_)
  · refine cj_bipush C (v := (-2 : Int32)) dX12_lists_26 rfl ?_
    exact cj_ireturn C hr h dX12_lists_28
  · refine cj_aload_n C (i := 0) dX12_lists_17 rfl rfl ?_
    refine cj_iload_n C (i := 2) dX12_lists_18 rfl rfl ?_
    refine cj_iload_n C (i := 3) dX12_lists_19 rfl rfl ?_
    refine cj_callVi C (As := [.int x2, .int x3]) (rest := []) qX12_noCoin mw_49_6 o_150 rfl rfl rfl (Nat.le_of_ble_eq_true rfl) (by decide) dX12_lists_20 h (fun _ _ hf => m_X12_noCoin l w A x2 x3 S3 _ hf) (fun z4 S5 h => ?_)
    refine cj_if_eq C (tgt := 29) dX12_lists_23 rfl h (fun _ h => ?_) (fun _ h => ?_)
    · refine cj_aload_n C (i := 0) dX12_lists_29 rfl rfl ?_
      refine cj_iload_n C (i := 1) dX12_lists_30 rfl rfl ?_
      refine cj_callVi C (As := [.int x1]) (rest := []) qX12_noTray mw_44_10 o_150 rfl rfl rfl (Nat.le_of_ble_eq_true rfl) (by decide) dX12_lists_31 h (fun _ _ hf => m_X12_noTray l w A x1 S5 _ hf) (fun z6 S7 h => ?_)
      refine cj_istore C (lv' := [some (.ref (w.2.1 150)), some (.int x1), some (.int x2), some (.int x3), some (.int z6), none, none, none]) dX12_lists_34 (by decide) rfl rfl ?_
      refine cj_iload C dX12_lists_36 rfl ?_
      refine cj_if_eq C (tgt := 44) dX12_lists_38 rfl h (fun _ h => ?_) (fun _ h => ?_)
      · refine cj_aload_n C (i := 0) dX12_lists_44 rfl rfl ?_
        refine cj_iload_n C (i := 2) dX12_lists_45 rfl rfl ?_
        refine cj_iload_n C (i := 3) dX12_lists_46 rfl rfl ?_
        refine cj_callVi C (As := [.int x2, .int x3]) (rest := []) qX12_laysStill mw_49_10 o_150 rfl rfl rfl (Nat.le_of_ble_eq_true rfl) (by decide) dX12_lists_47 h (fun _ _ hf => m_X12_laysStill l w A x2 x3 S7 _ hf) (fun z8 S9 h => ?_)
        refine cj_istore C (lv' := [some (.ref (w.2.1 150)), some (.int x1), some (.int x2), some (.int x3), some (.int z6), some (.int z8), none, none]) dX12_lists_50 (by decide) rfl rfl ?_
        refine cj_iload C dX12_lists_52 rfl ?_
        refine cj_ldcw C (v := (268435456 : Int32)) mw_49_14 dX12_lists_54 ?_
        refine cj_icmp_ne C (tgt := 63) dX12_lists_57 rfl h (fun _ h => ?_) (fun _ h => ?_)
        · refine cj_bipush C (v := (-5 : Int32)) dX12_lists_60 rfl ?_
          exact cj_ireturn C hr h dX12_lists_62
        · refine cj_iload C dX12_lists_63 rfl ?_
          refine cj_aload_n C (i := 0) dX12_lists_65 rfl rfl ?_
          refine cj_getR C (d := 172) o_150 rfl gfX12_82 dX12_lists_66 ?_
          refine cj_iload_n C (i := 1) dX12_lists_69 rfl rfl ?_
          refine cj_iaload C o_172 h dX12_lists_70 (fun h => ?_)
          refine cj_icmp_ge C (tgt := 79) dX12_lists_71 rfl h (fun _ h => ?_) (fun _ h => ?_)
          · refine cj_aload_n C (i := 0) dX12_lists_79 rfl rfl ?_
            refine cj_getR C (d := 172) o_150 rfl gfX12_82 dX12_lists_80 ?_
            refine cj_iload_n C (i := 1) dX12_lists_83 rfl rfl ?_
            refine cj_iaload C o_172 h dX12_lists_84 (fun h => ?_)
            refine cj_let h (fun y10 h => ?_)
            refine cj_istore C (lv' := [some (.ref (w.2.1 150)), some (.int x1), some (.int x2), some (.int x3), some (.int z6), some (.int z8), some (.int y10), none]) dX12_lists_85 (by decide) rfl rfl ?_
            refine cj_iconst C (v := (0 : Int32)) dX12_lists_87 rfl ?_
            refine cj_istore C (lv' := [some (.ref (w.2.1 150)), some (.int x1), some (.int x2), some (.int x3), some (.int z6), some (.int z8), some (.int y10), some (.int (0 : Int32))]) dX12_lists_88 (by decide) rfl rfl ?_
            refine cj_weak C (lv' := [some (.ref (w.2.1 150)), some (.int x1), some (.int x2), none, none, none, some (.int y10), some (.int (0 : Int32))]) (cpSub_s (cpSub_s (cpSub_s (cpSub_n (cpSub_n (cpSub_n (cpSub_s (cpSub_s cpSub_nil)))))))) ?_
            exact wX12_lists_90 C hr x1 x2 y10 cpFu (0 : Int32) S9 h
          · refine cj_iload C dX12_lists_74 rfl ?_
            refine cj_goto C (tgt := 85) dX12_lists_76 rfl ?_
            refine cj_istore C (lv' := [some (.ref (w.2.1 150)), some (.int x1), some (.int x2), some (.int x3), some (.int z6), some (.int z8), some (.int z8), none]) dX12_lists_85 (by decide) rfl rfl ?_
            refine cj_iconst C (v := (0 : Int32)) dX12_lists_87 rfl ?_
            refine cj_istore C (lv' := [some (.ref (w.2.1 150)), some (.int x1), some (.int x2), some (.int x3), some (.int z6), some (.int z8), some (.int z8), some (.int (0 : Int32))]) dX12_lists_88 (by decide) rfl rfl ?_
            refine cj_weak C (lv' := [some (.ref (w.2.1 150)), some (.int x1), some (.int x2), none, none, none, some (.int z8), some (.int (0 : Int32))]) (cpSub_s (cpSub_s (cpSub_s (cpSub_n (cpSub_n (cpSub_n (cpSub_s (cpSub_s cpSub_nil)))))))) ?_
            exact wX12_lists_90 C hr x1 x2 z8 cpFu (0 : Int32) S9 h
      · refine cj_iload C dX12_lists_41 rfl ?_
        exact cj_ireturn C hr h dX12_lists_43
    · refine cj_bipush C (v := (-2 : Int32)) dX12_lists_26 rfl ?_
      exact cj_ireturn C hr h dX12_lists_28
/-! X12_image -/
def fX12_image_20 (x1 : Int32) : Nat → Int32 → cpS → Option (Int32 × cpS)
  | 0, _, _ => none
  | n + 1, x2, S =>
    if (1162 : Int32) ≤ x2 then (
    if cpIn x1 2 then (
    cpLt (cpI S 152 x1.toNatClampNeg (vp_nar .boolean (1 : Int32))) fun S1 =>
    some ((0 : Int32), S1)) else none) else (
    if cpIn x2 3486 then (
    if cpIn (((1162 : Int32) * (x1 + (1 : Int32))) + x2) 3486 then (
    cpLt (cpI S 151 (((1162 : Int32) * (x1 + (1 : Int32))) + x2).toNatClampNeg (S.1 151 x2.toNatClampNeg)) fun S2 =>
    fX12_image_20 x1 n (x2 + 1) S2) else none) else none)
set_option maxRecDepth 100000 in
set_option maxHeartbeats 4000000 in
theorem wX12_image_20 (C : cpCx p s m args meth c w A cX12_image RX12 3) (hr : meth.sig.returnType = (some .int)) {r : Int32 × cpS} (x1 : Int32) : ∀ (n : Nat) (x2 : Int32) (S : cpS), fX12_image_20 x1 n x2 S = some r → cpJ p l e (cpRm 1) s m args below meth c (MQ below (va_Qi (fun x S' => (x, S') = r) (cpWorld w A) A) args s 0 0 A) w A 3 20 [some (.ref (w.2.1 150)), some (.int x1), some (.int x2)] [] S := by
  intro n
  induction n with
  | zero => intro x2 S h; rw [fX12_image_20] at h; cases h
  | succ n ih =>
    intro x2 S h
    rw [fX12_image_20] at h
    refine cj_iload_n C (i := 2) dX12_image_20 rfl rfl ?_
    refine cj_sipush C (v := (1162 : Int32)) dX12_image_21 rfl ?_
    refine cj_icmp_ge C (tgt := 53) dX12_image_24 rfl h (fun _ h => ?_) (fun _ h => ?_)
    · refine cj_aload_n C (i := 0) dX12_image_53 rfl rfl ?_
      refine cj_getR C (d := 152) o_150 rfl gfX12_17 dX12_image_54 ?_
      refine cj_iload_n C (i := 1) dX12_image_57 rfl rfl ?_
      refine cj_iconst C (v := (1 : Int32)) dX12_image_58 rfl ?_
      refine cj_bastore C o_152 h dX12_image_59 (fun h => ?_)
      refine cj_lets h (fun S1 h => ?_)
      refine cj_iconst C (v := (0 : Int32)) dX12_image_60 rfl ?_
      exact cj_ireturn C hr h dX12_image_61
    · refine cj_aload_n C (i := 0) dX12_image_27 rfl rfl ?_
      refine cj_getR C (d := 151) o_150 rfl gfX12_13 dX12_image_28 ?_
      refine cj_sipush C (v := (1162 : Int32)) dX12_image_31 rfl ?_
      refine cj_iload_n C (i := 1) dX12_image_34 rfl rfl ?_
      refine cj_iconst C (v := (1 : Int32)) dX12_image_35 rfl ?_
      refine cj_iadd C dX12_image_36 ?_
      refine cj_imul C dX12_image_37 ?_
      refine cj_iload_n C (i := 2) dX12_image_38 rfl rfl ?_
      refine cj_iadd C dX12_image_39 ?_
      refine cj_aload_n C (i := 0) dX12_image_40 rfl rfl ?_
      refine cj_getR C (d := 151) o_150 rfl gfX12_13 dX12_image_41 ?_
      refine cj_iload_n C (i := 2) dX12_image_44 rfl rfl ?_
      refine cj_iaload C o_151 h dX12_image_45 (fun h => ?_)
      refine cj_iastore C o_151 h dX12_image_46 (fun h => ?_)
      refine cj_lets h (fun S2 h => ?_)
      refine cj_iinc C (v := (x2 + 1)) (lv' := [some (.ref (w.2.1 150)), some (.int x1), some (.int (x2 + 1))]) dX12_image_47 rfl rfl (by decide) rfl rfl ?_
      refine cj_goto C (tgt := 20) dX12_image_50 rfl ?_
      exact ih (x2 + 1) S2 h
def fX12_image (x1 : Int32) (S : cpS) : Option (Int32 × cpS) :=
    cpLt (cpI S 150 0 (0 : Int32)) fun S1 =>
    cpB (fX12_within (Int32.toInt64 x1) (0 : Int64) (1 : Int64) S1) fun z2 S3 =>
    if z2 = 0 then (
    some ((-2 : Int32), S3)) else (
    fX12_image_20 x1 cpFu (0 : Int32) S3)
set_option maxRecDepth 100000 in
set_option maxHeartbeats 4000000 in
theorem m_X12_image (l : Launch) (w : cpW) (A : Nat → Prop) (x1 : Int32) (S : cpS) (r : Int32 × cpS) (h : fX12_image x1 S = some r) : cpMi l yX12_image cX12_image 3 ((some .int)) 1 w A [.ref (w.2.1 150), .int x1] S r := by
  refine cpMi.of (lv := [some (.ref (w.2.1 150)), some (.int x1), none]) (by decide) (Nat.le_of_ble_eq_true rfl) rfl (fun p e s m args below meth c C hr => ?_)
  replace C : cpCx p s m args meth c w A cX12_image RX12 3 := C
  rw [fX12_image] at h
  refine cj_aload_n C (i := 0) dX12_image_0 rfl rfl ?_
  refine cj_iconst C (v := (0 : Int32)) dX12_image_1 rfl ?_
  refine cj_put C (j := 0) o_150 rfl pfX12_1 rfl rfl dX12_image_2 ?_
  refine cj_lets h (fun S1 h => ?_)
  refine cj_iload_n C (i := 1) dX12_image_5 rfl rfl ?_
  refine cj_i2l C dX12_image_6 ?_
  refine cj_lconst C (v := (0 : Int64)) dX12_image_7 rfl ?_
  refine cj_lconst C (v := (1 : Int64)) dX12_image_8 rfl ?_
  refine cj_callSi C (As := [.long (Int32.toInt64 x1), .long (0 : Int64), .long (1 : Int64)]) (rest := []) qX12_within mw_23_15 rfl rfl (Nat.le_of_ble_eq_true rfl) (by decide) dX12_image_9 h (fun _ _ hf => m_X12_within l w A (Int32.toInt64 x1) (0 : Int64) (1 : Int64) S1 _ hf) (fun z2 S3 h => ?_)
  refine cj_if_ne C (tgt := 18) dX12_image_12 rfl h (fun _ h => ?_) (fun _ h => ?_)
  · refine cj_bipush C (v := (-2 : Int32)) dX12_image_15 rfl ?_
    exact cj_ireturn C hr h dX12_image_17
  · refine cj_iconst C (v := (0 : Int32)) dX12_image_18 rfl ?_
    refine cj_istore_n C (i := 2) (lv' := [some (.ref (w.2.1 150)), some (.int x1), some (.int (0 : Int32))]) dX12_image_19 rfl (by decide) rfl rfl ?_
    exact wX12_image_20 C hr x1 cpFu (0 : Int32) S3 h
/-! X12_restore -/
def fX12_restore_32 (x1 : Int32) : Nat → Int32 → cpS → Option (Int32 × cpS)
  | 0, _, _ => none
  | n + 1, x2, S =>
    if (1162 : Int32) ≤ x2 then (
    cpLt (cpI S 151 80 (0 : Int32)) fun S1 =>
    some ((0 : Int32), S1)) else (
    if cpIn (((1162 : Int32) * (x1 + (1 : Int32))) + x2) 3486 then (
    if cpIn x2 3486 then (
    cpLt (cpI S 151 x2.toNatClampNeg (S.1 151 (((1162 : Int32) * (x1 + (1 : Int32))) + x2).toNatClampNeg)) fun S2 =>
    fX12_restore_32 x1 n (x2 + 1) S2) else none) else none)
set_option maxRecDepth 100000 in
set_option maxHeartbeats 4000000 in
theorem wX12_restore_32 (C : cpCx p s m args meth c w A cX12_restore RX12 3) (hr : meth.sig.returnType = (some .int)) {r : Int32 × cpS} (x1 : Int32) : ∀ (n : Nat) (x2 : Int32) (S : cpS), fX12_restore_32 x1 n x2 S = some r → cpJ p l e (cpRm 1) s m args below meth c (MQ below (va_Qi (fun x S' => (x, S') = r) (cpWorld w A) A) args s 0 0 A) w A 3 32 [some (.ref (w.2.1 150)), some (.int x1), some (.int x2)] [] S := by
  intro n
  induction n with
  | zero => intro x2 S h; rw [fX12_restore_32] at h; cases h
  | succ n ih =>
    intro x2 S h
    rw [fX12_restore_32] at h
    refine cj_iload_n C (i := 2) dX12_restore_32 rfl rfl ?_
    refine cj_sipush C (v := (1162 : Int32)) dX12_restore_33 rfl ?_
    refine cj_icmp_ge C (tgt := 65) dX12_restore_36 rfl h (fun _ h => ?_) (fun _ h => ?_)
    · refine cj_aload_n C (i := 0) dX12_restore_65 rfl rfl ?_
      refine cj_getR C (d := 151) o_150 rfl gfX12_13 dX12_restore_66 ?_
      refine cj_bipush C (v := (80 : Int32)) dX12_restore_69 rfl ?_
      refine cj_iconst C (v := (0 : Int32)) dX12_restore_71 rfl ?_
      refine cj_iastoreC C (j := 80) o_151 (by decide) (by decide) dX12_restore_72 ?_
      refine cj_lets h (fun S1 h => ?_)
      refine cj_iconst C (v := (0 : Int32)) dX12_restore_73 rfl ?_
      exact cj_ireturn C hr h dX12_restore_74
    · refine cj_aload_n C (i := 0) dX12_restore_39 rfl rfl ?_
      refine cj_getR C (d := 151) o_150 rfl gfX12_13 dX12_restore_40 ?_
      refine cj_iload_n C (i := 2) dX12_restore_43 rfl rfl ?_
      refine cj_aload_n C (i := 0) dX12_restore_44 rfl rfl ?_
      refine cj_getR C (d := 151) o_150 rfl gfX12_13 dX12_restore_45 ?_
      refine cj_sipush C (v := (1162 : Int32)) dX12_restore_48 rfl ?_
      refine cj_iload_n C (i := 1) dX12_restore_51 rfl rfl ?_
      refine cj_iconst C (v := (1 : Int32)) dX12_restore_52 rfl ?_
      refine cj_iadd C dX12_restore_53 ?_
      refine cj_imul C dX12_restore_54 ?_
      refine cj_iload_n C (i := 2) dX12_restore_55 rfl rfl ?_
      refine cj_iadd C dX12_restore_56 ?_
      refine cj_iaload C o_151 h dX12_restore_57 (fun h => ?_)
      refine cj_iastore C o_151 h dX12_restore_58 (fun h => ?_)
      refine cj_lets h (fun S2 h => ?_)
      refine cj_iinc C (v := (x2 + 1)) (lv' := [some (.ref (w.2.1 150)), some (.int x1), some (.int (x2 + 1))]) dX12_restore_59 rfl rfl (by decide) rfl rfl ?_
      refine cj_goto C (tgt := 32) dX12_restore_62 rfl ?_
      exact ih (x2 + 1) S2 h
def fX12_restore (x1 : Int32) (S : cpS) : Option (Int32 × cpS) :=
    cpLt (cpI S 150 0 (0 : Int32)) fun S1 =>
    cpB (fX12_within (Int32.toInt64 x1) (0 : Int64) (1 : Int64) S1) fun z2 S3 =>
    if z2 = 0 then (
    some ((-2 : Int32), S3)) else (
    if cpIn x1 2 then (
    if (S3.1 152 x1.toNatClampNeg) = 0 then (
    some ((-5 : Int32), S3)) else (
    fX12_restore_32 x1 cpFu (0 : Int32) S3)) else none)
set_option maxRecDepth 100000 in
set_option maxHeartbeats 4000000 in
theorem m_X12_restore (l : Launch) (w : cpW) (A : Nat → Prop) (x1 : Int32) (S : cpS) (r : Int32 × cpS) (h : fX12_restore x1 S = some r) : cpMi l yX12_restore cX12_restore 3 ((some .int)) 1 w A [.ref (w.2.1 150), .int x1] S r := by
  refine cpMi.of (lv := [some (.ref (w.2.1 150)), some (.int x1), none]) (by decide) (Nat.le_of_ble_eq_true rfl) rfl (fun p e s m args below meth c C hr => ?_)
  replace C : cpCx p s m args meth c w A cX12_restore RX12 3 := C
  rw [fX12_restore] at h
  refine cj_aload_n C (i := 0) dX12_restore_0 rfl rfl ?_
  refine cj_iconst C (v := (0 : Int32)) dX12_restore_1 rfl ?_
  refine cj_put C (j := 0) o_150 rfl pfX12_1 rfl rfl dX12_restore_2 ?_
  refine cj_lets h (fun S1 h => ?_)
  refine cj_iload_n C (i := 1) dX12_restore_5 rfl rfl ?_
  refine cj_i2l C dX12_restore_6 ?_
  refine cj_lconst C (v := (0 : Int64)) dX12_restore_7 rfl ?_
  refine cj_lconst C (v := (1 : Int64)) dX12_restore_8 rfl ?_
  refine cj_callSi C (As := [.long (Int32.toInt64 x1), .long (0 : Int64), .long (1 : Int64)]) (rest := []) qX12_within mw_23_15 rfl rfl (Nat.le_of_ble_eq_true rfl) (by decide) dX12_restore_9 h (fun _ _ hf => m_X12_within l w A (Int32.toInt64 x1) (0 : Int64) (1 : Int64) S1 _ hf) (fun z2 S3 h => ?_)
  refine cj_if_ne C (tgt := 18) dX12_restore_12 rfl h (fun _ h => ?_) (fun _ h => ?_)
  · refine cj_bipush C (v := (-2 : Int32)) dX12_restore_15 rfl ?_
    exact cj_ireturn C hr h dX12_restore_17
  · refine cj_aload_n C (i := 0) dX12_restore_18 rfl rfl ?_
    refine cj_getR C (d := 152) o_150 rfl gfX12_17 dX12_restore_19 ?_
    refine cj_iload_n C (i := 1) dX12_restore_22 rfl rfl ?_
    refine cj_baload C o_152 h dX12_restore_23 (fun h => ?_)
    refine cj_if_ne C (tgt := 30) dX12_restore_24 rfl h (fun _ h => ?_) (fun _ h => ?_)
    · refine cj_bipush C (v := (-5 : Int32)) dX12_restore_27 rfl ?_
      exact cj_ireturn C hr h dX12_restore_29
    · refine cj_iconst C (v := (0 : Int32)) dX12_restore_30 rfl ?_
      refine cj_istore_n C (i := 2) (lv' := [some (.ref (w.2.1 150)), some (.int x1), some (.int (0 : Int32))]) dX12_restore_31 rfl (by decide) rfl rfl ?_
      exact wX12_restore_32 C hr x1 cpFu (0 : Int32) S3 h
/-! X12_quarrelMany -/
def fX12_quarrelMany_4 : Nat → Int32 → Int32 → cpS → Option (Int32 × cpS)
  | 0, _, _, _ => none
  | n + 1, x1, x2, S =>
    if (S.1 151 3) ≤ x2 then (
    some ((x1 / (2 : Int32)), S)) else (
    if cpIn ((70 : Int32) + x2) 3486 then (
    cpB (fX12_bitsOf (S.1 151 ((70 : Int32) + x2).toNatClampNeg) S) fun z1 S2 =>
    cpLt (x1 + z1) fun y3 =>
    fX12_quarrelMany_4 n y3 (x2 + 1) S2) else none)
set_option maxRecDepth 100000 in
set_option maxHeartbeats 4000000 in
theorem wX12_quarrelMany_4 (C : cpCx p s m args meth c w A cX12_quarrelMany RX12 3) (hr : meth.sig.returnType = (some .int)) {r : Int32 × cpS} : ∀ (n : Nat) (x1 : Int32) (x2 : Int32) (S : cpS), fX12_quarrelMany_4 n x1 x2 S = some r → cpJ p l e (cpRm 1) s m args below meth c (MQ below (va_Qi (fun x S' => (x, S') = r) (cpWorld w A) A) args s 0 0 A) w A 3 4 [some (.ref (w.2.1 150)), some (.int x1), some (.int x2)] [] S := by
  intro n
  induction n with
  | zero => intro x1 x2 S h; rw [fX12_quarrelMany_4] at h; cases h
  | succ n ih =>
    intro x1 x2 S h
    rw [fX12_quarrelMany_4] at h
    refine cj_iload_n C (i := 2) dX12_quarrelMany_4 rfl rfl ?_
    refine cj_aload_n C (i := 0) dX12_quarrelMany_5 rfl rfl ?_
    refine cj_getR C (d := 151) o_150 rfl gfX12_13 dX12_quarrelMany_6 ?_
    refine cj_iconst C (v := (3 : Int32)) dX12_quarrelMany_9 rfl ?_
    refine cj_ialoadC C (j := 3) o_151 (by decide) (by decide) dX12_quarrelMany_10 ?_
    refine cj_icmp_ge C (tgt := 35) dX12_quarrelMany_11 rfl h (fun _ h => ?_) (fun _ h => ?_)
    · refine cj_iload_n C (i := 1) dX12_quarrelMany_35 rfl rfl ?_
      refine cj_iconst C (v := (2 : Int32)) dX12_quarrelMany_36 rfl ?_
      refine cj_idiv C dX12_quarrelMany_37 (by decide) ?_
      exact cj_ireturn C hr h dX12_quarrelMany_38
    · refine cj_iload_n C (i := 1) dX12_quarrelMany_14 rfl rfl ?_
      refine cj_aload_n C (i := 0) dX12_quarrelMany_15 rfl rfl ?_
      refine cj_getR C (d := 151) o_150 rfl gfX12_13 dX12_quarrelMany_16 ?_
      refine cj_bipush C (v := (70 : Int32)) dX12_quarrelMany_19 rfl ?_
      refine cj_iload_n C (i := 2) dX12_quarrelMany_21 rfl rfl ?_
      refine cj_iadd C dX12_quarrelMany_22 ?_
      refine cj_iaload C o_151 h dX12_quarrelMany_23 (fun h => ?_)
      refine cj_callSi C (As := [.int (S.1 151 ((70 : Int32) + x2).toNatClampNeg)]) (rest := [.int x1]) qX12_bitsOf mw_58_3 rfl rfl (Nat.le_of_ble_eq_true rfl) (by decide) dX12_quarrelMany_24 h (fun _ _ hf => m_X12_bitsOf l w A (S.1 151 ((70 : Int32) + x2).toNatClampNeg) S _ hf) (fun z1 S2 h => ?_)
      refine cj_iadd C dX12_quarrelMany_27 ?_
      refine cj_let h (fun y3 h => ?_)
      refine cj_istore_n C (i := 1) (lv' := [some (.ref (w.2.1 150)), some (.int y3), some (.int x2)]) dX12_quarrelMany_28 rfl (by decide) rfl rfl ?_
      refine cj_iinc C (v := (x2 + 1)) (lv' := [some (.ref (w.2.1 150)), some (.int y3), some (.int (x2 + 1))]) dX12_quarrelMany_29 rfl rfl (by decide) rfl rfl ?_
      refine cj_goto C (tgt := 4) dX12_quarrelMany_32 rfl ?_
      exact ih y3 (x2 + 1) S2 h
def fX12_quarrelMany (S : cpS) : Option (Int32 × cpS) :=
    fX12_quarrelMany_4 cpFu (0 : Int32) (0 : Int32) S
set_option maxRecDepth 100000 in
set_option maxHeartbeats 4000000 in
theorem m_X12_quarrelMany (l : Launch) (w : cpW) (A : Nat → Prop) (S : cpS) (r : Int32 × cpS) (h : fX12_quarrelMany S = some r) : cpMi l yX12_quarrelMany cX12_quarrelMany 3 ((some .int)) 1 w A [.ref (w.2.1 150)] S r := by
  refine cpMi.of (lv := [some (.ref (w.2.1 150)), none, none]) (by decide) (Nat.le_of_ble_eq_true rfl) rfl (fun p e s m args below meth c C hr => ?_)
  replace C : cpCx p s m args meth c w A cX12_quarrelMany RX12 3 := C
  rw [fX12_quarrelMany] at h
  refine cj_iconst C (v := (0 : Int32)) dX12_quarrelMany_0 rfl ?_
  refine cj_istore_n C (i := 1) (lv' := [some (.ref (w.2.1 150)), some (.int (0 : Int32)), none]) dX12_quarrelMany_1 rfl (by decide) rfl rfl ?_
  refine cj_iconst C (v := (0 : Int32)) dX12_quarrelMany_2 rfl ?_
  refine cj_istore_n C (i := 2) (lv' := [some (.ref (w.2.1 150)), some (.int (0 : Int32)), some (.int (0 : Int32))]) dX12_quarrelMany_3 rfl (by decide) rfl rfl ?_
  exact wX12_quarrelMany_4 C hr cpFu (0 : Int32) (0 : Int32) S h
/-! X12_count -/
def fX12_count (x1 : Int32) (S : cpS) : Option (Int32 × cpS) :=
    cpLt (cpI S 150 0 (0 : Int32)) fun S1 =>
    if x1 = (0 : Int32) then (
    some ((S1.1 151 1), S1)) else (if x1 = (1 : Int32) then (
    some ((S1.1 151 2), S1)) else (if x1 = (2 : Int32) then (
    some ((S1.1 151 3), S1)) else (if x1 = (3 : Int32) then (
    some ((S1.1 151 4), S1)) else (if x1 = (4 : Int32) then (
    some ((S1.1 151 78), S1)) else (if x1 = (5 : Int32) then (
    cpB (fX12_quarrelMany S1) fun z2 S3 =>
    some (z2, S3)) else (if x1 = (6 : Int32) then (
    some ((S1.1 151 79), S1)) else (if x1 = (7 : Int32) then (
    cpB (fX12_wornSum S1) fun z4 S5 =>
    some (z4, S5)) else (if x1 = (8 : Int32) then (
    some ((S1.1 151 80), S1)) else (if x1 = (9 : Int32) then (
    some ((S1.1 150 5), S1)) else (if x1 = (10 : Int32) then (
    some ((S1.1 151 0), S1)) else (
    some ((-1 : Int32), S1))))))))))))
set_option maxRecDepth 100000 in
set_option maxHeartbeats 4000000 in
theorem m_X12_count (l : Launch) (w : cpW) (A : Nat → Prop) (x1 : Int32) (S : cpS) (r : Int32 × cpS) (h : fX12_count x1 S = some r) : cpMi l yX12_count cX12_count 2 ((some .int)) 2 w A [.ref (w.2.1 150), .int x1] S r := by
  refine cpMi.of (lv := [some (.ref (w.2.1 150)), some (.int x1)]) (by decide) (Nat.le_of_ble_eq_true rfl) rfl (fun p e s m args below meth c C hr => ?_)
  replace C : cpCx p s m args meth c w A cX12_count RX12 2 := C
  rw [fX12_count] at h
  refine cj_aload_n C (i := 0) dX12_count_0 rfl rfl ?_
  refine cj_iconst C (v := (0 : Int32)) dX12_count_1 rfl ?_
  refine cj_put C (j := 0) o_150 rfl pfX12_1 rfl rfl dX12_count_2 ?_
  refine cj_lets h (fun S1 h => ?_)
  refine cj_iload_n C (i := 1) dX12_count_5 rfl rfl ?_
  by_cases hs0 : x1 = (0 : Int32)
  · rw [if_pos hs0] at h
    refine cj_tableIn C (tgt := 64) dX12_count_6 (by rw [hs0]; decide) (by rw [hs0]; decide) (by rw [hs0]; rfl) rfl ?_
    refine cj_aload_n C (i := 0) dX12_count_64 rfl rfl ?_
    refine cj_getR C (d := 151) o_150 rfl gfX12_13 dX12_count_65 ?_
    refine cj_iconst C (v := (1 : Int32)) dX12_count_68 rfl ?_
    refine cj_ialoadC C (j := 1) o_151 (by decide) (by decide) dX12_count_69 ?_
    exact cj_ireturn C hr h dX12_count_70
  rw [if_neg hs0] at h
  by_cases hs1 : x1 = (1 : Int32)
  · rw [if_pos hs1] at h
    refine cj_tableIn C (tgt := 71) dX12_count_6 (by rw [hs1]; decide) (by rw [hs1]; decide) (by rw [hs1]; rfl) rfl ?_
    refine cj_aload_n C (i := 0) dX12_count_71 rfl rfl ?_
    refine cj_getR C (d := 151) o_150 rfl gfX12_13 dX12_count_72 ?_
    refine cj_iconst C (v := (2 : Int32)) dX12_count_75 rfl ?_
    refine cj_ialoadC C (j := 2) o_151 (by decide) (by decide) dX12_count_76 ?_
    exact cj_ireturn C hr h dX12_count_77
  rw [if_neg hs1] at h
  by_cases hs2 : x1 = (2 : Int32)
  · rw [if_pos hs2] at h
    refine cj_tableIn C (tgt := 78) dX12_count_6 (by rw [hs2]; decide) (by rw [hs2]; decide) (by rw [hs2]; rfl) rfl ?_
    refine cj_aload_n C (i := 0) dX12_count_78 rfl rfl ?_
    refine cj_getR C (d := 151) o_150 rfl gfX12_13 dX12_count_79 ?_
    refine cj_iconst C (v := (3 : Int32)) dX12_count_82 rfl ?_
    refine cj_ialoadC C (j := 3) o_151 (by decide) (by decide) dX12_count_83 ?_
    exact cj_ireturn C hr h dX12_count_84
  rw [if_neg hs2] at h
  by_cases hs3 : x1 = (3 : Int32)
  · rw [if_pos hs3] at h
    refine cj_tableIn C (tgt := 85) dX12_count_6 (by rw [hs3]; decide) (by rw [hs3]; decide) (by rw [hs3]; rfl) rfl ?_
    refine cj_aload_n C (i := 0) dX12_count_85 rfl rfl ?_
    refine cj_getR C (d := 151) o_150 rfl gfX12_13 dX12_count_86 ?_
    refine cj_iconst C (v := (4 : Int32)) dX12_count_89 rfl ?_
    refine cj_ialoadC C (j := 4) o_151 (by decide) (by decide) dX12_count_90 ?_
    exact cj_ireturn C hr h dX12_count_91
  rw [if_neg hs3] at h
  by_cases hs4 : x1 = (4 : Int32)
  · rw [if_pos hs4] at h
    refine cj_tableIn C (tgt := 92) dX12_count_6 (by rw [hs4]; decide) (by rw [hs4]; decide) (by rw [hs4]; rfl) rfl ?_
    refine cj_aload_n C (i := 0) dX12_count_92 rfl rfl ?_
    refine cj_getR C (d := 151) o_150 rfl gfX12_13 dX12_count_93 ?_
    refine cj_bipush C (v := (78 : Int32)) dX12_count_96 rfl ?_
    refine cj_ialoadC C (j := 78) o_151 (by decide) (by decide) dX12_count_98 ?_
    exact cj_ireturn C hr h dX12_count_99
  rw [if_neg hs4] at h
  by_cases hs5 : x1 = (5 : Int32)
  · rw [if_pos hs5] at h
    refine cj_tableIn C (tgt := 100) dX12_count_6 (by rw [hs5]; decide) (by rw [hs5]; decide) (by rw [hs5]; rfl) rfl ?_
    refine cj_aload_n C (i := 0) dX12_count_100 rfl rfl ?_
    refine cj_callVi C (As := []) (rest := []) qX12_quarrelMany mw_78_18 o_150 rfl rfl rfl (Nat.le_of_ble_eq_true rfl) (by decide) dX12_count_101 h (fun _ _ hf => m_X12_quarrelMany l w A S1 _ hf) (fun z2 S3 h => ?_)
    exact cj_ireturn C hr h dX12_count_104
  rw [if_neg hs5] at h
  by_cases hs6 : x1 = (6 : Int32)
  · rw [if_pos hs6] at h
    refine cj_tableIn C (tgt := 105) dX12_count_6 (by rw [hs6]; decide) (by rw [hs6]; decide) (by rw [hs6]; rfl) rfl ?_
    refine cj_aload_n C (i := 0) dX12_count_105 rfl rfl ?_
    refine cj_getR C (d := 151) o_150 rfl gfX12_13 dX12_count_106 ?_
    refine cj_bipush C (v := (79 : Int32)) dX12_count_109 rfl ?_
    refine cj_ialoadC C (j := 79) o_151 (by decide) (by decide) dX12_count_111 ?_
    exact cj_ireturn C hr h dX12_count_112
  rw [if_neg hs6] at h
  by_cases hs7 : x1 = (7 : Int32)
  · rw [if_pos hs7] at h
    refine cj_tableIn C (tgt := 113) dX12_count_6 (by rw [hs7]; decide) (by rw [hs7]; decide) (by rw [hs7]; rfl) rfl ?_
    refine cj_aload_n C (i := 0) dX12_count_113 rfl rfl ?_
    refine cj_callVi C (As := []) (rest := []) qX12_wornSum mw_45_11 o_150 rfl rfl rfl (Nat.le_of_ble_eq_true rfl) (by decide) dX12_count_114 h (fun _ _ hf => m_X12_wornSum l w A S1 _ hf) (fun z4 S5 h => ?_)
    exact cj_ireturn C hr h dX12_count_117
  rw [if_neg hs7] at h
  by_cases hs8 : x1 = (8 : Int32)
  · rw [if_pos hs8] at h
    refine cj_tableIn C (tgt := 118) dX12_count_6 (by rw [hs8]; decide) (by rw [hs8]; decide) (by rw [hs8]; rfl) rfl ?_
    refine cj_aload_n C (i := 0) dX12_count_118 rfl rfl ?_
    refine cj_getR C (d := 151) o_150 rfl gfX12_13 dX12_count_119 ?_
    refine cj_bipush C (v := (80 : Int32)) dX12_count_122 rfl ?_
    refine cj_ialoadC C (j := 80) o_151 (by decide) (by decide) dX12_count_124 ?_
    exact cj_ireturn C hr h dX12_count_125
  rw [if_neg hs8] at h
  by_cases hs9 : x1 = (9 : Int32)
  · rw [if_pos hs9] at h
    refine cj_tableIn C (tgt := 126) dX12_count_6 (by rw [hs9]; decide) (by rw [hs9]; decide) (by rw [hs9]; rfl) rfl ?_
    refine cj_aload_n C (i := 0) dX12_count_126 rfl rfl ?_
    refine cj_getI C (j := 5) o_150 rfl gfX12_92 dX12_count_127 ?_
    exact cj_ireturn C hr h dX12_count_130
  rw [if_neg hs9] at h
  by_cases hs10 : x1 = (10 : Int32)
  · rw [if_pos hs10] at h
    refine cj_tableIn C (tgt := 131) dX12_count_6 (by rw [hs10]; decide) (by rw [hs10]; decide) (by rw [hs10]; rfl) rfl ?_
    refine cj_aload_n C (i := 0) dX12_count_131 rfl rfl ?_
    refine cj_getR C (d := 151) o_150 rfl gfX12_13 dX12_count_132 ?_
    refine cj_iconst C (v := (0 : Int32)) dX12_count_135 rfl ?_
    refine cj_ialoadC C (j := 0) o_151 (by decide) (by decide) dX12_count_136 ?_
    exact cj_ireturn C hr h dX12_count_137
  rw [if_neg hs10] at h
  refine cj_tableOut C (tgt := 138) dX12_count_6 (cpOut (by decide) (by decide) (fun k h1 h2 => ?_)) rfl ?_
  · rcases (show k = 0 ∨ k = 1 ∨ k = 2 ∨ k = 3 ∨ k = 4 ∨ k = 5 ∨ k = 6 ∨ k = 7 ∨ k = 8 ∨ k = 9 ∨ k = 10 by omega) with rfl | rfl | rfl | rfl | rfl | rfl | rfl | rfl | rfl | rfl | rfl
    · exact hs0
    · exact hs1
    · exact hs2
    · exact hs3
    · exact hs4
    · exact hs5
    · exact hs6
    · exact hs7
    · exact hs8
    · exact hs9
    · exact hs10
  · refine cj_iconst C (v := (-1 : Int32)) dX12_count_138 rfl ?_
    exact cj_ireturn C hr h dX12_count_139
end CPV
