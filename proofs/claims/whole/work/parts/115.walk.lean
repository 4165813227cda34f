section CPV
variable {p : Program} {l : Launch} {e : Env} {s : State} {m : MethodId} {args : Array Value} {below : List Frame} {meth : Method} {c : Code} {w : cpW} {A : Nat → Prop}
/-! X12_noTray -/
def fX12_noTray (x1 : Int32) (S : cpS) : Option (Int32 × cpS) :=
    cpB (fX12_within (Int32.toInt64 x1) (0 : Int64) (3 : Int64) S) fun z1 S2 =>
    if z1 = 0 then (
    some ((-2 : Int32), S2)) else (
    if cpIn x1 4 then (
    if (S2.1 171 x1.toNatClampNeg) = (-1 : Int32) then (
    some ((-6 : Int32), S2)) else (
    some ((0 : Int32), S2))) else none)
set_option maxRecDepth 100000 in
set_option maxHeartbeats 4000000 in
theorem m_X12_noTray (l : Launch) (w : cpW) (A : Nat → Prop) (x1 : Int32) (S : cpS) (r : Int32 × cpS) (h : fX12_noTray x1 S = some r) : cpMi l yX12_noTray cX12_noTray 2 ((some .int)) 1 w A [.ref (w.2.1 150), .int x1] S r := by
  refine cpMi.of (lv := [some (.ref (w.2.1 150)), some (.int x1)]) (by decide) (Nat.le_of_ble_eq_true rfl) rfl (fun p e s m args below meth c C hr => ?_)
  replace C : cpCx p s m args meth c w A cX12_noTray RX12 2 := C
  rw [fX12_noTray] at h
  refine cj_iload_n C (i := 1) dX12_noTray_0 rfl rfl ?_
  refine cj_i2l C dX12_noTray_1 ?_
  refine cj_lconst C (v := (0 : Int64)) dX12_noTray_2 rfl ?_
  refine cj_ldc2 C (v := (3 : Int64)) mw_44_8 dX12_noTray_3 ?_
  refine cj_callSi C (As := [.long (Int32.toInt64 x1), .long (0 : Int64), .long (3 : Int64)]) (rest := []) qX12_within mw_23_15 rfl rfl (Nat.le_of_ble_eq_true rfl) (by decide) dX12_noTray_6 h (fun _ _ hf => m_X12_within l w A (Int32.toInt64 x1) (0 : Int64) (3 : Int64) S _ hf) (fun z1 S2 h => ?_)
  refine cj_if_ne C (tgt := 17) dX12_noTray_9 rfl h (fun _ h => ?_) (fun _ h => ?_)
  · refine cj_bipush C (v := (-2 : Int32)) dX12_noTray_12 rfl ?_
    refine cj_goto C (tgt := 33) dX12_noTray_14 rfl ?_
    exact cj_ireturn C hr h dX12_noTray_33
  · refine cj_aload_n C (i := 0) dX12_noTray_17 rfl rfl ?_
    refine cj_getR C (d := 171) o_150 rfl gfX12_79 dX12_noTray_18 ?_
    refine cj_iload_n C (i := 1) dX12_noTray_21 rfl rfl ?_
    refine cj_iaload C o_171 h dX12_noTray_22 (fun h => ?_)
    refine cj_iconst C (v := (-1 : Int32)) dX12_noTray_23 rfl ?_
    refine cj_icmp_ne C (tgt := 32) dX12_noTray_24 rfl h (fun _ h => ?_) (fun _ h => ?_)
    · refine cj_bipush C (v := (-6 : Int32)) dX12_noTray_27 rfl ?_
      refine cj_goto C (tgt := 33) dX12_noTray_29 rfl ?_
      exact cj_ireturn C hr h dX12_noTray_33
    · refine cj_iconst C (v := (0 : Int32)) dX12_noTray_32 rfl ?_
      exact cj_ireturn C hr h dX12_noTray_33
/-! X12_wornSum -/
def fX12_wornSum_4 : Nat → Int32 → Int32 → cpS → Option (Int32 × cpS)
  | 0, _, _, _ => none
  | n + 1, x1, x2, S =>
    if (S.1 151 4) ≤ x2 then (
    some (x1, S)) else (
    if cpIn ((66 : Int32) + x2) 3486 then (
    cpLt (x1 + (S.1 151 ((66 : Int32) + x2).toNatClampNeg)) fun y1 =>
    fX12_wornSum_4 n y1 (x2 + 1) S) else none)
set_option maxRecDepth 100000 in
set_option maxHeartbeats 4000000 in
theorem wX12_wornSum_4 (C : cpCx p s m args meth c w A cX12_wornSum RX12 3) (hr : meth.sig.returnType = (some .int)) {r : Int32 × cpS} : ∀ (n : Nat) (x1 : Int32) (x2 : Int32) (S : cpS), fX12_wornSum_4 n x1 x2 S = some r → cpJ p l e (cpRm 0) s m args below meth c (MQ below (va_Qi (fun x S' => (x, S') = r) (cpWorld w A) A) args s 0 0 A) w A 3 4 [some (.ref (w.2.1 150)), some (.int x1), some (.int x2)] [] S := by
  intro n
  induction n with
  | zero => intro x1 x2 S h; rw [fX12_wornSum_4] at h; cases h
  | succ n ih =>
    intro x1 x2 S h
    rw [fX12_wornSum_4] at h
    refine cj_iload_n C (i := 2) dX12_wornSum_4 rfl rfl ?_
    refine cj_aload_n C (i := 0) dX12_wornSum_5 rfl rfl ?_
    refine cj_getR C (d := 151) o_150 rfl gfX12_13 dX12_wornSum_6 ?_
    refine cj_iconst C (v := (4 : Int32)) dX12_wornSum_9 rfl ?_
    refine cj_ialoadC C (j := 4) o_151 (by decide) (by decide) dX12_wornSum_10 ?_
    refine cj_icmp_ge C (tgt := 32) dX12_wornSum_11 rfl h (fun _ h => ?_) (fun _ h => ?_)
    · refine cj_iload_n C (i := 1) dX12_wornSum_32 rfl rfl ?_
      exact cj_ireturn C hr h dX12_wornSum_33
    · refine cj_iload_n C (i := 1) dX12_wornSum_14 rfl rfl ?_
      refine cj_aload_n C (i := 0) dX12_wornSum_15 rfl rfl ?_
      refine cj_getR C (d := 151) o_150 rfl gfX12_13 dX12_wornSum_16 ?_
      refine cj_bipush C (v := (66 : Int32)) dX12_wornSum_19 rfl ?_
      refine cj_iload_n C (i := 2) dX12_wornSum_21 rfl rfl ?_
      refine cj_iadd C dX12_wornSum_22 ?_
      refine cj_iaload C o_151 h dX12_wornSum_23 (fun h => ?_)
      refine cj_iadd C dX12_wornSum_24 ?_
      refine cj_let h (fun y1 h => ?_)
      refine cj_istore_n C (i := 1) (lv' := [some (.ref (w.2.1 150)), some (.int y1), some (.int x2)]) dX12_wornSum_25 rfl (by decide) rfl rfl ?_
      refine cj_iinc C (v := (x2 + 1)) (lv' := [some (.ref (w.2.1 150)), some (.int y1), some (.int (x2 + 1))]) dX12_wornSum_26 rfl rfl (by decide) rfl rfl ?_
      refine cj_goto C (tgt := 4) dX12_wornSum_29 rfl ?_
      exact ih y1 (x2 + 1) S h
def fX12_wornSum (S : cpS) : Option (Int32 × cpS) :=
    fX12_wornSum_4 cpFu (0 : Int32) (0 : Int32) S
set_option maxRecDepth 100000 in
set_option maxHeartbeats 4000000 in
theorem m_X12_wornSum (l : Launch) (w : cpW) (A : Nat → Prop) (S : cpS) (r : Int32 × cpS) (h : fX12_wornSum S = some r) : cpMi l yX12_wornSum cX12_wornSum 3 ((some .int)) 0 w A [.ref (w.2.1 150)] S r := by
  refine cpMi.of (lv := [some (.ref (w.2.1 150)), none, none]) (by decide) (Nat.le_of_ble_eq_true rfl) rfl (fun p e s m args below meth c C hr => ?_)
  replace C : cpCx p s m args meth c w A cX12_wornSum RX12 3 := C
  rw [fX12_wornSum] at h
  refine cj_iconst C (v := (0 : Int32)) dX12_wornSum_0 rfl ?_
  refine cj_istore_n C (i := 1) (lv' := [some (.ref (w.2.1 150)), some (.int (0 : Int32)), none]) dX12_wornSum_1 rfl (by decide) rfl rfl ?_
  refine cj_iconst C (v := (0 : Int32)) dX12_wornSum_2 rfl ?_
  refine cj_istore_n C (i := 2) (lv' := [some (.ref (w.2.1 150)), some (.int (0 : Int32)), some (.int (0 : Int32))]) dX12_wornSum_3 rfl (by decide) rfl rfl ?_
  exact wX12_wornSum_4 C hr cpFu (0 : Int32) (0 : Int32) S h
/-! X12_judge -/
def fX12_judge_62 (x2 : Int32) (x4 : Int32) (x5 : Int32) : Nat → Int32 → Int32 → cpS → Option (Int32 × cpS)
  | 0, _, _, _ => none
  | n + 1, x6, x7, S =>
    if x7 < 0 then (
    cpB (fX12_isAgain S) fun _ S2 =>
    if x2 = 0 then (
    if (S2.1 150 21) = 0 then (
    some ((-1 : Int32), S2)) else (
    some (x4, S2))) else (
    if x2 = (1 : Int32) then (
    some ((S2.1 150 21), S2)) else (
    if x2 = (2 : Int32) then (
    some (x6, S2)) else (
    some (x5, S2))))) else (
    if cpIn ((62 : Int32) + x7) 3486 then (
    cpLt (((10 : Int32) * x6) + (S.1 151 ((62 : Int32) + x7).toNatClampNeg)) fun y3 =>
    fX12_judge_62 x2 x4 x5 n y3 (x7 + (-1)) S) else none)
set_option maxRecDepth 100000 in
set_option maxHeartbeats 4000000 in
theorem wX12_judge_62 (C : cpCx p s m args meth c w A cX12_judge RX12 8) (hr : meth.sig.returnType = (some .int)) {r : Int32 × cpS} (x2 : Int32) (x4 : Int32) (x5 : Int32) : ∀ (n : Nat) (x6 : Int32) (x7 : Int32) (S : cpS), fX12_judge_62 x2 x4 x5 n x6 x7 S = some r → cpJ p l e (cpRm 8) s m args below meth c (MQ below (va_Qi (fun x S' => (x, S') = r) (cpWorld w A) A) args s 0 0 A) w A 8 62 [some (.ref (w.2.1 150)), none, some (.int x2), none, some (.int x4), some (.int x5), some (.int x6), some (.int x7)] [] S := by
  intro n
  induction n with
  | zero => intro x6 x7 S h; rw [fX12_judge_62] at h; cases h
  | succ n ih =>
    intro x6 x7 S h
    rw [fX12_judge_62] at h
    refine cj_iload C dX12_judge_62 rfl ?_
    refine cj_if_lt C (tgt := 91) dX12_judge_64 rfl h (fun _ h => ?_) (fun _ h => ?_)
    · refine cj_aload_n C (i := 0) dX12_judge_91 rfl rfl ?_
      refine cj_callVv C (As := []) (rest := []) qX12_isAgain mw_45_15 o_150 rfl rfl rfl (Nat.le_of_ble_eq_true rfl) (by decide) dX12_judge_92 h (fun _ _ hf => m_X12_isAgain l w A S _ hf) (fun z1 S2 h => ?_)
      refine cj_iload_n C (i := 2) dX12_judge_95 rfl rfl ?_
      refine cj_if_ne C (tgt := 115) dX12_judge_96 rfl h (fun _ h => ?_) (fun _ h => ?_)
      · refine cj_aload_n C (i := 0) dX12_judge_99 rfl rfl ?_
        refine cj_getI C (j := 21) o_150 rfl gfX12_344 dX12_judge_100 ?_
        refine cj_if_ne C (tgt := 110) dX12_judge_103 rfl h (fun _ h => ?_) (fun _ h => ?_)
        · refine cj_iconst C (v := (-1 : Int32)) dX12_judge_106 rfl ?_
          refine cj_goto C (tgt := 139) dX12_judge_107 rfl ?_
          exact cj_ireturn C hr h dX12_judge_139
        · refine cj_iload C dX12_judge_110 rfl ?_
          refine cj_goto C (tgt := 139) dX12_judge_112 rfl ?_
          exact cj_ireturn C hr h dX12_judge_139
      · refine cj_iload_n C (i := 2) dX12_judge_115 rfl rfl ?_
        refine cj_iconst C (v := (1 : Int32)) dX12_judge_116 rfl ?_
        refine cj_icmp_ne C (tgt := 127) dX12_judge_117 rfl h (fun _ h => ?_) (fun _ h => ?_)
        · refine cj_aload_n C (i := 0) dX12_judge_120 rfl rfl ?_
          refine cj_getI C (j := 21) o_150 rfl gfX12_344 dX12_judge_121 ?_
          refine cj_goto C (tgt := 139) dX12_judge_124 rfl ?_
          exact cj_ireturn C hr h dX12_judge_139
        · refine cj_iload_n C (i := 2) dX12_judge_127 rfl rfl ?_
          refine cj_iconst C (v := (2 : Int32)) dX12_judge_128 rfl ?_
          refine cj_icmp_ne C (tgt := 137) dX12_judge_129 rfl h (fun _ h => ?_) (fun _ h => ?_)
          · refine cj_iload C dX12_judge_132 rfl ?_
            refine cj_goto C (tgt := 139) dX12_judge_134 rfl ?_
            exact cj_ireturn C hr h dX12_judge_139
          · refine cj_iload C dX12_judge_137 rfl ?_
            exact cj_ireturn C hr h dX12_judge_139
    · refine cj_bipush C (v := (10 : Int32)) dX12_judge_67 rfl ?_
      refine cj_iload C dX12_judge_69 rfl ?_
      refine cj_imul C dX12_judge_71 ?_
      refine cj_aload_n C (i := 0) dX12_judge_72 rfl rfl ?_
      refine cj_getR C (d := 151) o_150 rfl gfX12_13 dX12_judge_73 ?_
      refine cj_bipush C (v := (62 : Int32)) dX12_judge_76 rfl ?_
      refine cj_iload C dX12_judge_78 rfl ?_
      refine cj_iadd C dX12_judge_80 ?_
      refine cj_iaload C o_151 h dX12_judge_81 (fun h => ?_)
      refine cj_iadd C dX12_judge_82 ?_
      refine cj_let h (fun y3 h => ?_)
      refine cj_istore C (lv' := [some (.ref (w.2.1 150)), none, some (.int x2), none, some (.int x4), some (.int x5), some (.int y3), some (.int x7)]) dX12_judge_83 (by decide) rfl rfl ?_
      refine cj_iinc C (v := (x7 + (-1))) (lv' := [some (.ref (w.2.1 150)), none, some (.int x2), none, some (.int x4), some (.int x5), some (.int y3), some (.int (x7 + (-1)))]) dX12_judge_85 rfl rfl (by decide) rfl rfl ?_
      refine cj_goto C (tgt := 62) dX12_judge_88 rfl ?_
      exact ih y3 (x7 + (-1)) S h
def fX12_judge (x1 : Int32) (x2 : Int32) (S : cpS) : Option (Int32 × cpS) :=
    cpLt (cpI S 150 0 (0 : Int32)) fun S1 =>
    cpB (fX12_within (Int32.toInt64 x2) (0 : Int64) (3 : Int64) S1) fun z2 S3 =>
    if z2 = 0 then (
    some ((-2 : Int32), S3)) else (
    cpB (fX12_noTray x1 S3) fun z4 S5 =>
    if z4 = 0 then (
    cpB (fX12_stores S5) fun _ S7 =>
    cpB (fX12_tells x1 S7) fun z8 S9 =>
    cpB (fX12_wornSum S9) fun z10 S11 =>
    cpLt ((S11.1 151 4) - (1 : Int32)) fun y12 =>
    fX12_judge_62 x2 z8 z10 cpFu (0 : Int32) y12 S11) else (
    some (z4, S5)))
set_option maxRecDepth 100000 in
set_option maxHeartbeats 4000000 in
theorem m_X12_judge (l : Launch) (w : cpW) (A : Nat → Prop) (x1 : Int32) (x2 : Int32) (S : cpS) (r : Int32 × cpS) (h : fX12_judge x1 x2 S = some r) : cpMi l yX12_judge cX12_judge 8 ((some .int)) 8 w A [.ref (w.2.1 150), .int x1, .int x2] S r := by
  refine cpMi.of (lv := [some (.ref (w.2.1 150)), some (.int x1), some (.int x2), none, none, none, none, none]) (by decide) (Nat.le_of_ble_eq_true rfl) rfl (fun p e s m args below meth c C hr => ?_)
  replace C : cpCx p s m args meth c w A cX12_judge RX12 8 := C
  rw [fX12_judge] at h
  refine cj_aload_n C (i := 0) dX12_judge_0 rfl rfl ?_
  refine cj_iconst C (v := (0 : Int32)) dX12_judge_1 rfl ?_
  refine cj_put C (j := 0) o_150 rfl pfX12_1 rfl rfl dX12_judge_2 ?_
  refine cj_lets h (fun S1 h => ?_)
  refine cj_iload_n C (i := 2) dX12_judge_5 rfl rfl ?_
  refine cj_i2l C dX12_judge_6 ?_
  refine cj_lconst C (v := (0 : Int64)) dX12_judge_7 rfl ?_
  refine cj_ldc2 C (v := (3 : Int64)) mw_44_8 dX12_judge_8 ?_
  refine cj_callSi C (As := [.long (Int32.toInt64 x2), .long (0 : Int64), .long (3 : Int64)]) (rest := []) qX12_within mw_23_15 rfl rfl (Nat.le_of_ble_eq_true rfl) (by decide) dX12_judge_11 h (fun _ _ hf => m_X12_within l w A (Int32.toInt64 x2) (0 : Int64) (3 : Int64) S1 _ hf) (fun z2 S3 h => ?_)
  refine cj_if_ne C (tgt := 20) dX12_judge_14 rfl h (fun _ h => ?_) (fun _ h => ?_)
  · refine cj_bipush C (v := (-2 : Int32)) dX12_judge_17 rfl ?_
    exact cj_ireturn C hr h dX12_judge_19
  · refine cj_aload_n C (i := 0) dX12_judge_20 rfl rfl ?_
    refine cj_iload_n C (i := 1) dX12_judge_21 rfl rfl ?_
    refine cj_callVi C (As := [.int x1]) (rest := []) qX12_noTray mw_44_10 o_150 rfl rfl rfl (Nat.le_of_ble_eq_true rfl) (by decide) dX12_judge_22 h (fun _ _ hf => m_X12_noTray l w A x1 S3 _ hf) (fun z4 S5 h => ?_)
    refine cj_istore_n C (i := 3) (lv' := [some (.ref (w.2.1 150)), some (.int x1), some (.int x2), some (.int z4), none, none, none, none]) dX12_judge_25 rfl (by decide) rfl rfl ?_
    refine cj_iload_n C (i := 3) dX12_judge_26 rfl rfl ?_
    refine cj_if_eq C (tgt := 32) dX12_judge_27 rfl h (fun _ h => ?_) (fun _ h => ?_)
    · refine cj_aload_n C (i := 0) dX12_judge_32 rfl rfl ?_
      refine cj_callVv C (As := []) (rest := []) qX12_stores mw_39_17 o_150 rfl rfl rfl (Nat.le_of_ble_eq_true rfl) (by decide) dX12_judge_33 h (fun _ _ hf => m_X12_stores l w A S5 _ hf) (fun z6 S7 h => ?_)
      refine cj_aload_n C (i := 0) dX12_judge_36 rfl rfl ?_
      refine cj_iload_n C (i := 1) dX12_judge_37 rfl rfl ?_
      refine cj_callVi C (As := [.int x1]) (rest := []) qX12_tells mw_44_14 o_150 rfl rfl rfl (Nat.le_of_ble_eq_true rfl) (by decide) dX12_judge_38 h (fun _ _ hf => m_X12_tells l w A x1 S7 _ hf) (fun z8 S9 h => ?_)
      refine cj_istore C (lv' := [some (.ref (w.2.1 150)), some (.int x1), some (.int x2), some (.int z4), some (.int z8), none, none, none]) dX12_judge_41 (by decide) rfl rfl ?_
      refine cj_aload_n C (i := 0) dX12_judge_43 rfl rfl ?_
      refine cj_callVi C (As := []) (rest := []) qX12_wornSum mw_45_11 o_150 rfl rfl rfl (Nat.le_of_ble_eq_true rfl) (by decide) dX12_judge_44 h (fun _ _ hf => m_X12_wornSum l w A S9 _ hf) (fun z10 S11 h => ?_)
      refine cj_istore C (lv' := [some (.ref (w.2.1 150)), some (.int x1), some (.int x2), some (.int z4), some (.int z8), some (.int z10), none, none]) dX12_judge_47 (by decide) rfl rfl ?_
      refine cj_iconst C (v := (0 : Int32)) dX12_judge_49 rfl ?_
      refine cj_istore C (lv' := [some (.ref (w.2.1 150)), some (.int x1), some (.int x2), some (.int z4), some (.int z8), some (.int z10), some (.int (0 : Int32)), none]) dX12_judge_50 (by decide) rfl rfl ?_
      refine cj_aload_n C (i := 0) dX12_judge_52 rfl rfl ?_
      refine cj_getR C (d := 151) o_150 rfl gfX12_13 dX12_judge_53 ?_
      refine cj_iconst C (v := (4 : Int32)) dX12_judge_56 rfl ?_
      refine cj_ialoadC C (j := 4) o_151 (by decide) (by decide) dX12_judge_57 ?_
      refine cj_iconst C (v := (1 : Int32)) dX12_judge_58 rfl ?_
      refine cj_isub C dX12_judge_59 ?_
      refine cj_let h (fun y12 h => ?_)
      refine cj_istore C (lv' := [some (.ref (w.2.1 150)), some (.int x1), some (.int x2), some (.int z4), some (.int z8), some (.int z10), some (.int (0 : Int32)), some (.int y12)]) dX12_judge_60 (by decide) rfl rfl ?_
      refine cj_weak C (lv' := [some (.ref (w.2.1 150)), none, some (.int x2), none, some (.int z8), some (.int z10), some (.int (0 : Int32)), some (.int y12)]) (cpSub_s (cpSub_n (cpSub_s (cpSub_n (cpSub_s (cpSub_s (cpSub_s (cpSub_s cpSub_nil)))))))) ?_
      exact wX12_judge_62 C hr x2 z8 z10 cpFu (0 : Int32) y12 S11 h
    · refine cj_iload_n C (i := 3) dX12_judge_30 rfl rfl ?_
      exact cj_ireturn C hr h dX12_judge_31
/-! X12_perform -/
def fX12_perform (x1 : Int32) (S : cpS) : Option (Int32 × cpS) :=
    cpLt (cpI S 150 0 (0 : Int32)) fun S1 =>
    cpB (fX12_noTray x1 S1) fun z2 S3 =>
    if z2 = 0 then (
    cpB (fX12_stores S3) fun _ S5 =>
    cpB (fX12_tells x1 S5) fun z6 S7 =>
    if z6 ≤ 0 then (
    some (z6, S7)) else (
    cpB (fX12_notes S7) fun _ S9 =>
    some (z6, S9))) else (
    some (z2, S3))
set_option maxRecDepth 100000 in
set_option maxHeartbeats 4000000 in
theorem m_X12_perform (l : Launch) (w : cpW) (A : Nat → Prop) (x1 : Int32) (S : cpS) (r : Int32 × cpS) (h : fX12_perform x1 S = some r) : cpMi l yX12_perform cX12_perform 4 ((some .int)) 8 w A [.ref (w.2.1 150), .int x1] S r := by
  refine cpMi.of (lv := [some (.ref (w.2.1 150)), some (.int x1), none, none]) (by decide) (Nat.le_of_ble_eq_true rfl) rfl (fun p e s m args below meth c C hr => ?_)
  replace C : cpCx p s m args meth c w A cX12_perform RX12 4 := C
  rw [fX12_perform] at h
  refine cj_aload_n C (i := 0) dX12_perform_0 rfl rfl ?_
  refine cj_iconst C (v := (0 : Int32)) dX12_perform_1 rfl ?_
  refine cj_put C (j := 0) o_150 rfl pfX12_1 rfl rfl dX12_perform_2 ?_
  refine cj_lets h (fun S1 h => ?_)
  refine cj_aload_n C (i := 0) dX12_perform_5 rfl rfl ?_
  refine cj_iload_n C (i := 1) dX12_perform_6 rfl rfl ?_
  refine cj_callVi C (As := [.int x1]) (rest := []) qX12_noTray mw_44_10 o_150 rfl rfl rfl (Nat.le_of_ble_eq_true rfl) (by decide) dX12_perform_7 h (fun _ _ hf => m_X12_noTray l w A x1 S1 _ hf) (fun z2 S3 h => ?_)
  refine cj_istore_n C (i := 2) (lv' := [some (.ref (w.2.1 150)), some (.int x1), some (.int z2), none]) dX12_perform_10 rfl (by decide) rfl rfl ?_
  refine cj_iload_n C (i := 2) dX12_perform_11 rfl rfl ?_
  refine cj_if_eq C (tgt := 17) dX12_perform_12 rfl h (fun _ h => ?_) (fun _ h => ?_)
  · refine cj_aload_n C (i := 0) dX12_perform_17 rfl rfl ?_
    refine cj_callVv C (As := []) (rest := []) qX12_stores mw_39_17 o_150 rfl rfl rfl (Nat.le_of_ble_eq_true rfl) (by decide) dX12_perform_18 h (fun _ _ hf => m_X12_stores l w A S3 _ hf) (fun z4 S5 h => ?_)
    refine cj_aload_n C (i := 0) dX12_perform_21 rfl rfl ?_
    refine cj_iload_n C (i := 1) dX12_perform_22 rfl rfl ?_
    refine cj_callVi C (As := [.int x1]) (rest := []) qX12_tells mw_44_14 o_150 rfl rfl rfl (Nat.le_of_ble_eq_true rfl) (by decide) dX12_perform_23 h (fun _ _ hf => m_X12_tells l w A x1 S5 _ hf) (fun z6 S7 h => ?_)
    refine cj_istore_n C (i := 3) (lv' := [some (.ref (w.2.1 150)), some (.int x1), some (.int z2), some (.int z6)]) dX12_perform_26 rfl (by decide) rfl rfl ?_
    refine cj_iload_n C (i := 3) dX12_perform_27 rfl rfl ?_
    refine cj_if_le C (tgt := 35) dX12_perform_28 rfl h (fun _ h => ?_) (fun _ h => ?_)
    · refine cj_iload_n C (i := 3) dX12_perform_35 rfl rfl ?_
      exact cj_ireturn C hr h dX12_perform_36
    · refine cj_aload_n C (i := 0) dX12_perform_31 rfl rfl ?_
      refine cj_callVv C (As := []) (rest := []) qX12_notes mw_40_1 o_150 rfl rfl rfl (Nat.le_of_ble_eq_true rfl) (by decide) dX12_perform_32 h (fun _ _ hf => m_X12_notes l w A S7 _ hf) (fun z8 S9 h => ?_)
      refine cj_iload_n C (i := 3) dX12_perform_35 rfl rfl ?_
      exact cj_ireturn C hr h dX12_perform_36
  · refine cj_iload_n C (i := 2) dX12_perform_15 rfl rfl ?_
    exact cj_ireturn C hr h dX12_perform_16
/-! X12_draw -/
def fX12_draw (x1 : Int32) (S : cpS) : Option (Int32 × cpS) :=
    cpLt (cpI S 150 22 (((1103515245 : Int32) * (S.1 150 22)) + (12345 : Int32))) fun S1 =>
    if x1 = 0 then none else (
    some ((cpRem (cpUsh (S1.1 150 22) (16 : Int32)) x1), S1))
set_option maxRecDepth 100000 in
set_option maxHeartbeats 4000000 in
theorem m_X12_draw (l : Launch) (w : cpW) (A : Nat → Prop) (x1 : Int32) (S : cpS) (r : Int32 × cpS) (h : fX12_draw x1 S = some r) : cpMi l yX12_draw cX12_draw 2 ((some .int)) 0 w A [.ref (w.2.1 150), .int x1] S r := by
  refine cpMi.of (lv := [some (.ref (w.2.1 150)), some (.int x1)]) (by decide) (Nat.le_of_ble_eq_true rfl) rfl (fun p e s m args below meth c C hr => ?_)
  replace C : cpCx p s m args meth c w A cX12_draw RX12 2 := C
  rw [fX12_draw] at h
  refine cj_aload_n C (i := 0) dX12_draw_0 rfl rfl ?_
  refine cj_ldcw C (v := (1103515245 : Int32)) mw_47_10 dX12_draw_1 ?_
  refine cj_aload_n C (i := 0) dX12_draw_4 rfl rfl ?_
  refine cj_getI C (j := 22) o_150 rfl gfX12_369 dX12_draw_5 ?_
  refine cj_imul C dX12_draw_8 ?_
  refine cj_sipush C (v := (12345 : Int32)) dX12_draw_9 rfl ?_
  refine cj_iadd C dX12_draw_12 ?_
  refine cj_put C (j := 22) o_150 rfl pfX12_369 rfl rfl dX12_draw_13 ?_
  refine cj_lets h (fun S1 h => ?_)
  refine cj_aload_n C (i := 0) dX12_draw_16 rfl rfl ?_
  refine cj_getI C (j := 22) o_150 rfl gfX12_369 dX12_draw_17 ?_
  refine cj_bipush C (v := (16 : Int32)) dX12_draw_20 rfl ?_
  refine ck_iushr C dX12_draw_22 ?_
  refine cj_iload_n C (i := 1) dX12_draw_23 rfl rfl ?_
  obtain ⟨hne, h⟩ := cpGuardN h
  refine ck_irem C dX12_draw_24 hne ?_
  exact cj_ireturn C hr h dX12_draw_25
/-! X12_drawn -/
def fX12_drawn (S : cpS) : Option (Int32 × cpS) :=
    cpB (fX12_draw (6 : Int32) S) fun z1 S2 =>
    if z1 = 0 then (
    cpB (fX12_draw (10 : Int32) S2) fun z3 S4 =>
    some (((10 : Int32) + z3), S4)) else (
    cpB (fX12_draw (8 : Int32) S2) fun z5 S6 =>
    cpB (fX12_draw (8 : Int32) S6) fun z7 S8 =>
    if z1 = (1 : Int32) then (
    some ((((100 : Int32) + ((10 : Int32) * z5)) + z7), S8)) else (
    cpB (fX12_draw (4 : Int32) S8) fun z9 S10 =>
    cpB (fX12_draw (6 : Int32) S10) fun z11 S12 =>
    some ((((((10000 : Int32) + ((1000 : Int32) * z5)) + ((100 : Int32) * z7)) + ((10 : Int32) * z9)) + z11), S12)))
set_option maxRecDepth 100000 in
set_option maxHeartbeats 4000000 in
theorem m_X12_drawn (l : Launch) (w : cpW) (A : Nat → Prop) (S : cpS) (r : Int32 × cpS) (h : fX12_drawn S = some r) : cpMi l yX12_drawn cX12_drawn 5 ((some .int)) 1 w A [.ref (w.2.1 150)] S r := by
  refine cpMi.of (lv := [some (.ref (w.2.1 150)), none, none, none, none]) (by decide) (Nat.le_of_ble_eq_true rfl) rfl (fun p e s m args below meth c C hr => ?_)
  replace C : cpCx p s m args meth c w A cX12_drawn RX12 5 := C
  rw [fX12_drawn] at h
  refine cj_aload_n C (i := 0) dX12_drawn_0 rfl rfl ?_
  refine cj_bipush C (v := (6 : Int32)) dX12_drawn_1 rfl ?_
  refine cj_callVi C (As := [.int (6 : Int32)]) (rest := []) qX12_draw mw_47_6 o_150 rfl rfl rfl (Nat.le_of_ble_eq_true rfl) (by decide) dX12_drawn_3 h (fun _ _ hf => m_X12_draw l w A (6 : Int32) S _ hf) (fun z1 S2 h => ?_)
  refine cj_istore_n C (i := 1) (lv' := [some (.ref (w.2.1 150)), some (.int z1), none, none, none]) dX12_drawn_6 rfl (by decide) rfl rfl ?_
  refine cj_iload_n C (i := 1) dX12_drawn_7 rfl rfl ?_
  refine cj_if_ne C (tgt := 21) dX12_drawn_8 rfl h (fun _ h => ?_) (fun _ h => ?_)
  · refine cj_bipush C (v := (10 : Int32)) dX12_drawn_11 rfl ?_
    refine cj_aload_n C (i := 0) dX12_drawn_13 rfl rfl ?_
    refine cj_bipush C (v := (10 : Int32)) dX12_drawn_14 rfl ?_
    refine cj_callVi C (As := [.int (10 : Int32)]) (rest := [.int (10 : Int32)]) qX12_draw mw_47_6 o_150 rfl rfl rfl (Nat.le_of_ble_eq_true rfl) (by decide) dX12_drawn_16 h (fun _ _ hf => m_X12_draw l w A (10 : Int32) S2 _ hf) (fun z3 S4 h => ?_)
    refine cj_iadd C dX12_drawn_19 ?_
    exact cj_ireturn C hr h dX12_drawn_20
  · refine cj_aload_n C (i := 0) dX12_drawn_21 rfl rfl ?_
    refine cj_bipush C (v := (8 : Int32)) dX12_drawn_22 rfl ?_
    refine cj_callVi C (As := [.int (8 : Int32)]) (rest := []) qX12_draw mw_47_6 o_150 rfl rfl rfl (Nat.le_of_ble_eq_true rfl) (by decide) dX12_drawn_24 h (fun _ _ hf => m_X12_draw l w A (8 : Int32) S2 _ hf) (fun z5 S6 h => ?_)
    refine cj_istore_n C (i := 2) (lv' := [some (.ref (w.2.1 150)), some (.int z1), some (.int z5), none, none]) dX12_drawn_27 rfl (by decide) rfl rfl ?_
    refine cj_aload_n C (i := 0) dX12_drawn_28 rfl rfl ?_
    refine cj_bipush C (v := (8 : Int32)) dX12_drawn_29 rfl ?_
    refine cj_callVi C (As := [.int (8 : Int32)]) (rest := []) qX12_draw mw_47_6 o_150 rfl rfl rfl (Nat.le_of_ble_eq_true rfl) (by decide) dX12_drawn_31 h (fun _ _ hf => m_X12_draw l w A (8 : Int32) S6 _ hf) (fun z7 S8 h => ?_)
    refine cj_istore_n C (i := 3) (lv' := [some (.ref (w.2.1 150)), some (.int z1), some (.int z5), some (.int z7), none]) dX12_drawn_34 rfl (by decide) rfl rfl ?_
    refine cj_iload_n C (i := 1) dX12_drawn_35 rfl rfl ?_
    refine cj_iconst C (v := (1 : Int32)) dX12_drawn_36 rfl ?_
    refine cj_icmp_ne C (tgt := 50) dX12_drawn_37 rfl h (fun _ h => ?_) (fun _ h => ?_)
    · refine cj_bipush C (v := (100 : Int32)) dX12_drawn_40 rfl ?_
      refine cj_bipush C (v := (10 : Int32)) dX12_drawn_42 rfl ?_
      refine cj_iload_n C (i := 2) dX12_drawn_44 rfl rfl ?_
      refine cj_imul C dX12_drawn_45 ?_
      refine cj_iadd C dX12_drawn_46 ?_
      refine cj_iload_n C (i := 3) dX12_drawn_47 rfl rfl ?_
      refine cj_iadd C dX12_drawn_48 ?_
      exact cj_ireturn C hr h dX12_drawn_49
    · refine cj_aload_n C (i := 0) dX12_drawn_50 rfl rfl ?_
      refine cj_iconst C (v := (4 : Int32)) dX12_drawn_51 rfl ?_
      refine cj_callVi C (As := [.int (4 : Int32)]) (rest := []) qX12_draw mw_47_6 o_150 rfl rfl rfl (Nat.le_of_ble_eq_true rfl) (by decide) dX12_drawn_52 h (fun _ _ hf => m_X12_draw l w A (4 : Int32) S8 _ hf) (fun z9 S10 h => ?_)
      refine cj_istore C (lv' := [some (.ref (w.2.1 150)), some (.int z1), some (.int z5), some (.int z7), some (.int z9)]) dX12_drawn_55 (by decide) rfl rfl ?_
      refine cj_sipush C (v := (10000 : Int32)) dX12_drawn_57 rfl ?_
      refine cj_sipush C (v := (1000 : Int32)) dX12_drawn_60 rfl ?_
      refine cj_iload_n C (i := 2) dX12_drawn_63 rfl rfl ?_
      refine cj_imul C dX12_drawn_64 ?_
      refine cj_iadd C dX12_drawn_65 ?_
      refine cj_bipush C (v := (100 : Int32)) dX12_drawn_66 rfl ?_
      refine cj_iload_n C (i := 3) dX12_drawn_68 rfl rfl ?_
      refine cj_imul C dX12_drawn_69 ?_
      refine cj_iadd C dX12_drawn_70 ?_
      refine cj_bipush C (v := (10 : Int32)) dX12_drawn_71 rfl ?_
      refine cj_iload C dX12_drawn_73 rfl ?_
      refine cj_imul C dX12_drawn_75 ?_
      refine cj_iadd C dX12_drawn_76 ?_
      refine cj_aload_n C (i := 0) dX12_drawn_77 rfl rfl ?_
      refine cj_bipush C (v := (6 : Int32)) dX12_drawn_78 rfl ?_
      refine cj_callVi C (As := [.int (6 : Int32)]) (rest := [.int ((((10000 : Int32) + ((1000 : Int32) * z5)) + ((100 : Int32) * z7)) + ((10 : Int32) * z9))]) qX12_draw mw_47_6 o_150 rfl rfl rfl (Nat.le_of_ble_eq_true rfl) (by decide) dX12_drawn_80 h (fun _ _ hf => m_X12_draw l w A (6 : Int32) S10 _ hf) (fun z11 S12 h => ?_)
      refine cj_iadd C dX12_drawn_83 ?_
      exact cj_ireturn C hr h dX12_drawn_84
/-! X12_year -/
def fX12_year_34 (x2 : Int32) : Nat → Int32 → Int32 → cpS → Option (Int32 × cpS)
  | 0, _, _, _ => none
  | n + 1, x3, x4, S =>
    if x2 ≤ x4 then (
    if x3 ≤ 0 then (
    some (x3, S)) else (
    cpB (fX12_notes S) fun _ S2 =>
    some (x3, S2))) else (
    cpB (fX12_drawn S) fun z3 S4 =>
    cpB (fX12_whyNot (Int32.toInt64 z3) S4) fun z5 S6 =>
    if z5 = 0 then (
    cpB (fX12_does z3 S6) fun _ S8 =>
    fX12_year_34 x2 n (x3 + 1) (x4 + 1) S8) else (
    fX12_year_34 x2 n x3 (x4 + 1) S6))
set_option maxRecDepth 100000 in
set_option maxHeartbeats 4000000 in
theorem wX12_year_34 (C : cpCx p s m args meth c w A cX12_year RX12 6) (hr : meth.sig.returnType = (some .int)) {r : Int32 × cpS} (x2 : Int32) : ∀ (n : Nat) (x3 : Int32) (x4 : Int32) (S : cpS), fX12_year_34 x2 n x3 x4 S = some r → cpJ p l e (cpRm 7) s m args below meth c (MQ below (va_Qi (fun x S' => (x, S') = r) (cpWorld w A) A) args s 0 0 A) w A 6 34 [some (.ref (w.2.1 150)), none, some (.int x2), some (.int x3), some (.int x4), none] [] S := by
  intro n
  induction n with
  | zero => intro x3 x4 S h; rw [fX12_year_34] at h; cases h
  | succ n ih =>
    intro x3 x4 S h
    rw [fX12_year_34] at h
    refine cj_iload C dX12_year_34 rfl ?_
    refine cj_iload_n C (i := 2) dX12_year_36 rfl rfl ?_
    refine cj_icmp_ge C (tgt := 74) dX12_year_37 rfl h (fun _ h => ?_) (fun _ h => ?_)
    · refine cj_iload_n C (i := 3) dX12_year_74 rfl rfl ?_
      refine cj_if_le C (tgt := 82) dX12_year_75 rfl h (fun _ h => ?_) (fun _ h => ?_)
      · refine cj_iload_n C (i := 3) dX12_year_82 rfl rfl ?_
        exact cj_ireturn C hr h dX12_year_83
      · refine cj_aload_n C (i := 0) dX12_year_78 rfl rfl ?_
        refine cj_callVv C (As := []) (rest := []) qX12_notes mw_40_1 o_150 rfl rfl rfl (Nat.le_of_ble_eq_true rfl) (by decide) dX12_year_79 h (fun _ _ hf => m_X12_notes l w A S _ hf) (fun z1 S2 h => ?_)
        refine cj_iload_n C (i := 3) dX12_year_82 rfl rfl ?_
        exact cj_ireturn C hr h dX12_year_83
    · refine cj_aload_n C (i := 0) dX12_year_40 rfl rfl ?_
      refine cj_callVi C (As := []) (rest := []) qX12_drawn mw_47_2 o_150 rfl rfl rfl (Nat.le_of_ble_eq_true rfl) (by decide) dX12_year_41 h (fun _ _ hf => m_X12_drawn l w A S _ hf) (fun z3 S4 h => ?_)
      refine cj_istore C (lv' := [some (.ref (w.2.1 150)), none, some (.int x2), some (.int x3), some (.int x4), some (.int z3)]) dX12_year_44 (by decide) rfl rfl ?_
      refine cj_aload_n C (i := 0) dX12_year_46 rfl rfl ?_
      refine cj_iload C dX12_year_47 rfl ?_
      refine cj_i2l C dX12_year_49 ?_
      refine cj_callVi C (As := [.long (Int32.toInt64 z3)]) (rest := []) qX12_whyNot mw_44_18 o_150 rfl rfl rfl (Nat.le_of_ble_eq_true rfl) (by decide) dX12_year_50 h (fun _ _ hf => m_X12_whyNot l w A (Int32.toInt64 z3) S4 _ hf) (fun z5 S6 h => ?_)
      refine cj_if_eq C (tgt := 59) dX12_year_53 rfl h (fun _ h => ?_) (fun _ h => ?_)
      · refine cj_aload_n C (i := 0) dX12_year_59 rfl rfl ?_
        refine cj_iload C dX12_year_60 rfl ?_
        refine cj_callVv C (As := [.int z3]) (rest := []) qX12_does mw_45_7 o_150 rfl rfl rfl (Nat.le_of_ble_eq_true rfl) (by decide) dX12_year_62 h (fun _ _ hf => m_X12_does l w A z3 S6 _ hf) (fun z7 S8 h => ?_)
        refine cj_iinc C (v := (x3 + 1)) (lv' := [some (.ref (w.2.1 150)), none, some (.int x2), some (.int (x3 + 1)), some (.int x4), some (.int z3)]) dX12_year_65 rfl rfl (by decide) rfl rfl ?_
        refine cj_iinc C (v := (x4 + 1)) (lv' := [some (.ref (w.2.1 150)), none, some (.int x2), some (.int (x3 + 1)), some (.int (x4 + 1)), some (.int z3)]) dX12_year_68 rfl rfl (by decide) rfl rfl ?_
        refine cj_goto C (tgt := 34) dX12_year_71 rfl ?_
        refine cj_weak C (lv' := [some (.ref (w.2.1 150)), none, some (.int x2), some (.int (x3 + 1)), some (.int (x4 + 1)), none]) (cpSub_s (cpSub_n (cpSub_s (cpSub_s (cpSub_s (cpSub_n cpSub_nil)))))) ?_
        exact ih (x3 + 1) (x4 + 1) S8 h
      · refine cj_goto C (tgt := 68) dX12_year_56 rfl ?_
        refine cj_iinc C (v := (x4 + 1)) (lv' := [some (.ref (w.2.1 150)), none, some (.int x2), some (.int x3), some (.int (x4 + 1)), some (.int z3)]) dX12_year_68 rfl rfl (by decide) rfl rfl ?_
        refine cj_goto C (tgt := 34) dX12_year_71 rfl ?_
        refine cj_weak C (lv' := [some (.ref (w.2.1 150)), none, some (.int x2), some (.int x3), some (.int (x4 + 1)), none]) (cpSub_s (cpSub_n (cpSub_s (cpSub_s (cpSub_s (cpSub_n cpSub_nil)))))) ?_
        exact ih x3 (x4 + 1) S6 h
def fX12_year (x1 : Int32) (x2 : Int32) (S : cpS) : Option (Int32 × cpS) :=
    cpLt (cpI S 150 0 (0 : Int32)) fun S1 =>
    cpB (fX12_within (Int32.toInt64 x2) (1 : Int64) (40 : Int64) S1) fun z2 S3 =>
    if z2 = 0 then (
    some ((-3 : Int32), S3)) else (
    cpB (fX12_stores S3) fun _ S5 =>
    cpLt (cpI S5 150 22 x1) fun S6 =>
    fX12_year_34 x2 cpFu (0 : Int32) (0 : Int32) S6)
set_option maxRecDepth 100000 in
set_option maxHeartbeats 4000000 in
theorem m_X12_year (l : Launch) (w : cpW) (A : Nat → Prop) (x1 : Int32) (x2 : Int32) (S : cpS) (r : Int32 × cpS) (h : fX12_year x1 x2 S = some r) : cpMi l yX12_year cX12_year 6 ((some .int)) 7 w A [.ref (w.2.1 150), .int x1, .int x2] S r := by
  refine cpMi.of (lv := [some (.ref (w.2.1 150)), some (.int x1), some (.int x2), none, none, none]) (by decide) (Nat.le_of_ble_eq_true rfl) rfl (fun p e s m args below meth c C hr => ?_)
  replace C : cpCx p s m args meth c w A cX12_year RX12 6 := C
  rw [fX12_year] at h
  refine cj_aload_n C (i := 0) dX12_year_0 rfl rfl ?_
  refine cj_iconst C (v := (0 : Int32)) dX12_year_1 rfl ?_
  refine cj_put C (j := 0) o_150 rfl pfX12_1 rfl rfl dX12_year_2 ?_
  refine cj_lets h (fun S1 h => ?_)
  refine cj_iload_n C (i := 2) dX12_year_5 rfl rfl ?_
  refine cj_i2l C dX12_year_6 ?_
  refine cj_lconst C (v := (1 : Int64)) dX12_year_7 rfl ?_
  refine cj_ldc2 C (v := (40 : Int64)) mw_47_0 dX12_year_8 ?_
  refine cj_callSi C (As := [.long (Int32.toInt64 x2), .long (1 : Int64), .long (40 : Int64)]) (rest := []) qX12_within mw_23_15 rfl rfl (Nat.le_of_ble_eq_true rfl) (by decide) dX12_year_11 h (fun _ _ hf => m_X12_within l w A (Int32.toInt64 x2) (1 : Int64) (40 : Int64) S1 _ hf) (fun z2 S3 h => ?_)
  refine cj_if_ne C (tgt := 20) dX12_year_14 rfl h (fun _ h => ?_) (fun _ h => ?_)
  · refine cj_bipush C (v := (-3 : Int32)) dX12_year_17 rfl ?_
    exact cj_ireturn C hr h dX12_year_19
  · refine cj_aload_n C (i := 0) dX12_year_20 rfl rfl ?_
    refine cj_callVv C (As := []) (rest := []) qX12_stores mw_39_17 o_150 rfl rfl rfl (Nat.le_of_ble_eq_true rfl) (by decide) dX12_year_21 h (fun _ _ hf => m_X12_stores l w A S3 _ hf) (fun z4 S5 h => ?_)
    refine cj_aload_n C (i := 0) dX12_year_24 rfl rfl ?_
    refine cj_iload_n C (i := 1) dX12_year_25 rfl rfl ?_
    refine cj_put C (j := 22) o_150 rfl pfX12_369 rfl rfl dX12_year_26 ?_
    refine cj_lets h (fun S6 h => ?_)
    refine cj_iconst C (v := (0 : Int32)) dX12_year_29 rfl ?_
    refine cj_istore_n C (i := 3) (lv' := [some (.ref (w.2.1 150)), some (.int x1), some (.int x2), some (.int (0 : Int32)), none, none]) dX12_year_30 rfl (by decide) rfl rfl ?_
    refine cj_iconst C (v := (0 : Int32)) dX12_year_31 rfl ?_
    refine cj_istore C (lv' := [some (.ref (w.2.1 150)), some (.int x1), some (.int x2), some (.int (0 : Int32)), some (.int (0 : Int32)), none]) dX12_year_32 (by decide) rfl rfl ?_
    refine cj_weak C (lv' := [some (.ref (w.2.1 150)), none, some (.int x2), some (.int (0 : Int32)), some (.int (0 : Int32)), none]) (cpSub_s (cpSub_n (cpSub_s (cpSub_s (cpSub_s (cpSub_n cpSub_nil)))))) ?_
    exact wX12_year_34 C hr x2 cpFu (0 : Int32) (0 : Int32) S6 h
/-! X12_laysBears -/
def fX12_laysBears_21 (x1 : Int32) (x2 : Int32) (k13 : Int32 → cpS → Option (Unit × cpS)) : Nat → Int32 → cpS → Option (Unit × cpS)
  | 0, _, _ => none
  | n + 1, x3, S =>
    if (6 : Int32) ≤ x3 then (
    k13 (x2 + 1) S) else (
    cpB (fX12_isPlace (Int32.toInt64 x2) S) fun z1 S2 =>
    if z1 = 0 then (
    if cpIn (((6 : Int32) * x2) + x3) 36 then (
    cpLt (cpI S2 159 (((6 : Int32) * x2) + x3).toNatClampNeg (0 : Int32)) fun S3 =>
    fX12_laysBears_21 x1 x2 k13 n (x3 + 1) S3) else none) else (
    cpB (fX12_isPlace (Int32.toInt64 x3) S2) fun z4 S5 =>
    if z4 = 0 then (
    if cpIn (((6 : Int32) * x2) + x3) 36 then (
    cpLt (cpI S5 159 (((6 : Int32) * x2) + x3).toNatClampNeg (0 : Int32)) fun S6 =>
    fX12_laysBears_21 x1 x2 k13 n (x3 + 1) S6) else none) else (
    cpB (fX12_bearersOf x1 x2 x3 S5) fun z7 S8 =>
    if cpIn (((6 : Int32) * x2) + x3) 36 then (
    cpLt (cpI S8 159 (((6 : Int32) * x2) + x3).toNatClampNeg z7) fun S9 =>
    fX12_laysBears_21 x1 x2 k13 n (x3 + 1) S9) else none)))
set_option maxRecDepth 100000 in
set_option maxHeartbeats 4000000 in
theorem wX12_laysBears_21 (C : cpCx p s m args meth c w A cX12_laysBears RX12 4) (hr : meth.sig.returnType = none) {r : Unit × cpS} (x1 : Int32) (x2 : Int32) {k13 : Int32 → cpS → Option (Unit × cpS)} (hk13 : ∀ (x2 : Int32) (S : cpS), k13 x2 S = some r → cpJ p l e (cpRm 5) s m args below meth c (MQ below (va_Qv (fun S' => ((), S') = r) (cpWorld w A) A) args s 0 0 A) w A 4 13 [some (.ref (w.2.1 150)), some (.int x1), some (.int x2), none] [] S) : ∀ (n : Nat) (x3 : Int32) (S : cpS), fX12_laysBears_21 x1 x2 k13 n x3 S = some r → cpJ p l e (cpRm 5) s m args below meth c (MQ below (va_Qv (fun S' => ((), S') = r) (cpWorld w A) A) args s 0 0 A) w A 4 21 [some (.ref (w.2.1 150)), some (.int x1), some (.int x2), some (.int x3)] [] S := by
  intro n
  induction n with
  | zero => intro x3 S h; rw [fX12_laysBears_21] at h; cases h
  | succ n ih =>
    intro x3 S h
    rw [fX12_laysBears_21] at h
    refine cj_iload_n C (i := 3) dX12_laysBears_21 rfl rfl ?_
    refine cj_bipush C (v := (6 : Int32)) dX12_laysBears_22 rfl ?_
    refine cj_icmp_ge C (tgt := 73) dX12_laysBears_24 rfl h (fun _ h => ?_) (fun _ h => ?_)
    · refine cj_iinc C (v := (x2 + 1)) (lv' := [some (.ref (w.2.1 150)), some (.int x1), some (.int (x2 + 1)), some (.int x3)]) dX12_laysBears_73 rfl rfl (by decide) rfl rfl ?_
      refine cj_goto C (tgt := 13) dX12_laysBears_76 rfl ?_
      refine cj_weak C (lv' := [some (.ref (w.2.1 150)), some (.int x1), some (.int (x2 + 1)), none]) (cpSub_s (cpSub_s (cpSub_s (cpSub_n cpSub_nil)))) ?_
      exact hk13 (x2 + 1) S h
    · refine cj_aload_n C (i := 0) dX12_laysBears_27 rfl rfl ?_
      refine cj_getR C (d := 159) o_150 rfl gfX12_42 dX12_laysBears_28 ?_
      refine cj_bipush C (v := (6 : Int32)) dX12_laysBears_31 rfl ?_
      refine cj_iload_n C (i := 2) dX12_laysBears_33 rfl rfl ?_
      refine cj_imul C dX12_laysBears_34 ?_
      refine cj_iload_n C (i := 3) dX12_laysBears_35 rfl rfl ?_
      refine cj_iadd C dX12_laysBears_36 ?_
      refine cj_aload_n C (i := 0) dX12_laysBears_37 rfl rfl ?_
      refine cj_iload_n C (i := 2) dX12_laysBears_38 rfl rfl ?_
      refine cj_i2l C dX12_laysBears_39 ?_
      refine cj_callVi C (As := [.long (Int32.toInt64 x2)]) (rest := [.int (((6 : Int32) * x2) + x3), .ref (w.2.1 159)]) qX12_isPlace mw_31_19 o_150 rfl rfl rfl (Nat.le_of_ble_eq_true rfl) (by decide) dX12_laysBears_40 h (fun _ _ hf => m_X12_isPlace l w A (Int32.toInt64 x2) S _ hf) (fun z1 S2 h => ?_)
      refine cj_if_eq C (tgt := 65) dX12_laysBears_43 rfl h (fun _ h => ?_) (fun _ h => ?_)
      · refine cj_iconst C (v := (0 : Int32)) dX12_laysBears_65 rfl ?_
        refine cj_iastore C o_159 h dX12_laysBears_66 (fun h => ?_)
        refine cj_lets h (fun S3 h => ?_)
        refine cj_iinc C (v := (x3 + 1)) (lv' := [some (.ref (w.2.1 150)), some (.int x1), some (.int x2), some (.int (x3 + 1))]) dX12_laysBears_67 rfl rfl (by decide) rfl rfl ?_
        refine cj_goto C (tgt := 21) dX12_laysBears_70 rfl ?_
        exact ih (x3 + 1) S3 h
      · refine cj_aload_n C (i := 0) dX12_laysBears_46 rfl rfl ?_
        refine cj_iload_n C (i := 3) dX12_laysBears_47 rfl rfl ?_
        refine cj_i2l C dX12_laysBears_48 ?_
        refine cj_callVi C (As := [.long (Int32.toInt64 x3)]) (rest := [.int (((6 : Int32) * x2) + x3), .ref (w.2.1 159)]) qX12_isPlace mw_31_19 o_150 rfl rfl rfl (Nat.le_of_ble_eq_true rfl) (by decide) dX12_laysBears_49 h (fun _ _ hf => m_X12_isPlace l w A (Int32.toInt64 x3) S2 _ hf) (fun z4 S5 h => ?_)
        refine cj_if_eq C (tgt := 65) dX12_laysBears_52 rfl h (fun _ h => ?_) (fun _ h => ?_)
        · refine cj_iconst C (v := (0 : Int32)) dX12_laysBears_65 rfl ?_
          refine cj_iastore C o_159 h dX12_laysBears_66 (fun h => ?_)
          refine cj_lets h (fun S6 h => ?_)
          refine cj_iinc C (v := (x3 + 1)) (lv' := [some (.ref (w.2.1 150)), some (.int x1), some (.int x2), some (.int (x3 + 1))]) dX12_laysBears_67 rfl rfl (by decide) rfl rfl ?_
          refine cj_goto C (tgt := 21) dX12_laysBears_70 rfl ?_
          exact ih (x3 + 1) S6 h
        · refine cj_aload_n C (i := 0) dX12_laysBears_55 rfl rfl ?_
          refine cj_iload_n C (i := 1) dX12_laysBears_56 rfl rfl ?_
          refine cj_iload_n C (i := 2) dX12_laysBears_57 rfl rfl ?_
          refine cj_iload_n C (i := 3) dX12_laysBears_58 rfl rfl ?_
          refine cj_callVi C (As := [.int x1, .int x2, .int x3]) (rest := [.int (((6 : Int32) * x2) + x3), .ref (w.2.1 159)]) qX12_bearersOf mw_38_15 o_150 rfl rfl rfl (Nat.le_of_ble_eq_true rfl) (by decide) dX12_laysBears_59 h (fun _ _ hf => m_X12_bearersOf l w A x1 x2 x3 S5 _ hf) (fun z7 S8 h => ?_)
          refine cj_goto C (tgt := 66) dX12_laysBears_62 rfl ?_
          refine cj_iastore C o_159 h dX12_laysBears_66 (fun h => ?_)
          refine cj_lets h (fun S9 h => ?_)
          refine cj_iinc C (v := (x3 + 1)) (lv' := [some (.ref (w.2.1 150)), some (.int x1), some (.int x2), some (.int (x3 + 1))]) dX12_laysBears_67 rfl rfl (by decide) rfl rfl ?_
          refine cj_goto C (tgt := 21) dX12_laysBears_70 rfl ?_
          exact ih (x3 + 1) S9 h
def fX12_laysBears_13 (x1 : Int32) : Nat → Int32 → cpS → Option (Unit × cpS)
  | 0, _, _ => none
  | n + 1, x2, S =>
    if (6 : Int32) ≤ x2 then (
    some ((), S)) else (
    fX12_laysBears_21 x1 x2 (fX12_laysBears_13 x1 n) cpFu (0 : Int32) S)
set_option maxRecDepth 100000 in
set_option maxHeartbeats 4000000 in
theorem wX12_laysBears_13 (C : cpCx p s m args meth c w A cX12_laysBears RX12 4) (hr : meth.sig.returnType = none) {r : Unit × cpS} (x1 : Int32) : ∀ (n : Nat) (x2 : Int32) (S : cpS), fX12_laysBears_13 x1 n x2 S = some r → cpJ p l e (cpRm 5) s m args below meth c (MQ below (va_Qv (fun S' => ((), S') = r) (cpWorld w A) A) args s 0 0 A) w A 4 13 [some (.ref (w.2.1 150)), some (.int x1), some (.int x2), none] [] S := by
  intro n
  induction n with
  | zero => intro x2 S h; rw [fX12_laysBears_13] at h; cases h
  | succ n ih =>
    intro x2 S h
    rw [fX12_laysBears_13] at h
    refine cj_iload_n C (i := 2) dX12_laysBears_13 rfl rfl ?_
    refine cj_bipush C (v := (6 : Int32)) dX12_laysBears_14 rfl ?_
    refine cj_icmp_ge C (tgt := 79) dX12_laysBears_16 rfl h (fun _ h => ?_) (fun _ h => ?_)
    · exact cj_vreturn C hr h dX12_laysBears_79
    · refine cj_iconst C (v := (0 : Int32)) dX12_laysBears_19 rfl ?_
      refine cj_istore_n C (i := 3) (lv' := [some (.ref (w.2.1 150)), some (.int x1), some (.int x2), some (.int (0 : Int32))]) dX12_laysBears_20 rfl (by decide) rfl rfl ?_
      exact wX12_laysBears_21 C hr x1 x2 ih cpFu (0 : Int32) S h
def fX12_laysBears (x1 : Int32) (S : cpS) : Option (Unit × cpS) :=
    cpB (fX12_laysNow (S.1 151 78) S) fun _ S2 =>
    fX12_laysBears_13 x1 cpFu (0 : Int32) S2
set_option maxRecDepth 100000 in
set_option maxHeartbeats 4000000 in
theorem m_X12_laysBears (l : Launch) (w : cpW) (A : Nat → Prop) (x1 : Int32) (S : cpS) (r : Unit × cpS) (h : fX12_laysBears x1 S = some r) : cpMv l yX12_laysBears cX12_laysBears 4 (none) 5 w A [.ref (w.2.1 150), .int x1] S r := by
  refine cpMv.of (lv := [some (.ref (w.2.1 150)), some (.int x1), none, none]) (by decide) (Nat.le_of_ble_eq_true rfl) rfl (fun p e s m args below meth c C hr => ?_)
  replace C : cpCx p s m args meth c w A cX12_laysBears RX12 4 := C
  rw [fX12_laysBears] at h
  refine cj_aload_n C (i := 0) dX12_laysBears_0 rfl rfl ?_
  refine cj_aload_n C (i := 0) dX12_laysBears_1 rfl rfl ?_
  refine cj_getR C (d := 151) o_150 rfl gfX12_13 dX12_laysBears_2 ?_
  refine cj_bipush C (v := (78 : Int32)) dX12_laysBears_5 rfl ?_
  refine cj_ialoadC C (j := 78) o_151 (by decide) (by decide) dX12_laysBears_7 ?_
  refine cj_callVv C (As := [.int (S.1 151 78)]) (rest := []) qX12_laysNow mw_36_7 o_150 rfl rfl rfl (Nat.le_of_ble_eq_true rfl) (by decide) dX12_laysBears_8 h (fun _ _ hf => m_X12_laysNow l w A (S.1 151 78) S _ hf) (fun z1 S2 h => ?_)
  refine cj_iconst C (v := (0 : Int32)) dX12_laysBears_11 rfl ?_
  refine cj_istore_n C (i := 2) (lv' := [some (.ref (w.2.1 150)), some (.int x1), some (.int (0 : Int32)), none]) dX12_laysBears_12 rfl (by decide) rfl rfl ?_
  exact wX12_laysBears_13 C hr x1 cpFu (0 : Int32) S2 h
/-! X12_laysStill -/
def fX12_laysStill_58 (x1 : Int32) (x4 : Int32) (k39 : Int32 → cpS → Option (Int32 × cpS)) (k48 : Int32 → Int32 → cpS → Option (Int32 × cpS)) : Nat → Int32 → Int32 → cpS → Option (Int32 × cpS)
  | 0, _, _, _ => none
  | n + 1, x3, x5, S =>
    if (6 : Int32) ≤ x5 then (
    k48 x3 (x4 + 1) S) else (
    if cpIn (((6 : Int32) * x4) + x5) 36 then (
    if (S.1 159 (((6 : Int32) * x4) + x5).toNatClampNeg) = 0 then (
    fX12_laysStill_58 x1 x4 k39 k48 n x3 (x5 + 1) S) else (
    if cpIn x5 6 then (
    if (S.1 160 x5.toNatClampNeg) = (268435456 : Int32) then (
    fX12_laysStill_58 x1 x4 k39 k48 n x3 (x5 + 1) S) else (
    if cpIn x5 6 then (
    if cpIn x4 6 then (
    if ((S.1 160 x5.toNatClampNeg) + (1 : Int32)) < (S.1 160 x4.toNatClampNeg) then (
    if cpIn x5 6 then (
    if cpIn x4 6 then (
    cpLt (cpI S 160 x4.toNatClampNeg ((S.1 160 x5.toNatClampNeg) + (1 : Int32))) fun S1 =>
    fX12_laysStill_58 x1 x4 k39 k48 n (1 : Int32) (x5 + 1) S1) else none) else none) else (
    fX12_laysStill_58 x1 x4 k39 k48 n x3 (x5 + 1) S)) else none) else none)) else none)) else none)
set_option maxRecDepth 100000 in
set_option maxHeartbeats 4000000 in
theorem wX12_laysStill_58 (C : cpCx p s m args meth c w A cX12_laysStill RX12 6) (hr : meth.sig.returnType = (some .int)) {r : Int32 × cpS} (x1 : Int32) (x4 : Int32) {k39 : Int32 → cpS → Option (Int32 × cpS)} (hk39 : ∀ (x3 : Int32) (S : cpS), k39 x3 S = some r → cpJ p l e (cpRm 6) s m args below meth c (MQ below (va_Qi (fun x S' => (x, S') = r) (cpWorld w A) A) args s 0 0 A) w A 6 39 [some (.ref (w.2.1 150)), some (.int x1), none, some (.int x3), none, none] [] S) {k48 : Int32 → Int32 → cpS → Option (Int32 × cpS)} (hk48 : ∀ (x3 : Int32) (x4 : Int32) (S : cpS), k48 x3 x4 S = some r → cpJ p l e (cpRm 6) s m args below meth c (MQ below (va_Qi (fun x S' => (x, S') = r) (cpWorld w A) A) args s 0 0 A) w A 6 48 [some (.ref (w.2.1 150)), some (.int x1), none, some (.int x3), some (.int x4), none] [] S) : ∀ (n : Nat) (x3 : Int32) (x5 : Int32) (S : cpS), fX12_laysStill_58 x1 x4 k39 k48 n x3 x5 S = some r → cpJ p l e (cpRm 6) s m args below meth c (MQ below (va_Qi (fun x S' => (x, S') = r) (cpWorld w A) A) args s 0 0 A) w A 6 58 [some (.ref (w.2.1 150)), some (.int x1), none, some (.int x3), some (.int x4), some (.int x5)] [] S := by
  intro n
  induction n with
  | zero => intro x3 x5 S h; rw [fX12_laysStill_58] at h; cases h
  | succ n ih =>
    intro x3 x5 S h
    rw [fX12_laysStill_58] at h
    refine cj_iload C dX12_laysStill_58 rfl ?_
    refine cj_bipush C (v := (6 : Int32)) dX12_laysStill_60 rfl ?_
    refine cj_icmp_ge C (tgt := 140) dX12_laysStill_62 rfl h (fun _ h => ?_) (fun _ h => ?_)
    · refine cj_iinc C (v := (x4 + 1)) (lv' := [some (.ref (w.2.1 150)), some (.int x1), none, some (.int x3), some (.int (x4 + 1)), some (.int x5)]) dX12_laysStill_140 rfl rfl (by decide) rfl rfl ?_
      refine cj_goto C (tgt := 48) dX12_laysStill_143 rfl ?_
      refine cj_weak C (lv' := [some (.ref (w.2.1 150)), some (.int x1), none, some (.int x3), some (.int (x4 + 1)), none]) (cpSub_s (cpSub_s (cpSub_n (cpSub_s (cpSub_s (cpSub_n cpSub_nil)))))) ?_
      exact hk48 x3 (x4 + 1) S h
    · refine cj_aload_n C (i := 0) dX12_laysStill_65 rfl rfl ?_
      refine cj_getR C (d := 159) o_150 rfl gfX12_42 dX12_laysStill_66 ?_
      refine cj_bipush C (v := (6 : Int32)) dX12_laysStill_69 rfl ?_
      refine cj_iload C dX12_laysStill_71 rfl ?_
      refine cj_imul C dX12_laysStill_73 ?_
      refine cj_iload C dX12_laysStill_74 rfl ?_
      refine cj_iadd C dX12_laysStill_76 ?_
      refine cj_iaload C o_159 h dX12_laysStill_77 (fun h => ?_)
      refine cj_if_eq C (tgt := 134) dX12_laysStill_78 rfl h (fun _ h => ?_) (fun _ h => ?_)
      · refine cj_iinc C (v := (x5 + 1)) (lv' := [some (.ref (w.2.1 150)), some (.int x1), none, some (.int x3), some (.int x4), some (.int (x5 + 1))]) dX12_laysStill_134 rfl rfl (by decide) rfl rfl ?_
        refine cj_goto C (tgt := 58) dX12_laysStill_137 rfl ?_
        exact ih x3 (x5 + 1) S h
      · refine cj_aload_n C (i := 0) dX12_laysStill_81 rfl rfl ?_
        refine cj_getR C (d := 160) o_150 rfl gfX12_45 dX12_laysStill_82 ?_
        refine cj_iload C dX12_laysStill_85 rfl ?_
        refine cj_iaload C o_160 h dX12_laysStill_87 (fun h => ?_)
        refine cj_ldcw C (v := (268435456 : Int32)) mw_49_14 dX12_laysStill_88 ?_
        refine cj_icmp_eq C (tgt := 134) dX12_laysStill_91 rfl h (fun _ h => ?_) (fun _ h => ?_)
        · refine cj_iinc C (v := (x5 + 1)) (lv' := [some (.ref (w.2.1 150)), some (.int x1), none, some (.int x3), some (.int x4), some (.int (x5 + 1))]) dX12_laysStill_134 rfl rfl (by decide) rfl rfl ?_
          refine cj_goto C (tgt := 58) dX12_laysStill_137 rfl ?_
          exact ih x3 (x5 + 1) S h
        · refine cj_aload_n C (i := 0) dX12_laysStill_94 rfl rfl ?_
          refine cj_getR C (d := 160) o_150 rfl gfX12_45 dX12_laysStill_95 ?_
          refine cj_iload C dX12_laysStill_98 rfl ?_
          refine cj_iaload C o_160 h dX12_laysStill_100 (fun h => ?_)
          refine cj_iconst C (v := (1 : Int32)) dX12_laysStill_101 rfl ?_
          refine cj_iadd C dX12_laysStill_102 ?_
          refine cj_aload_n C (i := 0) dX12_laysStill_103 rfl rfl ?_
          refine cj_getR C (d := 160) o_150 rfl gfX12_45 dX12_laysStill_104 ?_
          refine cj_iload C dX12_laysStill_107 rfl ?_
          refine cj_iaload C o_160 h dX12_laysStill_109 (fun h => ?_)
          refine cj_icmp_lt C (tgt := 116) dX12_laysStill_110 rfl h (fun _ h => ?_) (fun _ h => ?_)
          · refine cj_aload_n C (i := 0) dX12_laysStill_116 rfl rfl ?_
            refine cj_getR C (d := 160) o_150 rfl gfX12_45 dX12_laysStill_117 ?_
            refine cj_iload C dX12_laysStill_120 rfl ?_
            refine cj_aload_n C (i := 0) dX12_laysStill_122 rfl rfl ?_
            refine cj_getR C (d := 160) o_150 rfl gfX12_45 dX12_laysStill_123 ?_
            refine cj_iload C dX12_laysStill_126 rfl ?_
            refine cj_iaload C o_160 h dX12_laysStill_128 (fun h => ?_)
            refine cj_iconst C (v := (1 : Int32)) dX12_laysStill_129 rfl ?_
            refine cj_iadd C dX12_laysStill_130 ?_
            refine cj_iastore C o_160 h dX12_laysStill_131 (fun h => ?_)
            refine cj_lets h (fun S1 h => ?_)
            refine cj_iconst C (v := (1 : Int32)) dX12_laysStill_132 rfl ?_
            refine cj_istore_n C (i := 3) (lv' := [some (.ref (w.2.1 150)), some (.int x1), none, some (.int (1 : Int32)), some (.int x4), some (.int x5)]) dX12_laysStill_133 rfl (by decide) rfl rfl ?_
            refine cj_iinc C (v := (x5 + 1)) (lv' := [some (.ref (w.2.1 150)), some (.int x1), none, some (.int (1 : Int32)), some (.int x4), some (.int (x5 + 1))]) dX12_laysStill_134 rfl rfl (by decide) rfl rfl ?_
            refine cj_goto C (tgt := 58) dX12_laysStill_137 rfl ?_
            exact ih (1 : Int32) (x5 + 1) S1 h
          · refine cj_goto C (tgt := 134) dX12_laysStill_113 rfl ?_
            refine cj_iinc C (v := (x5 + 1)) (lv' := [some (.ref (w.2.1 150)), some (.int x1), none, some (.int x3), some (.int x4), some (.int (x5 + 1))]) dX12_laysStill_134 rfl rfl (by decide) rfl rfl ?_
            refine cj_goto C (tgt := 58) dX12_laysStill_137 rfl ?_
            exact ih x3 (x5 + 1) S h
def fX12_laysStill_48 (x1 : Int32) (k39 : Int32 → cpS → Option (Int32 × cpS)) : Nat → Int32 → Int32 → cpS → Option (Int32 × cpS)
  | 0, _, _, _ => none
  | n + 1, x3, x4, S =>
    if (6 : Int32) ≤ x4 then (
    k39 x3 S) else (
    fX12_laysStill_58 x1 x4 k39 (fX12_laysStill_48 x1 k39 n) cpFu x3 (0 : Int32) S)
set_option maxRecDepth 100000 in
set_option maxHeartbeats 4000000 in
theorem wX12_laysStill_48 (C : cpCx p s m args meth c w A cX12_laysStill RX12 6) (hr : meth.sig.returnType = (some .int)) {r : Int32 × cpS} (x1 : Int32) {k39 : Int32 → cpS → Option (Int32 × cpS)} (hk39 : ∀ (x3 : Int32) (S : cpS), k39 x3 S = some r → cpJ p l e (cpRm 6) s m args below meth c (MQ below (va_Qi (fun x S' => (x, S') = r) (cpWorld w A) A) args s 0 0 A) w A 6 39 [some (.ref (w.2.1 150)), some (.int x1), none, some (.int x3), none, none] [] S) : ∀ (n : Nat) (x3 : Int32) (x4 : Int32) (S : cpS), fX12_laysStill_48 x1 k39 n x3 x4 S = some r → cpJ p l e (cpRm 6) s m args below meth c (MQ below (va_Qi (fun x S' => (x, S') = r) (cpWorld w A) A) args s 0 0 A) w A 6 48 [some (.ref (w.2.1 150)), some (.int x1), none, some (.int x3), some (.int x4), none] [] S := by
  intro n
  induction n with
  | zero => intro x3 x4 S h; rw [fX12_laysStill_48] at h; cases h
  | succ n ih =>
    intro x3 x4 S h
    rw [fX12_laysStill_48] at h
    refine cj_iload C dX12_laysStill_48 rfl ?_
    refine cj_bipush C (v := (6 : Int32)) dX12_laysStill_50 rfl ?_
    refine cj_icmp_ge C (tgt := 146) dX12_laysStill_52 rfl h (fun _ h => ?_) (fun _ h => ?_)
    · refine cj_goto C (tgt := 39) dX12_laysStill_146 rfl ?_
      refine cj_weak C (lv' := [some (.ref (w.2.1 150)), some (.int x1), none, some (.int x3), none, none]) (cpSub_s (cpSub_s (cpSub_n (cpSub_s (cpSub_n (cpSub_n cpSub_nil)))))) ?_
      exact hk39 x3 S h
    · refine cj_iconst C (v := (0 : Int32)) dX12_laysStill_55 rfl ?_
      refine cj_istore C (lv' := [some (.ref (w.2.1 150)), some (.int x1), none, some (.int x3), some (.int x4), some (.int (0 : Int32))]) dX12_laysStill_56 (by decide) rfl rfl ?_
      exact wX12_laysStill_58 C hr x1 x4 hk39 ih cpFu x3 (0 : Int32) S h
def fX12_laysStill_39 (x1 : Int32) : Nat → Int32 → cpS → Option (Int32 × cpS)
  | 0, _, _ => none
  | n + 1, x3, S =>
    if x3 = 0 then (
    if cpIn ((62 : Int32) + x1) 3486 then (
    if cpIn (S.1 151 ((62 : Int32) + x1).toNatClampNeg) 6 then (
    some ((S.1 160 (S.1 151 ((62 : Int32) + x1).toNatClampNeg).toNatClampNeg), S)) else none) else none) else (
    fX12_laysStill_48 x1 (fX12_laysStill_39 x1 n) cpFu (0 : Int32) (0 : Int32) S)
set_option maxRecDepth 100000 in
set_option maxHeartbeats 4000000 in
theorem wX12_laysStill_39 (C : cpCx p s m args meth c w A cX12_laysStill RX12 6) (hr : meth.sig.returnType = (some .int)) {r : Int32 × cpS} (x1 : Int32) : ∀ (n : Nat) (x3 : Int32) (S : cpS), fX12_laysStill_39 x1 n x3 S = some r → cpJ p l e (cpRm 6) s m args below meth c (MQ below (va_Qi (fun x S' => (x, S') = r) (cpWorld w A) A) args s 0 0 A) w A 6 39 [some (.ref (w.2.1 150)), some (.int x1), none, some (.int x3), none, none] [] S := by
  intro n
  induction n with
  | zero => intro x3 S h; rw [fX12_laysStill_39] at h; cases h
  | succ n ih =>
    intro x3 S h
    rw [fX12_laysStill_39] at h
    refine cj_iload_n C (i := 3) dX12_laysStill_39 rfl rfl ?_
    refine cj_if_eq C (tgt := 149) dX12_laysStill_40 rfl h (fun _ h => ?_) (fun _ h => ?_)
    · refine cj_aload_n C (i := 0) dX12_laysStill_149 rfl rfl ?_
      refine cj_getR C (d := 160) o_150 rfl gfX12_45 dX12_laysStill_150 ?_
      refine cj_aload_n C (i := 0) dX12_laysStill_153 rfl rfl ?_
      refine cj_getR C (d := 151) o_150 rfl gfX12_13 dX12_laysStill_154 ?_
      refine cj_bipush C (v := (62 : Int32)) dX12_laysStill_157 rfl ?_
      refine cj_iload_n C (i := 1) dX12_laysStill_159 rfl rfl ?_
      refine cj_iadd C dX12_laysStill_160 ?_
      refine cj_iaload C o_151 h dX12_laysStill_161 (fun h => ?_)
      refine cj_iaload C o_160 h dX12_laysStill_162 (fun h => ?_)
      exact cj_ireturn C hr h dX12_laysStill_163
    · refine cj_iconst C (v := (0 : Int32)) dX12_laysStill_43 rfl ?_
      refine cj_istore_n C (i := 3) (lv' := [some (.ref (w.2.1 150)), some (.int x1), none, some (.int (0 : Int32)), none, none]) dX12_laysStill_44 rfl (by decide) rfl rfl ?_
      refine cj_iconst C (v := (0 : Int32)) dX12_laysStill_45 rfl ?_
      refine cj_istore C (lv' := [some (.ref (w.2.1 150)), some (.int x1), none, some (.int (0 : Int32)), some (.int (0 : Int32)), none]) dX12_laysStill_46 (by decide) rfl rfl ?_
      exact wX12_laysStill_48 C hr x1 ih cpFu (0 : Int32) (0 : Int32) S h
def fX12_laysStill_7 (x1 : Int32) (x2 : Int32) : Nat → Int32 → cpS → Option (Int32 × cpS)
  | 0, _, _ => none
  | n + 1, x3, S =>
    if (6 : Int32) ≤ x3 then (
    fX12_laysStill_39 x1 cpFu (1 : Int32) S) else (
    if x3 = x2 then (
    if cpIn x3 6 then (
    cpLt (cpI S 160 x3.toNatClampNeg (0 : Int32)) fun S1 =>
    fX12_laysStill_7 x1 x2 n (x3 + 1) S1) else none) else (
    if cpIn x3 6 then (
    cpLt (cpI S 160 x3.toNatClampNeg (268435456 : Int32)) fun S2 =>
    fX12_laysStill_7 x1 x2 n (x3 + 1) S2) else none))
set_option maxRecDepth 100000 in
set_option maxHeartbeats 4000000 in
theorem wX12_laysStill_7 (C : cpCx p s m args meth c w A cX12_laysStill RX12 6) (hr : meth.sig.returnType = (some .int)) {r : Int32 × cpS} (x1 : Int32) (x2 : Int32) : ∀ (n : Nat) (x3 : Int32) (S : cpS), fX12_laysStill_7 x1 x2 n x3 S = some r → cpJ p l e (cpRm 6) s m args below meth c (MQ below (va_Qi (fun x S' => (x, S') = r) (cpWorld w A) A) args s 0 0 A) w A 6 7 [some (.ref (w.2.1 150)), some (.int x1), some (.int x2), some (.int x3), none, none] [] S := by
  intro n
  induction n with
  | zero => intro x3 S h; rw [fX12_laysStill_7] at h; cases h
  | succ n ih =>
    intro x3 S h
    rw [fX12_laysStill_7] at h
    refine cj_iload_n C (i := 3) dX12_laysStill_7 rfl rfl ?_
    refine cj_bipush C (v := (6 : Int32)) dX12_laysStill_8 rfl ?_
    refine cj_icmp_ge C (tgt := 37) dX12_laysStill_10 rfl h (fun _ h => ?_) (fun _ h => ?_)
    · refine cj_iconst C (v := (1 : Int32)) dX12_laysStill_37 rfl ?_
      refine cj_istore_n C (i := 3) (lv' := [some (.ref (w.2.1 150)), some (.int x1), some (.int x2), some (.int (1 : Int32)), none, none]) dX12_laysStill_38 rfl (by decide) rfl rfl ?_
      refine cj_weak C (lv' := [some (.ref (w.2.1 150)), some (.int x1), none, some (.int (1 : Int32)), none, none]) (cpSub_s (cpSub_s (cpSub_n (cpSub_s (cpSub_n (cpSub_n cpSub_nil)))))) ?_
      exact wX12_laysStill_39 C hr x1 cpFu (1 : Int32) S h
    · refine cj_aload_n C (i := 0) dX12_laysStill_13 rfl rfl ?_
      refine cj_getR C (d := 160) o_150 rfl gfX12_45 dX12_laysStill_14 ?_
      refine cj_iload_n C (i := 3) dX12_laysStill_17 rfl rfl ?_
      refine cj_iload_n C (i := 3) dX12_laysStill_18 rfl rfl ?_
      refine cj_iload_n C (i := 2) dX12_laysStill_19 rfl rfl ?_
      refine cj_icmp_ne C (tgt := 27) dX12_laysStill_20 rfl h (fun _ h => ?_) (fun _ h => ?_)
      · refine cj_iconst C (v := (0 : Int32)) dX12_laysStill_23 rfl ?_
        refine cj_goto C (tgt := 30) dX12_laysStill_24 rfl ?_
        refine cj_iastore C o_160 h dX12_laysStill_30 (fun h => ?_)
        refine cj_lets h (fun S1 h => ?_)
        refine cj_iinc C (v := (x3 + 1)) (lv' := [some (.ref (w.2.1 150)), some (.int x1), some (.int x2), some (.int (x3 + 1)), none, none]) dX12_laysStill_31 rfl rfl (by decide) rfl rfl ?_
        refine cj_goto C (tgt := 7) dX12_laysStill_34 rfl ?_
        exact ih (x3 + 1) S1 h
      · refine cj_ldcw C (v := (268435456 : Int32)) mw_49_14 dX12_laysStill_27 ?_
        refine cj_iastore C o_160 h dX12_laysStill_30 (fun h => ?_)
        refine cj_lets h (fun S2 h => ?_)
        refine cj_iinc C (v := (x3 + 1)) (lv' := [some (.ref (w.2.1 150)), some (.int x1), some (.int x2), some (.int (x3 + 1)), none, none]) dX12_laysStill_31 rfl rfl (by decide) rfl rfl ?_
        refine cj_goto C (tgt := 7) dX12_laysStill_34 rfl ?_
        exact ih (x3 + 1) S2 h
def fX12_laysStill (x1 : Int32) (x2 : Int32) (S : cpS) : Option (Int32 × cpS) :=
    cpB (fX12_laysBears x1 S) fun _ S2 =>
    fX12_laysStill_7 x1 x2 cpFu (0 : Int32) S2
set_option maxRecDepth 100000 in
set_option maxHeartbeats 4000000 in
theorem m_X12_laysStill (l : Launch) (w : cpW) (A : Nat → Prop) (x1 : Int32) (x2 : Int32) (S : cpS) (r : Int32 × cpS) (h : fX12_laysStill x1 x2 S = some r) : cpMi l yX12_laysStill cX12_laysStill 6 ((some .int)) 6 w A [.ref (w.2.1 150), .int x1, .int x2] S r := by
  refine cpMi.of (lv := [some (.ref (w.2.1 150)), some (.int x1), some (.int x2), none, none, none]) (by decide) (Nat.le_of_ble_eq_true rfl) rfl (fun p e s m args below meth c C hr => ?_)
  replace C : cpCx p s m args meth c w A cX12_laysStill RX12 6 := C
  rw [fX12_laysStill] at h
  refine cj_aload_n C (i := 0) dX12_laysStill_0 rfl rfl ?_
  refine cj_iload_n C (i := 1) dX12_laysStill_1 rfl rfl ?_
  refine cj_callVv C (As := [.int x1]) (rest := []) qX12_laysBears mw_49_15 o_150 rfl rfl rfl (Nat.le_of_ble_eq_true rfl) (by decide) dX12_laysStill_2 h (fun _ _ hf => m_X12_laysBears l w A x1 S _ hf) (fun z1 S2 h => ?_)
  refine cj_iconst C (v := (0 : Int32)) dX12_laysStill_5 rfl ?_
  refine cj_istore_n C (i := 3) (lv' := [some (.ref (w.2.1 150)), some (.int x1), some (.int x2), some (.int (0 : Int32)), none, none]) dX12_laysStill_6 rfl (by decide) rfl rfl ?_
  exact wX12_laysStill_7 C hr x1 x2 cpFu (0 : Int32) S2 h
/-! X12_toldFar -/
def fX12_toldFar (x0 : Int32) (S : cpS) : Option (Int32 × cpS) :=
    if x0 = (268435456 : Int32) then (
    some ((-1 : Int32), S)) else (
    some (x0, S))
set_option maxRecDepth 100000 in
set_option maxHeartbeats 4000000 in
theorem m_X12_toldFar (l : Launch) (w : cpW) (A : Nat → Prop) (x0 : Int32) (S : cpS) (r : Int32 × cpS) (h : fX12_toldFar x0 S = some r) : cpMi l yX12_toldFar cX12_toldFar 1 ((some .int)) 0 w A [.int x0] S r := by
  refine cpMi.of (lv := [some (.int x0)]) (by decide) (Nat.le_of_ble_eq_true rfl) rfl (fun p e s m args below meth c C hr => ?_)
  replace C : cpCx p s m args meth c w A cX12_toldFar RX12 1 := C
  rw [fX12_toldFar] at h
  refine cj_iload_n C (i := 0) dX12_toldFar_0 rfl rfl ?_
  refine cj_ldcw C (v := (268435456 : Int32)) mw_49_14 dX12_toldFar_1 ?_
  refine cj_icmp_ne C (tgt := 11) dX12_toldFar_4 rfl h (fun _ h => ?_) (fun _ h => ?_)
  · refine cj_iconst C (v := (-1 : Int32)) dX12_toldFar_7 rfl ?_
    refine cj_goto C (tgt := 12) dX12_toldFar_8 rfl ?_
    exact cj_ireturn C hr h dX12_toldFar_12
  · refine cj_iload_n C (i := 0) dX12_toldFar_11 rfl rfl ?_
    exact cj_ireturn C hr h dX12_toldFar_12
/-! X12_noCoin -/
def fX12_noCoin (x1 : Int32) (x2 : Int32) (S : cpS) : Option (Int32 × cpS) :=
    cpB (fX12_isCoin (Int32.toInt64 x1) S) fun z1 S2 =>
    if z1 = 0 then (
    some ((-2 : Int32), S2)) else (
    cpB (fX12_isPlace (Int32.toInt64 x2) S2) fun z3 S4 =>
    if z3 = 0 then (
    some ((-2 : Int32), S4)) else (
    some ((0 : Int32), S4)))
set_option maxRecDepth 100000 in
set_option maxHeartbeats 4000000 in
theorem m_X12_noCoin (l : Launch) (w : cpW) (A : Nat → Prop) (x1 : Int32) (x2 : Int32) (S : cpS) (r : Int32 × cpS) (h : fX12_noCoin x1 x2 S = some r) : cpMi l yX12_noCoin cX12_noCoin 3 ((some .int)) 2 w A [.ref (w.2.1 150), .int x1, .int x2] S r := by
  refine cpMi.of (lv := [some (.ref (w.2.1 150)), some (.int x1), some (.int x2)]) (by decide) (Nat.le_of_ble_eq_true rfl) rfl (fun p e s m args below meth c C hr => ?_)
  replace C : cpCx p s m args meth c w A cX12_noCoin RX12 3 := C
  rw [fX12_noCoin] at h
  refine cj_aload_n C (i := 0) dX12_noCoin_0 rfl rfl ?_
  refine cj_iload_n C (i := 1) dX12_noCoin_1 rfl rfl ?_
  refine cj_i2l C dX12_noCoin_2 ?_
  refine cj_callVi C (As := [.long (Int32.toInt64 x1)]) (rest := []) qX12_isCoin mw_30_9 o_150 rfl rfl rfl (Nat.le_of_ble_eq_true rfl) (by decide) dX12_noCoin_3 h (fun _ _ hf => m_X12_isCoin l w A (Int32.toInt64 x1) S _ hf) (fun z1 S2 h => ?_)
  refine cj_if_eq C (tgt := 22) dX12_noCoin_6 rfl h (fun _ h => ?_) (fun _ h => ?_)
  · refine cj_bipush C (v := (-2 : Int32)) dX12_noCoin_22 rfl ?_
    exact cj_ireturn C hr h dX12_noCoin_24
  · refine cj_aload_n C (i := 0) dX12_noCoin_9 rfl rfl ?_
    refine cj_iload_n C (i := 2) dX12_noCoin_10 rfl rfl ?_
    refine cj_i2l C dX12_noCoin_11 ?_
    refine cj_callVi C (As := [.long (Int32.toInt64 x2)]) (rest := []) qX12_isPlace mw_31_19 o_150 rfl rfl rfl (Nat.le_of_ble_eq_true rfl) (by decide) dX12_noCoin_12 h (fun _ _ hf => m_X12_isPlace l w A (Int32.toInt64 x2) S2 _ hf) (fun z3 S4 h => ?_)
    refine cj_if_eq C (tgt := 22) dX12_noCoin_15 rfl h (fun _ h => ?_) (fun _ h => ?_)
    · refine cj_bipush C (v := (-2 : Int32)) dX12_noCoin_22 rfl ?_
      exact cj_ireturn C hr h dX12_noCoin_24
    · refine cj_iconst C (v := (0 : Int32)) dX12_noCoin_18 rfl ?_
      refine cj_goto C (tgt := 24) dX12_noCoin_19 rfl ?_
      exact cj_ireturn C hr h dX12_noCoin_24
/-! X12_soonest -/
def fX12_soonest (x1 : Int32) (x2 : Int32) (S : cpS) : Option (Int32 × cpS) :=
    cpLt (cpI S 150 0 (0 : Int32)) fun S1 =>
    cpB (fX12_noCoin x1 x2 S1) fun z2 S3 =>
    if z2 = 0 then (
    cpB (fX12_laysStill x1 x2 S3) fun z4 S5 =>
    cpB (fX12_toldFar z4 S5) fun z6 S7 =>
    some (z6, S7)) else (
    some ((-2 : Int32), S3))
set_option maxRecDepth 100000 in
set_option maxHeartbeats 4000000 in
theorem m_X12_soonest (l : Launch) (w : cpW) (A : Nat → Prop) (x1 : Int32) (x2 : Int32) (S : cpS) (r : Int32 × cpS) (h : fX12_soonest x1 x2 S = some r) : cpMi l yX12_soonest cX12_soonest 3 ((some .int)) 7 w A [.ref (w.2.1 150), .int x1, .int x2] S r := by
  refine cpMi.of (lv := [some (.ref (w.2.1 150)), some (.int x1), some (.int x2)]) (by decide) (Nat.le_of_ble_eq_true rfl) rfl (fun p e s m args below meth c C hr => ?_)
  replace C : cpCx p s m args meth c w A cX12_soonest RX12 3 := C
  rw [fX12_soonest] at h
  refine cj_aload_n C (i := 0) dX12_soonest_0 rfl rfl ?_
  refine cj_iconst C (v := (0 : Int32)) dX12_soonest_1 rfl ?_
  refine cj_put C (j := 0) o_150 rfl pfX12_1 rfl rfl dX12_soonest_2 ?_
  refine cj_lets h (fun S1 h => ?_)
  refine cj_aload_n C (i := 0) dX12_soonest_5 rfl rfl ?_
  refine cj_iload_n C (i := 1) dX12_soonest_6 rfl rfl ?_
  refine cj_iload_n C (i := 2) dX12_soonest_7 rfl rfl ?_
  refine cj_callVi C (As := [.int x1, .int x2]) (rest := []) qX12_noCoin mw_49_6 o_150 rfl rfl rfl (Nat.le_of_ble_eq_true rfl) (by decide) dX12_soonest_8 h (fun _ _ hf => m_X12_noCoin l w A x1 x2 S1 _ hf) (fun z2 S3 h => ?_)
  refine cj_if_eq C (tgt := 19) dX12_soonest_11 rfl h (fun _ h => ?_) (fun _ h => ?_)
  · refine cj_aload_n C (i := 0) dX12_soonest_19 rfl rfl ?_
    refine cj_iload_n C (i := 1) dX12_soonest_20 rfl rfl ?_
    refine cj_iload_n C (i := 2) dX12_soonest_21 rfl rfl ?_
    refine cj_callVi C (As := [.int x1, .int x2]) (rest := []) qX12_laysStill mw_49_10 o_150 rfl rfl rfl (Nat.le_of_ble_eq_true rfl) (by decide) dX12_soonest_22 h (fun _ _ hf => m_X12_laysStill l w A x1 x2 S3 _ hf) (fun z4 S5 h => ?_)
    refine cj_callSi C (As := [.int z4]) (rest := []) qX12_toldFar mw_49_19 rfl rfl (Nat.le_of_ble_eq_true rfl) (by decide) dX12_soonest_25 h (fun _ _ hf => m_X12_toldFar l w A z4 S5 _ hf) (fun z6 S7 h => ?_)
    exact cj_ireturn C hr h dX12_soonest_28
  · refine cj_bipush C (v := (-2 : Int32)) dX12_soonest_14 rfl ?_
    refine cj_goto C (tgt := 28) dX12_soonest_16 rfl ?_
    exact cj_ireturn C hr h dX12_soonest_28
/-! X12_deedOf -/
def fX12_deedOf (x0 : Int32) (x1 : Int32) (x2 : Int32) (x3 : Int32) (S : cpS) : Option (Int32 × cpS) :=
    some ((((((10000 : Int32) + ((1000 : Int32) * x0)) + ((100 : Int32) * x1)) + ((10 : Int32) * x2)) + x3), S)
set_option maxRecDepth 100000 in
set_option maxHeartbeats 4000000 in
theorem m_X12_deedOf (l : Launch) (w : cpW) (A : Nat → Prop) (x0 : Int32) (x1 : Int32) (x2 : Int32) (x3 : Int32) (S : cpS) (r : Int32 × cpS) (h : fX12_deedOf x0 x1 x2 x3 S = some r) : cpMi l yX12_deedOf cX12_deedOf 4 ((some .int)) 0 w A [.int x0, .int x1, .int x2, .int x3] S r := by
  refine cpMi.of (lv := [some (.int x0), some (.int x1), some (.int x2), some (.int x3)]) (by decide) (Nat.le_of_ble_eq_true rfl) rfl (fun p e s m args below meth c C hr => ?_)
  replace C : cpCx p s m args meth c w A cX12_deedOf RX12 4 := C
  rw [fX12_deedOf] at h
  refine cj_sipush C (v := (10000 : Int32)) dX12_deedOf_0 rfl ?_
  refine cj_sipush C (v := (1000 : Int32)) dX12_deedOf_3 rfl ?_
  refine cj_iload_n C (i := 0) dX12_deedOf_6 rfl rfl ?_
  refine cj_imul C dX12_deedOf_7 ?_
  refine cj_iadd C dX12_deedOf_8 ?_
  refine cj_bipush C (v := (100 : Int32)) dX12_deedOf_9 rfl ?_
  refine cj_iload_n C (i := 1) dX12_deedOf_11 rfl rfl ?_
  refine cj_imul C dX12_deedOf_12 ?_
  refine cj_iadd C dX12_deedOf_13 ?_
  refine cj_bipush C (v := (10 : Int32)) dX12_deedOf_14 rfl ?_
  refine cj_iload_n C (i := 2) dX12_deedOf_16 rfl rfl ?_
  refine cj_imul C dX12_deedOf_17 ?_
  refine cj_iadd C dX12_deedOf_18 ?_
  refine cj_iload_n C (i := 3) dX12_deedOf_19 rfl rfl ?_
  refine cj_iadd C dX12_deedOf_20 ?_
  exact cj_ireturn C hr h dX12_deedOf_21
/-! X12_nearerBy -/
def fX12_nearerBy_31 (x1 : Int32) (x2 : Int32) (x3 : Int32) (x4 : Int32) (k2 : Int32 → cpS → Option (Int32 × cpS)) (k17 : Int32 → cpS → Option (Int32 × cpS)) : Nat → Int32 → cpS → Option (Int32 × cpS)
  | 0, _, _ => none
  | n + 1, x5, S =>
    if (S.1 151 1) ≤ x5 then (
    k17 (x4 + 1) S) else (
    if cpIn x5 6 then (
    if cpIn x2 6 then (
    if (S.1 160 x5.toNatClampNeg) = ((S.1 160 x2.toNatClampNeg) - (1 : Int32)) then (
    cpB (fX12_roadFor x3 x4 x1 x2 x5 S) fun z1 S2 =>
    if z1 = (-1 : Int32) then (
    fX12_nearerBy_31 x1 x2 x3 x4 k2 k17 n (x5 + 1) S2) else (
    cpB (fX12_deedOf x3 x4 x1 x5 S2) fun z3 S4 =>
    some (z3, S4))) else (
    fX12_nearerBy_31 x1 x2 x3 x4 k2 k17 n (x5 + 1) S)) else none) else none)
set_option maxRecDepth 100000 in
set_option maxHeartbeats 4000000 in
theorem wX12_nearerBy_31 (C : cpCx p s m args meth c w A cX12_nearerBy RX12 6) (hr : meth.sig.returnType = (some .int)) {r : Int32 × cpS} (x1 : Int32) (x2 : Int32) (x3 : Int32) (x4 : Int32) {k2 : Int32 → cpS → Option (Int32 × cpS)} (hk2 : ∀ (x3 : Int32) (S : cpS), k2 x3 S = some r → cpJ p l e (cpRm 4) s m args below meth c (MQ below (va_Qi (fun x S' => (x, S') = r) (cpWorld w A) A) args s 0 0 A) w A 6 2 [some (.ref (w.2.1 150)), some (.int x1), some (.int x2), some (.int x3), none, none] [] S) {k17 : Int32 → cpS → Option (Int32 × cpS)} (hk17 : ∀ (x4 : Int32) (S : cpS), k17 x4 S = some r → cpJ p l e (cpRm 4) s m args below meth c (MQ below (va_Qi (fun x S' => (x, S') = r) (cpWorld w A) A) args s 0 0 A) w A 6 17 [some (.ref (w.2.1 150)), some (.int x1), some (.int x2), some (.int x3), some (.int x4), none] [] S) : ∀ (n : Nat) (x5 : Int32) (S : cpS), fX12_nearerBy_31 x1 x2 x3 x4 k2 k17 n x5 S = some r → cpJ p l e (cpRm 4) s m args below meth c (MQ below (va_Qi (fun x S' => (x, S') = r) (cpWorld w A) A) args s 0 0 A) w A 6 31 [some (.ref (w.2.1 150)), some (.int x1), some (.int x2), some (.int x3), some (.int x4), some (.int x5)] [] S := by
  intro n
  induction n with
  | zero => intro x5 S h; rw [fX12_nearerBy_31] at h; cases h
  | succ n ih =>
    intro x5 S h
    rw [fX12_nearerBy_31] at h
    refine cj_iload C dX12_nearerBy_31 rfl ?_
    refine cj_aload_n C (i := 0) dX12_nearerBy_33 rfl rfl ?_
    refine cj_getR C (d := 151) o_150 rfl gfX12_13 dX12_nearerBy_34 ?_
    refine cj_iconst C (v := (1 : Int32)) dX12_nearerBy_37 rfl ?_
    refine cj_ialoadC C (j := 1) o_151 (by decide) (by decide) dX12_nearerBy_38 ?_
    refine cj_icmp_ge C (tgt := 91) dX12_nearerBy_39 rfl h (fun _ h => ?_) (fun _ h => ?_)
    · refine cj_iinc C (v := (x4 + 1)) (lv' := [some (.ref (w.2.1 150)), some (.int x1), some (.int x2), some (.int x3), some (.int (x4 + 1)), some (.int x5)]) dX12_nearerBy_91 rfl rfl (by decide) rfl rfl ?_
      refine cj_goto C (tgt := 17) dX12_nearerBy_94 rfl ?_
      refine cj_weak C (lv' := [some (.ref (w.2.1 150)), some (.int x1), some (.int x2), some (.int x3), some (.int (x4 + 1)), none]) (cpSub_s (cpSub_s (cpSub_s (cpSub_s (cpSub_s (cpSub_n cpSub_nil)))))) ?_
      exact hk17 (x4 + 1) S h
    · refine cj_aload_n C (i := 0) dX12_nearerBy_42 rfl rfl ?_
      refine cj_getR C (d := 160) o_150 rfl gfX12_45 dX12_nearerBy_43 ?_
      refine cj_iload C dX12_nearerBy_46 rfl ?_
      refine cj_iaload C o_160 h dX12_nearerBy_48 (fun h => ?_)
      refine cj_aload_n C (i := 0) dX12_nearerBy_49 rfl rfl ?_
      refine cj_getR C (d := 160) o_150 rfl gfX12_45 dX12_nearerBy_50 ?_
      refine cj_iload_n C (i := 2) dX12_nearerBy_53 rfl rfl ?_
      refine cj_iaload C o_160 h dX12_nearerBy_54 (fun h => ?_)
      refine cj_iconst C (v := (1 : Int32)) dX12_nearerBy_55 rfl ?_
      refine cj_isub C dX12_nearerBy_56 ?_
      refine cj_icmp_ne C (tgt := 85) dX12_nearerBy_57 rfl h (fun _ h => ?_) (fun _ h => ?_)
      · refine cj_aload_n C (i := 0) dX12_nearerBy_60 rfl rfl ?_
        refine cj_iload_n C (i := 3) dX12_nearerBy_61 rfl rfl ?_
        refine cj_iload C dX12_nearerBy_62 rfl ?_
        refine cj_iload_n C (i := 1) dX12_nearerBy_64 rfl rfl ?_
        refine cj_iload_n C (i := 2) dX12_nearerBy_65 rfl rfl ?_
        refine cj_iload C dX12_nearerBy_66 rfl ?_
        refine cj_callVi C (As := [.int x3, .int x4, .int x1, .int x2, .int x5]) (rest := []) qX12_roadFor mw_36_12 o_150 rfl rfl rfl (Nat.le_of_ble_eq_true rfl) (by decide) dX12_nearerBy_68 h (fun _ _ hf => m_X12_roadFor l w A x3 x4 x1 x2 x5 S _ hf) (fun z1 S2 h => ?_)
        refine cj_iconst C (v := (-1 : Int32)) dX12_nearerBy_71 rfl ?_
        refine cj_icmp_eq C (tgt := 85) dX12_nearerBy_72 rfl h (fun _ h => ?_) (fun _ h => ?_)
        · refine cj_iinc C (v := (x5 + 1)) (lv' := [some (.ref (w.2.1 150)), some (.int x1), some (.int x2), some (.int x3), some (.int x4), some (.int (x5 + 1))]) dX12_nearerBy_85 rfl rfl (by decide) rfl rfl ?_
          refine cj_goto C (tgt := 31) dX12_nearerBy_88 rfl ?_
          exact ih (x5 + 1) S2 h
        · refine cj_iload_n C (i := 3) dX12_nearerBy_75 rfl rfl ?_
          refine cj_iload C dX12_nearerBy_76 rfl ?_
          refine cj_iload_n C (i := 1) dX12_nearerBy_78 rfl rfl ?_
          refine cj_iload C dX12_nearerBy_79 rfl ?_
          refine cj_callSi C (As := [.int x3, .int x4, .int x1, .int x5]) (rest := []) qX12_deedOf mw_50_22 rfl rfl (Nat.le_of_ble_eq_true rfl) (by decide) dX12_nearerBy_81 h (fun _ _ hf => m_X12_deedOf l w A x3 x4 x1 x5 S2 _ hf) (fun z3 S4 h => ?_)
          exact cj_ireturn C hr h dX12_nearerBy_84
      · refine cj_iinc C (v := (x5 + 1)) (lv' := [some (.ref (w.2.1 150)), some (.int x1), some (.int x2), some (.int x3), some (.int x4), some (.int (x5 + 1))]) dX12_nearerBy_85 rfl rfl (by decide) rfl rfl ?_
        refine cj_goto C (tgt := 31) dX12_nearerBy_88 rfl ?_
        exact ih (x5 + 1) S h
def fX12_nearerBy_17 (x1 : Int32) (x2 : Int32) (x3 : Int32) (k2 : Int32 → cpS → Option (Int32 × cpS)) : Nat → Int32 → cpS → Option (Int32 × cpS)
  | 0, _, _ => none
  | n + 1, x4, S =>
    if (S.1 151 3) ≤ x4 then (
    k2 (x3 + 1) S) else (
    fX12_nearerBy_31 x1 x2 x3 x4 k2 (fX12_nearerBy_17 x1 x2 x3 k2 n) cpFu (0 : Int32) S)
set_option maxRecDepth 100000 in
set_option maxHeartbeats 4000000 in
theorem wX12_nearerBy_17 (C : cpCx p s m args meth c w A cX12_nearerBy RX12 6) (hr : meth.sig.returnType = (some .int)) {r : Int32 × cpS} (x1 : Int32) (x2 : Int32) (x3 : Int32) {k2 : Int32 → cpS → Option (Int32 × cpS)} (hk2 : ∀ (x3 : Int32) (S : cpS), k2 x3 S = some r → cpJ p l e (cpRm 4) s m args below meth c (MQ below (va_Qi (fun x S' => (x, S') = r) (cpWorld w A) A) args s 0 0 A) w A 6 2 [some (.ref (w.2.1 150)), some (.int x1), some (.int x2), some (.int x3), none, none] [] S) : ∀ (n : Nat) (x4 : Int32) (S : cpS), fX12_nearerBy_17 x1 x2 x3 k2 n x4 S = some r → cpJ p l e (cpRm 4) s m args below meth c (MQ below (va_Qi (fun x S' => (x, S') = r) (cpWorld w A) A) args s 0 0 A) w A 6 17 [some (.ref (w.2.1 150)), some (.int x1), some (.int x2), some (.int x3), some (.int x4), none] [] S := by
  intro n
  induction n with
  | zero => intro x4 S h; rw [fX12_nearerBy_17] at h; cases h
  | succ n ih =>
    intro x4 S h
    rw [fX12_nearerBy_17] at h
    refine cj_iload C dX12_nearerBy_17 rfl ?_
    refine cj_aload_n C (i := 0) dX12_nearerBy_19 rfl rfl ?_
    refine cj_getR C (d := 151) o_150 rfl gfX12_13 dX12_nearerBy_20 ?_
    refine cj_iconst C (v := (3 : Int32)) dX12_nearerBy_23 rfl ?_
    refine cj_ialoadC C (j := 3) o_151 (by decide) (by decide) dX12_nearerBy_24 ?_
    refine cj_icmp_ge C (tgt := 97) dX12_nearerBy_25 rfl h (fun _ h => ?_) (fun _ h => ?_)
    · refine cj_iinc C (v := (x3 + 1)) (lv' := [some (.ref (w.2.1 150)), some (.int x1), some (.int x2), some (.int (x3 + 1)), some (.int x4), none]) dX12_nearerBy_97 rfl rfl (by decide) rfl rfl ?_
      refine cj_goto C (tgt := 2) dX12_nearerBy_100 rfl ?_
      refine cj_weak C (lv' := [some (.ref (w.2.1 150)), some (.int x1), some (.int x2), some (.int (x3 + 1)), none, none]) (cpSub_s (cpSub_s (cpSub_s (cpSub_s (cpSub_n (cpSub_n cpSub_nil)))))) ?_
      exact hk2 (x3 + 1) S h
    · refine cj_iconst C (v := (0 : Int32)) dX12_nearerBy_28 rfl ?_
      refine cj_istore C (lv' := [some (.ref (w.2.1 150)), some (.int x1), some (.int x2), some (.int x3), some (.int x4), some (.int (0 : Int32))]) dX12_nearerBy_29 (by decide) rfl rfl ?_
      exact wX12_nearerBy_31 C hr x1 x2 x3 x4 hk2 ih cpFu (0 : Int32) S h
def fX12_nearerBy_2 (x1 : Int32) (x2 : Int32) : Nat → Int32 → cpS → Option (Int32 × cpS)
  | 0, _, _ => none
  | n + 1, x3, S =>
    if (S.1 151 3) ≤ x3 then (
    some ((-1 : Int32), S)) else (
    cpLt (x3 + (1 : Int32)) fun y1 =>
    fX12_nearerBy_17 x1 x2 x3 (fX12_nearerBy_2 x1 x2 n) cpFu y1 S)
set_option maxRecDepth 100000 in
set_option maxHeartbeats 4000000 in
theorem wX12_nearerBy_2 (C : cpCx p s m args meth c w A cX12_nearerBy RX12 6) (hr : meth.sig.returnType = (some .int)) {r : Int32 × cpS} (x1 : Int32) (x2 : Int32) : ∀ (n : Nat) (x3 : Int32) (S : cpS), fX12_nearerBy_2 x1 x2 n x3 S = some r → cpJ p l e (cpRm 4) s m args below meth c (MQ below (va_Qi (fun x S' => (x, S') = r) (cpWorld w A) A) args s 0 0 A) w A 6 2 [some (.ref (w.2.1 150)), some (.int x1), some (.int x2), some (.int x3), none, none] [] S := by
  intro n
  induction n with
  | zero => intro x3 S h; rw [fX12_nearerBy_2] at h; cases h
  | succ n ih =>
    intro x3 S h
    rw [fX12_nearerBy_2] at h
    refine cj_iload_n C (i := 3) dX12_nearerBy_2 rfl rfl ?_
    refine cj_aload_n C (i := 0) dX12_nearerBy_3 rfl rfl ?_
    refine cj_getR C (d := 151) o_150 rfl gfX12_13 dX12_nearerBy_4 ?_
    refine cj_iconst C (v := (3 : Int32)) dX12_nearerBy_7 rfl ?_
    refine cj_ialoadC C (j := 3) o_151 (by decide) (by decide) dX12_nearerBy_8 ?_
    refine cj_icmp_ge C (tgt := 103) dX12_nearerBy_9 rfl h (fun _ h => ?_) (fun _ h => ?_)
    · refine cj_iconst C (v := (-1 : Int32)) dX12_nearerBy_103 rfl ?_
      exact cj_ireturn C hr h dX12_nearerBy_104
    · refine cj_iload_n C (i := 3) dX12_nearerBy_12 rfl rfl ?_
      refine cj_iconst C (v := (1 : Int32)) dX12_nearerBy_13 rfl ?_
      refine cj_iadd C dX12_nearerBy_14 ?_
      refine cj_let h (fun y1 h => ?_)
      refine cj_istore C (lv' := [some (.ref (w.2.1 150)), some (.int x1), some (.int x2), some (.int x3), some (.int y1), none]) dX12_nearerBy_15 (by decide) rfl rfl ?_
      exact wX12_nearerBy_17 C hr x1 x2 x3 ih cpFu y1 S h
def fX12_nearerBy (x1 : Int32) (x2 : Int32) (S : cpS) : Option (Int32 × cpS) :=
    fX12_nearerBy_2 x1 x2 cpFu (0 : Int32) S
set_option maxRecDepth 100000 in
set_option maxHeartbeats 4000000 in
theorem m_X12_nearerBy (l : Launch) (w : cpW) (A : Nat → Prop) (x1 : Int32) (x2 : Int32) (S : cpS) (r : Int32 × cpS) (h : fX12_nearerBy x1 x2 S = some r) : cpMi l yX12_nearerBy cX12_nearerBy 6 ((some .int)) 4 w A [.ref (w.2.1 150), .int x1, .int x2] S r := by
  refine cpMi.of (lv := [some (.ref (w.2.1 150)), some (.int x1), some (.int x2), none, none, none]) (by decide) (Nat.le_of_ble_eq_true rfl) rfl (fun p e s m args below meth c C hr => ?_)
  replace C : cpCx p s m args meth c w A cX12_nearerBy RX12 6 := C
  rw [fX12_nearerBy] at h
  refine cj_iconst C (v := (0 : Int32)) dX12_nearerBy_0 rfl ?_
  refine cj_istore_n C (i := 3) (lv' := [some (.ref (w.2.1 150)), some (.int x1), some (.int x2), some (.int (0 : Int32)), none, none]) dX12_nearerBy_1 rfl (by decide) rfl rfl ?_
  exact wX12_nearerBy_2 C hr x1 x2 cpFu (0 : Int32) S h
/-! X12_carryingAt -/
def fX12_carryingAt_13 (x1 : Int32) (x2 : Int32) : Nat → Int32 → Int32 → cpS → Option (Int32 × cpS)
  | 0, _, _, _ => none
  | n + 1, x3, x4, S =>
    if cpIn x3 6 then (
    if (S.1 160 x3.toNatClampNeg) ≤ 0 then (
    some ((-1 : Int32), S)) else (
    if cpIn x3 6 then (
    if (268435456 : Int32) ≤ (S.1 160 x3.toNatClampNeg) then (
    some ((-1 : Int32), S)) else (
    cpB (fX12_nearerBy x1 x3 S) fun z1 S2 =>
    if x4 = x2 then (
    some (z1, S2)) else (
    cpLt (cpRem z1 (10 : Int32)) fun y3 =>
    fX12_carryingAt_13 x1 x2 n y3 (x4 + 1) S2))) else none)) else none
set_option maxRecDepth 100000 in
set_option maxHeartbeats 4000000 in
theorem wX12_carryingAt_13 (C : cpCx p s m args meth c w A cX12_carryingAt RX12 6) (hr : meth.sig.returnType = (some .int)) {r : Int32 × cpS} (x1 : Int32) (x2 : Int32) : ∀ (n : Nat) (x3 : Int32) (x4 : Int32) (S : cpS), fX12_carryingAt_13 x1 x2 n x3 x4 S = some r → cpJ p l e (cpRm 5) s m args below meth c (MQ below (va_Qi (fun x S' => (x, S') = r) (cpWorld w A) A) args s 0 0 A) w A 6 13 [some (.ref (w.2.1 150)), some (.int x1), some (.int x2), some (.int x3), some (.int x4), none] [] S := by
  intro n
  induction n with
  | zero => intro x3 x4 S h; rw [fX12_carryingAt_13] at h; cases h
  | succ n ih =>
    intro x3 x4 S h
    rw [fX12_carryingAt_13] at h
    refine cj_aload_n C (i := 0) dX12_carryingAt_13 rfl rfl ?_
    refine cj_getR C (d := 160) o_150 rfl gfX12_45 dX12_carryingAt_14 ?_
    refine cj_iload_n C (i := 3) dX12_carryingAt_17 rfl rfl ?_
    refine cj_iaload C o_160 h dX12_carryingAt_18 (fun h => ?_)
    refine cj_if_le C (tgt := 63) dX12_carryingAt_19 rfl h (fun _ h => ?_) (fun _ h => ?_)
    · refine cj_iconst C (v := (-1 : Int32)) dX12_carryingAt_63 rfl ?_
      exact cj_ireturn C hr h dX12_carryingAt_64
    · refine cj_aload_n C (i := 0) dX12_carryingAt_22 rfl rfl ?_
      refine cj_getR C (d := 160) o_150 rfl gfX12_45 dX12_carryingAt_23 ?_
      refine cj_iload_n C (i := 3) dX12_carryingAt_26 rfl rfl ?_
      refine cj_iaload C o_160 h dX12_carryingAt_27 (fun h => ?_)
      refine cj_ldcw C (v := (268435456 : Int32)) mw_49_14 dX12_carryingAt_28 ?_
      refine cj_icmp_ge C (tgt := 63) dX12_carryingAt_31 rfl h (fun _ h => ?_) (fun _ h => ?_)
      · refine cj_iconst C (v := (-1 : Int32)) dX12_carryingAt_63 rfl ?_
        exact cj_ireturn C hr h dX12_carryingAt_64
      · refine cj_aload_n C (i := 0) dX12_carryingAt_34 rfl rfl ?_
        refine cj_iload_n C (i := 1) dX12_carryingAt_35 rfl rfl ?_
        refine cj_iload_n C (i := 3) dX12_carryingAt_36 rfl rfl ?_
        refine cj_callVi C (As := [.int x1, .int x3]) (rest := []) qX12_nearerBy mw_50_18 o_150 rfl rfl rfl (Nat.le_of_ble_eq_true rfl) (by decide) dX12_carryingAt_37 h (fun _ _ hf => m_X12_nearerBy l w A x1 x3 S _ hf) (fun z1 S2 h => ?_)
        refine cj_istore C (lv' := [some (.ref (w.2.1 150)), some (.int x1), some (.int x2), some (.int x3), some (.int x4), some (.int z1)]) dX12_carryingAt_40 (by decide) rfl rfl ?_
        refine cj_iload C dX12_carryingAt_42 rfl ?_
        refine cj_iload_n C (i := 2) dX12_carryingAt_44 rfl rfl ?_
        refine cj_icmp_ne C (tgt := 51) dX12_carryingAt_45 rfl h (fun _ h => ?_) (fun _ h => ?_)
        · refine cj_iload C dX12_carryingAt_48 rfl ?_
          exact cj_ireturn C hr h dX12_carryingAt_50
        · refine cj_iload C dX12_carryingAt_51 rfl ?_
          refine cj_bipush C (v := (10 : Int32)) dX12_carryingAt_53 rfl ?_
          refine ck_irem C dX12_carryingAt_55 (by decide) ?_
          refine cj_let h (fun y3 h => ?_)
          refine cj_istore_n C (i := 3) (lv' := [some (.ref (w.2.1 150)), some (.int x1), some (.int x2), some (.int y3), some (.int x4), some (.int z1)]) dX12_carryingAt_56 rfl (by decide) rfl rfl ?_
          refine cj_iinc C (v := (x4 + 1)) (lv' := [some (.ref (w.2.1 150)), some (.int x1), some (.int x2), some (.int y3), some (.int (x4 + 1)), some (.int z1)]) dX12_carryingAt_57 rfl rfl (by decide) rfl rfl ?_
          refine cj_goto C (tgt := 13) dX12_carryingAt_60 rfl ?_
          refine cj_weak C (lv' := [some (.ref (w.2.1 150)), some (.int x1), some (.int x2), some (.int y3), some (.int (x4 + 1)), none]) (cpSub_s (cpSub_s (cpSub_s (cpSub_s (cpSub_s (cpSub_n cpSub_nil)))))) ?_
          exact ih y3 (x4 + 1) S2 h
def fX12_carryingAt (x1 : Int32) (x2 : Int32) (S : cpS) : Option (Int32 × cpS) :=
    if cpIn ((62 : Int32) + x1) 3486 then (
    cpLt (S.1 151 ((62 : Int32) + x1).toNatClampNeg) fun y1 =>
    fX12_carryingAt_13 x1 x2 cpFu y1 (0 : Int32) S) else none
set_option maxRecDepth 100000 in
set_option maxHeartbeats 4000000 in
theorem m_X12_carryingAt (l : Launch) (w : cpW) (A : Nat → Prop) (x1 : Int32) (x2 : Int32) (S : cpS) (r : Int32 × cpS) (h : fX12_carryingAt x1 x2 S = some r) : cpMi l yX12_carryingAt cX12_carryingAt 6 ((some .int)) 5 w A [.ref (w.2.1 150), .int x1, .int x2] S r := by
  refine cpMi.of (lv := [some (.ref (w.2.1 150)), some (.int x1), some (.int x2), none, none, none]) (by decide) (Nat.le_of_ble_eq_true rfl) rfl (fun p e s m args below meth c C hr => ?_)
  replace C : cpCx p s m args meth c w A cX12_carryingAt RX12 6 := C
  rw [fX12_carryingAt] at h
  refine cj_aload_n C (i := 0) dX12_carryingAt_0 rfl rfl ?_
  refine cj_getR C (d := 151) o_150 rfl gfX12_13 dX12_carryingAt_1 ?_
  refine cj_bipush C (v := (62 : Int32)) dX12_carryingAt_4 rfl ?_
  refine cj_iload_n C (i := 1) dX12_carryingAt_6 rfl rfl ?_
  refine cj_iadd C dX12_carryingAt_7 ?_
  refine cj_iaload C o_151 h dX12_carryingAt_8 (fun h => ?_)
  refine cj_let h (fun y1 h => ?_)
  refine cj_istore_n C (i := 3) (lv' := [some (.ref (w.2.1 150)), some (.int x1), some (.int x2), some (.int y1), none, none]) dX12_carryingAt_9 rfl (by decide) rfl rfl ?_
  refine cj_iconst C (v := (0 : Int32)) dX12_carryingAt_10 rfl ?_
  refine cj_istore C (lv' := [some (.ref (w.2.1 150)), some (.int x1), some (.int x2), some (.int y1), some (.int (0 : Int32)), none]) dX12_carryingAt_11 (by decide) rfl rfl ?_
  exact wX12_carryingAt_13 C hr x1 x2 cpFu y1 (0 : Int32) S h
/-! X12_way -/
def fX12_way (x1 : Int32) (x2 : Int32) (x3 : Int32) (S : cpS) : Option (Int32 × cpS) :=
    cpLt (cpI S 150 0 (0 : Int32)) fun S1 =>
    cpB (fX12_noCoin x1 x2 S1) fun z2 S3 =>
    if z2 = 0 then (
    if 0 ≤ x3 then (
    cpB (fX12_laysStill x1 x2 S3) fun z4 S5 =>
    cpB (fX12_carryingAt x1 x3 S5) fun z6 S7 =>
    some (z6, S7)) else (
    some ((-3 : Int32), S3))) else (
    some ((-2 : Int32), S3))
set_option maxRecDepth 100000 in
set_option maxHeartbeats 4000000 in
theorem m_X12_way (l : Launch) (w : cpW) (A : Nat → Prop) (x1 : Int32) (x2 : Int32) (x3 : Int32) (S : cpS) (r : Int32 × cpS) (h : fX12_way x1 x2 x3 S = some r) : cpMi l yX12_way cX12_way 4 ((some .int)) 7 w A [.ref (w.2.1 150), .int x1, .int x2, .int x3] S r := by
  refine cpMi.of (lv := [some (.ref (w.2.1 150)), some (.int x1), some (.int x2), some (.int x3)]) (by decide) (Nat.le_of_ble_eq_true rfl) rfl (fun p e s m args below meth c C hr => ?_)
  replace C : cpCx p s m args meth c w A cX12_way RX12 4 := C
  rw [fX12_way] at h
  refine cj_aload_n C (i := 0) dX12_way_0 rfl rfl ?_
  refine cj_iconst C (v := (0 : Int32)) dX12_way_1 rfl ?_
  refine cj_put C (j := 0) o_150 rfl pfX12_1 rfl rfl dX12_way_2 ?_
  refine cj_lets h (fun S1 h => ?_)
  refine cj_aload_n C (i := 0) dX12_way_5 rfl rfl ?_
  refine cj_iload_n C (i := 1) dX12_way_6 rfl rfl ?_
  refine cj_iload_n C (i := 2) dX12_way_7 rfl rfl ?_
  refine cj_callVi C (As := [.int x1, .int x2]) (rest := []) qX12_noCoin mw_49_6 o_150 rfl rfl rfl (Nat.le_of_ble_eq_true rfl) (by decide) dX12_way_8 h (fun _ _ hf => m_X12_noCoin l w A x1 x2 S1 _ hf) (fun z2 S3 h => ?_)
  refine cj_if_eq C (tgt := 17) dX12_way_11 rfl h (fun _ h => ?_) (fun _ h => ?_)
  · refine cj_iload_n C (i := 3) dX12_way_17 rfl rfl ?_
    refine cj_if_ge C (tgt := 24) dX12_way_18 rfl h (fun _ h => ?_) (fun _ h => ?_)
    · refine cj_aload_n C (i := 0) dX12_way_24 rfl rfl ?_
      refine cj_iload_n C (i := 1) dX12_way_25 rfl rfl ?_
      refine cj_iload_n C (i := 2) dX12_way_26 rfl rfl ?_
      refine cj_callVi C (As := [.int x1, .int x2]) (rest := []) qX12_laysStill mw_49_10 o_150 rfl rfl rfl (Nat.le_of_ble_eq_true rfl) (by decide) dX12_way_27 h (fun _ _ hf => m_X12_laysStill l w A x1 x2 S3 _ hf) (fun z4 S5 h => ?_)
      refine cj_pop C dX12_way_30 rfl ?_
      refine cj_aload_n C (i := 0) dX12_way_31 rfl rfl ?_
      refine cj_iload_n C (i := 1) dX12_way_32 rfl rfl ?_
      refine cj_iload_n C (i := 3) dX12_way_33 rfl rfl ?_
      refine cj_callVi C (As := [.int x1, .int x3]) (rest := []) qX12_carryingAt mw_50_14 o_150 rfl rfl rfl (Nat.le_of_ble_eq_true rfl) (by decide) dX12_way_34 h (fun _ _ hf => m_X12_carryingAt l w A x1 x3 S5 _ hf) (fun z6 S7 h => ?_)
      exact cj_ireturn C hr h dX12_way_37
    · refine cj_bipush C (v := (-3 : Int32)) dX12_way_21 rfl ?_
      exact cj_ireturn C hr h dX12_way_23
  · refine cj_bipush C (v := (-2 : Int32)) dX12_way_14 rfl ?_
    exact cj_ireturn C hr h dX12_way_16
/-! X12_rows -/
def fX12_rows_165 (x2 : Int32) (x3 : Int32) (x4 : Int32) (k84 : Int32 → cpS → Option (Int64 × cpS)) : Nat → Int32 → cpS → Option (Int64 × cpS)
  | 0, _, _ => none
  | n + 1, x5, S =>
    if (6 : Int32) ≤ x5 then (
    k84 (x4 + 1) S) else (
    if cpIn x5 6 then (
    if cpIn x5 6 then (
    cpLt (cpL S 162 x5.toNatClampNeg (S.2 163 x5.toNatClampNeg)) fun S1 =>
    fX12_rows_165 x2 x3 x4 k84 n (x5 + 1) S1) else none) else none)
set_option maxRecDepth 100000 in
set_option maxHeartbeats 4000000 in
theorem wX12_rows_165 (C : cpCx p s m args meth c w A cX12_rows RX12 7) (hr : meth.sig.returnType = (some .long)) {r : Int64 × cpS} (x2 : Int32) (x3 : Int32) (x4 : Int32) {k84 : Int32 → cpS → Option (Int64 × cpS)} (hk84 : ∀ (x4 : Int32) (S : cpS), k84 x4 S = some r → cpJ p l e (cpRm 6) s m args below meth c (MQ below (va_Ql (fun x S' => (x, S') = r) (cpWorld w A) A) args s 0 0 A) w A 7 84 [some (.ref (w.2.1 150)), none, some (.int x2), some (.int x3), some (.int x4), none, none] [] S) : ∀ (n : Nat) (x5 : Int32) (S : cpS), fX12_rows_165 x2 x3 x4 k84 n x5 S = some r → cpJ p l e (cpRm 6) s m args below meth c (MQ below (va_Ql (fun x S' => (x, S') = r) (cpWorld w A) A) args s 0 0 A) w A 7 165 [some (.ref (w.2.1 150)), none, some (.int x2), some (.int x3), some (.int x4), some (.int x5), none] [] S := by
  intro n
  induction n with
  | zero => intro x5 S h; rw [fX12_rows_165] at h; cases h
  | succ n ih =>
    intro x5 S h
    rw [fX12_rows_165] at h
    refine cj_iload C dX12_rows_165 rfl ?_
    refine cj_bipush C (v := (6 : Int32)) dX12_rows_167 rfl ?_
    refine cj_icmp_ge C (tgt := 192) dX12_rows_169 rfl h (fun _ h => ?_) (fun _ h => ?_)
    · refine cj_iinc C (v := (x4 + 1)) (lv' := [some (.ref (w.2.1 150)), none, some (.int x2), some (.int x3), some (.int (x4 + 1)), some (.int x5), none]) dX12_rows_192 rfl rfl (by decide) rfl rfl ?_
      refine cj_goto C (tgt := 84) dX12_rows_195 rfl ?_
      refine cj_weak C (lv' := [some (.ref (w.2.1 150)), none, some (.int x2), some (.int x3), some (.int (x4 + 1)), none, none]) (cpSub_s (cpSub_n (cpSub_s (cpSub_s (cpSub_s (cpSub_n (cpSub_n cpSub_nil))))))) ?_
      exact hk84 (x4 + 1) S h
    · refine cj_aload_n C (i := 0) dX12_rows_172 rfl rfl ?_
      refine cj_getR C (d := 162) o_150 rfl gfX12_51 dX12_rows_173 ?_
      refine cj_iload C dX12_rows_176 rfl ?_
      refine cj_aload_n C (i := 0) dX12_rows_178 rfl rfl ?_
      refine cj_getR C (d := 163) o_150 rfl gfX12_55 dX12_rows_179 ?_
      refine cj_iload C dX12_rows_182 rfl ?_
      refine cj_laload C o_163 h dX12_rows_184 (fun h => ?_)
      refine cj_lastore C o_162 h dX12_rows_185 (fun h => ?_)
      refine cj_lets h (fun S1 h => ?_)
      refine cj_iinc C (v := (x5 + 1)) (lv' := [some (.ref (w.2.1 150)), none, some (.int x2), some (.int x3), some (.int x4), some (.int (x5 + 1)), none]) dX12_rows_186 rfl rfl (by decide) rfl rfl ?_
      refine cj_goto C (tgt := 165) dX12_rows_189 rfl ?_
      exact ih (x5 + 1) S1 h
def fX12_rows_111 (x2 : Int32) (x3 : Int32) (x4 : Int32) (x5 : Int32) (k84 : Int32 → cpS → Option (Int64 × cpS)) (k93 : Int32 → cpS → Option (Int64 × cpS)) : Nat → Int32 → cpS → Option (Int64 × cpS)
  | 0, _, _ => none
  | n + 1, x6, S =>
    if (6 : Int32) ≤ x6 then (
    k93 (x5 + 1) S) else (
    if cpIn x5 6 then (
    if cpIn x6 6 then (
    if cpIn (((6 : Int32) * x6) + x5) 36 then (
    if cpIn x5 6 then (
    cpLt (cpL S 163 x5.toNatClampNeg ((S.2 163 x5.toNatClampNeg) + ((S.2 162 x6.toNatClampNeg) * (Int32.toInt64 (S.1 159 (((6 : Int32) * x6) + x5).toNatClampNeg))))) fun S1 =>
    fX12_rows_111 x2 x3 x4 x5 k84 k93 n (x6 + 1) S1) else none) else none) else none) else none)
set_option maxRecDepth 100000 in
set_option maxHeartbeats 4000000 in
theorem wX12_rows_111 (C : cpCx p s m args meth c w A cX12_rows RX12 7) (hr : meth.sig.returnType = (some .long)) {r : Int64 × cpS} (x2 : Int32) (x3 : Int32) (x4 : Int32) (x5 : Int32) {k84 : Int32 → cpS → Option (Int64 × cpS)} (hk84 : ∀ (x4 : Int32) (S : cpS), k84 x4 S = some r → cpJ p l e (cpRm 6) s m args below meth c (MQ below (va_Ql (fun x S' => (x, S') = r) (cpWorld w A) A) args s 0 0 A) w A 7 84 [some (.ref (w.2.1 150)), none, some (.int x2), some (.int x3), some (.int x4), none, none] [] S) {k93 : Int32 → cpS → Option (Int64 × cpS)} (hk93 : ∀ (x5 : Int32) (S : cpS), k93 x5 S = some r → cpJ p l e (cpRm 6) s m args below meth c (MQ below (va_Ql (fun x S' => (x, S') = r) (cpWorld w A) A) args s 0 0 A) w A 7 93 [some (.ref (w.2.1 150)), none, some (.int x2), some (.int x3), some (.int x4), some (.int x5), none] [] S) : ∀ (n : Nat) (x6 : Int32) (S : cpS), fX12_rows_111 x2 x3 x4 x5 k84 k93 n x6 S = some r → cpJ p l e (cpRm 6) s m args below meth c (MQ below (va_Ql (fun x S' => (x, S') = r) (cpWorld w A) A) args s 0 0 A) w A 7 111 [some (.ref (w.2.1 150)), none, some (.int x2), some (.int x3), some (.int x4), some (.int x5), some (.int x6)] [] S := by
  intro n
  induction n with
  | zero => intro x6 S h; rw [fX12_rows_111] at h; cases h
  | succ n ih =>
    intro x6 S h
    rw [fX12_rows_111] at h
    refine cj_iload C dX12_rows_111 rfl ?_
    refine cj_bipush C (v := (6 : Int32)) dX12_rows_113 rfl ?_
    refine cj_icmp_ge C (tgt := 156) dX12_rows_115 rfl h (fun _ h => ?_) (fun _ h => ?_)
    · refine cj_iinc C (v := (x5 + 1)) (lv' := [some (.ref (w.2.1 150)), none, some (.int x2), some (.int x3), some (.int x4), some (.int (x5 + 1)), some (.int x6)]) dX12_rows_156 rfl rfl (by decide) rfl rfl ?_
      refine cj_goto C (tgt := 93) dX12_rows_159 rfl ?_
      refine cj_weak C (lv' := [some (.ref (w.2.1 150)), none, some (.int x2), some (.int x3), some (.int x4), some (.int (x5 + 1)), none]) (cpSub_s (cpSub_n (cpSub_s (cpSub_s (cpSub_s (cpSub_s (cpSub_n cpSub_nil))))))) ?_
      exact hk93 (x5 + 1) S h
    · refine cj_aload_n C (i := 0) dX12_rows_118 rfl rfl ?_
      refine cj_getR C (d := 163) o_150 rfl gfX12_55 dX12_rows_119 ?_
      refine cj_iload C dX12_rows_122 rfl ?_
      refine cj_dup2 C dX12_rows_124 rfl rfl ?_
      refine cj_laload C o_163 h dX12_rows_125 (fun h => ?_)
      refine cj_aload_n C (i := 0) dX12_rows_126 rfl rfl ?_
      refine cj_getR C (d := 162) o_150 rfl gfX12_51 dX12_rows_127 ?_
      refine cj_iload C dX12_rows_130 rfl ?_
      refine cj_laload C o_162 h dX12_rows_132 (fun h => ?_)
      refine cj_aload_n C (i := 0) dX12_rows_133 rfl rfl ?_
      refine cj_getR C (d := 159) o_150 rfl gfX12_42 dX12_rows_134 ?_
      refine cj_bipush C (v := (6 : Int32)) dX12_rows_137 rfl ?_
      refine cj_iload C dX12_rows_139 rfl ?_
      refine cj_imul C dX12_rows_141 ?_
      refine cj_iload C dX12_rows_142 rfl ?_
      refine cj_iadd C dX12_rows_144 ?_
      refine cj_iaload C o_159 h dX12_rows_145 (fun h => ?_)
      refine cj_i2l C dX12_rows_146 ?_
      refine cj_lmul C dX12_rows_147 ?_
      refine cj_ladd C dX12_rows_148 ?_
      refine cj_lastore C o_163 h dX12_rows_149 (fun h => ?_)
      refine cj_lets h (fun S1 h => ?_)
      refine cj_iinc C (v := (x6 + 1)) (lv' := [some (.ref (w.2.1 150)), none, some (.int x2), some (.int x3), some (.int x4), some (.int x5), some (.int (x6 + 1))]) dX12_rows_150 rfl rfl (by decide) rfl rfl ?_
      refine cj_goto C (tgt := 111) dX12_rows_153 rfl ?_
      exact ih (x6 + 1) S1 h
def fX12_rows_93 (x2 : Int32) (x3 : Int32) (x4 : Int32) (k84 : Int32 → cpS → Option (Int64 × cpS)) : Nat → Int32 → cpS → Option (Int64 × cpS)
  | 0, _, _ => none
  | n + 1, x5, S =>
    if (6 : Int32) ≤ x5 then (
    fX12_rows_165 x2 x3 x4 k84 cpFu (0 : Int32) S) else (
    if cpIn x5 6 then (
    cpLt (cpL S 163 x5.toNatClampNeg (0 : Int64)) fun S1 =>
    fX12_rows_111 x2 x3 x4 x5 k84 (fX12_rows_93 x2 x3 x4 k84 n) cpFu (0 : Int32) S1) else none)
set_option maxRecDepth 100000 in
set_option maxHeartbeats 4000000 in
theorem wX12_rows_93 (C : cpCx p s m args meth c w A cX12_rows RX12 7) (hr : meth.sig.returnType = (some .long)) {r : Int64 × cpS} (x2 : Int32) (x3 : Int32) (x4 : Int32) {k84 : Int32 → cpS → Option (Int64 × cpS)} (hk84 : ∀ (x4 : Int32) (S : cpS), k84 x4 S = some r → cpJ p l e (cpRm 6) s m args below meth c (MQ below (va_Ql (fun x S' => (x, S') = r) (cpWorld w A) A) args s 0 0 A) w A 7 84 [some (.ref (w.2.1 150)), none, some (.int x2), some (.int x3), some (.int x4), none, none] [] S) : ∀ (n : Nat) (x5 : Int32) (S : cpS), fX12_rows_93 x2 x3 x4 k84 n x5 S = some r → cpJ p l e (cpRm 6) s m args below meth c (MQ below (va_Ql (fun x S' => (x, S') = r) (cpWorld w A) A) args s 0 0 A) w A 7 93 [some (.ref (w.2.1 150)), none, some (.int x2), some (.int x3), some (.int x4), some (.int x5), none] [] S := by
  intro n
  induction n with
  | zero => intro x5 S h; rw [fX12_rows_93] at h; cases h
  | succ n ih =>
    intro x5 S h
    rw [fX12_rows_93] at h
    refine cj_iload C dX12_rows_93 rfl ?_
    refine cj_bipush C (v := (6 : Int32)) dX12_rows_95 rfl ?_
    refine cj_icmp_ge C (tgt := 162) dX12_rows_97 rfl h (fun _ h => ?_) (fun _ h => ?_)
    · refine cj_iconst C (v := (0 : Int32)) dX12_rows_162 rfl ?_
      refine cj_istore C (lv' := [some (.ref (w.2.1 150)), none, some (.int x2), some (.int x3), some (.int x4), some (.int (0 : Int32)), none]) dX12_rows_163 (by decide) rfl rfl ?_
      exact wX12_rows_165 C hr x2 x3 x4 hk84 cpFu (0 : Int32) S h
    · refine cj_aload_n C (i := 0) dX12_rows_100 rfl rfl ?_
      refine cj_getR C (d := 163) o_150 rfl gfX12_55 dX12_rows_101 ?_
      refine cj_iload C dX12_rows_104 rfl ?_
      refine cj_lconst C (v := (0 : Int64)) dX12_rows_106 rfl ?_
      refine cj_lastore C o_163 h dX12_rows_107 (fun h => ?_)
      refine cj_lets h (fun S1 h => ?_)
      refine cj_iconst C (v := (0 : Int32)) dX12_rows_108 rfl ?_
      refine cj_istore C (lv' := [some (.ref (w.2.1 150)), none, some (.int x2), some (.int x3), some (.int x4), some (.int x5), some (.int (0 : Int32))]) dX12_rows_109 (by decide) rfl rfl ?_
      exact wX12_rows_111 C hr x2 x3 x4 x5 hk84 ih cpFu (0 : Int32) S1 h
def fX12_rows_84 (x2 : Int32) (x3 : Int32) : Nat → Int32 → cpS → Option (Int64 × cpS)
  | 0, _, _ => none
  | n + 1, x4, S =>
    if x3 ≤ x4 then (
    if cpIn x2 6 then (
    some ((S.2 162 x2.toNatClampNeg), S)) else none) else (
    fX12_rows_93 x2 x3 x4 (fX12_rows_84 x2 x3 n) cpFu (0 : Int32) S)
set_option maxRecDepth 100000 in
set_option maxHeartbeats 4000000 in
theorem wX12_rows_84 (C : cpCx p s m args meth c w A cX12_rows RX12 7) (hr : meth.sig.returnType = (some .long)) {r : Int64 × cpS} (x2 : Int32) (x3 : Int32) : ∀ (n : Nat) (x4 : Int32) (S : cpS), fX12_rows_84 x2 x3 n x4 S = some r → cpJ p l e (cpRm 6) s m args below meth c (MQ below (va_Ql (fun x S' => (x, S') = r) (cpWorld w A) A) args s 0 0 A) w A 7 84 [some (.ref (w.2.1 150)), none, some (.int x2), some (.int x3), some (.int x4), none, none] [] S := by
  intro n
  induction n with
  | zero => intro x4 S h; rw [fX12_rows_84] at h; cases h
  | succ n ih =>
    intro x4 S h
    rw [fX12_rows_84] at h
    refine cj_iload C dX12_rows_84 rfl ?_
    refine cj_iload_n C (i := 3) dX12_rows_86 rfl rfl ?_
    refine cj_icmp_ge C (tgt := 198) dX12_rows_87 rfl h (fun _ h => ?_) (fun _ h => ?_)
    · refine cj_aload_n C (i := 0) dX12_rows_198 rfl rfl ?_
      refine cj_getR C (d := 162) o_150 rfl gfX12_51 dX12_rows_199 ?_
      refine cj_iload_n C (i := 2) dX12_rows_202 rfl rfl ?_
      refine cj_laload C o_162 h dX12_rows_203 (fun h => ?_)
      exact cj_lreturn C hr h dX12_rows_204
    · refine cj_iconst C (v := (0 : Int32)) dX12_rows_90 rfl ?_
      refine cj_istore C (lv' := [some (.ref (w.2.1 150)), none, some (.int x2), some (.int x3), some (.int x4), some (.int (0 : Int32)), none]) dX12_rows_91 (by decide) rfl rfl ?_
      exact wX12_rows_93 C hr x2 x3 x4 ih cpFu (0 : Int32) S h
def fX12_rows_42 (x1 : Int32) (x2 : Int32) (x3 : Int32) : Nat → Int32 → cpS → Option (Int64 × cpS)
  | 0, _, _ => none
  | n + 1, x4, S =>
    if (6 : Int32) ≤ x4 then (
    fX12_rows_84 x2 x3 cpFu (0 : Int32) S) else (
    if cpIn ((62 : Int32) + x1) 3486 then (
    if x4 = (S.1 151 ((62 : Int32) + x1).toNatClampNeg) then (
    if cpIn x4 6 then (
    cpLt (cpL S 162 x4.toNatClampNeg (1 : Int64)) fun S1 =>
    fX12_rows_42 x1 x2 x3 n (x4 + 1) S1) else none) else (
    if cpIn x4 6 then (
    cpLt (cpL S 162 x4.toNatClampNeg (0 : Int64)) fun S2 =>
    fX12_rows_42 x1 x2 x3 n (x4 + 1) S2) else none)) else none)
set_option maxRecDepth 100000 in
set_option maxHeartbeats 4000000 in
theorem wX12_rows_42 (C : cpCx p s m args meth c w A cX12_rows RX12 7) (hr : meth.sig.returnType = (some .long)) {r : Int64 × cpS} (x1 : Int32) (x2 : Int32) (x3 : Int32) : ∀ (n : Nat) (x4 : Int32) (S : cpS), fX12_rows_42 x1 x2 x3 n x4 S = some r → cpJ p l e (cpRm 6) s m args below meth c (MQ below (va_Ql (fun x S' => (x, S') = r) (cpWorld w A) A) args s 0 0 A) w A 7 42 [some (.ref (w.2.1 150)), some (.int x1), some (.int x2), some (.int x3), some (.int x4), none, none] [] S := by
  intro n
  induction n with
  | zero => intro x4 S h; rw [fX12_rows_42] at h; cases h
  | succ n ih =>
    intro x4 S h
    rw [fX12_rows_42] at h
    refine cj_iload C dX12_rows_42 rfl ?_
    refine cj_bipush C (v := (6 : Int32)) dX12_rows_44 rfl ?_
    refine cj_icmp_ge C (tgt := 81) dX12_rows_46 rfl h (fun _ h => ?_) (fun _ h => ?_)
    · refine cj_iconst C (v := (0 : Int32)) dX12_rows_81 rfl ?_
      refine cj_istore C (lv' := [some (.ref (w.2.1 150)), some (.int x1), some (.int x2), some (.int x3), some (.int (0 : Int32)), none, none]) dX12_rows_82 (by decide) rfl rfl ?_
      refine cj_weak C (lv' := [some (.ref (w.2.1 150)), none, some (.int x2), some (.int x3), some (.int (0 : Int32)), none, none]) (cpSub_s (cpSub_n (cpSub_s (cpSub_s (cpSub_s (cpSub_n (cpSub_n cpSub_nil))))))) ?_
      exact wX12_rows_84 C hr x2 x3 cpFu (0 : Int32) S h
    · refine cj_aload_n C (i := 0) dX12_rows_49 rfl rfl ?_
      refine cj_getR C (d := 162) o_150 rfl gfX12_51 dX12_rows_50 ?_
      refine cj_iload C dX12_rows_53 rfl ?_
      refine cj_iload C dX12_rows_55 rfl ?_
      refine cj_aload_n C (i := 0) dX12_rows_57 rfl rfl ?_
      refine cj_getR C (d := 151) o_150 rfl gfX12_13 dX12_rows_58 ?_
      refine cj_bipush C (v := (62 : Int32)) dX12_rows_61 rfl ?_
      refine cj_iload_n C (i := 1) dX12_rows_63 rfl rfl ?_
      refine cj_iadd C dX12_rows_64 ?_
      refine cj_iaload C o_151 h dX12_rows_65 (fun h => ?_)
      refine cj_icmp_ne C (tgt := 73) dX12_rows_66 rfl h (fun _ h => ?_) (fun _ h => ?_)
      · refine cj_lconst C (v := (1 : Int64)) dX12_rows_69 rfl ?_
        refine cj_goto C (tgt := 74) dX12_rows_70 rfl ?_
        refine cj_lastore C o_162 h dX12_rows_74 (fun h => ?_)
        refine cj_lets h (fun S1 h => ?_)
        refine cj_iinc C (v := (x4 + 1)) (lv' := [some (.ref (w.2.1 150)), some (.int x1), some (.int x2), some (.int x3), some (.int (x4 + 1)), none, none]) dX12_rows_75 rfl rfl (by decide) rfl rfl ?_
        refine cj_goto C (tgt := 42) dX12_rows_78 rfl ?_
        exact ih (x4 + 1) S1 h
      · refine cj_lconst C (v := (0 : Int64)) dX12_rows_73 rfl ?_
        refine cj_lastore C o_162 h dX12_rows_74 (fun h => ?_)
        refine cj_lets h (fun S2 h => ?_)
        refine cj_iinc C (v := (x4 + 1)) (lv' := [some (.ref (w.2.1 150)), some (.int x1), some (.int x2), some (.int x3), some (.int (x4 + 1)), none, none]) dX12_rows_75 rfl rfl (by decide) rfl rfl ?_
        refine cj_goto C (tgt := 42) dX12_rows_78 rfl ?_
        exact ih (x4 + 1) S2 h
def fX12_rows (x1 : Int32) (x2 : Int32) (x3 : Int32) (S : cpS) : Option (Int64 × cpS) :=
    cpLt (cpI S 150 0 (0 : Int32)) fun S1 =>
    cpB (fX12_noCoin x1 x2 S1) fun z2 S3 =>
    if z2 = 0 then (
    cpB (fX12_within (Int32.toInt64 x3) (0 : Int64) (8 : Int64) S3) fun z4 S5 =>
    if z4 = 0 then (
    some ((-3 : Int64), S5)) else (
    cpB (fX12_laysBears x1 S5) fun _ S7 =>
    fX12_rows_42 x1 x2 x3 cpFu (0 : Int32) S7)) else (
    some ((-2 : Int64), S3))
set_option maxRecDepth 100000 in
set_option maxHeartbeats 4000000 in
theorem m_X12_rows (l : Launch) (w : cpW) (A : Nat → Prop) (x1 : Int32) (x2 : Int32) (x3 : Int32) (S : cpS) (r : Int64 × cpS) (h : fX12_rows x1 x2 x3 S = some r) : cpMl l yX12_rows cX12_rows 7 ((some .long)) 6 w A [.ref (w.2.1 150), .int x1, .int x2, .int x3] S r := by
  refine cpMl.of (lv := [some (.ref (w.2.1 150)), some (.int x1), some (.int x2), some (.int x3), none, none, none]) (by decide) (Nat.le_of_ble_eq_true rfl) rfl (fun p e s m args below meth c C hr => ?_)
  replace C : cpCx p s m args meth c w A cX12_rows RX12 7 := C
  rw [fX12_rows] at h
  refine cj_aload_n C (i := 0) dX12_rows_0 rfl rfl ?_
  refine cj_iconst C (v := (0 : Int32)) dX12_rows_1 rfl ?_
  refine cj_put C (j := 0) o_150 rfl pfX12_1 rfl rfl dX12_rows_2 ?_
  refine cj_lets h (fun S1 h => ?_)
  refine cj_aload_n C (i := 0) dX12_rows_5 rfl rfl ?_
  refine cj_iload_n C (i := 1) dX12_rows_6 rfl rfl ?_
  refine cj_iload_n C (i := 2) dX12_rows_7 rfl rfl ?_
  refine cj_callVi C (As := [.int x1, .int x2]) (rest := []) qX12_noCoin mw_49_6 o_150 rfl rfl rfl (Nat.le_of_ble_eq_true rfl) (by decide) dX12_rows_8 h (fun _ _ hf => m_X12_noCoin l w A x1 x2 S1 _ hf) (fun z2 S3 h => ?_)
  refine cj_if_eq C (tgt := 18) dX12_rows_11 rfl h (fun _ h => ?_) (fun _ h => ?_)
  · refine cj_iload_n C (i := 3) dX12_rows_18 rfl rfl ?_
    refine cj_i2l C dX12_rows_19 ?_
    refine cj_lconst C (v := (0 : Int64)) dX12_rows_20 rfl ?_
    refine cj_ldc2 C (v := (8 : Int64)) mw_51_20 dX12_rows_21 ?_
    refine cj_callSi C (As := [.long (Int32.toInt64 x3), .long (0 : Int64), .long (8 : Int64)]) (rest := []) qX12_within mw_23_15 rfl rfl (Nat.le_of_ble_eq_true rfl) (by decide) dX12_rows_24 h (fun _ _ hf => m_X12_within l w A (Int32.toInt64 x3) (0 : Int64) (8 : Int64) S3 _ hf) (fun z4 S5 h => ?_)
    refine cj_if_ne C (tgt := 34) dX12_rows_27 rfl h (fun _ h => ?_) (fun _ h => ?_)
    · refine cj_ldc2 C (v := (-3 : Int64)) mw_51_21 dX12_rows_30 ?_
      exact cj_lreturn C hr h dX12_rows_33
    · refine cj_aload_n C (i := 0) dX12_rows_34 rfl rfl ?_
      refine cj_iload_n C (i := 1) dX12_rows_35 rfl rfl ?_
      refine cj_callVv C (As := [.int x1]) (rest := []) qX12_laysBears mw_49_15 o_150 rfl rfl rfl (Nat.le_of_ble_eq_true rfl) (by decide) dX12_rows_36 h (fun _ _ hf => m_X12_laysBears l w A x1 S5 _ hf) (fun z6 S7 h => ?_)
      refine cj_iconst C (v := (0 : Int32)) dX12_rows_39 rfl ?_
      refine cj_istore C (lv' := [some (.ref (w.2.1 150)), some (.int x1), some (.int x2), some (.int x3), some (.int (0 : Int32)), none, none]) dX12_rows_40 (by decide) rfl rfl ?_
      exact wX12_rows_42 C hr x1 x2 x3 cpFu (0 : Int32) S7 h
  · refine cj_ldc2 C (v := (-2 : Int64)) mw_51_19 dX12_rows_14 ?_
    exact cj_lreturn C hr h dX12_rows_17
end CPV
