section CPV
variable {p : Program} {l : Launch} {e : Env} {s : State} {m : MethodId} {args : Array Value} {below : List Frame} {meth : Method} {c : Code} {w : cpW} {A : Nat → Prop}
/-! X12_attempt -/
def fX12_attempt_88 (x2 : Int32) (x3 : Int32) (x5 : Int32) (x8 : Int32) (k66 : Int32 → Int32 → Int32 → cpS → Option (Int32 × cpS)) : Nat → Int32 → Int32 → Int32 → cpS → Option (Int32 × cpS)
  | 0, _, _, _, _ => none
  | n + 1, x6, x7, x9, S =>
    if (S.1 151 3) ≤ x9 then (
    k66 x6 x7 (x8 + 1) S) else (
    cpB (fX12_mostOften x5 x8 x9 x2 x3 S) fun z1 S2 =>
    if z1 < x7 then (
    cpLt (((10 : Int32) * x8) + x9) fun y3 =>
    fX12_attempt_88 x2 x3 x5 x8 k66 n y3 z1 (x9 + 1) S2) else (
    fX12_attempt_88 x2 x3 x5 x8 k66 n x6 x7 (x9 + 1) S2))
set_option maxRecDepth 100000 in
set_option maxHeartbeats 4000000 in
theorem wX12_attempt_88 (C : cpCx p s m args meth c w A cX12_attempt RX12 11) (hr : meth.sig.returnType = (some .int)) {r : Int32 × cpS} (x2 : Int32) (x3 : Int32) (x5 : Int32) (x8 : Int32) {k66 : Int32 → Int32 → Int32 → cpS → Option (Int32 × cpS)} (hk66 : ∀ (x6 : Int32) (x7 : Int32) (x8 : Int32) (S : cpS), k66 x6 x7 x8 S = some r → cpJ p l e (cpRm 8) s m args below meth c (MQ below (va_Qi (fun x S' => (x, S') = r) (cpWorld w A) A) args s 0 0 A) w A 11 66 [some (.ref (w.2.1 150)), none, some (.int x2), some (.int x3), none, some (.int x5), some (.int x6), some (.int x7), some (.int x8), none, none] [] S) : ∀ (n : Nat) (x6 : Int32) (x7 : Int32) (x9 : Int32) (S : cpS), fX12_attempt_88 x2 x3 x5 x8 k66 n x6 x7 x9 S = some r → cpJ p l e (cpRm 8) s m args below meth c (MQ below (va_Qi (fun x S' => (x, S') = r) (cpWorld w A) A) args s 0 0 A) w A 11 88 [some (.ref (w.2.1 150)), none, some (.int x2), some (.int x3), none, some (.int x5), some (.int x6), some (.int x7), some (.int x8), some (.int x9), none] [] S := by
  intro n
  induction n with
  | zero => intro x6 x7 x9 S h; rw [fX12_attempt_88] at h; cases h
  | succ n ih =>
    intro x6 x7 x9 S h
    rw [fX12_attempt_88] at h
    refine cj_iload C dX12_attempt_88 rfl ?_
    refine cj_aload_n C (i := 0) dX12_attempt_90 rfl rfl ?_
    refine cj_getR C (d := 151) o_150 rfl gfX12_13 dX12_attempt_91 ?_
    refine cj_iconst C (v := (3 : Int32)) dX12_attempt_94 rfl ?_
    refine cj_ialoadC C (j := 3) o_151 (by decide) (by decide) dX12_attempt_95 ?_
    refine cj_icmp_ge C (tgt := 143) dX12_attempt_96 rfl h (fun _ h => ?_) (fun _ h => ?_)
    · refine cj_iinc C (v := (x8 + 1)) (lv' := [some (.ref (w.2.1 150)), none, some (.int x2), some (.int x3), none, some (.int x5), some (.int x6), some (.int x7), some (.int (x8 + 1)), some (.int x9), none]) dX12_attempt_143 rfl rfl (by decide) rfl rfl ?_
      refine cj_goto C (tgt := 66) dX12_attempt_146 rfl ?_
      refine cj_weak C (lv' := [some (.ref (w.2.1 150)), none, some (.int x2), some (.int x3), none, some (.int x5), some (.int x6), some (.int x7), some (.int (x8 + 1)), none, none]) (cpSub_s (cpSub_n (cpSub_s (cpSub_s (cpSub_n (cpSub_s (cpSub_s (cpSub_s (cpSub_s (cpSub_n (cpSub_n cpSub_nil))))))))))) ?_
      exact hk66 x6 x7 (x8 + 1) S h
    · refine cj_aload_n C (i := 0) dX12_attempt_99 rfl rfl ?_
      refine cj_iload C dX12_attempt_100 rfl ?_
      refine cj_iload C dX12_attempt_102 rfl ?_
      refine cj_iload C dX12_attempt_104 rfl ?_
      refine cj_iload_n C (i := 2) dX12_attempt_106 rfl rfl ?_
      refine cj_iload_n C (i := 3) dX12_attempt_107 rfl rfl ?_
      refine cj_callVi C (As := [.int x5, .int x8, .int x9, .int x2, .int x3]) (rest := []) qX12_mostOften mw_70_8 o_150 rfl rfl rfl (Nat.le_of_ble_eq_true rfl) (by decide) dX12_attempt_108 h (fun _ _ hf => m_X12_mostOften l w A x5 x8 x9 x2 x3 S _ hf) (fun z1 S2 h => ?_)
      refine cj_istore C (lv' := [some (.ref (w.2.1 150)), none, some (.int x2), some (.int x3), none, some (.int x5), some (.int x6), some (.int x7), some (.int x8), some (.int x9), some (.int z1)]) dX12_attempt_111 (by decide) rfl rfl ?_
      refine cj_iload C dX12_attempt_113 rfl ?_
      refine cj_iload C dX12_attempt_115 rfl ?_
      refine cj_icmp_lt C (tgt := 123) dX12_attempt_117 rfl h (fun _ h => ?_) (fun _ h => ?_)
      · refine cj_bipush C (v := (10 : Int32)) dX12_attempt_123 rfl ?_
        refine cj_iload C dX12_attempt_125 rfl ?_
        refine cj_imul C dX12_attempt_127 ?_
        refine cj_iload C dX12_attempt_128 rfl ?_
        refine cj_iadd C dX12_attempt_130 ?_
        refine cj_let h (fun y3 h => ?_)
        refine cj_istore C (lv' := [some (.ref (w.2.1 150)), none, some (.int x2), some (.int x3), none, some (.int x5), some (.int y3), some (.int x7), some (.int x8), some (.int x9), some (.int z1)]) dX12_attempt_131 (by decide) rfl rfl ?_
        refine cj_iload C dX12_attempt_133 rfl ?_
        refine cj_istore C (lv' := [some (.ref (w.2.1 150)), none, some (.int x2), some (.int x3), none, some (.int x5), some (.int y3), some (.int z1), some (.int x8), some (.int x9), some (.int z1)]) dX12_attempt_135 (by decide) rfl rfl ?_
        refine cj_iinc C (v := (x9 + 1)) (lv' := [some (.ref (w.2.1 150)), none, some (.int x2), some (.int x3), none, some (.int x5), some (.int y3), some (.int z1), some (.int x8), some (.int (x9 + 1)), some (.int z1)]) dX12_attempt_137 rfl rfl (by decide) rfl rfl ?_
        refine cj_goto C (tgt := 88) dX12_attempt_140 rfl ?_
        refine cj_weak C (lv' := [some (.ref (w.2.1 150)), none, some (.int x2), some (.int x3), none, some (.int x5), some (.int y3), some (.int z1), some (.int x8), some (.int (x9 + 1)), none]) (cpSub_s (cpSub_n (cpSub_s (cpSub_s (cpSub_n (cpSub_s (cpSub_s (cpSub_s (cpSub_s (cpSub_s (cpSub_n cpSub_nil))))))))))) ?_
        exact ih y3 z1 (x9 + 1) S2 h
      · refine cj_goto C (tgt := 137) dX12_attempt_120 rfl ?_
        refine cj_iinc C (v := (x9 + 1)) (lv' := [some (.ref (w.2.1 150)), none, some (.int x2), some (.int x3), none, some (.int x5), some (.int x6), some (.int x7), some (.int x8), some (.int (x9 + 1)), some (.int z1)]) dX12_attempt_137 rfl rfl (by decide) rfl rfl ?_
        refine cj_goto C (tgt := 88) dX12_attempt_140 rfl ?_
        refine cj_weak C (lv' := [some (.ref (w.2.1 150)), none, some (.int x2), some (.int x3), none, some (.int x5), some (.int x6), some (.int x7), some (.int x8), some (.int (x9 + 1)), none]) (cpSub_s (cpSub_n (cpSub_s (cpSub_s (cpSub_n (cpSub_s (cpSub_s (cpSub_s (cpSub_s (cpSub_s (cpSub_n cpSub_nil))))))))))) ?_
        exact ih x6 x7 (x9 + 1) S2 h
def fX12_attempt_66 (x2 : Int32) (x3 : Int32) (x5 : Int32) : Nat → Int32 → Int32 → Int32 → cpS → Option (Int32 × cpS)
  | 0, _, _, _, _ => none
  | n + 1, x6, x7, x8, S =>
    if (S.1 151 3) ≤ x8 then (
    some (x6, S)) else (
    if x5 = 0 then (
    some (x6, S)) else (
    cpLt (x8 + (1 : Int32)) fun y1 =>
    fX12_attempt_88 x2 x3 x5 x8 (fX12_attempt_66 x2 x3 x5 n) cpFu x6 x7 y1 S))
set_option maxRecDepth 100000 in
set_option maxHeartbeats 4000000 in
theorem wX12_attempt_66 (C : cpCx p s m args meth c w A cX12_attempt RX12 11) (hr : meth.sig.returnType = (some .int)) {r : Int32 × cpS} (x2 : Int32) (x3 : Int32) (x5 : Int32) : ∀ (n : Nat) (x6 : Int32) (x7 : Int32) (x8 : Int32) (S : cpS), fX12_attempt_66 x2 x3 x5 n x6 x7 x8 S = some r → cpJ p l e (cpRm 8) s m args below meth c (MQ below (va_Qi (fun x S' => (x, S') = r) (cpWorld w A) A) args s 0 0 A) w A 11 66 [some (.ref (w.2.1 150)), none, some (.int x2), some (.int x3), none, some (.int x5), some (.int x6), some (.int x7), some (.int x8), none, none] [] S := by
  intro n
  induction n with
  | zero => intro x6 x7 x8 S h; rw [fX12_attempt_66] at h; cases h
  | succ n ih =>
    intro x6 x7 x8 S h
    rw [fX12_attempt_66] at h
    refine cj_iload C dX12_attempt_66 rfl ?_
    refine cj_aload_n C (i := 0) dX12_attempt_68 rfl rfl ?_
    refine cj_getR C (d := 151) o_150 rfl gfX12_13 dX12_attempt_69 ?_
    refine cj_iconst C (v := (3 : Int32)) dX12_attempt_72 rfl ?_
    refine cj_ialoadC C (j := 3) o_151 (by decide) (by decide) dX12_attempt_73 ?_
    refine cj_icmp_ge C (tgt := 149) dX12_attempt_74 rfl h (fun _ h => ?_) (fun _ h => ?_)
    · refine cj_iload C dX12_attempt_149 rfl ?_
      exact cj_ireturn C hr h dX12_attempt_151
    · refine cj_iload C dX12_attempt_77 rfl ?_
      refine cj_if_eq C (tgt := 149) dX12_attempt_79 rfl h (fun _ h => ?_) (fun _ h => ?_)
      · refine cj_iload C dX12_attempt_149 rfl ?_
        exact cj_ireturn C hr h dX12_attempt_151
      · refine cj_iload C dX12_attempt_82 rfl ?_
        refine cj_iconst C (v := (1 : Int32)) dX12_attempt_84 rfl ?_
        refine cj_iadd C dX12_attempt_85 ?_
        refine cj_let h (fun y1 h => ?_)
        refine cj_istore C (lv' := [some (.ref (w.2.1 150)), none, some (.int x2), some (.int x3), none, some (.int x5), some (.int x6), some (.int x7), some (.int x8), some (.int y1), none]) dX12_attempt_86 (by decide) rfl rfl ?_
        exact wX12_attempt_88 C hr x2 x3 x5 x8 ih cpFu x6 x7 y1 S h
def fX12_attempt (x1 : Int32) (x2 : Int32) (x3 : Int32) (S : cpS) : Option (Int32 × cpS) :=
    cpLt (cpI S 150 0 (0 : Int32)) fun S1 =>
    cpB (fX12_within (Int32.toInt64 x1) (0 : Int64) (3 : Int64) S1) fun z2 S3 =>
    if z2 = 0 then (
    some ((-2 : Int32), S3)) else (
    cpB (fX12_noCoin x2 x3 S3) fun z4 S5 =>
    if z4 = 0 then (
    cpB (fX12_noTold x1 (0 : Int32) (99999 : Int32) S5) fun z6 S7 =>
    if z6 = 0 then (
    cpB (fX12_hoursOf x1 S7) fun z8 S9 =>
    fX12_attempt_66 x2 x3 z8 cpFu (-1 : Int32) (268435456 : Int32) (0 : Int32) S9) else (
    some (z6, S7))) else (
    some ((-2 : Int32), S5)))
set_option maxRecDepth 100000 in
set_option maxHeartbeats 4000000 in
theorem m_X12_attempt (l : Launch) (w : cpW) (A : Nat → Prop) (x1 : Int32) (x2 : Int32) (x3 : Int32) (S : cpS) (r : Int32 × cpS) (h : fX12_attempt x1 x2 x3 S = some r) : cpMi l yX12_attempt cX12_attempt 11 ((some .int)) 8 w A [.ref (w.2.1 150), .int x1, .int x2, .int x3] S r := by
  refine cpMi.of (lv := [some (.ref (w.2.1 150)), some (.int x1), some (.int x2), some (.int x3), none, none, none, none, none, none, none]) (by decide) (Nat.le_of_ble_eq_true rfl) rfl (fun p e s m args below meth c C hr => ?_)
  replace C : cpCx p s m args meth c w A cX12_attempt RX12 11 := C
  rw [fX12_attempt] at h
  refine cj_aload_n C (i := 0) dX12_attempt_0 rfl rfl ?_
  refine cj_iconst C (v := (0 : Int32)) dX12_attempt_1 rfl ?_
  refine cj_put C (j := 0) o_150 rfl pfX12_1 rfl rfl dX12_attempt_2 ?_
  refine cj_lets h (fun S1 h => ?_)
  refine cj_iload_n C (i := 1) dX12_attempt_5 rfl rfl ?_
  refine cj_i2l C dX12_attempt_6 ?_
  refine cj_lconst C (v := (0 : Int64)) dX12_attempt_7 rfl ?_
  refine cj_ldc2 C (v := (3 : Int64)) mw_44_8 dX12_attempt_8 ?_
  refine cj_callSi C (As := [.long (Int32.toInt64 x1), .long (0 : Int64), .long (3 : Int64)]) (rest := []) qX12_within mw_23_15 rfl rfl (Nat.le_of_ble_eq_true rfl) (by decide) dX12_attempt_11 h (fun _ _ hf => m_X12_within l w A (Int32.toInt64 x1) (0 : Int64) (3 : Int64) S1 _ hf) (fun z2 S3 h => ?_)
  refine cj_if_eq C (tgt := 26) dX12_attempt_14 rfl h (fun _ h => ?_) (fun _ h => ?_)
  · refine cj_bipush C (v := (-2 : Int32)) dX12_attempt_26 rfl ?_
    exact cj_ireturn C hr h dX12_attempt_28
  · refine cj_aload_n C (i := 0) dX12_attempt_17 rfl rfl ?_
    refine cj_iload_n C (i := 2) dX12_attempt_18 rfl rfl ?_
    refine cj_iload_n C (i := 3) dX12_attempt_19 rfl rfl ?_
    refine cj_callVi C (As := [.int x2, .int x3]) (rest := []) qX12_noCoin mw_49_6 o_150 rfl rfl rfl (Nat.le_of_ble_eq_true rfl) (by decide) dX12_attempt_20 h (fun _ _ hf => m_X12_noCoin l w A x2 x3 S3 _ hf) (fun z4 S5 h => ?_)
    refine cj_if_eq C (tgt := 29) dX12_attempt_23 rfl h (fun _ h => ?_) (fun _ h => ?_)
    · refine cj_aload_n C (i := 0) dX12_attempt_29 rfl rfl ?_
      refine cj_iload_n C (i := 1) dX12_attempt_30 rfl rfl ?_
      refine cj_iconst C (v := (0 : Int32)) dX12_attempt_31 rfl ?_
      refine cj_ldcw C (v := (99999 : Int32)) mw_69_2 dX12_attempt_32 ?_
      refine cj_callVi C (As := [.int x1, .int (0 : Int32), .int (99999 : Int32)]) (rest := []) qX12_noTold mw_65_17 o_150 rfl rfl rfl (Nat.le_of_ble_eq_true rfl) (by decide) dX12_attempt_35 h (fun _ _ hf => m_X12_noTold l w A x1 (0 : Int32) (99999 : Int32) S5 _ hf) (fun z6 S7 h => ?_)
      refine cj_istore C (lv' := [some (.ref (w.2.1 150)), some (.int x1), some (.int x2), some (.int x3), some (.int z6), none, none, none, none, none, none]) dX12_attempt_38 (by decide) rfl rfl ?_
      refine cj_iload C dX12_attempt_40 rfl ?_
      refine cj_if_eq C (tgt := 48) dX12_attempt_42 rfl h (fun _ h => ?_) (fun _ h => ?_)
      · refine cj_aload_n C (i := 0) dX12_attempt_48 rfl rfl ?_
        refine cj_iload_n C (i := 1) dX12_attempt_49 rfl rfl ?_
        refine cj_callVi C (As := [.int x1]) (rest := []) qX12_hoursOf mw_69_3 o_150 rfl rfl rfl (Nat.le_of_ble_eq_true rfl) (by decide) dX12_attempt_50 h (fun _ _ hf => m_X12_hoursOf l w A x1 S7 _ hf) (fun z8 S9 h => ?_)
        refine cj_istore C (lv' := [some (.ref (w.2.1 150)), some (.int x1), some (.int x2), some (.int x3), some (.int z6), some (.int z8), none, none, none, none, none]) dX12_attempt_53 (by decide) rfl rfl ?_
        refine cj_iconst C (v := (-1 : Int32)) dX12_attempt_55 rfl ?_
        refine cj_istore C (lv' := [some (.ref (w.2.1 150)), some (.int x1), some (.int x2), some (.int x3), some (.int z6), some (.int z8), some (.int (-1 : Int32)), none, none, none, none]) dX12_attempt_56 (by decide) rfl rfl ?_
        refine cj_ldcw C (v := (268435456 : Int32)) mw_49_14 dX12_attempt_58 ?_
        refine cj_istore C (lv' := [some (.ref (w.2.1 150)), some (.int x1), some (.int x2), some (.int x3), some (.int z6), some (.int z8), some (.int (-1 : Int32)), some (.int (268435456 : Int32)), none, none, none]) dX12_attempt_61 (by decide) rfl rfl ?_
        refine cj_iconst C (v := (0 : Int32)) dX12_attempt_63 rfl ?_
        refine cj_istore C (lv' := [some (.ref (w.2.1 150)), some (.int x1), some (.int x2), some (.int x3), some (.int z6), some (.int z8), some (.int (-1 : Int32)), some (.int (268435456 : Int32)), some (.int (0 : Int32)), none, none]) dX12_attempt_64 (by decide) rfl rfl ?_
        refine cj_weak C (lv' := [some (.ref (w.2.1 150)), none, some (.int x2), some (.int x3), none, some (.int z8), some (.int (-1 : Int32)), some (.int (268435456 : Int32)), some (.int (0 : Int32)), none, none]) (cpSub_s (cpSub_n (cpSub_s (cpSub_s (cpSub_n (cpSub_s (cpSub_s (cpSub_s (cpSub_s (cpSub_n (cpSub_n cpSub_nil))))))))))) ?_
        exact wX12_attempt_66 C hr x2 x3 z8 cpFu (-1 : Int32) (268435456 : Int32) (0 : Int32) S9 h
      · refine cj_iload C dX12_attempt_45 rfl ?_
        exact cj_ireturn C hr h dX12_attempt_47
    · refine cj_bipush C (v := (-2 : Int32)) dX12_attempt_26 rfl ?_
      exact cj_ireturn C hr h dX12_attempt_28
/-! X12_canBe -/
def fX12_canBe (x1 : Int32) (x2 : Int32) (S : cpS) : Option (Int32 × cpS) :=
    if x1 = x2 then (
    some ((1 : Int32), S)) else (
    if cpIn (((6 : Int32) * x1) + x2) 36 then (
    if (S.1 159 (((6 : Int32) * x1) + x2).toNatClampNeg) ≤ 0 then (
    some ((0 : Int32), S)) else (
    some ((1 : Int32), S))) else none)
set_option maxRecDepth 100000 in
set_option maxHeartbeats 4000000 in
theorem m_X12_canBe (l : Launch) (w : cpW) (A : Nat → Prop) (x1 : Int32) (x2 : Int32) (S : cpS) (r : Int32 × cpS) (h : fX12_canBe x1 x2 S = some r) : cpMi l yX12_canBe cX12_canBe 3 ((some .boolean)) 0 w A [.ref (w.2.1 150), .int x1, .int x2] S r := by
  refine cpMi.of (lv := [some (.ref (w.2.1 150)), some (.int x1), some (.int x2)]) (by decide) (Nat.le_of_ble_eq_true rfl) rfl (fun p e s m args below meth c C hr => ?_)
  replace C : cpCx p s m args meth c w A cX12_canBe RX12 3 := C
  rw [fX12_canBe] at h
  refine cj_iload_n C (i := 1) dX12_canBe_0 rfl rfl ?_
  refine cj_iload_n C (i := 2) dX12_canBe_1 rfl rfl ?_
  refine cj_icmp_eq C (tgt := 19) dX12_canBe_2 rfl h (fun _ h => ?_) (fun _ h => ?_)
  · refine cj_iconst C (v := (1 : Int32)) dX12_canBe_19 rfl ?_
    refine cj_goto C (tgt := 24) dX12_canBe_20 rfl ?_
    exact cj_zreturn C hr rfl h dX12_canBe_24
  · refine cj_aload_n C (i := 0) dX12_canBe_5 rfl rfl ?_
    refine cj_getR C (d := 159) o_150 rfl gfX12_42 dX12_canBe_6 ?_
    refine cj_bipush C (v := (6 : Int32)) dX12_canBe_9 rfl ?_
    refine cj_iload_n C (i := 1) dX12_canBe_11 rfl rfl ?_
    refine cj_imul C dX12_canBe_12 ?_
    refine cj_iload_n C (i := 2) dX12_canBe_13 rfl rfl ?_
    refine cj_iadd C dX12_canBe_14 ?_
    refine cj_iaload C o_159 h dX12_canBe_15 (fun h => ?_)
    refine cj_if_le C (tgt := 23) dX12_canBe_16 rfl h (fun _ h => ?_) (fun _ h => ?_)
    · refine cj_iconst C (v := (0 : Int32)) dX12_canBe_23 rfl ?_
      exact cj_zreturn C hr rfl h dX12_canBe_24
    · refine cj_iconst C (v := (1 : Int32)) dX12_canBe_19 rfl ?_
      refine cj_goto C (tgt := 24) dX12_canBe_20 rfl ?_
      exact cj_zreturn C hr rfl h dX12_canBe_24
/-! X12_otherAt -/
def fX12_otherAt_4 (x1 : Int32) : Nat → Int32 → Int32 → cpS → Option (Int32 × cpS)
  | 0, _, _, _ => none
  | n + 1, x2, x3, S =>
    if (S.1 151 1) ≤ x3 then (
    some (x2, S)) else (
    cpB (fX12_canBe x1 x3 S) fun z1 S2 =>
    if z1 = 0 then (
    fX12_otherAt_4 x1 n x2 (x3 + 1) S2) else (
    if cpIn x3 6 then (
    if (S2.1 160 x3.toNatClampNeg) = (268435456 : Int32) then (
    some ((268435456 : Int32), S2)) else (
    if cpIn x3 6 then (
    if ((S2.1 160 x3.toNatClampNeg) + (1 : Int32)) ≤ x2 then (
    fX12_otherAt_4 x1 n x2 (x3 + 1) S2) else (
    if cpIn x3 6 then (
    cpLt ((S2.1 160 x3.toNatClampNeg) + (1 : Int32)) fun y3 =>
    fX12_otherAt_4 x1 n y3 (x3 + 1) S2) else none)) else none)) else none))
set_option maxRecDepth 100000 in
set_option maxHeartbeats 4000000 in
theorem wX12_otherAt_4 (C : cpCx p s m args meth c w A cX12_otherAt RX12 4) (hr : meth.sig.returnType = (some .int)) {r : Int32 × cpS} (x1 : Int32) : ∀ (n : Nat) (x2 : Int32) (x3 : Int32) (S : cpS), fX12_otherAt_4 x1 n x2 x3 S = some r → cpJ p l e (cpRm 1) s m args below meth c (MQ below (va_Qi (fun x S' => (x, S') = r) (cpWorld w A) A) args s 0 0 A) w A 4 4 [some (.ref (w.2.1 150)), some (.int x1), some (.int x2), some (.int x3)] [] S := by
  intro n
  induction n with
  | zero => intro x2 x3 S h; rw [fX12_otherAt_4] at h; cases h
  | succ n ih =>
    intro x2 x3 S h
    rw [fX12_otherAt_4] at h
    refine cj_iload_n C (i := 3) dX12_otherAt_4 rfl rfl ?_
    refine cj_aload_n C (i := 0) dX12_otherAt_5 rfl rfl ?_
    refine cj_getR C (d := 151) o_150 rfl gfX12_13 dX12_otherAt_6 ?_
    refine cj_iconst C (v := (1 : Int32)) dX12_otherAt_9 rfl ?_
    refine cj_ialoadC C (j := 1) o_151 (by decide) (by decide) dX12_otherAt_10 ?_
    refine cj_icmp_ge C (tgt := 73) dX12_otherAt_11 rfl h (fun _ h => ?_) (fun _ h => ?_)
    · refine cj_iload_n C (i := 2) dX12_otherAt_73 rfl rfl ?_
      exact cj_ireturn C hr h dX12_otherAt_74
    · refine cj_aload_n C (i := 0) dX12_otherAt_14 rfl rfl ?_
      refine cj_iload_n C (i := 1) dX12_otherAt_15 rfl rfl ?_
      refine cj_iload_n C (i := 3) dX12_otherAt_16 rfl rfl ?_
      refine cj_callVi C (As := [.int x1, .int x3]) (rest := []) qX12_canBe mw_71_15 o_150 rfl rfl rfl (Nat.le_of_ble_eq_true rfl) (by decide) dX12_otherAt_17 h (fun _ _ hf => m_X12_canBe l w A x1 x3 S _ hf) (fun z1 S2 h => ?_)
      refine cj_if_ne C (tgt := 26) dX12_otherAt_20 rfl h (fun _ h => ?_) (fun _ h => ?_)
      · refine cj_goto C (tgt := 67) dX12_otherAt_23 rfl ?_
        refine cj_iinc C (v := (x3 + 1)) (lv' := [some (.ref (w.2.1 150)), some (.int x1), some (.int x2), some (.int (x3 + 1))]) dX12_otherAt_67 rfl rfl (by decide) rfl rfl ?_
        refine cj_goto C (tgt := 4) dX12_otherAt_70 rfl ?_
        exact ih x2 (x3 + 1) S2 h
      · refine cj_aload_n C (i := 0) dX12_otherAt_26 rfl rfl ?_
        refine cj_getR C (d := 160) o_150 rfl gfX12_45 dX12_otherAt_27 ?_
        refine cj_iload_n C (i := 3) dX12_otherAt_30 rfl rfl ?_
        refine cj_iaload C o_160 h dX12_otherAt_31 (fun h => ?_)
        refine cj_ldcw C (v := (268435456 : Int32)) mw_49_14 dX12_otherAt_32 ?_
        refine cj_icmp_ne C (tgt := 42) dX12_otherAt_35 rfl h (fun _ h => ?_) (fun _ h => ?_)
        · refine cj_ldcw C (v := (268435456 : Int32)) mw_49_14 dX12_otherAt_38 ?_
          exact cj_ireturn C hr h dX12_otherAt_41
        · refine cj_aload_n C (i := 0) dX12_otherAt_42 rfl rfl ?_
          refine cj_getR C (d := 160) o_150 rfl gfX12_45 dX12_otherAt_43 ?_
          refine cj_iload_n C (i := 3) dX12_otherAt_46 rfl rfl ?_
          refine cj_iaload C o_160 h dX12_otherAt_47 (fun h => ?_)
          refine cj_iconst C (v := (1 : Int32)) dX12_otherAt_48 rfl ?_
          refine cj_iadd C dX12_otherAt_49 ?_
          refine cj_iload_n C (i := 2) dX12_otherAt_50 rfl rfl ?_
          refine cj_icmp_le C (tgt := 65) dX12_otherAt_51 rfl h (fun _ h => ?_) (fun _ h => ?_)
          · refine cj_iload_n C (i := 2) dX12_otherAt_65 rfl rfl ?_
            refine cj_istore_n C (i := 2) (lv' := [some (.ref (w.2.1 150)), some (.int x1), some (.int x2), some (.int x3)]) dX12_otherAt_66 rfl (by decide) rfl rfl ?_
            refine cj_iinc C (v := (x3 + 1)) (lv' := [some (.ref (w.2.1 150)), some (.int x1), some (.int x2), some (.int (x3 + 1))]) dX12_otherAt_67 rfl rfl (by decide) rfl rfl ?_
            refine cj_goto C (tgt := 4) dX12_otherAt_70 rfl ?_
            exact ih x2 (x3 + 1) S2 h
          · refine cj_aload_n C (i := 0) dX12_otherAt_54 rfl rfl ?_
            refine cj_getR C (d := 160) o_150 rfl gfX12_45 dX12_otherAt_55 ?_
            refine cj_iload_n C (i := 3) dX12_otherAt_58 rfl rfl ?_
            refine cj_iaload C o_160 h dX12_otherAt_59 (fun h => ?_)
            refine cj_iconst C (v := (1 : Int32)) dX12_otherAt_60 rfl ?_
            refine cj_iadd C dX12_otherAt_61 ?_
            refine cj_goto C (tgt := 66) dX12_otherAt_62 rfl ?_
            refine cj_let h (fun y3 h => ?_)
            refine cj_istore_n C (i := 2) (lv' := [some (.ref (w.2.1 150)), some (.int x1), some (.int y3), some (.int x3)]) dX12_otherAt_66 rfl (by decide) rfl rfl ?_
            refine cj_iinc C (v := (x3 + 1)) (lv' := [some (.ref (w.2.1 150)), some (.int x1), some (.int y3), some (.int (x3 + 1))]) dX12_otherAt_67 rfl rfl (by decide) rfl rfl ?_
            refine cj_goto C (tgt := 4) dX12_otherAt_70 rfl ?_
            exact ih y3 (x3 + 1) S2 h
def fX12_otherAt (x1 : Int32) (S : cpS) : Option (Int32 × cpS) :=
    fX12_otherAt_4 x1 cpFu (0 : Int32) (0 : Int32) S
set_option maxRecDepth 100000 in
set_option maxHeartbeats 4000000 in
theorem m_X12_otherAt (l : Launch) (w : cpW) (A : Nat → Prop) (x1 : Int32) (S : cpS) (r : Int32 × cpS) (h : fX12_otherAt x1 S = some r) : cpMi l yX12_otherAt cX12_otherAt 4 ((some .int)) 1 w A [.ref (w.2.1 150), .int x1] S r := by
  refine cpMi.of (lv := [some (.ref (w.2.1 150)), some (.int x1), none, none]) (by decide) (Nat.le_of_ble_eq_true rfl) rfl (fun p e s m args below meth c C hr => ?_)
  replace C : cpCx p s m args meth c w A cX12_otherAt RX12 4 := C
  rw [fX12_otherAt] at h
  refine cj_iconst C (v := (0 : Int32)) dX12_otherAt_0 rfl ?_
  refine cj_istore_n C (i := 2) (lv' := [some (.ref (w.2.1 150)), some (.int x1), some (.int (0 : Int32)), none]) dX12_otherAt_1 rfl (by decide) rfl rfl ?_
  refine cj_iconst C (v := (0 : Int32)) dX12_otherAt_2 rfl ?_
  refine cj_istore_n C (i := 3) (lv' := [some (.ref (w.2.1 150)), some (.int x1), some (.int (0 : Int32)), some (.int (0 : Int32))]) dX12_otherAt_3 rfl (by decide) rfl rfl ?_
  exact wX12_otherAt_4 C hr x1 cpFu (0 : Int32) (0 : Int32) S h
/-! X12_laysForce -/
def fX12_laysForce_196 (x1 : Int32) (x2 : Int32) (x4 : Int32) (x5 : Int32) (x6 : Int32) (s0 : Int32) (s1 : Int32) (k51 : Int32 → cpS → Option (Int32 × cpS)) (k60 : Int32 → Int32 → cpS → Option (Int32 × cpS)) (S : cpS) : Option (Int32 × cpS) :=
    cpLt (s1 ||| s0) fun y1 =>
    if cpIn x4 6 then (
    cpLt (cpI S 160 x4.toNatClampNeg x5) fun S2 =>
    if cpIn x4 6 then (
    if (S2.1 161 x4.toNatClampNeg) ≤ x6 then (
    if cpIn x4 6 then (
    if cpIn x4 6 then (
    cpLt (cpI S2 161 x4.toNatClampNeg (S2.1 161 x4.toNatClampNeg)) fun S3 =>
    k60 y1 (x4 + 1) S3) else none) else none) else (
    if cpIn x4 6 then (
    cpLt (cpI S2 161 x4.toNatClampNeg x6) fun S4 =>
    k60 y1 (x4 + 1) S4) else none)) else none) else none
set_option maxRecDepth 100000 in
set_option maxHeartbeats 4000000 in
theorem wX12_laysForce_196 (C : cpCx p s m args meth c w A cX12_laysForce RX12 7) (hr : meth.sig.returnType = (some .int)) {r : Int32 × cpS} (x1 : Int32) (x2 : Int32) (x4 : Int32) (x5 : Int32) (x6 : Int32) (s0 : Int32) (s1 : Int32) {k51 : Int32 → cpS → Option (Int32 × cpS)} (hk51 : ∀ (x3 : Int32) (S : cpS), k51 x3 S = some r → cpJ p l e (cpRm 6) s m args below meth c (MQ below (va_Qi (fun x S' => (x, S') = r) (cpWorld w A) A) args s 0 0 A) w A 7 51 [some (.ref (w.2.1 150)), some (.int x1), some (.int x2), some (.int x3), none, none, none] [] S) {k60 : Int32 → Int32 → cpS → Option (Int32 × cpS)} (hk60 : ∀ (x3 : Int32) (x4 : Int32) (S : cpS), k60 x3 x4 S = some r → cpJ p l e (cpRm 6) s m args below meth c (MQ below (va_Qi (fun x S' => (x, S') = r) (cpWorld w A) A) args s 0 0 A) w A 7 60 [some (.ref (w.2.1 150)), some (.int x1), some (.int x2), some (.int x3), some (.int x4), none, none] [] S) (S : cpS) (h : fX12_laysForce_196 x1 x2 x4 x5 x6 s0 s1 k51 k60 S = some r) : cpJ p l e (cpRm 6) s m args below meth c (MQ below (va_Qi (fun x S' => (x, S') = r) (cpWorld w A) A) args s 0 0 A) w A 7 196 [some (.ref (w.2.1 150)), some (.int x1), some (.int x2), none, some (.int x4), some (.int x5), some (.int x6)] [.int s0, .int s1] S := by
  rw [fX12_laysForce_196] at h
  refine cj_ior C dX12_laysForce_196 ?_
  refine cj_let h (fun y1 h => ?_)
  refine cj_istore_n C (i := 3) (lv' := [some (.ref (w.2.1 150)), some (.int x1), some (.int x2), some (.int y1), some (.int x4), some (.int x5), some (.int x6)]) dX12_laysForce_197 rfl (by decide) rfl rfl ?_
  refine cj_aload_n C (i := 0) dX12_laysForce_198 rfl rfl ?_
  refine cj_getR C (d := 160) o_150 rfl gfX12_45 dX12_laysForce_199 ?_
  refine cj_iload C dX12_laysForce_202 rfl ?_
  refine cj_iload C dX12_laysForce_204 rfl ?_
  refine cj_iastore C o_160 h dX12_laysForce_206 (fun h => ?_)
  refine cj_lets h (fun S2 h => ?_)
  refine cj_aload_n C (i := 0) dX12_laysForce_207 rfl rfl ?_
  refine cj_getR C (d := 161) o_150 rfl gfX12_48 dX12_laysForce_208 ?_
  refine cj_iload C dX12_laysForce_211 rfl ?_
  refine cj_iload C dX12_laysForce_213 rfl ?_
  refine cj_aload_n C (i := 0) dX12_laysForce_215 rfl rfl ?_
  refine cj_getR C (d := 161) o_150 rfl gfX12_48 dX12_laysForce_216 ?_
  refine cj_iload C dX12_laysForce_219 rfl ?_
  refine cj_iaload C o_161 h dX12_laysForce_221 (fun h => ?_)
  refine cj_icmp_ge C (tgt := 230) dX12_laysForce_222 rfl h (fun _ h => ?_) (fun _ h => ?_)
  · refine cj_aload_n C (i := 0) dX12_laysForce_230 rfl rfl ?_
    refine cj_getR C (d := 161) o_150 rfl gfX12_48 dX12_laysForce_231 ?_
    refine cj_iload C dX12_laysForce_234 rfl ?_
    refine cj_iaload C o_161 h dX12_laysForce_236 (fun h => ?_)
    refine cj_iastore C o_161 h dX12_laysForce_237 (fun h => ?_)
    refine cj_lets h (fun S3 h => ?_)
    refine cj_iinc C (v := (x4 + 1)) (lv' := [some (.ref (w.2.1 150)), some (.int x1), some (.int x2), some (.int y1), some (.int (x4 + 1)), some (.int x5), some (.int x6)]) dX12_laysForce_238 rfl rfl (by decide) rfl rfl ?_
    refine cj_goto C (tgt := 60) dX12_laysForce_241 rfl ?_
    refine cj_weak C (lv' := [some (.ref (w.2.1 150)), some (.int x1), some (.int x2), some (.int y1), some (.int (x4 + 1)), none, none]) (cpSub_s (cpSub_s (cpSub_s (cpSub_s (cpSub_s (cpSub_n (cpSub_n cpSub_nil))))))) ?_
    exact hk60 y1 (x4 + 1) S3 h
  · refine cj_iload C dX12_laysForce_225 rfl ?_
    refine cj_goto C (tgt := 237) dX12_laysForce_227 rfl ?_
    refine cj_iastore C o_161 h dX12_laysForce_237 (fun h => ?_)
    refine cj_lets h (fun S4 h => ?_)
    refine cj_iinc C (v := (x4 + 1)) (lv' := [some (.ref (w.2.1 150)), some (.int x1), some (.int x2), some (.int y1), some (.int (x4 + 1)), some (.int x5), some (.int x6)]) dX12_laysForce_238 rfl rfl (by decide) rfl rfl ?_
    refine cj_goto C (tgt := 60) dX12_laysForce_241 rfl ?_
    refine cj_weak C (lv' := [some (.ref (w.2.1 150)), some (.int x1), some (.int x2), some (.int y1), some (.int (x4 + 1)), none, none]) (cpSub_s (cpSub_s (cpSub_s (cpSub_s (cpSub_s (cpSub_n (cpSub_n cpSub_nil))))))) ?_
    exact hk60 y1 (x4 + 1) S4 h
def fX12_laysForce_92 (x1 : Int32) (x2 : Int32) (x3 : Int32) (x4 : Int32) (k51 : Int32 → cpS → Option (Int32 × cpS)) (k60 : Int32 → Int32 → cpS → Option (Int32 × cpS)) : Nat → Int32 → Int32 → cpS → Option (Int32 × cpS)
  | 0, _, _, _ => none
  | n + 1, x5, x6, S =>
    if (S.1 151 1) ≤ x6 then (
    cpB (fX12_otherAt x4 S) fun z1 S2 =>
    if cpIn x4 6 then (
    if x5 < (S2.1 160 x4.toNatClampNeg) then (
    fX12_laysForce_196 x1 x2 x4 x5 z1 (1 : Int32) x3 k51 k60 S2) else (
    if cpIn x4 6 then (
    if (S2.1 161 x4.toNatClampNeg) ≤ z1 then (
    fX12_laysForce_196 x1 x2 x4 x5 z1 (0 : Int32) x3 k51 k60 S2) else (
    fX12_laysForce_196 x1 x2 x4 x5 z1 (1 : Int32) x3 k51 k60 S2)) else none)) else none) else (
    cpB (fX12_canBe x4 x6 S) fun z3 S4 =>
    if z3 = 0 then (
    fX12_laysForce_92 x1 x2 x3 x4 k51 k60 n x5 (x6 + 1) S4) else (
    if cpIn x6 6 then (
    if (268435456 : Int32) ≤ (S4.1 161 x6.toNatClampNeg) then (
    fX12_laysForce_92 x1 x2 x3 x4 k51 k60 n x5 (x6 + 1) S4) else (
    if cpIn x6 6 then (
    if x5 ≤ ((S4.1 161 x6.toNatClampNeg) + (1 : Int32)) then (
    fX12_laysForce_92 x1 x2 x3 x4 k51 k60 n x5 (x6 + 1) S4) else (
    if cpIn x6 6 then (
    cpLt ((S4.1 161 x6.toNatClampNeg) + (1 : Int32)) fun y5 =>
    fX12_laysForce_92 x1 x2 x3 x4 k51 k60 n y5 (x6 + 1) S4) else none)) else none)) else none))
set_option maxRecDepth 100000 in
set_option maxHeartbeats 4000000 in
theorem wX12_laysForce_92 (C : cpCx p s m args meth c w A cX12_laysForce RX12 7) (hr : meth.sig.returnType = (some .int)) {r : Int32 × cpS} (x1 : Int32) (x2 : Int32) (x3 : Int32) (x4 : Int32) {k51 : Int32 → cpS → Option (Int32 × cpS)} (hk51 : ∀ (x3 : Int32) (S : cpS), k51 x3 S = some r → cpJ p l e (cpRm 6) s m args below meth c (MQ below (va_Qi (fun x S' => (x, S') = r) (cpWorld w A) A) args s 0 0 A) w A 7 51 [some (.ref (w.2.1 150)), some (.int x1), some (.int x2), some (.int x3), none, none, none] [] S) {k60 : Int32 → Int32 → cpS → Option (Int32 × cpS)} (hk60 : ∀ (x3 : Int32) (x4 : Int32) (S : cpS), k60 x3 x4 S = some r → cpJ p l e (cpRm 6) s m args below meth c (MQ below (va_Qi (fun x S' => (x, S') = r) (cpWorld w A) A) args s 0 0 A) w A 7 60 [some (.ref (w.2.1 150)), some (.int x1), some (.int x2), some (.int x3), some (.int x4), none, none] [] S) : ∀ (n : Nat) (x5 : Int32) (x6 : Int32) (S : cpS), fX12_laysForce_92 x1 x2 x3 x4 k51 k60 n x5 x6 S = some r → cpJ p l e (cpRm 6) s m args below meth c (MQ below (va_Qi (fun x S' => (x, S') = r) (cpWorld w A) A) args s 0 0 A) w A 7 92 [some (.ref (w.2.1 150)), some (.int x1), some (.int x2), some (.int x3), some (.int x4), some (.int x5), some (.int x6)] [] S := by
  intro n
  induction n with
  | zero => intro x5 x6 S h; rw [fX12_laysForce_92] at h; cases h
  | succ n ih =>
    intro x5 x6 S h
    rw [fX12_laysForce_92] at h
    refine cj_iload C dX12_laysForce_92 rfl ?_
    refine cj_aload_n C (i := 0) dX12_laysForce_94 rfl rfl ?_
    refine cj_getR C (d := 151) o_150 rfl gfX12_13 dX12_laysForce_95 ?_
    refine cj_iconst C (v := (1 : Int32)) dX12_laysForce_98 rfl ?_
    refine cj_ialoadC C (j := 1) o_151 (by decide) (by decide) dX12_laysForce_99 ?_
    refine cj_icmp_ge C (tgt := 158) dX12_laysForce_100 rfl h (fun _ h => ?_) (fun _ h => ?_)
    · refine cj_aload_n C (i := 0) dX12_laysForce_158 rfl rfl ?_
      refine cj_iload C dX12_laysForce_159 rfl ?_
      refine cj_callVi C (As := [.int x4]) (rest := []) qX12_otherAt mw_71_19 o_150 rfl rfl rfl (Nat.le_of_ble_eq_true rfl) (by decide) dX12_laysForce_161 h (fun _ _ hf => m_X12_otherAt l w A x4 S _ hf) (fun z1 S2 h => ?_)
      refine cj_istore C (lv' := [some (.ref (w.2.1 150)), some (.int x1), some (.int x2), some (.int x3), some (.int x4), some (.int x5), some (.int z1)]) dX12_laysForce_164 (by decide) rfl rfl ?_
      refine cj_iload_n C (i := 3) dX12_laysForce_166 rfl rfl ?_
      refine cj_iload C dX12_laysForce_167 rfl ?_
      refine cj_aload_n C (i := 0) dX12_laysForce_169 rfl rfl ?_
      refine cj_getR C (d := 160) o_150 rfl gfX12_45 dX12_laysForce_170 ?_
      refine cj_iload C dX12_laysForce_173 rfl ?_
      refine cj_iaload C o_160 h dX12_laysForce_175 (fun h => ?_)
      refine cj_icmp_lt C (tgt := 191) dX12_laysForce_176 rfl h (fun _ h => ?_) (fun _ h => ?_)
      · refine cj_iconst C (v := (1 : Int32)) dX12_laysForce_191 rfl ?_
        refine cj_goto C (tgt := 196) dX12_laysForce_192 rfl ?_
        refine cj_weak C (lv' := [some (.ref (w.2.1 150)), some (.int x1), some (.int x2), none, some (.int x4), some (.int x5), some (.int z1)]) (cpSub_s (cpSub_s (cpSub_s (cpSub_n (cpSub_s (cpSub_s (cpSub_s cpSub_nil))))))) ?_
        exact wX12_laysForce_196 C hr x1 x2 x4 x5 z1 (1 : Int32) x3 hk51 hk60 S2 h
      · refine cj_iload C dX12_laysForce_179 rfl ?_
        refine cj_aload_n C (i := 0) dX12_laysForce_181 rfl rfl ?_
        refine cj_getR C (d := 161) o_150 rfl gfX12_48 dX12_laysForce_182 ?_
        refine cj_iload C dX12_laysForce_185 rfl ?_
        refine cj_iaload C o_161 h dX12_laysForce_187 (fun h => ?_)
        refine cj_icmp_ge C (tgt := 195) dX12_laysForce_188 rfl h (fun _ h => ?_) (fun _ h => ?_)
        · refine cj_iconst C (v := (0 : Int32)) dX12_laysForce_195 rfl ?_
          refine cj_weak C (lv' := [some (.ref (w.2.1 150)), some (.int x1), some (.int x2), none, some (.int x4), some (.int x5), some (.int z1)]) (cpSub_s (cpSub_s (cpSub_s (cpSub_n (cpSub_s (cpSub_s (cpSub_s cpSub_nil))))))) ?_
          exact wX12_laysForce_196 C hr x1 x2 x4 x5 z1 (0 : Int32) x3 hk51 hk60 S2 h
        · refine cj_iconst C (v := (1 : Int32)) dX12_laysForce_191 rfl ?_
          refine cj_goto C (tgt := 196) dX12_laysForce_192 rfl ?_
          refine cj_weak C (lv' := [some (.ref (w.2.1 150)), some (.int x1), some (.int x2), none, some (.int x4), some (.int x5), some (.int z1)]) (cpSub_s (cpSub_s (cpSub_s (cpSub_n (cpSub_s (cpSub_s (cpSub_s cpSub_nil))))))) ?_
          exact wX12_laysForce_196 C hr x1 x2 x4 x5 z1 (1 : Int32) x3 hk51 hk60 S2 h
    · refine cj_aload_n C (i := 0) dX12_laysForce_103 rfl rfl ?_
      refine cj_iload C dX12_laysForce_104 rfl ?_
      refine cj_iload C dX12_laysForce_106 rfl ?_
      refine cj_callVi C (As := [.int x4, .int x6]) (rest := []) qX12_canBe mw_71_15 o_150 rfl rfl rfl (Nat.le_of_ble_eq_true rfl) (by decide) dX12_laysForce_108 h (fun _ _ hf => m_X12_canBe l w A x4 x6 S _ hf) (fun z3 S4 h => ?_)
      refine cj_if_eq C (tgt := 152) dX12_laysForce_111 rfl h (fun _ h => ?_) (fun _ h => ?_)
      · refine cj_iinc C (v := (x6 + 1)) (lv' := [some (.ref (w.2.1 150)), some (.int x1), some (.int x2), some (.int x3), some (.int x4), some (.int x5), some (.int (x6 + 1))]) dX12_laysForce_152 rfl rfl (by decide) rfl rfl ?_
        refine cj_goto C (tgt := 92) dX12_laysForce_155 rfl ?_
        exact ih x5 (x6 + 1) S4 h
      · refine cj_aload_n C (i := 0) dX12_laysForce_114 rfl rfl ?_
        refine cj_getR C (d := 161) o_150 rfl gfX12_48 dX12_laysForce_115 ?_
        refine cj_iload C dX12_laysForce_118 rfl ?_
        refine cj_iaload C o_161 h dX12_laysForce_120 (fun h => ?_)
        refine cj_ldcw C (v := (268435456 : Int32)) mw_49_14 dX12_laysForce_121 ?_
        refine cj_icmp_ge C (tgt := 152) dX12_laysForce_124 rfl h (fun _ h => ?_) (fun _ h => ?_)
        · refine cj_iinc C (v := (x6 + 1)) (lv' := [some (.ref (w.2.1 150)), some (.int x1), some (.int x2), some (.int x3), some (.int x4), some (.int x5), some (.int (x6 + 1))]) dX12_laysForce_152 rfl rfl (by decide) rfl rfl ?_
          refine cj_goto C (tgt := 92) dX12_laysForce_155 rfl ?_
          exact ih x5 (x6 + 1) S4 h
        · refine cj_aload_n C (i := 0) dX12_laysForce_127 rfl rfl ?_
          refine cj_getR C (d := 161) o_150 rfl gfX12_48 dX12_laysForce_128 ?_
          refine cj_iload C dX12_laysForce_131 rfl ?_
          refine cj_iaload C o_161 h dX12_laysForce_133 (fun h => ?_)
          refine cj_iconst C (v := (1 : Int32)) dX12_laysForce_134 rfl ?_
          refine cj_iadd C dX12_laysForce_135 ?_
          refine cj_iload C dX12_laysForce_136 rfl ?_
          refine cj_icmp_ge C (tgt := 152) dX12_laysForce_138 rfl h (fun _ h => ?_) (fun _ h => ?_)
          · refine cj_iinc C (v := (x6 + 1)) (lv' := [some (.ref (w.2.1 150)), some (.int x1), some (.int x2), some (.int x3), some (.int x4), some (.int x5), some (.int (x6 + 1))]) dX12_laysForce_152 rfl rfl (by decide) rfl rfl ?_
            refine cj_goto C (tgt := 92) dX12_laysForce_155 rfl ?_
            exact ih x5 (x6 + 1) S4 h
          · refine cj_aload_n C (i := 0) dX12_laysForce_141 rfl rfl ?_
            refine cj_getR C (d := 161) o_150 rfl gfX12_48 dX12_laysForce_142 ?_
            refine cj_iload C dX12_laysForce_145 rfl ?_
            refine cj_iaload C o_161 h dX12_laysForce_147 (fun h => ?_)
            refine cj_iconst C (v := (1 : Int32)) dX12_laysForce_148 rfl ?_
            refine cj_iadd C dX12_laysForce_149 ?_
            refine cj_let h (fun y5 h => ?_)
            refine cj_istore C (lv' := [some (.ref (w.2.1 150)), some (.int x1), some (.int x2), some (.int x3), some (.int x4), some (.int y5), some (.int x6)]) dX12_laysForce_150 (by decide) rfl rfl ?_
            refine cj_iinc C (v := (x6 + 1)) (lv' := [some (.ref (w.2.1 150)), some (.int x1), some (.int x2), some (.int x3), some (.int x4), some (.int y5), some (.int (x6 + 1))]) dX12_laysForce_152 rfl rfl (by decide) rfl rfl ?_
            refine cj_goto C (tgt := 92) dX12_laysForce_155 rfl ?_
            exact ih y5 (x6 + 1) S4 h
def fX12_laysForce_60 (x1 : Int32) (x2 : Int32) (k51 : Int32 → cpS → Option (Int32 × cpS)) : Nat → Int32 → Int32 → cpS → Option (Int32 × cpS)
  | 0, _, _, _ => none
  | n + 1, x3, x4, S =>
    if (S.1 151 1) ≤ x4 then (
    k51 x3 S) else (
    if x4 = x2 then (
    fX12_laysForce_60 x1 x2 k51 n x3 (x4 + 1) S) else (
    if cpIn x4 6 then (
    cpLt (S.1 160 x4.toNatClampNeg) fun y1 =>
    fX12_laysForce_92 x1 x2 x3 x4 k51 (fX12_laysForce_60 x1 x2 k51 n) cpFu y1 (0 : Int32) S) else none))
set_option maxRecDepth 100000 in
set_option maxHeartbeats 4000000 in
theorem wX12_laysForce_60 (C : cpCx p s m args meth c w A cX12_laysForce RX12 7) (hr : meth.sig.returnType = (some .int)) {r : Int32 × cpS} (x1 : Int32) (x2 : Int32) {k51 : Int32 → cpS → Option (Int32 × cpS)} (hk51 : ∀ (x3 : Int32) (S : cpS), k51 x3 S = some r → cpJ p l e (cpRm 6) s m args below meth c (MQ below (va_Qi (fun x S' => (x, S') = r) (cpWorld w A) A) args s 0 0 A) w A 7 51 [some (.ref (w.2.1 150)), some (.int x1), some (.int x2), some (.int x3), none, none, none] [] S) : ∀ (n : Nat) (x3 : Int32) (x4 : Int32) (S : cpS), fX12_laysForce_60 x1 x2 k51 n x3 x4 S = some r → cpJ p l e (cpRm 6) s m args below meth c (MQ below (va_Qi (fun x S' => (x, S') = r) (cpWorld w A) A) args s 0 0 A) w A 7 60 [some (.ref (w.2.1 150)), some (.int x1), some (.int x2), some (.int x3), some (.int x4), none, none] [] S := by
  intro n
  induction n with
  | zero => intro x3 x4 S h; rw [fX12_laysForce_60] at h; cases h
  | succ n ih =>
    intro x3 x4 S h
    rw [fX12_laysForce_60] at h
    refine cj_iload C dX12_laysForce_60 rfl ?_
    refine cj_aload_n C (i := 0) dX12_laysForce_62 rfl rfl ?_
    refine cj_getR C (d := 151) o_150 rfl gfX12_13 dX12_laysForce_63 ?_
    refine cj_iconst C (v := (1 : Int32)) dX12_laysForce_66 rfl ?_
    refine cj_ialoadC C (j := 1) o_151 (by decide) (by decide) dX12_laysForce_67 ?_
    refine cj_icmp_ge C (tgt := 244) dX12_laysForce_68 rfl h (fun _ h => ?_) (fun _ h => ?_)
    · refine cj_goto C (tgt := 51) dX12_laysForce_244 rfl ?_
      refine cj_weak C (lv' := [some (.ref (w.2.1 150)), some (.int x1), some (.int x2), some (.int x3), none, none, none]) (cpSub_s (cpSub_s (cpSub_s (cpSub_s (cpSub_n (cpSub_n (cpSub_n cpSub_nil))))))) ?_
      exact hk51 x3 S h
    · refine cj_iload C dX12_laysForce_71 rfl ?_
      refine cj_iload_n C (i := 2) dX12_laysForce_73 rfl rfl ?_
      refine cj_icmp_ne C (tgt := 80) dX12_laysForce_74 rfl h (fun _ h => ?_) (fun _ h => ?_)
      · refine cj_goto C (tgt := 238) dX12_laysForce_77 rfl ?_
        refine cj_iinc C (v := (x4 + 1)) (lv' := [some (.ref (w.2.1 150)), some (.int x1), some (.int x2), some (.int x3), some (.int (x4 + 1)), none, none]) dX12_laysForce_238 rfl rfl (by decide) rfl rfl ?_
        refine cj_goto C (tgt := 60) dX12_laysForce_241 rfl ?_
        exact ih x3 (x4 + 1) S h
      · refine cj_aload_n C (i := 0) dX12_laysForce_80 rfl rfl ?_
        refine cj_getR C (d := 160) o_150 rfl gfX12_45 dX12_laysForce_81 ?_
        refine cj_iload C dX12_laysForce_84 rfl ?_
        refine cj_iaload C o_160 h dX12_laysForce_86 (fun h => ?_)
        refine cj_let h (fun y1 h => ?_)
        refine cj_istore C (lv' := [some (.ref (w.2.1 150)), some (.int x1), some (.int x2), some (.int x3), some (.int x4), some (.int y1), none]) dX12_laysForce_87 (by decide) rfl rfl ?_
        refine cj_iconst C (v := (0 : Int32)) dX12_laysForce_89 rfl ?_
        refine cj_istore C (lv' := [some (.ref (w.2.1 150)), some (.int x1), some (.int x2), some (.int x3), some (.int x4), some (.int y1), some (.int (0 : Int32))]) dX12_laysForce_90 (by decide) rfl rfl ?_
        exact wX12_laysForce_92 C hr x1 x2 x3 x4 hk51 ih cpFu y1 (0 : Int32) S h
def fX12_laysForce_51 (x1 : Int32) (x2 : Int32) : Nat → Int32 → cpS → Option (Int32 × cpS)
  | 0, _, _ => none
  | n + 1, x3, S =>
    if x3 = 0 then (
    if cpIn ((62 : Int32) + x1) 3486 then (
    if cpIn (S.1 151 ((62 : Int32) + x1).toNatClampNeg) 6 then (
    some ((S.1 160 (S.1 151 ((62 : Int32) + x1).toNatClampNeg).toNatClampNeg), S)) else none) else none) else (
    fX12_laysForce_60 x1 x2 (fX12_laysForce_51 x1 x2 n) cpFu (0 : Int32) (0 : Int32) S)
set_option maxRecDepth 100000 in
set_option maxHeartbeats 4000000 in
theorem wX12_laysForce_51 (C : cpCx p s m args meth c w A cX12_laysForce RX12 7) (hr : meth.sig.returnType = (some .int)) {r : Int32 × cpS} (x1 : Int32) (x2 : Int32) : ∀ (n : Nat) (x3 : Int32) (S : cpS), fX12_laysForce_51 x1 x2 n x3 S = some r → cpJ p l e (cpRm 6) s m args below meth c (MQ below (va_Qi (fun x S' => (x, S') = r) (cpWorld w A) A) args s 0 0 A) w A 7 51 [some (.ref (w.2.1 150)), some (.int x1), some (.int x2), some (.int x3), none, none, none] [] S := by
  intro n
  induction n with
  | zero => intro x3 S h; rw [fX12_laysForce_51] at h; cases h
  | succ n ih =>
    intro x3 S h
    rw [fX12_laysForce_51] at h
    refine cj_iload_n C (i := 3) dX12_laysForce_51 rfl rfl ?_
    refine cj_if_eq C (tgt := 247) dX12_laysForce_52 rfl h (fun _ h => ?_) (fun _ h => ?_)
    · refine cj_aload_n C (i := 0) dX12_laysForce_247 rfl rfl ?_
      refine cj_getR C (d := 160) o_150 rfl gfX12_45 dX12_laysForce_248 ?_
      refine cj_aload_n C (i := 0) dX12_laysForce_251 rfl rfl ?_
      refine cj_getR C (d := 151) o_150 rfl gfX12_13 dX12_laysForce_252 ?_
      refine cj_bipush C (v := (62 : Int32)) dX12_laysForce_255 rfl ?_
      refine cj_iload_n C (i := 1) dX12_laysForce_257 rfl rfl ?_
      refine cj_iadd C dX12_laysForce_258 ?_
      refine cj_iaload C o_151 h dX12_laysForce_259 (fun h => ?_)
      refine cj_iaload C o_160 h dX12_laysForce_260 (fun h => ?_)
      exact cj_ireturn C hr h dX12_laysForce_261
    · refine cj_iconst C (v := (0 : Int32)) dX12_laysForce_55 rfl ?_
      refine cj_istore_n C (i := 3) (lv' := [some (.ref (w.2.1 150)), some (.int x1), some (.int x2), some (.int (0 : Int32)), none, none, none]) dX12_laysForce_56 rfl (by decide) rfl rfl ?_
      refine cj_iconst C (v := (0 : Int32)) dX12_laysForce_57 rfl ?_
      refine cj_istore C (lv' := [some (.ref (w.2.1 150)), some (.int x1), some (.int x2), some (.int (0 : Int32)), some (.int (0 : Int32)), none, none]) dX12_laysForce_58 (by decide) rfl rfl ?_
      exact wX12_laysForce_60 C hr x1 x2 ih cpFu (0 : Int32) (0 : Int32) S h
def fX12_laysForce_30 (x1 : Int32) (x2 : Int32) (x3 : Int32) (s0 : Int32) (s1 : Int32) (k7 : Int32 → cpS → Option (Int32 × cpS)) (S : cpS) : Option (Int32 × cpS) :=
    if cpIn s1 6 then (
    cpLt (cpI S 160 s1.toNatClampNeg s0) fun S1 =>
    if cpIn x3 6 then (
    if cpIn x3 6 then (
    cpLt (cpI S1 161 x3.toNatClampNeg (S1.1 160 x3.toNatClampNeg)) fun S2 =>
    k7 (x3 + 1) S2) else none) else none) else none
set_option maxRecDepth 100000 in
set_option maxHeartbeats 4000000 in
theorem wX12_laysForce_30 (C : cpCx p s m args meth c w A cX12_laysForce RX12 7) (hr : meth.sig.returnType = (some .int)) {r : Int32 × cpS} (x1 : Int32) (x2 : Int32) (x3 : Int32) (s0 : Int32) (s1 : Int32) {k7 : Int32 → cpS → Option (Int32 × cpS)} (hk7 : ∀ (x3 : Int32) (S : cpS), k7 x3 S = some r → cpJ p l e (cpRm 6) s m args below meth c (MQ below (va_Qi (fun x S' => (x, S') = r) (cpWorld w A) A) args s 0 0 A) w A 7 7 [some (.ref (w.2.1 150)), some (.int x1), some (.int x2), some (.int x3), none, none, none] [] S) (S : cpS) (h : fX12_laysForce_30 x1 x2 x3 s0 s1 k7 S = some r) : cpJ p l e (cpRm 6) s m args below meth c (MQ below (va_Qi (fun x S' => (x, S') = r) (cpWorld w A) A) args s 0 0 A) w A 7 30 [some (.ref (w.2.1 150)), some (.int x1), some (.int x2), some (.int x3), none, none, none] [.int s0, .int s1, .ref (w.2.1 160)] S := by
  rw [fX12_laysForce_30] at h
  refine cj_iastore C o_160 h dX12_laysForce_30 (fun h => ?_)
  refine cj_lets h (fun S1 h => ?_)
  refine cj_aload_n C (i := 0) dX12_laysForce_31 rfl rfl ?_
  refine cj_getR C (d := 161) o_150 rfl gfX12_48 dX12_laysForce_32 ?_
  refine cj_iload_n C (i := 3) dX12_laysForce_35 rfl rfl ?_
  refine cj_aload_n C (i := 0) dX12_laysForce_36 rfl rfl ?_
  refine cj_getR C (d := 160) o_150 rfl gfX12_45 dX12_laysForce_37 ?_
  refine cj_iload_n C (i := 3) dX12_laysForce_40 rfl rfl ?_
  refine cj_iaload C o_160 h dX12_laysForce_41 (fun h => ?_)
  refine cj_iastore C o_161 h dX12_laysForce_42 (fun h => ?_)
  refine cj_lets h (fun S2 h => ?_)
  refine cj_iinc C (v := (x3 + 1)) (lv' := [some (.ref (w.2.1 150)), some (.int x1), some (.int x2), some (.int (x3 + 1)), none, none, none]) dX12_laysForce_43 rfl rfl (by decide) rfl rfl ?_
  refine cj_goto C (tgt := 7) dX12_laysForce_46 rfl ?_
  exact hk7 (x3 + 1) S2 h
def fX12_laysForce_7 (x1 : Int32) (x2 : Int32) : Nat → Int32 → cpS → Option (Int32 × cpS)
  | 0, _, _ => none
  | n + 1, x3, S =>
    if (6 : Int32) ≤ x3 then (
    fX12_laysForce_51 x1 x2 cpFu (1 : Int32) S) else (
    if x3 = x2 then (
    fX12_laysForce_30 x1 x2 x3 (0 : Int32) x3 (fX12_laysForce_7 x1 x2 n) S) else (
    fX12_laysForce_30 x1 x2 x3 (268435456 : Int32) x3 (fX12_laysForce_7 x1 x2 n) S))
set_option maxRecDepth 100000 in
set_option maxHeartbeats 4000000 in
theorem wX12_laysForce_7 (C : cpCx p s m args meth c w A cX12_laysForce RX12 7) (hr : meth.sig.returnType = (some .int)) {r : Int32 × cpS} (x1 : Int32) (x2 : Int32) : ∀ (n : Nat) (x3 : Int32) (S : cpS), fX12_laysForce_7 x1 x2 n x3 S = some r → cpJ p l e (cpRm 6) s m args below meth c (MQ below (va_Qi (fun x S' => (x, S') = r) (cpWorld w A) A) args s 0 0 A) w A 7 7 [some (.ref (w.2.1 150)), some (.int x1), some (.int x2), some (.int x3), none, none, none] [] S := by
  intro n
  induction n with
  | zero => intro x3 S h; rw [fX12_laysForce_7] at h; cases h
  | succ n ih =>
    intro x3 S h
    rw [fX12_laysForce_7] at h
    refine cj_iload_n C (i := 3) dX12_laysForce_7 rfl rfl ?_
    refine cj_bipush C (v := (6 : Int32)) dX12_laysForce_8 rfl ?_
    refine cj_icmp_ge C (tgt := 49) dX12_laysForce_10 rfl h (fun _ h => ?_) (fun _ h => ?_)
    · refine cj_iconst C (v := (1 : Int32)) dX12_laysForce_49 rfl ?_
      refine cj_istore_n C (i := 3) (lv' := [some (.ref (w.2.1 150)), some (.int x1), some (.int x2), some (.int (1 : Int32)), none, none, none]) dX12_laysForce_50 rfl (by decide) rfl rfl ?_
      exact wX12_laysForce_51 C hr x1 x2 cpFu (1 : Int32) S h
    · refine cj_aload_n C (i := 0) dX12_laysForce_13 rfl rfl ?_
      refine cj_getR C (d := 160) o_150 rfl gfX12_45 dX12_laysForce_14 ?_
      refine cj_iload_n C (i := 3) dX12_laysForce_17 rfl rfl ?_
      refine cj_iload_n C (i := 3) dX12_laysForce_18 rfl rfl ?_
      refine cj_iload_n C (i := 2) dX12_laysForce_19 rfl rfl ?_
      refine cj_icmp_ne C (tgt := 27) dX12_laysForce_20 rfl h (fun _ h => ?_) (fun _ h => ?_)
      · refine cj_iconst C (v := (0 : Int32)) dX12_laysForce_23 rfl ?_
        refine cj_goto C (tgt := 30) dX12_laysForce_24 rfl ?_
        exact wX12_laysForce_30 C hr x1 x2 x3 (0 : Int32) x3 ih S h
      · refine cj_ldcw C (v := (268435456 : Int32)) mw_49_14 dX12_laysForce_27 ?_
        exact wX12_laysForce_30 C hr x1 x2 x3 (268435456 : Int32) x3 ih S h
def fX12_laysForce (x1 : Int32) (x2 : Int32) (S : cpS) : Option (Int32 × cpS) :=
    cpB (fX12_laysBears x1 S) fun _ S2 =>
    fX12_laysForce_7 x1 x2 cpFu (0 : Int32) S2
set_option maxRecDepth 100000 in
set_option maxHeartbeats 4000000 in
theorem m_X12_laysForce (l : Launch) (w : cpW) (A : Nat → Prop) (x1 : Int32) (x2 : Int32) (S : cpS) (r : Int32 × cpS) (h : fX12_laysForce x1 x2 S = some r) : cpMi l yX12_laysForce cX12_laysForce 7 ((some .int)) 6 w A [.ref (w.2.1 150), .int x1, .int x2] S r := by
  refine cpMi.of (lv := [some (.ref (w.2.1 150)), some (.int x1), some (.int x2), none, none, none, none]) (by decide) (Nat.le_of_ble_eq_true rfl) rfl (fun p e s m args below meth c C hr => ?_)
  replace C : cpCx p s m args meth c w A cX12_laysForce RX12 7 := C
  rw [fX12_laysForce] at h
  refine cj_aload_n C (i := 0) dX12_laysForce_0 rfl rfl ?_
  refine cj_iload_n C (i := 1) dX12_laysForce_1 rfl rfl ?_
  refine cj_callVv C (As := [.int x1]) (rest := []) qX12_laysBears mw_49_15 o_150 rfl rfl rfl (Nat.le_of_ble_eq_true rfl) (by decide) dX12_laysForce_2 h (fun _ _ hf => m_X12_laysBears l w A x1 S _ hf) (fun z1 S2 h => ?_)
  refine cj_iconst C (v := (0 : Int32)) dX12_laysForce_5 rfl ?_
  refine cj_istore_n C (i := 3) (lv' := [some (.ref (w.2.1 150)), some (.int x1), some (.int x2), some (.int (0 : Int32)), none, none, none]) dX12_laysForce_6 rfl (by decide) rfl rfl ?_
  exact wX12_laysForce_7 C hr x1 x2 cpFu (0 : Int32) S2 h
/-! X12_forces -/
def fX12_forces (x1 : Int32) (x2 : Int32) (S : cpS) : Option (Int32 × cpS) :=
    cpLt (cpI S 150 0 (0 : Int32)) fun S1 =>
    cpB (fX12_noCoin x1 x2 S1) fun z2 S3 =>
    if z2 = 0 then (
    cpB (fX12_laysForce x1 x2 S3) fun z4 S5 =>
    cpB (fX12_toldFar z4 S5) fun z6 S7 =>
    some (z6, S7)) else (
    some ((-2 : Int32), S3))
set_option maxRecDepth 100000 in
set_option maxHeartbeats 4000000 in
theorem m_X12_forces (l : Launch) (w : cpW) (A : Nat → Prop) (x1 : Int32) (x2 : Int32) (S : cpS) (r : Int32 × cpS) (h : fX12_forces x1 x2 S = some r) : cpMi l yX12_forces cX12_forces 3 ((some .int)) 7 w A [.ref (w.2.1 150), .int x1, .int x2] S r := by
  refine cpMi.of (lv := [some (.ref (w.2.1 150)), some (.int x1), some (.int x2)]) (by decide) (Nat.le_of_ble_eq_true rfl) rfl (fun p e s m args below meth c C hr => ?_)
  replace C : cpCx p s m args meth c w A cX12_forces RX12 3 := C
  rw [fX12_forces] at h
  refine cj_aload_n C (i := 0) dX12_forces_0 rfl rfl ?_
  refine cj_iconst C (v := (0 : Int32)) dX12_forces_1 rfl ?_
  refine cj_put C (j := 0) o_150 rfl pfX12_1 rfl rfl dX12_forces_2 ?_
  refine cj_lets h (fun S1 h => ?_)
  refine cj_aload_n C (i := 0) dX12_forces_5 rfl rfl ?_
  refine cj_iload_n C (i := 1) dX12_forces_6 rfl rfl ?_
  refine cj_iload_n C (i := 2) dX12_forces_7 rfl rfl ?_
  refine cj_callVi C (As := [.int x1, .int x2]) (rest := []) qX12_noCoin mw_49_6 o_150 rfl rfl rfl (Nat.le_of_ble_eq_true rfl) (by decide) dX12_forces_8 h (fun _ _ hf => m_X12_noCoin l w A x1 x2 S1 _ hf) (fun z2 S3 h => ?_)
  refine cj_if_eq C (tgt := 19) dX12_forces_11 rfl h (fun _ h => ?_) (fun _ h => ?_)
  · refine cj_aload_n C (i := 0) dX12_forces_19 rfl rfl ?_
    refine cj_iload_n C (i := 1) dX12_forces_20 rfl rfl ?_
    refine cj_iload_n C (i := 2) dX12_forces_21 rfl rfl ?_
    refine cj_callVi C (As := [.int x1, .int x2]) (rest := []) qX12_laysForce mw_71_11 o_150 rfl rfl rfl (Nat.le_of_ble_eq_true rfl) (by decide) dX12_forces_22 h (fun _ _ hf => m_X12_laysForce l w A x1 x2 S3 _ hf) (fun z4 S5 h => ?_)
    refine cj_callSi C (As := [.int z4]) (rest := []) qX12_toldFar mw_49_19 rfl rfl (Nat.le_of_ble_eq_true rfl) (by decide) dX12_forces_25 h (fun _ _ hf => m_X12_toldFar l w A z4 S5 _ hf) (fun z6 S7 h => ?_)
    exact cj_ireturn C hr h dX12_forces_28
  · refine cj_bipush C (v := (-2 : Int32)) dX12_forces_14 rfl ?_
    refine cj_goto C (tgt := 28) dX12_forces_16 rfl ?_
    exact cj_ireturn C hr h dX12_forces_28
/-! X12_best -/
def fX12_best_51 (x3 : Int32) (x4 : Int32) : Nat → Int32 → cpS → Option (Int32 × cpS)
  | 0, _, _ => none
  | n + 1, x5, S =>
    if (S.1 151 1) ≤ x5 then (
    some (x4, S)) else (
    if x5 = x4 then (
    fX12_best_51 x3 x4 n (x5 + 1) S) else (
    cpB (fX12_canBe x4 x5 S) fun z1 S2 =>
    if z1 = 0 then (
    fX12_best_51 x3 x4 n (x5 + 1) S2) else (
    if cpIn x5 6 then (
    if (S2.1 161 x5.toNatClampNeg) = (x3 - (1 : Int32)) then (
    some (x5, S2)) else (
    fX12_best_51 x3 x4 n (x5 + 1) S2)) else none)))
set_option maxRecDepth 100000 in
set_option maxHeartbeats 4000000 in
theorem wX12_best_51 (C : cpCx p s m args meth c w A cX12_best RX12 6) (hr : meth.sig.returnType = (some .int)) {r : Int32 × cpS} (x3 : Int32) (x4 : Int32) : ∀ (n : Nat) (x5 : Int32) (S : cpS), fX12_best_51 x3 x4 n x5 S = some r → cpJ p l e (cpRm 7) s m args below meth c (MQ below (va_Qi (fun x S' => (x, S') = r) (cpWorld w A) A) args s 0 0 A) w A 6 51 [some (.ref (w.2.1 150)), none, none, some (.int x3), some (.int x4), some (.int x5)] [] S := by
  intro n
  induction n with
  | zero => intro x5 S h; rw [fX12_best_51] at h; cases h
  | succ n ih =>
    intro x5 S h
    rw [fX12_best_51] at h
    refine cj_iload C dX12_best_51 rfl ?_
    refine cj_aload_n C (i := 0) dX12_best_53 rfl rfl ?_
    refine cj_getR C (d := 151) o_150 rfl gfX12_13 dX12_best_54 ?_
    refine cj_iconst C (v := (1 : Int32)) dX12_best_57 rfl ?_
    refine cj_ialoadC C (j := 1) o_151 (by decide) (by decide) dX12_best_58 ?_
    refine cj_icmp_ge C (tgt := 102) dX12_best_59 rfl h (fun _ h => ?_) (fun _ h => ?_)
    · refine cj_iload C dX12_best_102 rfl ?_
      exact cj_ireturn C hr h dX12_best_104
    · refine cj_iload C dX12_best_62 rfl ?_
      refine cj_iload C dX12_best_64 rfl ?_
      refine cj_icmp_eq C (tgt := 96) dX12_best_66 rfl h (fun _ h => ?_) (fun _ h => ?_)
      · refine cj_iinc C (v := (x5 + 1)) (lv' := [some (.ref (w.2.1 150)), none, none, some (.int x3), some (.int x4), some (.int (x5 + 1))]) dX12_best_96 rfl rfl (by decide) rfl rfl ?_
        refine cj_goto C (tgt := 51) dX12_best_99 rfl ?_
        exact ih (x5 + 1) S h
      · refine cj_aload_n C (i := 0) dX12_best_69 rfl rfl ?_
        refine cj_iload C dX12_best_70 rfl ?_
        refine cj_iload C dX12_best_72 rfl ?_
        refine cj_callVi C (As := [.int x4, .int x5]) (rest := []) qX12_canBe mw_71_15 o_150 rfl rfl rfl (Nat.le_of_ble_eq_true rfl) (by decide) dX12_best_74 h (fun _ _ hf => m_X12_canBe l w A x4 x5 S _ hf) (fun z1 S2 h => ?_)
        refine cj_if_eq C (tgt := 96) dX12_best_77 rfl h (fun _ h => ?_) (fun _ h => ?_)
        · refine cj_iinc C (v := (x5 + 1)) (lv' := [some (.ref (w.2.1 150)), none, none, some (.int x3), some (.int x4), some (.int (x5 + 1))]) dX12_best_96 rfl rfl (by decide) rfl rfl ?_
          refine cj_goto C (tgt := 51) dX12_best_99 rfl ?_
          exact ih (x5 + 1) S2 h
        · refine cj_aload_n C (i := 0) dX12_best_80 rfl rfl ?_
          refine cj_getR C (d := 161) o_150 rfl gfX12_48 dX12_best_81 ?_
          refine cj_iload C dX12_best_84 rfl ?_
          refine cj_iaload C o_161 h dX12_best_86 (fun h => ?_)
          refine cj_iload_n C (i := 3) dX12_best_87 rfl rfl ?_
          refine cj_iconst C (v := (1 : Int32)) dX12_best_88 rfl ?_
          refine cj_isub C dX12_best_89 ?_
          refine cj_icmp_ne C (tgt := 96) dX12_best_90 rfl h (fun _ h => ?_) (fun _ h => ?_)
          · refine cj_iload C dX12_best_93 rfl ?_
            exact cj_ireturn C hr h dX12_best_95
          · refine cj_iinc C (v := (x5 + 1)) (lv' := [some (.ref (w.2.1 150)), none, none, some (.int x3), some (.int x4), some (.int (x5 + 1))]) dX12_best_96 rfl rfl (by decide) rfl rfl ?_
            refine cj_goto C (tgt := 51) dX12_best_99 rfl ?_
            exact ih (x5 + 1) S2 h
def fX12_best (x1 : Int32) (x2 : Int32) (S : cpS) : Option (Int32 × cpS) :=
    cpLt (cpI S 150 0 (0 : Int32)) fun S1 =>
    cpB (fX12_noCoin x1 x2 S1) fun z2 S3 =>
    if z2 = 0 then (
    cpB (fX12_laysForce x1 x2 S3) fun z4 S5 =>
    if cpIn ((62 : Int32) + x1) 3486 then (
    cpLt (S5.1 151 ((62 : Int32) + x1).toNatClampNeg) fun y6 =>
    if z4 = 0 then (
    some ((-1 : Int32), S5)) else (
    if z4 = (268435456 : Int32) then (
    some ((-1 : Int32), S5)) else (
    fX12_best_51 z4 y6 cpFu (0 : Int32) S5))) else none) else (
    some ((-2 : Int32), S3))
set_option maxRecDepth 100000 in
set_option maxHeartbeats 4000000 in
theorem m_X12_best (l : Launch) (w : cpW) (A : Nat → Prop) (x1 : Int32) (x2 : Int32) (S : cpS) (r : Int32 × cpS) (h : fX12_best x1 x2 S = some r) : cpMi l yX12_best cX12_best 6 ((some .int)) 7 w A [.ref (w.2.1 150), .int x1, .int x2] S r := by
  refine cpMi.of (lv := [some (.ref (w.2.1 150)), some (.int x1), some (.int x2), none, none, none]) (by decide) (Nat.le_of_ble_eq_true rfl) rfl (fun p e s m args below meth c C hr => ?_)
  replace C : cpCx p s m args meth c w A cX12_best RX12 6 := C
  rw [fX12_best] at h
  refine cj_aload_n C (i := 0) dX12_best_0 rfl rfl ?_
  refine cj_iconst C (v := (0 : Int32)) dX12_best_1 rfl ?_
  refine cj_put C (j := 0) o_150 rfl pfX12_1 rfl rfl dX12_best_2 ?_
  refine cj_lets h (fun S1 h => ?_)
  refine cj_aload_n C (i := 0) dX12_best_5 rfl rfl ?_
  refine cj_iload_n C (i := 1) dX12_best_6 rfl rfl ?_
  refine cj_iload_n C (i := 2) dX12_best_7 rfl rfl ?_
  refine cj_callVi C (As := [.int x1, .int x2]) (rest := []) qX12_noCoin mw_49_6 o_150 rfl rfl rfl (Nat.le_of_ble_eq_true rfl) (by decide) dX12_best_8 h (fun _ _ hf => m_X12_noCoin l w A x1 x2 S1 _ hf) (fun z2 S3 h => ?_)
  refine cj_if_eq C (tgt := 17) dX12_best_11 rfl h (fun _ h => ?_) (fun _ h => ?_)
  · refine cj_aload_n C (i := 0) dX12_best_17 rfl rfl ?_
    refine cj_iload_n C (i := 1) dX12_best_18 rfl rfl ?_
    refine cj_iload_n C (i := 2) dX12_best_19 rfl rfl ?_
    refine cj_callVi C (As := [.int x1, .int x2]) (rest := []) qX12_laysForce mw_71_11 o_150 rfl rfl rfl (Nat.le_of_ble_eq_true rfl) (by decide) dX12_best_20 h (fun _ _ hf => m_X12_laysForce l w A x1 x2 S3 _ hf) (fun z4 S5 h => ?_)
    refine cj_istore_n C (i := 3) (lv' := [some (.ref (w.2.1 150)), some (.int x1), some (.int x2), some (.int z4), none, none]) dX12_best_23 rfl (by decide) rfl rfl ?_
    refine cj_aload_n C (i := 0) dX12_best_24 rfl rfl ?_
    refine cj_getR C (d := 151) o_150 rfl gfX12_13 dX12_best_25 ?_
    refine cj_bipush C (v := (62 : Int32)) dX12_best_28 rfl ?_
    refine cj_iload_n C (i := 1) dX12_best_30 rfl rfl ?_
    refine cj_iadd C dX12_best_31 ?_
    refine cj_iaload C o_151 h dX12_best_32 (fun h => ?_)
    refine cj_let h (fun y6 h => ?_)
    refine cj_istore C (lv' := [some (.ref (w.2.1 150)), some (.int x1), some (.int x2), some (.int z4), some (.int y6), none]) dX12_best_33 (by decide) rfl rfl ?_
    refine cj_iload_n C (i := 3) dX12_best_35 rfl rfl ?_
    refine cj_if_eq C (tgt := 46) dX12_best_36 rfl h (fun _ h => ?_) (fun _ h => ?_)
    · refine cj_iconst C (v := (-1 : Int32)) dX12_best_46 rfl ?_
      exact cj_ireturn C hr h dX12_best_47
    · refine cj_iload_n C (i := 3) dX12_best_39 rfl rfl ?_
      refine cj_ldcw C (v := (268435456 : Int32)) mw_49_14 dX12_best_40 ?_
      refine cj_icmp_ne C (tgt := 48) dX12_best_43 rfl h (fun _ h => ?_) (fun _ h => ?_)
      · refine cj_iconst C (v := (-1 : Int32)) dX12_best_46 rfl ?_
        exact cj_ireturn C hr h dX12_best_47
      · refine cj_iconst C (v := (0 : Int32)) dX12_best_48 rfl ?_
        refine cj_istore C (lv' := [some (.ref (w.2.1 150)), some (.int x1), some (.int x2), some (.int z4), some (.int y6), some (.int (0 : Int32))]) dX12_best_49 (by decide) rfl rfl ?_
        refine cj_weak C (lv' := [some (.ref (w.2.1 150)), none, none, some (.int z4), some (.int y6), some (.int (0 : Int32))]) (cpSub_s (cpSub_n (cpSub_n (cpSub_s (cpSub_s (cpSub_s cpSub_nil)))))) ?_
        exact wX12_best_51 C hr z4 y6 cpFu (0 : Int32) S5 h
  · refine cj_bipush C (v := (-2 : Int32)) dX12_best_14 rfl ?_
    exact cj_ireturn C hr h dX12_best_16
/-! X12_someMay -/
def fX12_someMay_20 (x1 : Int32) (x2 : Int32) (x3 : Int32) (x4 : Int32) (k3 : Int32 → cpS → Option (Int32 × cpS)) : Nat → Int32 → cpS → Option (Int32 × cpS)
  | 0, _, _ => none
  | n + 1, x5, S =>
    if (S.1 151 3) ≤ x5 then (
    k3 (x4 + 1) S) else (
    cpB (fX12_haveQuarrelled x4 x5 S) fun z1 S2 =>
    if z1 = 0 then (
    cpB (fX12_mayBy x4 x5 x1 x2 x3 S2) fun z3 S4 =>
    if z3 = 0 then (
    fX12_someMay_20 x1 x2 x3 x4 k3 n (x5 + 1) S4) else (
    some ((1 : Int32), S4))) else (
    fX12_someMay_20 x1 x2 x3 x4 k3 n (x5 + 1) S2))
set_option maxRecDepth 100000 in
set_option maxHeartbeats 4000000 in
theorem wX12_someMay_20 (C : cpCx p s m args meth c w A cX12_someMay RX12 6) (hr : meth.sig.returnType = (some .boolean)) {r : Int32 × cpS} (x1 : Int32) (x2 : Int32) (x3 : Int32) (x4 : Int32) {k3 : Int32 → cpS → Option (Int32 × cpS)} (hk3 : ∀ (x4 : Int32) (S : cpS), k3 x4 S = some r → cpJ p l e (cpRm 3) s m args below meth c (MQ below (va_Qi (fun x S' => (x, S') = r) (cpWorld w A) A) args s 0 0 A) w A 6 3 [some (.ref (w.2.1 150)), some (.int x1), some (.int x2), some (.int x3), some (.int x4), none] [] S) : ∀ (n : Nat) (x5 : Int32) (S : cpS), fX12_someMay_20 x1 x2 x3 x4 k3 n x5 S = some r → cpJ p l e (cpRm 3) s m args below meth c (MQ below (va_Qi (fun x S' => (x, S') = r) (cpWorld w A) A) args s 0 0 A) w A 6 20 [some (.ref (w.2.1 150)), some (.int x1), some (.int x2), some (.int x3), some (.int x4), some (.int x5)] [] S := by
  intro n
  induction n with
  | zero => intro x5 S h; rw [fX12_someMay_20] at h; cases h
  | succ n ih =>
    intro x5 S h
    rw [fX12_someMay_20] at h
    refine cj_iload C dX12_someMay_20 rfl ?_
    refine cj_aload_n C (i := 0) dX12_someMay_22 rfl rfl ?_
    refine cj_getR C (d := 151) o_150 rfl gfX12_13 dX12_someMay_23 ?_
    refine cj_iconst C (v := (3 : Int32)) dX12_someMay_26 rfl ?_
    refine cj_ialoadC C (j := 3) o_151 (by decide) (by decide) dX12_someMay_27 ?_
    refine cj_icmp_ge C (tgt := 64) dX12_someMay_28 rfl h (fun _ h => ?_) (fun _ h => ?_)
    · refine cj_iinc C (v := (x4 + 1)) (lv' := [some (.ref (w.2.1 150)), some (.int x1), some (.int x2), some (.int x3), some (.int (x4 + 1)), some (.int x5)]) dX12_someMay_64 rfl rfl (by decide) rfl rfl ?_
      refine cj_goto C (tgt := 3) dX12_someMay_67 rfl ?_
      refine cj_weak C (lv' := [some (.ref (w.2.1 150)), some (.int x1), some (.int x2), some (.int x3), some (.int (x4 + 1)), none]) (cpSub_s (cpSub_s (cpSub_s (cpSub_s (cpSub_s (cpSub_n cpSub_nil)))))) ?_
      exact hk3 (x4 + 1) S h
    · refine cj_aload_n C (i := 0) dX12_someMay_31 rfl rfl ?_
      refine cj_iload C dX12_someMay_32 rfl ?_
      refine cj_iload C dX12_someMay_34 rfl ?_
      refine cj_callVi C (As := [.int x4, .int x5]) (rest := []) qX12_haveQuarrelled mw_36_0 o_150 rfl rfl rfl (Nat.le_of_ble_eq_true rfl) (by decide) dX12_someMay_36 h (fun _ _ hf => m_X12_haveQuarrelled l w A x4 x5 S _ hf) (fun z1 S2 h => ?_)
      refine cj_if_ne C (tgt := 58) dX12_someMay_39 rfl h (fun _ h => ?_) (fun _ h => ?_)
      · refine cj_aload_n C (i := 0) dX12_someMay_42 rfl rfl ?_
        refine cj_iload C dX12_someMay_43 rfl ?_
        refine cj_iload C dX12_someMay_45 rfl ?_
        refine cj_iload_n C (i := 1) dX12_someMay_47 rfl rfl ?_
        refine cj_iload_n C (i := 2) dX12_someMay_48 rfl rfl ?_
        refine cj_iload_n C (i := 3) dX12_someMay_49 rfl rfl ?_
        refine cj_callVi C (As := [.int x4, .int x5, .int x1, .int x2, .int x3]) (rest := []) qX12_mayBy mw_36_16 o_150 rfl rfl rfl (Nat.le_of_ble_eq_true rfl) (by decide) dX12_someMay_50 h (fun _ _ hf => m_X12_mayBy l w A x4 x5 x1 x2 x3 S2 _ hf) (fun z3 S4 h => ?_)
        refine cj_if_eq C (tgt := 58) dX12_someMay_53 rfl h (fun _ h => ?_) (fun _ h => ?_)
        · refine cj_iinc C (v := (x5 + 1)) (lv' := [some (.ref (w.2.1 150)), some (.int x1), some (.int x2), some (.int x3), some (.int x4), some (.int (x5 + 1))]) dX12_someMay_58 rfl rfl (by decide) rfl rfl ?_
          refine cj_goto C (tgt := 20) dX12_someMay_61 rfl ?_
          exact ih (x5 + 1) S4 h
        · refine cj_iconst C (v := (1 : Int32)) dX12_someMay_56 rfl ?_
          exact cj_zreturn C hr rfl h dX12_someMay_57
      · refine cj_iinc C (v := (x5 + 1)) (lv' := [some (.ref (w.2.1 150)), some (.int x1), some (.int x2), some (.int x3), some (.int x4), some (.int (x5 + 1))]) dX12_someMay_58 rfl rfl (by decide) rfl rfl ?_
        refine cj_goto C (tgt := 20) dX12_someMay_61 rfl ?_
        exact ih (x5 + 1) S2 h
def fX12_someMay_3 (x1 : Int32) (x2 : Int32) (x3 : Int32) : Nat → Int32 → cpS → Option (Int32 × cpS)
  | 0, _, _ => none
  | n + 1, x4, S =>
    if (S.1 151 3) ≤ x4 then (
    some ((0 : Int32), S)) else (
    cpLt (x4 + (1 : Int32)) fun y1 =>
    fX12_someMay_20 x1 x2 x3 x4 (fX12_someMay_3 x1 x2 x3 n) cpFu y1 S)
set_option maxRecDepth 100000 in
set_option maxHeartbeats 4000000 in
theorem wX12_someMay_3 (C : cpCx p s m args meth c w A cX12_someMay RX12 6) (hr : meth.sig.returnType = (some .boolean)) {r : Int32 × cpS} (x1 : Int32) (x2 : Int32) (x3 : Int32) : ∀ (n : Nat) (x4 : Int32) (S : cpS), fX12_someMay_3 x1 x2 x3 n x4 S = some r → cpJ p l e (cpRm 3) s m args below meth c (MQ below (va_Qi (fun x S' => (x, S') = r) (cpWorld w A) A) args s 0 0 A) w A 6 3 [some (.ref (w.2.1 150)), some (.int x1), some (.int x2), some (.int x3), some (.int x4), none] [] S := by
  intro n
  induction n with
  | zero => intro x4 S h; rw [fX12_someMay_3] at h; cases h
  | succ n ih =>
    intro x4 S h
    rw [fX12_someMay_3] at h
    refine cj_iload C dX12_someMay_3 rfl ?_
    refine cj_aload_n C (i := 0) dX12_someMay_5 rfl rfl ?_
    refine cj_getR C (d := 151) o_150 rfl gfX12_13 dX12_someMay_6 ?_
    refine cj_iconst C (v := (3 : Int32)) dX12_someMay_9 rfl ?_
    refine cj_ialoadC C (j := 3) o_151 (by decide) (by decide) dX12_someMay_10 ?_
    refine cj_icmp_ge C (tgt := 70) dX12_someMay_11 rfl h (fun _ h => ?_) (fun _ h => ?_)
    · refine cj_iconst C (v := (0 : Int32)) dX12_someMay_70 rfl ?_
      exact cj_zreturn C hr rfl h dX12_someMay_71
    · refine cj_iload C dX12_someMay_14 rfl ?_
      refine cj_iconst C (v := (1 : Int32)) dX12_someMay_16 rfl ?_
      refine cj_iadd C dX12_someMay_17 ?_
      refine cj_let h (fun y1 h => ?_)
      refine cj_istore C (lv' := [some (.ref (w.2.1 150)), some (.int x1), some (.int x2), some (.int x3), some (.int x4), some (.int y1)]) dX12_someMay_18 (by decide) rfl rfl ?_
      exact wX12_someMay_20 C hr x1 x2 x3 x4 ih cpFu y1 S h
def fX12_someMay (x1 : Int32) (x2 : Int32) (x3 : Int32) (S : cpS) : Option (Int32 × cpS) :=
    fX12_someMay_3 x1 x2 x3 cpFu (0 : Int32) S
set_option maxRecDepth 100000 in
set_option maxHeartbeats 4000000 in
theorem m_X12_someMay (l : Launch) (w : cpW) (A : Nat → Prop) (x1 : Int32) (x2 : Int32) (x3 : Int32) (S : cpS) (r : Int32 × cpS) (h : fX12_someMay x1 x2 x3 S = some r) : cpMi l yX12_someMay cX12_someMay 6 ((some .boolean)) 3 w A [.ref (w.2.1 150), .int x1, .int x2, .int x3] S r := by
  refine cpMi.of (lv := [some (.ref (w.2.1 150)), some (.int x1), some (.int x2), some (.int x3), none, none]) (by decide) (Nat.le_of_ble_eq_true rfl) rfl (fun p e s m args below meth c C hr => ?_)
  replace C : cpCx p s m args meth c w A cX12_someMay RX12 6 := C
  rw [fX12_someMay] at h
  refine cj_iconst C (v := (0 : Int32)) dX12_someMay_0 rfl ?_
  refine cj_istore C (lv' := [some (.ref (w.2.1 150)), some (.int x1), some (.int x2), some (.int x3), some (.int (0 : Int32)), none]) dX12_someMay_1 (by decide) rfl rfl ?_
  exact wX12_someMay_3 C hr x1 x2 x3 cpFu (0 : Int32) S h
/-! X12_goesLikely -/
def fX12_goesLikely (x1 : Int32) (x2 : Int32) (x3 : Int32) (x4 : Int32) (x5 : Int32) (S : cpS) : Option (Unit × cpS) :=
    if cpIn (((6 : Int32) * x2) + x4) 36 then (
    cpB (fX12_longOf x3 S) fun z1 S2 =>
    cpLt ((S.2 170 (((6 : Int32) * x2) + x4).toNatClampNeg) * (Int32.toInt64 ((10 : Int32) - z1))) fun y3 =>
    if cpIn (((6 : Int32) * (x2 + (1 : Int32))) + x5) 36 then (
    if (lg_cmp y3 (S2.2 170 (((6 : Int32) * (x2 + (1 : Int32))) + x5).toNatClampNeg)) ≤ 0 then (
    some ((), S2)) else (
    cpB (fX12_someMay x1 x4 x3 S2) fun z4 S5 =>
    if z4 = 0 then (
    some ((), S5)) else (
    if cpIn (((6 : Int32) * (x2 + (1 : Int32))) + x5) 36 then (
    cpLt (cpL S5 170 (((6 : Int32) * (x2 + (1 : Int32))) + x5).toNatClampNeg y3) fun S6 =>
    some ((), S6)) else none))) else none) else none
set_option maxRecDepth 100000 in
set_option maxHeartbeats 4000000 in
theorem m_X12_goesLikely (l : Launch) (w : cpW) (A : Nat → Prop) (x1 : Int32) (x2 : Int32) (x3 : Int32) (x4 : Int32) (x5 : Int32) (S : cpS) (r : Unit × cpS) (h : fX12_goesLikely x1 x2 x3 x4 x5 S = some r) : cpMv l yX12_goesLikely cX12_goesLikely 8 (none) 4 w A [.ref (w.2.1 150), .int x1, .int x2, .int x3, .int x4, .int x5] S r := by
  refine cpMv.of (lv := [some (.ref (w.2.1 150)), some (.int x1), some (.int x2), some (.int x3), some (.int x4), some (.int x5), none, none]) (by decide) (Nat.le_of_ble_eq_true rfl) rfl (fun p e s m args below meth c C hr => ?_)
  replace C : cpCx p s m args meth c w A cX12_goesLikely RX12 8 := C
  rw [fX12_goesLikely] at h
  refine cj_aload_n C (i := 0) dX12_goesLikely_0 rfl rfl ?_
  refine cj_getR C (d := 170) o_150 rfl gfX12_76 dX12_goesLikely_1 ?_
  refine cj_bipush C (v := (6 : Int32)) dX12_goesLikely_4 rfl ?_
  refine cj_iload_n C (i := 2) dX12_goesLikely_6 rfl rfl ?_
  refine cj_imul C dX12_goesLikely_7 ?_
  refine cj_iload C dX12_goesLikely_8 rfl ?_
  refine cj_iadd C dX12_goesLikely_10 ?_
  refine cj_laload C o_170 h dX12_goesLikely_11 (fun h => ?_)
  refine cj_bipush C (v := (10 : Int32)) dX12_goesLikely_12 rfl ?_
  refine cj_aload_n C (i := 0) dX12_goesLikely_14 rfl rfl ?_
  refine cj_iload_n C (i := 3) dX12_goesLikely_15 rfl rfl ?_
  refine cj_callVi C (As := [.int x3]) (rest := [.int (10 : Int32), .long (S.2 170 (((6 : Int32) * x2) + x4).toNatClampNeg)]) qX12_longOf mw_32_3 o_150 rfl rfl rfl (Nat.le_of_ble_eq_true rfl) (by decide) dX12_goesLikely_16 h (fun _ _ hf => m_X12_longOf l w A x3 S _ hf) (fun z1 S2 h => ?_)
  refine cj_isub C dX12_goesLikely_19 ?_
  refine cj_i2l C dX12_goesLikely_20 ?_
  refine cj_lmul C dX12_goesLikely_21 ?_
  refine cj_letl h (fun y3 h => ?_)
  refine cj_lstore C (lv' := [some (.ref (w.2.1 150)), some (.int x1), some (.int x2), some (.int x3), some (.int x4), some (.int x5), some (.long y3), none]) dX12_goesLikely_22 (by decide) rfl rfl ?_
  refine cj_lload C dX12_goesLikely_24 rfl ?_
  refine cj_aload_n C (i := 0) dX12_goesLikely_26 rfl rfl ?_
  refine cj_getR C (d := 170) o_150 rfl gfX12_76 dX12_goesLikely_27 ?_
  refine cj_bipush C (v := (6 : Int32)) dX12_goesLikely_30 rfl ?_
  refine cj_iload_n C (i := 2) dX12_goesLikely_32 rfl rfl ?_
  refine cj_iconst C (v := (1 : Int32)) dX12_goesLikely_33 rfl ?_
  refine cj_iadd C dX12_goesLikely_34 ?_
  refine cj_imul C dX12_goesLikely_35 ?_
  refine cj_iload C dX12_goesLikely_36 rfl ?_
  refine cj_iadd C dX12_goesLikely_38 ?_
  refine cj_laload C o_170 h dX12_goesLikely_39 (fun h => ?_)
  refine cj_lcmp C dX12_goesLikely_40 ?_
  refine cj_if_le C (tgt := 71) dX12_goesLikely_41 rfl h (fun _ h => ?_) (fun _ h => ?_)
  · exact cj_vreturn C hr h dX12_goesLikely_71
  · refine cj_aload_n C (i := 0) dX12_goesLikely_44 rfl rfl ?_
    refine cj_iload_n C (i := 1) dX12_goesLikely_45 rfl rfl ?_
    refine cj_iload C dX12_goesLikely_46 rfl ?_
    refine cj_iload_n C (i := 3) dX12_goesLikely_48 rfl rfl ?_
    refine cj_callVi C (As := [.int x1, .int x4, .int x3]) (rest := []) qX12_someMay mw_74_10 o_150 rfl rfl rfl (Nat.le_of_ble_eq_true rfl) (by decide) dX12_goesLikely_49 h (fun _ _ hf => m_X12_someMay l w A x1 x4 x3 S2 _ hf) (fun z4 S5 h => ?_)
    refine cj_if_eq C (tgt := 71) dX12_goesLikely_52 rfl h (fun _ h => ?_) (fun _ h => ?_)
    · exact cj_vreturn C hr h dX12_goesLikely_71
    · refine cj_aload_n C (i := 0) dX12_goesLikely_55 rfl rfl ?_
      refine cj_getR C (d := 170) o_150 rfl gfX12_76 dX12_goesLikely_56 ?_
      refine cj_bipush C (v := (6 : Int32)) dX12_goesLikely_59 rfl ?_
      refine cj_iload_n C (i := 2) dX12_goesLikely_61 rfl rfl ?_
      refine cj_iconst C (v := (1 : Int32)) dX12_goesLikely_62 rfl ?_
      refine cj_iadd C dX12_goesLikely_63 ?_
      refine cj_imul C dX12_goesLikely_64 ?_
      refine cj_iload C dX12_goesLikely_65 rfl ?_
      refine cj_iadd C dX12_goesLikely_67 ?_
      refine cj_lload C dX12_goesLikely_68 rfl ?_
      refine cj_lastore C o_170 h dX12_goesLikely_70 (fun h => ?_)
      refine cj_lets h (fun S6 h => ?_)
      exact cj_vreturn C hr h dX12_goesLikely_71
/-! X12_laysLikely -/
def fX12_laysLikely_58 (x1 : Int32) (x2 : Int32) (k51 : Int32 → cpS → Option (Unit × cpS)) : Nat → Int32 → cpS → Option (Unit × cpS)
  | 0, _, _ => none
  | n + 1, x3, S =>
    if (S.1 151 2) ≤ x3 then (
    k51 (x2 + 1) S) else (
    if cpIn ((11 : Int32) + ((3 : Int32) * x3)) 3486 then (
    if cpIn (((11 : Int32) + ((3 : Int32) * x3)) + (1 : Int32)) 3486 then (
    cpB (fX12_goesLikely x1 x2 x3 (S.1 151 ((11 : Int32) + ((3 : Int32) * x3)).toNatClampNeg) (S.1 151 (((11 : Int32) + ((3 : Int32) * x3)) + (1 : Int32)).toNatClampNeg) S) fun _ S2 =>
    if cpIn (((11 : Int32) + ((3 : Int32) * x3)) + (1 : Int32)) 3486 then (
    if cpIn ((11 : Int32) + ((3 : Int32) * x3)) 3486 then (
    cpB (fX12_goesLikely x1 x2 x3 (S2.1 151 (((11 : Int32) + ((3 : Int32) * x3)) + (1 : Int32)).toNatClampNeg) (S2.1 151 ((11 : Int32) + ((3 : Int32) * x3)).toNatClampNeg) S2) fun _ S4 =>
    fX12_laysLikely_58 x1 x2 k51 n (x3 + 1) S4) else none) else none) else none) else none)
set_option maxRecDepth 100000 in
set_option maxHeartbeats 4000000 in
theorem wX12_laysLikely_58 (C : cpCx p s m args meth c w A cX12_laysLikely RX12 4) (hr : meth.sig.returnType = none) {r : Unit × cpS} (x1 : Int32) (x2 : Int32) {k51 : Int32 → cpS → Option (Unit × cpS)} (hk51 : ∀ (x2 : Int32) (S : cpS), k51 x2 S = some r → cpJ p l e (cpRm 5) s m args below meth c (MQ below (va_Qv (fun S' => ((), S') = r) (cpWorld w A) A) args s 0 0 A) w A 4 51 [some (.ref (w.2.1 150)), some (.int x1), some (.int x2), none] [] S) : ∀ (n : Nat) (x3 : Int32) (S : cpS), fX12_laysLikely_58 x1 x2 k51 n x3 S = some r → cpJ p l e (cpRm 5) s m args below meth c (MQ below (va_Qv (fun S' => ((), S') = r) (cpWorld w A) A) args s 0 0 A) w A 4 58 [some (.ref (w.2.1 150)), some (.int x1), some (.int x2), some (.int x3)] [] S := by
  intro n
  induction n with
  | zero => intro x3 S h; rw [fX12_laysLikely_58] at h; cases h
  | succ n ih =>
    intro x3 S h
    rw [fX12_laysLikely_58] at h
    refine cj_iload_n C (i := 3) dX12_laysLikely_58 rfl rfl ?_
    refine cj_aload_n C (i := 0) dX12_laysLikely_59 rfl rfl ?_
    refine cj_getR C (d := 151) o_150 rfl gfX12_13 dX12_laysLikely_60 ?_
    refine cj_iconst C (v := (2 : Int32)) dX12_laysLikely_63 rfl ?_
    refine cj_ialoadC C (j := 2) o_151 (by decide) (by decide) dX12_laysLikely_64 ?_
    refine cj_icmp_ge C (tgt := 136) dX12_laysLikely_65 rfl h (fun _ h => ?_) (fun _ h => ?_)
    · refine cj_iinc C (v := (x2 + 1)) (lv' := [some (.ref (w.2.1 150)), some (.int x1), some (.int (x2 + 1)), some (.int x3)]) dX12_laysLikely_136 rfl rfl (by decide) rfl rfl ?_
      refine cj_goto C (tgt := 51) dX12_laysLikely_139 rfl ?_
      refine cj_weak C (lv' := [some (.ref (w.2.1 150)), some (.int x1), some (.int (x2 + 1)), none]) (cpSub_s (cpSub_s (cpSub_s (cpSub_n cpSub_nil)))) ?_
      exact hk51 (x2 + 1) S h
    · refine cj_aload_n C (i := 0) dX12_laysLikely_68 rfl rfl ?_
      refine cj_iload_n C (i := 1) dX12_laysLikely_69 rfl rfl ?_
      refine cj_iload_n C (i := 2) dX12_laysLikely_70 rfl rfl ?_
      refine cj_iload_n C (i := 3) dX12_laysLikely_71 rfl rfl ?_
      refine cj_aload_n C (i := 0) dX12_laysLikely_72 rfl rfl ?_
      refine cj_getR C (d := 151) o_150 rfl gfX12_13 dX12_laysLikely_73 ?_
      refine cj_bipush C (v := (11 : Int32)) dX12_laysLikely_76 rfl ?_
      refine cj_iconst C (v := (3 : Int32)) dX12_laysLikely_78 rfl ?_
      refine cj_iload_n C (i := 3) dX12_laysLikely_79 rfl rfl ?_
      refine cj_imul C dX12_laysLikely_80 ?_
      refine cj_iadd C dX12_laysLikely_81 ?_
      refine cj_iaload C o_151 h dX12_laysLikely_82 (fun h => ?_)
      refine cj_aload_n C (i := 0) dX12_laysLikely_83 rfl rfl ?_
      refine cj_getR C (d := 151) o_150 rfl gfX12_13 dX12_laysLikely_84 ?_
      refine cj_bipush C (v := (11 : Int32)) dX12_laysLikely_87 rfl ?_
      refine cj_iconst C (v := (3 : Int32)) dX12_laysLikely_89 rfl ?_
      refine cj_iload_n C (i := 3) dX12_laysLikely_90 rfl rfl ?_
      refine cj_imul C dX12_laysLikely_91 ?_
      refine cj_iadd C dX12_laysLikely_92 ?_
      refine cj_iconst C (v := (1 : Int32)) dX12_laysLikely_93 rfl ?_
      refine cj_iadd C dX12_laysLikely_94 ?_
      refine cj_iaload C o_151 h dX12_laysLikely_95 (fun h => ?_)
      refine cj_callVv C (As := [.int x1, .int x2, .int x3, .int (S.1 151 ((11 : Int32) + ((3 : Int32) * x3)).toNatClampNeg), .int (S.1 151 (((11 : Int32) + ((3 : Int32) * x3)) + (1 : Int32)).toNatClampNeg)]) (rest := []) qX12_goesLikely mw_74_6 o_150 rfl rfl rfl (Nat.le_of_ble_eq_true rfl) (by decide) dX12_laysLikely_96 h (fun _ _ hf => m_X12_goesLikely l w A x1 x2 x3 (S.1 151 ((11 : Int32) + ((3 : Int32) * x3)).toNatClampNeg) (S.1 151 (((11 : Int32) + ((3 : Int32) * x3)) + (1 : Int32)).toNatClampNeg) S _ hf) (fun z1 S2 h => ?_)
      refine cj_aload_n C (i := 0) dX12_laysLikely_99 rfl rfl ?_
      refine cj_iload_n C (i := 1) dX12_laysLikely_100 rfl rfl ?_
      refine cj_iload_n C (i := 2) dX12_laysLikely_101 rfl rfl ?_
      refine cj_iload_n C (i := 3) dX12_laysLikely_102 rfl rfl ?_
      refine cj_aload_n C (i := 0) dX12_laysLikely_103 rfl rfl ?_
      refine cj_getR C (d := 151) o_150 rfl gfX12_13 dX12_laysLikely_104 ?_
      refine cj_bipush C (v := (11 : Int32)) dX12_laysLikely_107 rfl ?_
      refine cj_iconst C (v := (3 : Int32)) dX12_laysLikely_109 rfl ?_
      refine cj_iload_n C (i := 3) dX12_laysLikely_110 rfl rfl ?_
      refine cj_imul C dX12_laysLikely_111 ?_
      refine cj_iadd C dX12_laysLikely_112 ?_
      refine cj_iconst C (v := (1 : Int32)) dX12_laysLikely_113 rfl ?_
      refine cj_iadd C dX12_laysLikely_114 ?_
      refine cj_iaload C o_151 h dX12_laysLikely_115 (fun h => ?_)
      refine cj_aload_n C (i := 0) dX12_laysLikely_116 rfl rfl ?_
      refine cj_getR C (d := 151) o_150 rfl gfX12_13 dX12_laysLikely_117 ?_
      refine cj_bipush C (v := (11 : Int32)) dX12_laysLikely_120 rfl ?_
      refine cj_iconst C (v := (3 : Int32)) dX12_laysLikely_122 rfl ?_
      refine cj_iload_n C (i := 3) dX12_laysLikely_123 rfl rfl ?_
      refine cj_imul C dX12_laysLikely_124 ?_
      refine cj_iadd C dX12_laysLikely_125 ?_
      refine cj_iaload C o_151 h dX12_laysLikely_126 (fun h => ?_)
      refine cj_callVv C (As := [.int x1, .int x2, .int x3, .int (S2.1 151 (((11 : Int32) + ((3 : Int32) * x3)) + (1 : Int32)).toNatClampNeg), .int (S2.1 151 ((11 : Int32) + ((3 : Int32) * x3)).toNatClampNeg)]) (rest := []) qX12_goesLikely mw_74_6 o_150 rfl rfl rfl (Nat.le_of_ble_eq_true rfl) (by decide) dX12_laysLikely_127 h (fun _ _ hf => m_X12_goesLikely l w A x1 x2 x3 (S2.1 151 (((11 : Int32) + ((3 : Int32) * x3)) + (1 : Int32)).toNatClampNeg) (S2.1 151 ((11 : Int32) + ((3 : Int32) * x3)).toNatClampNeg) S2 _ hf) (fun z3 S4 h => ?_)
      refine cj_iinc C (v := (x3 + 1)) (lv' := [some (.ref (w.2.1 150)), some (.int x1), some (.int x2), some (.int (x3 + 1))]) dX12_laysLikely_130 rfl rfl (by decide) rfl rfl ?_
      refine cj_goto C (tgt := 58) dX12_laysLikely_133 rfl ?_
      exact ih (x3 + 1) S4 h
def fX12_laysLikely_51 (x1 : Int32) : Nat → Int32 → cpS → Option (Unit × cpS)
  | 0, _, _ => none
  | n + 1, x2, S =>
    if (5 : Int32) ≤ x2 then (
    some ((), S)) else (
    fX12_laysLikely_58 x1 x2 (fX12_laysLikely_51 x1 n) cpFu (0 : Int32) S)
set_option maxRecDepth 100000 in
set_option maxHeartbeats 4000000 in
theorem wX12_laysLikely_51 (C : cpCx p s m args meth c w A cX12_laysLikely RX12 4) (hr : meth.sig.returnType = none) {r : Unit × cpS} (x1 : Int32) : ∀ (n : Nat) (x2 : Int32) (S : cpS), fX12_laysLikely_51 x1 n x2 S = some r → cpJ p l e (cpRm 5) s m args below meth c (MQ below (va_Qv (fun S' => ((), S') = r) (cpWorld w A) A) args s 0 0 A) w A 4 51 [some (.ref (w.2.1 150)), some (.int x1), some (.int x2), none] [] S := by
  intro n
  induction n with
  | zero => intro x2 S h; rw [fX12_laysLikely_51] at h; cases h
  | succ n ih =>
    intro x2 S h
    rw [fX12_laysLikely_51] at h
    refine cj_iload_n C (i := 2) dX12_laysLikely_51 rfl rfl ?_
    refine cj_iconst C (v := (5 : Int32)) dX12_laysLikely_52 rfl ?_
    refine cj_icmp_ge C (tgt := 142) dX12_laysLikely_53 rfl h (fun _ h => ?_) (fun _ h => ?_)
    · exact cj_vreturn C hr h dX12_laysLikely_142
    · refine cj_iconst C (v := (0 : Int32)) dX12_laysLikely_56 rfl ?_
      refine cj_istore_n C (i := 3) (lv' := [some (.ref (w.2.1 150)), some (.int x1), some (.int x2), some (.int (0 : Int32))]) dX12_laysLikely_57 rfl (by decide) rfl rfl ?_
      exact wX12_laysLikely_58 C hr x1 x2 ih cpFu (0 : Int32) S h
def fX12_laysLikely_13 (x1 : Int32) : Nat → Int32 → cpS → Option (Unit × cpS)
  | 0, _, _ => none
  | n + 1, x2, S =>
    if (36 : Int32) ≤ x2 then (
    fX12_laysLikely_51 x1 cpFu (0 : Int32) S) else (
    if cpIn ((62 : Int32) + x1) 3486 then (
    if x2 = (S.1 151 ((62 : Int32) + x1).toNatClampNeg) then (
    if cpIn x2 36 then (
    cpLt (cpL S 170 x2.toNatClampNeg (1 : Int64)) fun S1 =>
    fX12_laysLikely_13 x1 n (x2 + 1) S1) else none) else (
    if cpIn x2 36 then (
    cpLt (cpL S 170 x2.toNatClampNeg (0 : Int64)) fun S2 =>
    fX12_laysLikely_13 x1 n (x2 + 1) S2) else none)) else none)
set_option maxRecDepth 100000 in
set_option maxHeartbeats 4000000 in
theorem wX12_laysLikely_13 (C : cpCx p s m args meth c w A cX12_laysLikely RX12 4) (hr : meth.sig.returnType = none) {r : Unit × cpS} (x1 : Int32) : ∀ (n : Nat) (x2 : Int32) (S : cpS), fX12_laysLikely_13 x1 n x2 S = some r → cpJ p l e (cpRm 5) s m args below meth c (MQ below (va_Qv (fun S' => ((), S') = r) (cpWorld w A) A) args s 0 0 A) w A 4 13 [some (.ref (w.2.1 150)), some (.int x1), some (.int x2), none] [] S := by
  intro n
  induction n with
  | zero => intro x2 S h; rw [fX12_laysLikely_13] at h; cases h
  | succ n ih =>
    intro x2 S h
    rw [fX12_laysLikely_13] at h
    refine cj_iload_n C (i := 2) dX12_laysLikely_13 rfl rfl ?_
    refine cj_bipush C (v := (36 : Int32)) dX12_laysLikely_14 rfl ?_
    refine cj_icmp_ge C (tgt := 49) dX12_laysLikely_16 rfl h (fun _ h => ?_) (fun _ h => ?_)
    · refine cj_iconst C (v := (0 : Int32)) dX12_laysLikely_49 rfl ?_
      refine cj_istore_n C (i := 2) (lv' := [some (.ref (w.2.1 150)), some (.int x1), some (.int (0 : Int32)), none]) dX12_laysLikely_50 rfl (by decide) rfl rfl ?_
      exact wX12_laysLikely_51 C hr x1 cpFu (0 : Int32) S h
    · refine cj_aload_n C (i := 0) dX12_laysLikely_19 rfl rfl ?_
      refine cj_getR C (d := 170) o_150 rfl gfX12_76 dX12_laysLikely_20 ?_
      refine cj_iload_n C (i := 2) dX12_laysLikely_23 rfl rfl ?_
      refine cj_iload_n C (i := 2) dX12_laysLikely_24 rfl rfl ?_
      refine cj_aload_n C (i := 0) dX12_laysLikely_25 rfl rfl ?_
      refine cj_getR C (d := 151) o_150 rfl gfX12_13 dX12_laysLikely_26 ?_
      refine cj_bipush C (v := (62 : Int32)) dX12_laysLikely_29 rfl ?_
      refine cj_iload_n C (i := 1) dX12_laysLikely_31 rfl rfl ?_
      refine cj_iadd C dX12_laysLikely_32 ?_
      refine cj_iaload C o_151 h dX12_laysLikely_33 (fun h => ?_)
      refine cj_icmp_ne C (tgt := 41) dX12_laysLikely_34 rfl h (fun _ h => ?_) (fun _ h => ?_)
      · refine cj_lconst C (v := (1 : Int64)) dX12_laysLikely_37 rfl ?_
        refine cj_goto C (tgt := 42) dX12_laysLikely_38 rfl ?_
        refine cj_lastore C o_170 h dX12_laysLikely_42 (fun h => ?_)
        refine cj_lets h (fun S1 h => ?_)
        refine cj_iinc C (v := (x2 + 1)) (lv' := [some (.ref (w.2.1 150)), some (.int x1), some (.int (x2 + 1)), none]) dX12_laysLikely_43 rfl rfl (by decide) rfl rfl ?_
        refine cj_goto C (tgt := 13) dX12_laysLikely_46 rfl ?_
        exact ih (x2 + 1) S1 h
      · refine cj_lconst C (v := (0 : Int64)) dX12_laysLikely_41 rfl ?_
        refine cj_lastore C o_170 h dX12_laysLikely_42 (fun h => ?_)
        refine cj_lets h (fun S2 h => ?_)
        refine cj_iinc C (v := (x2 + 1)) (lv' := [some (.ref (w.2.1 150)), some (.int x1), some (.int (x2 + 1)), none]) dX12_laysLikely_43 rfl rfl (by decide) rfl rfl ?_
        refine cj_goto C (tgt := 13) dX12_laysLikely_46 rfl ?_
        exact ih (x2 + 1) S2 h
def fX12_laysLikely (x1 : Int32) (S : cpS) : Option (Unit × cpS) :=
    cpB (fX12_laysNow (S.1 151 78) S) fun _ S2 =>
    fX12_laysLikely_13 x1 cpFu (0 : Int32) S2
set_option maxRecDepth 100000 in
set_option maxHeartbeats 4000000 in
theorem m_X12_laysLikely (l : Launch) (w : cpW) (A : Nat → Prop) (x1 : Int32) (S : cpS) (r : Unit × cpS) (h : fX12_laysLikely x1 S = some r) : cpMv l yX12_laysLikely cX12_laysLikely 4 (none) 5 w A [.ref (w.2.1 150), .int x1] S r := by
  refine cpMv.of (lv := [some (.ref (w.2.1 150)), some (.int x1), none, none]) (by decide) (Nat.le_of_ble_eq_true rfl) rfl (fun p e s m args below meth c C hr => ?_)
  replace C : cpCx p s m args meth c w A cX12_laysLikely RX12 4 := C
  rw [fX12_laysLikely] at h
  refine cj_aload_n C (i := 0) dX12_laysLikely_0 rfl rfl ?_
  refine cj_aload_n C (i := 0) dX12_laysLikely_1 rfl rfl ?_
  refine cj_getR C (d := 151) o_150 rfl gfX12_13 dX12_laysLikely_2 ?_
  refine cj_bipush C (v := (78 : Int32)) dX12_laysLikely_5 rfl ?_
  refine cj_ialoadC C (j := 78) o_151 (by decide) (by decide) dX12_laysLikely_7 ?_
  refine cj_callVv C (As := [.int (S.1 151 78)]) (rest := []) qX12_laysNow mw_36_7 o_150 rfl rfl rfl (Nat.le_of_ble_eq_true rfl) (by decide) dX12_laysLikely_8 h (fun _ _ hf => m_X12_laysNow l w A (S.1 151 78) S _ hf) (fun z1 S2 h => ?_)
  refine cj_iconst C (v := (0 : Int32)) dX12_laysLikely_11 rfl ?_
  refine cj_istore_n C (i := 2) (lv' := [some (.ref (w.2.1 150)), some (.int x1), some (.int (0 : Int32)), none]) dX12_laysLikely_12 rfl (by decide) rfl rfl ?_
  exact wX12_laysLikely_13 C hr x1 cpFu (0 : Int32) S2 h
/-! X12_wholeOf -/
def fX12_wholeOf_4 (x0 : Int32) : Nat → Int64 → Int32 → cpS → Option (Int64 × cpS)
  | 0, _, _, _ => none
  | n + 1, x1, x3, S =>
    if x0 ≤ x3 then (
    some (x1, S)) else (
    cpLt (x1 * (10 : Int64)) fun y1 =>
    fX12_wholeOf_4 x0 n y1 (x3 + 1) S)
set_option maxRecDepth 100000 in
set_option maxHeartbeats 4000000 in
theorem wX12_wholeOf_4 (C : cpCx p s m args meth c w A cX12_wholeOf RX12 4) (hr : meth.sig.returnType = (some .long)) {r : Int64 × cpS} (x0 : Int32) : ∀ (n : Nat) (x1 : Int64) (x3 : Int32) (S : cpS), fX12_wholeOf_4 x0 n x1 x3 S = some r → cpJ p l e (cpRm 0) s m args below meth c (MQ below (va_Ql (fun x S' => (x, S') = r) (cpWorld w A) A) args s 0 0 A) w A 4 4 [some (.int x0), some (.long x1), none, some (.int x3)] [] S := by
  intro n
  induction n with
  | zero => intro x1 x3 S h; rw [fX12_wholeOf_4] at h; cases h
  | succ n ih =>
    intro x1 x3 S h
    rw [fX12_wholeOf_4] at h
    refine cj_iload_n C (i := 3) dX12_wholeOf_4 rfl rfl ?_
    refine cj_iload_n C (i := 0) dX12_wholeOf_5 rfl rfl ?_
    refine cj_icmp_ge C (tgt := 21) dX12_wholeOf_6 rfl h (fun _ h => ?_) (fun _ h => ?_)
    · refine cj_lload_n C (i := 1) dX12_wholeOf_21 rfl rfl ?_
      exact cj_lreturn C hr h dX12_wholeOf_22
    · refine cj_lload_n C (i := 1) dX12_wholeOf_9 rfl rfl ?_
      refine cj_ldc2 C (v := (10 : Int64)) mw_42_11 dX12_wholeOf_10 ?_
      refine cj_lmul C dX12_wholeOf_13 ?_
      refine cj_letl h (fun y1 h => ?_)
      refine cj_lstore_n C (i := 1) (lv' := [some (.int x0), some (.long y1), none, some (.int x3)]) dX12_wholeOf_14 rfl (by decide) rfl rfl ?_
      refine cj_iinc C (v := (x3 + 1)) (lv' := [some (.int x0), some (.long y1), none, some (.int (x3 + 1))]) dX12_wholeOf_15 rfl rfl (by decide) rfl rfl ?_
      refine cj_goto C (tgt := 4) dX12_wholeOf_18 rfl ?_
      exact ih y1 (x3 + 1) S h
def fX12_wholeOf (x0 : Int32) (S : cpS) : Option (Int64 × cpS) :=
    fX12_wholeOf_4 x0 cpFu (1 : Int64) (0 : Int32) S
set_option maxRecDepth 100000 in
set_option maxHeartbeats 4000000 in
theorem m_X12_wholeOf (l : Launch) (w : cpW) (A : Nat → Prop) (x0 : Int32) (S : cpS) (r : Int64 × cpS) (h : fX12_wholeOf x0 S = some r) : cpMl l yX12_wholeOf cX12_wholeOf 4 ((some .long)) 0 w A [.int x0] S r := by
  refine cpMl.of (lv := [some (.int x0), none, none, none]) (by decide) (Nat.le_of_ble_eq_true rfl) rfl (fun p e s m args below meth c C hr => ?_)
  replace C : cpCx p s m args meth c w A cX12_wholeOf RX12 4 := C
  rw [fX12_wholeOf] at h
  refine cj_lconst C (v := (1 : Int64)) dX12_wholeOf_0 rfl ?_
  refine cj_lstore_n C (i := 1) (lv' := [some (.int x0), some (.long (1 : Int64)), none, none]) dX12_wholeOf_1 rfl (by decide) rfl rfl ?_
  refine cj_iconst C (v := (0 : Int32)) dX12_wholeOf_2 rfl ?_
  refine cj_istore_n C (i := 3) (lv' := [some (.int x0), some (.long (1 : Int64)), none, some (.int (0 : Int32))]) dX12_wholeOf_3 rfl (by decide) rfl rfl ?_
  exact wX12_wholeOf_4 C hr x0 cpFu (1 : Int64) (0 : Int32) S h
/-! X12_likeliestBy -/
def fX12_likeliestBy_7 (x1 : Int32) : Nat → Int32 → Int64 → Int32 → cpS → Option (Int32 × cpS)
  | 0, _, _, _, _ => none
  | n + 1, x2, x3, x5, S =>
    if (5 : Int32) < x5 then (
    some (x2, S)) else (
    if cpIn (((6 : Int32) * x5) + x1) 36 then (
    cpB (fX12_wholeOf ((5 : Int32) - x5) S) fun z1 S2 =>
    cpLt ((S.2 170 (((6 : Int32) * x5) + x1).toNatClampNeg) * z1) fun y3 =>
    if 0 < (lg_cmp y3 x3) then (
    fX12_likeliestBy_7 x1 n x5 y3 (x5 + 1) S2) else (
    fX12_likeliestBy_7 x1 n x2 x3 (x5 + 1) S2)) else none)
set_option maxRecDepth 100000 in
set_option maxHeartbeats 4000000 in
theorem wX12_likeliestBy_7 (C : cpCx p s m args meth c w A cX12_likeliestBy RX12 8) (hr : meth.sig.returnType = (some .int)) {r : Int32 × cpS} (x1 : Int32) : ∀ (n : Nat) (x2 : Int32) (x3 : Int64) (x5 : Int32) (S : cpS), fX12_likeliestBy_7 x1 n x2 x3 x5 S = some r → cpJ p l e (cpRm 1) s m args below meth c (MQ below (va_Qi (fun x S' => (x, S') = r) (cpWorld w A) A) args s 0 0 A) w A 8 7 [some (.ref (w.2.1 150)), some (.int x1), some (.int x2), some (.long x3), none, some (.int x5), none, none] [] S := by
  intro n
  induction n with
  | zero => intro x2 x3 x5 S h; rw [fX12_likeliestBy_7] at h; cases h
  | succ n ih =>
    intro x2 x3 x5 S h
    rw [fX12_likeliestBy_7] at h
    refine cj_iload C dX12_likeliestBy_7 rfl ?_
    refine cj_iconst C (v := (5 : Int32)) dX12_likeliestBy_9 rfl ?_
    refine cj_icmp_gt C (tgt := 57) dX12_likeliestBy_10 rfl h (fun _ h => ?_) (fun _ h => ?_)
    · refine cj_iload_n C (i := 2) dX12_likeliestBy_57 rfl rfl ?_
      exact cj_ireturn C hr h dX12_likeliestBy_58
    · refine cj_aload_n C (i := 0) dX12_likeliestBy_13 rfl rfl ?_
      refine cj_getR C (d := 170) o_150 rfl gfX12_76 dX12_likeliestBy_14 ?_
      refine cj_bipush C (v := (6 : Int32)) dX12_likeliestBy_17 rfl ?_
      refine cj_iload C dX12_likeliestBy_19 rfl ?_
      refine cj_imul C dX12_likeliestBy_21 ?_
      refine cj_iload_n C (i := 1) dX12_likeliestBy_22 rfl rfl ?_
      refine cj_iadd C dX12_likeliestBy_23 ?_
      refine cj_laload C o_170 h dX12_likeliestBy_24 (fun h => ?_)
      refine cj_iconst C (v := (5 : Int32)) dX12_likeliestBy_25 rfl ?_
      refine cj_iload C dX12_likeliestBy_26 rfl ?_
      refine cj_isub C dX12_likeliestBy_28 ?_
      refine cj_callSl C (As := [.int ((5 : Int32) - x5)]) (rest := [.long (S.2 170 (((6 : Int32) * x5) + x1).toNatClampNeg)]) qX12_wholeOf mw_74_18 rfl rfl (Nat.le_of_ble_eq_true rfl) (by decide) dX12_likeliestBy_29 h (fun _ _ hf => m_X12_wholeOf l w A ((5 : Int32) - x5) S _ hf) (fun z1 S2 h => ?_)
      refine cj_lmul C dX12_likeliestBy_32 ?_
      refine cj_letl h (fun y3 h => ?_)
      refine cj_lstore C (lv' := [some (.ref (w.2.1 150)), some (.int x1), some (.int x2), some (.long x3), none, some (.int x5), some (.long y3), none]) dX12_likeliestBy_33 (by decide) rfl rfl ?_
      refine cj_lload C dX12_likeliestBy_35 rfl ?_
      refine cj_lload_n C (i := 3) dX12_likeliestBy_37 rfl rfl ?_
      refine cj_lcmp C dX12_likeliestBy_38 ?_
      refine cj_if_gt C (tgt := 45) dX12_likeliestBy_39 rfl h (fun _ h => ?_) (fun _ h => ?_)
      · refine cj_iload C dX12_likeliestBy_45 rfl ?_
        refine cj_istore_n C (i := 2) (lv' := [some (.ref (w.2.1 150)), some (.int x1), some (.int x5), some (.long x3), none, some (.int x5), some (.long y3), none]) dX12_likeliestBy_47 rfl (by decide) rfl rfl ?_
        refine cj_lload C dX12_likeliestBy_48 rfl ?_
        refine cj_lstore_n C (i := 3) (lv' := [some (.ref (w.2.1 150)), some (.int x1), some (.int x5), some (.long y3), none, some (.int x5), some (.long y3), none]) dX12_likeliestBy_50 rfl (by decide) rfl rfl ?_
        refine cj_iinc C (v := (x5 + 1)) (lv' := [some (.ref (w.2.1 150)), some (.int x1), some (.int x5), some (.long y3), none, some (.int (x5 + 1)), some (.long y3), none]) dX12_likeliestBy_51 rfl rfl (by decide) rfl rfl ?_
        refine cj_goto C (tgt := 7) dX12_likeliestBy_54 rfl ?_
        refine cj_weak C (lv' := [some (.ref (w.2.1 150)), some (.int x1), some (.int x5), some (.long y3), none, some (.int (x5 + 1)), none, none]) (cpSub_s (cpSub_s (cpSub_s (cpSub_s (cpSub_n (cpSub_s (cpSub_n (cpSub_n cpSub_nil)))))))) ?_
        exact ih x5 y3 (x5 + 1) S2 h
      · refine cj_goto C (tgt := 51) dX12_likeliestBy_42 rfl ?_
        refine cj_iinc C (v := (x5 + 1)) (lv' := [some (.ref (w.2.1 150)), some (.int x1), some (.int x2), some (.long x3), none, some (.int (x5 + 1)), some (.long y3), none]) dX12_likeliestBy_51 rfl rfl (by decide) rfl rfl ?_
        refine cj_goto C (tgt := 7) dX12_likeliestBy_54 rfl ?_
        refine cj_weak C (lv' := [some (.ref (w.2.1 150)), some (.int x1), some (.int x2), some (.long x3), none, some (.int (x5 + 1)), none, none]) (cpSub_s (cpSub_s (cpSub_s (cpSub_s (cpSub_n (cpSub_s (cpSub_n (cpSub_n cpSub_nil)))))))) ?_
        exact ih x2 x3 (x5 + 1) S2 h
def fX12_likeliestBy (x1 : Int32) (S : cpS) : Option (Int32 × cpS) :=
    fX12_likeliestBy_7 x1 cpFu (-1 : Int32) (0 : Int64) (0 : Int32) S
set_option maxRecDepth 100000 in
set_option maxHeartbeats 4000000 in
theorem m_X12_likeliestBy (l : Launch) (w : cpW) (A : Nat → Prop) (x1 : Int32) (S : cpS) (r : Int32 × cpS) (h : fX12_likeliestBy x1 S = some r) : cpMi l yX12_likeliestBy cX12_likeliestBy 8 ((some .int)) 1 w A [.ref (w.2.1 150), .int x1] S r := by
  refine cpMi.of (lv := [some (.ref (w.2.1 150)), some (.int x1), none, none, none, none, none, none]) (by decide) (Nat.le_of_ble_eq_true rfl) rfl (fun p e s m args below meth c C hr => ?_)
  replace C : cpCx p s m args meth c w A cX12_likeliestBy RX12 8 := C
  rw [fX12_likeliestBy] at h
  refine cj_iconst C (v := (-1 : Int32)) dX12_likeliestBy_0 rfl ?_
  refine cj_istore_n C (i := 2) (lv' := [some (.ref (w.2.1 150)), some (.int x1), some (.int (-1 : Int32)), none, none, none, none, none]) dX12_likeliestBy_1 rfl (by decide) rfl rfl ?_
  refine cj_lconst C (v := (0 : Int64)) dX12_likeliestBy_2 rfl ?_
  refine cj_lstore_n C (i := 3) (lv' := [some (.ref (w.2.1 150)), some (.int x1), some (.int (-1 : Int32)), some (.long (0 : Int64)), none, none, none, none]) dX12_likeliestBy_3 rfl (by decide) rfl rfl ?_
  refine cj_iconst C (v := (0 : Int32)) dX12_likeliestBy_4 rfl ?_
  refine cj_istore C (lv' := [some (.ref (w.2.1 150)), some (.int x1), some (.int (-1 : Int32)), some (.long (0 : Int64)), none, some (.int (0 : Int32)), none, none]) dX12_likeliestBy_5 (by decide) rfl rfl ?_
  exact wX12_likeliestBy_7 C hr x1 cpFu (-1 : Int32) (0 : Int64) (0 : Int32) S h
/-! X12_common -/
def fX12_common (rec : Int64 → Int64 → cpS → Option (Int64 × cpS)) (x0 : Int64) (x2 : Int64) (S : cpS) : Option (Int64 × cpS) :=
    if (lg_cmp x2 (0 : Int64)) = 0 then (
    some (x0, S)) else (
    if x2 = 0 then none else (
    cpB (rec x2 (cpReml x0 x2) S) fun z1 S2 =>
    some (z1, S2)))
set_option maxRecDepth 100000 in
set_option maxHeartbeats 4000000 in
theorem m_X12_common (l : Launch) (w : cpW) (A : Nat → Prop) {rec : Int64 → Int64 → cpS → Option (Int64 × cpS)} {dz : Nat} (hz : 0 ≤ dz) (hrec0 : ∀ (x0 : Int64) (x2 : Int64) (S : cpS) (r : Int64 × cpS), rec x0 x2 S = some r → cpMl l yX12_common cX12_common 4 ((some .long)) dz w A [.long x0, .long x2] S r) (x0 : Int64) (x2 : Int64) (S : cpS) (r : Int64 × cpS) (h : fX12_common rec x0 x2 S = some r) : cpMl l yX12_common cX12_common 4 ((some .long)) (dz + 1) w A [.long x0, .long x2] S r := by
  refine cpMl.of (lv := [some (.long x0), none, some (.long x2), none]) (by decide) (Nat.le_of_ble_eq_true rfl) rfl (fun p e s m args below meth c C hr => ?_)
  replace C : cpCx p s m args meth c w A cX12_common RX12 4 := C
  rw [fX12_common] at h
  refine cj_lload_n C (i := 2) dX12_common_0 rfl rfl ?_
  refine cj_lconst C (v := (0 : Int64)) dX12_common_1 rfl ?_
  refine cj_lcmp C dX12_common_2 ?_
  refine cj_if_ne C (tgt := 10) dX12_common_3 rfl h (fun _ h => ?_) (fun _ h => ?_)
  · refine cj_lload_n C (i := 0) dX12_common_6 rfl rfl ?_
    refine cj_goto C (tgt := 17) dX12_common_7 rfl ?_
    exact cj_lreturn C hr h dX12_common_17
  · refine cj_lload_n C (i := 2) dX12_common_10 rfl rfl ?_
    refine cj_lload_n C (i := 0) dX12_common_11 rfl rfl ?_
    refine cj_lload_n C (i := 2) dX12_common_12 rfl rfl ?_
    obtain ⟨hne, h⟩ := cpGuardN h
    refine ck_lrem C dX12_common_13 hne ?_
    refine cj_callSl C (As := [.long x2, .long (cpReml x0 x2)]) (rest := []) qX12_common mw_74_21 rfl rfl (Nat.le_of_ble_eq_true rfl) (by omega) dX12_common_14 h (fun _ _ hf => hrec0 x2 (cpReml x0 x2) S _ hf) (fun z1 S2 h => ?_)
    exact cj_lreturn C hr h dX12_common_17
def fX12c_rec : Nat → Int64 → Int64 → cpS → Option (Int64 × cpS)
  | 0, _, _, _ => none
  | n + 1, x0, x2, S => fX12_common (fX12c_rec n) x0 x2 S
theorem m_X12c_rec (l : Launch) (w : cpW) (A : Nat → Prop) : ∀ n : Nat, (∀ (x0 : Int64) (x2 : Int64) (S : cpS) (r : Int64 × cpS), fX12c_rec n x0 x2 S = some r → cpMl l yX12_common cX12_common 4 ((some .long)) (0 + n) w A [.long x0, .long x2] S r) := by
  intro n
  induction n with
  | zero => exact (fun x0 x2 S r h => (by rw [fX12c_rec] at h; cases h))
  | succ n ih =>
    have h0 := ih
    exact (fun x0 x2 S r h => m_X12_common l w A (dz := 0 + n) (by omega) h0 x0 x2 S r (by rw [fX12c_rec] at h; exact h))
/-! X12_chance -/
def fX12_chance (x1 : Int32) (x2 : Int32) (x3 : Int32) (S : cpS) : Option (Int32 × cpS) :=
    cpLt (cpI S 150 0 (0 : Int32)) fun S1 =>
    cpB (fX12_noCoin x1 x2 S1) fun z2 S3 =>
    if z2 = 0 then (
    cpB (fX12_within (Int32.toInt64 x3) (0 : Int64) (1 : Int64) S3) fun z4 S5 =>
    if z4 = 0 then (
    some ((-2 : Int32), S5)) else (
    cpB (fX12_laysLikely x1 S5) fun _ S7 =>
    cpB (fX12_likeliestBy x2 S7) fun z8 S9 =>
    if z8 = (-1 : Int32) then (
    some (x3, S9)) else (
    if cpIn (((6 : Int32) * z8) + x2) 36 then (
    cpLt (S9.2 170 (((6 : Int32) * z8) + x2).toNatClampNeg) fun y10 =>
    if x3 = 0 then (
    cpB (fX12_wholeOf z8 S9) fun z11 S12 =>
    cpB (fX12c_rec 100 y10 z11 S12) fun z13 S14 =>
    if z13 = 0 then none else (
    some ((Int64.toInt32 (y10 / z13)), S14))) else (
    cpB (fX12_wholeOf z8 S9) fun z15 S16 =>
    cpB (fX12_wholeOf z8 S16) fun z17 S18 =>
    cpB (fX12c_rec 100 y10 z17 S18) fun z19 S20 =>
    if z19 = 0 then none else (
    some ((Int64.toInt32 (z15 / z19)), S20)))) else none))) else (
    some ((-2 : Int32), S3))
set_option maxRecDepth 100000 in
set_option maxHeartbeats 4000000 in
theorem m_X12_chance (l : Launch) (w : cpW) (A : Nat → Prop) (x1 : Int32) (x2 : Int32) (x3 : Int32) (S : cpS) (r : Int32 × cpS) (h : fX12_chance x1 x2 x3 S = some r) : cpMi l yX12_chance cX12_chance 7 ((some .int)) 101 w A [.ref (w.2.1 150), .int x1, .int x2, .int x3] S r := by
  refine cpMi.of (lv := [some (.ref (w.2.1 150)), some (.int x1), some (.int x2), some (.int x3), none, none, none]) (by decide) (Nat.le_of_ble_eq_true rfl) rfl (fun p e s m args below meth c C hr => ?_)
  replace C : cpCx p s m args meth c w A cX12_chance RX12 7 := C
  rw [fX12_chance] at h
  refine cj_aload_n C (i := 0) dX12_chance_0 rfl rfl ?_
  refine cj_iconst C (v := (0 : Int32)) dX12_chance_1 rfl ?_
  refine cj_put C (j := 0) o_150 rfl pfX12_1 rfl rfl dX12_chance_2 ?_
  refine cj_lets h (fun S1 h => ?_)
  refine cj_aload_n C (i := 0) dX12_chance_5 rfl rfl ?_
  refine cj_iload_n C (i := 1) dX12_chance_6 rfl rfl ?_
  refine cj_iload_n C (i := 2) dX12_chance_7 rfl rfl ?_
  refine cj_callVi C (As := [.int x1, .int x2]) (rest := []) qX12_noCoin mw_49_6 o_150 rfl rfl rfl (Nat.le_of_ble_eq_true rfl) (by decide) dX12_chance_8 h (fun _ _ hf => m_X12_noCoin l w A x1 x2 S1 _ hf) (fun z2 S3 h => ?_)
  refine cj_if_ne C (tgt := 24) dX12_chance_11 rfl h (fun _ h => ?_) (fun _ h => ?_)
  · refine cj_iload_n C (i := 3) dX12_chance_14 rfl rfl ?_
    refine cj_i2l C dX12_chance_15 ?_
    refine cj_lconst C (v := (0 : Int64)) dX12_chance_16 rfl ?_
    refine cj_lconst C (v := (1 : Int64)) dX12_chance_17 rfl ?_
    refine cj_callSi C (As := [.long (Int32.toInt64 x3), .long (0 : Int64), .long (1 : Int64)]) (rest := []) qX12_within mw_23_15 rfl rfl (Nat.le_of_ble_eq_true rfl) (by decide) dX12_chance_18 h (fun _ _ hf => m_X12_within l w A (Int32.toInt64 x3) (0 : Int64) (1 : Int64) S3 _ hf) (fun z4 S5 h => ?_)
    refine cj_if_ne C (tgt := 27) dX12_chance_21 rfl h (fun _ h => ?_) (fun _ h => ?_)
    · refine cj_bipush C (v := (-2 : Int32)) dX12_chance_24 rfl ?_
      exact cj_ireturn C hr h dX12_chance_26
    · refine cj_aload_n C (i := 0) dX12_chance_27 rfl rfl ?_
      refine cj_iload_n C (i := 1) dX12_chance_28 rfl rfl ?_
      refine cj_callVv C (As := [.int x1]) (rest := []) qX12_laysLikely mw_74_2 o_150 rfl rfl rfl (Nat.le_of_ble_eq_true rfl) (by decide) dX12_chance_29 h (fun _ _ hf => m_X12_laysLikely l w A x1 S5 _ hf) (fun z6 S7 h => ?_)
      refine cj_aload_n C (i := 0) dX12_chance_32 rfl rfl ?_
      refine cj_iload_n C (i := 2) dX12_chance_33 rfl rfl ?_
      refine cj_callVi C (As := [.int x2]) (rest := []) qX12_likeliestBy mw_74_14 o_150 rfl rfl rfl (Nat.le_of_ble_eq_true rfl) (by decide) dX12_chance_34 h (fun _ _ hf => m_X12_likeliestBy l w A x2 S7 _ hf) (fun z8 S9 h => ?_)
      refine cj_istore C (lv' := [some (.ref (w.2.1 150)), some (.int x1), some (.int x2), some (.int x3), some (.int z8), none, none]) dX12_chance_37 (by decide) rfl rfl ?_
      refine cj_iload C dX12_chance_39 rfl ?_
      refine cj_iconst C (v := (-1 : Int32)) dX12_chance_41 rfl ?_
      refine cj_icmp_ne C (tgt := 47) dX12_chance_42 rfl h (fun _ h => ?_) (fun _ h => ?_)
      · refine cj_iload_n C (i := 3) dX12_chance_45 rfl rfl ?_
        exact cj_ireturn C hr h dX12_chance_46
      · refine cj_aload_n C (i := 0) dX12_chance_47 rfl rfl ?_
        refine cj_getR C (d := 170) o_150 rfl gfX12_76 dX12_chance_48 ?_
        refine cj_bipush C (v := (6 : Int32)) dX12_chance_51 rfl ?_
        refine cj_iload C dX12_chance_53 rfl ?_
        refine cj_imul C dX12_chance_55 ?_
        refine cj_iload_n C (i := 2) dX12_chance_56 rfl rfl ?_
        refine cj_iadd C dX12_chance_57 ?_
        refine cj_laload C o_170 h dX12_chance_58 (fun h => ?_)
        refine cj_letl h (fun y10 h => ?_)
        refine cj_lstore C (lv' := [some (.ref (w.2.1 150)), some (.int x1), some (.int x2), some (.int x3), some (.int z8), some (.long y10), none]) dX12_chance_59 (by decide) rfl rfl ?_
        refine cj_iload_n C (i := 3) dX12_chance_61 rfl rfl ?_
        refine cj_if_ne C (tgt := 70) dX12_chance_62 rfl h (fun _ h => ?_) (fun _ h => ?_)
        · refine cj_lload C dX12_chance_65 rfl ?_
          refine cj_goto C (tgt := 75) dX12_chance_67 rfl ?_
          refine cj_lload C dX12_chance_75 rfl ?_
          refine cj_iload C dX12_chance_77 rfl ?_
          refine cj_callSl C (As := [.int z8]) (rest := [.long y10, .long y10]) qX12_wholeOf mw_74_18 rfl rfl (Nat.le_of_ble_eq_true rfl) (by decide) dX12_chance_79 h (fun _ _ hf => m_X12_wholeOf l w A z8 S9 _ hf) (fun z11 S12 h => ?_)
          refine cj_callSl C (As := [.long y10, .long z11]) (rest := [.long y10]) qX12_common mw_74_21 rfl rfl (Nat.le_of_ble_eq_true rfl) (by decide) dX12_chance_82 h (fun _ _ hf => (m_X12c_rec l w A 100) y10 z11 S12 _ hf) (fun z13 S14 h => ?_)
          obtain ⟨hne, h⟩ := cpGuardN h
          refine cj_ldiv C dX12_chance_85 hne ?_
          refine cj_l2i C dX12_chance_86 ?_
          exact cj_ireturn C hr h dX12_chance_87
        · refine cj_iload C dX12_chance_70 rfl ?_
          refine cj_callSl C (As := [.int z8]) (rest := []) qX12_wholeOf mw_74_18 rfl rfl (Nat.le_of_ble_eq_true rfl) (by decide) dX12_chance_72 h (fun _ _ hf => m_X12_wholeOf l w A z8 S9 _ hf) (fun z15 S16 h => ?_)
          refine cj_lload C dX12_chance_75 rfl ?_
          refine cj_iload C dX12_chance_77 rfl ?_
          refine cj_callSl C (As := [.int z8]) (rest := [.long y10, .long z15]) qX12_wholeOf mw_74_18 rfl rfl (Nat.le_of_ble_eq_true rfl) (by decide) dX12_chance_79 h (fun _ _ hf => m_X12_wholeOf l w A z8 S16 _ hf) (fun z17 S18 h => ?_)
          refine cj_callSl C (As := [.long y10, .long z17]) (rest := [.long z15]) qX12_common mw_74_21 rfl rfl (Nat.le_of_ble_eq_true rfl) (by decide) dX12_chance_82 h (fun _ _ hf => (m_X12c_rec l w A 100) y10 z17 S18 _ hf) (fun z19 S20 h => ?_)
          obtain ⟨hne, h⟩ := cpGuardN h
          refine cj_ldiv C dX12_chance_85 hne ?_
          refine cj_l2i C dX12_chance_86 ?_
          exact cj_ireturn C hr h dX12_chance_87
  · refine cj_bipush C (v := (-2 : Int32)) dX12_chance_24 rfl ?_
    exact cj_ireturn C hr h dX12_chance_26
end CPV
