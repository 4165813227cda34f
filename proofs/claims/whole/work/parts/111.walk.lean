section CPV
variable {p : Program} {l : Launch} {e : Env} {s : State} {m : MethodId} {args : Array Value} {below : List Frame} {meth : Method} {c : Code} {w : cpW} {A : Nat → Prop}
/-! X12_fails -/
def fX12_fails (x1 : Int32) (S : cpS) : Option (Unit × cpS) :=
    if (S.1 150 11) = 0 then (
    if (S.1 150 9) = (27 : Int32) then (
    cpLt (cpI S 150 11 (1 : Int32)) fun S1 =>
    cpLt (cpI S1 150 12 (S1.1 150 6)) fun S2 =>
    some ((), S2)) else (
    cpLt (cpI S 150 11 x1) fun S3 =>
    cpLt (cpI S3 150 12 (S3.1 150 6)) fun S4 =>
    some ((), S4))) else (
    some ((), S))
set_option maxRecDepth 100000 in
set_option maxHeartbeats 4000000 in
theorem m_X12_fails (l : Launch) (w : cpW) (A : Nat → Prop) (x1 : Int32) (S : cpS) (r : Unit × cpS) (h : fX12_fails x1 S = some r) : cpMv l yX12_fails cX12_fails 2 (none) 0 w A [.ref (w.2.1 150), .int x1] S r := by
  refine cpMv.of (lv := [some (.ref (w.2.1 150)), some (.int x1)]) (by decide) (Nat.le_of_ble_eq_true rfl) rfl (fun p e s m args below meth c C hr => ?_)
  replace C : cpCx p s m args meth c w A cX12_fails RX12 2 := C
  rw [fX12_fails] at h
  refine cj_aload_n C (i := 0) dX12_fails_0 rfl rfl ?_
  refine cj_getI C (j := 11) o_150 rfl gfX12_138 dX12_fails_1 ?_
  refine cj_if_eq C (tgt := 8) dX12_fails_4 rfl h (fun _ h => ?_) (fun _ h => ?_)
  · refine cj_aload_n C (i := 0) dX12_fails_8 rfl rfl ?_
    refine cj_aload_n C (i := 0) dX12_fails_9 rfl rfl ?_
    refine cj_getI C (j := 9) o_150 rfl gfX12_120 dX12_fails_10 ?_
    refine cj_bipush C (v := (27 : Int32)) dX12_fails_13 rfl ?_
    refine cj_icmp_ne C (tgt := 22) dX12_fails_15 rfl h (fun _ h => ?_) (fun _ h => ?_)
    · refine cj_iconst C (v := (1 : Int32)) dX12_fails_18 rfl ?_
      refine cj_goto C (tgt := 23) dX12_fails_19 rfl ?_
      refine cj_put C (j := 11) o_150 rfl pfX12_138 rfl rfl dX12_fails_23 ?_
      refine cj_lets h (fun S1 h => ?_)
      refine cj_aload_n C (i := 0) dX12_fails_26 rfl rfl ?_
      refine cj_aload_n C (i := 0) dX12_fails_27 rfl rfl ?_
      refine cj_getI C (j := 6) o_150 rfl gfX12_110 dX12_fails_28 ?_
      refine cj_put C (j := 12) o_150 rfl pfX12_141 rfl rfl dX12_fails_31 ?_
      refine cj_lets h (fun S2 h => ?_)
      exact cj_vreturn C hr h dX12_fails_34
    · refine cj_iload_n C (i := 1) dX12_fails_22 rfl rfl ?_
      refine cj_put C (j := 11) o_150 rfl pfX12_138 rfl rfl dX12_fails_23 ?_
      refine cj_lets h (fun S3 h => ?_)
      refine cj_aload_n C (i := 0) dX12_fails_26 rfl rfl ?_
      refine cj_aload_n C (i := 0) dX12_fails_27 rfl rfl ?_
      refine cj_getI C (j := 6) o_150 rfl gfX12_110 dX12_fails_28 ?_
      refine cj_put C (j := 12) o_150 rfl pfX12_141 rfl rfl dX12_fails_31 ?_
      refine cj_lets h (fun S4 h => ?_)
      exact cj_vreturn C hr h dX12_fails_34
  · exact cj_vreturn C hr h dX12_fails_7
/-! X12_is -/
def fX12_is (x1 : Int32) (S : cpS) : Option (Int32 × cpS) :=
    if (S.1 150 11) = 0 then (
    if (S.1 150 9) = x1 then (
    some ((1 : Int32), S)) else (
    some ((0 : Int32), S))) else (
    some ((0 : Int32), S))
set_option maxRecDepth 100000 in
set_option maxHeartbeats 4000000 in
theorem m_X12_is (l : Launch) (w : cpW) (A : Nat → Prop) (x1 : Int32) (S : cpS) (r : Int32 × cpS) (h : fX12_is x1 S = some r) : cpMi l yX12_is cX12_is 2 ((some .boolean)) 0 w A [.ref (w.2.1 150), .int x1] S r := by
  refine cpMi.of (lv := [some (.ref (w.2.1 150)), some (.int x1)]) (by decide) (Nat.le_of_ble_eq_true rfl) rfl (fun p e s m args below meth c C hr => ?_)
  replace C : cpCx p s m args meth c w A cX12_is RX12 2 := C
  rw [fX12_is] at h
  refine cj_aload_n C (i := 0) dX12_is_0 rfl rfl ?_
  refine cj_getI C (j := 11) o_150 rfl gfX12_138 dX12_is_1 ?_
  refine cj_if_ne C (tgt := 19) dX12_is_4 rfl h (fun _ h => ?_) (fun _ h => ?_)
  · refine cj_aload_n C (i := 0) dX12_is_7 rfl rfl ?_
    refine cj_getI C (j := 9) o_150 rfl gfX12_120 dX12_is_8 ?_
    refine cj_iload_n C (i := 1) dX12_is_11 rfl rfl ?_
    refine cj_icmp_ne C (tgt := 19) dX12_is_12 rfl h (fun _ h => ?_) (fun _ h => ?_)
    · refine cj_iconst C (v := (1 : Int32)) dX12_is_15 rfl ?_
      refine cj_goto C (tgt := 20) dX12_is_16 rfl ?_
      exact cj_zreturn C hr rfl h dX12_is_20
    · refine cj_iconst C (v := (0 : Int32)) dX12_is_19 rfl ?_
      exact cj_zreturn C hr rfl h dX12_is_20
  · refine cj_iconst C (v := (0 : Int32)) dX12_is_19 rfl ?_
    exact cj_zreturn C hr rfl h dX12_is_20
/-! X12_eats -/
def fX12_eats (x1 : Int32) (S : cpS) : Option (Int32 × cpS) :=
    cpB (fX12_is x1 S) fun z1 S2 =>
    if z1 = 0 then (
    some ((0 : Int32), S2)) else (
    cpB (fX12_next S2) fun _ S4 =>
    some ((1 : Int32), S4))
set_option maxRecDepth 100000 in
set_option maxHeartbeats 4000000 in
theorem m_X12_eats (l : Launch) (w : cpW) (A : Nat → Prop) (x1 : Int32) (S : cpS) (r : Int32 × cpS) (h : fX12_eats x1 S = some r) : cpMi l yX12_eats cX12_eats 2 ((some .boolean)) 6 w A [.ref (w.2.1 150), .int x1] S r := by
  refine cpMi.of (lv := [some (.ref (w.2.1 150)), some (.int x1)]) (by decide) (Nat.le_of_ble_eq_true rfl) rfl (fun p e s m args below meth c C hr => ?_)
  replace C : cpCx p s m args meth c w A cX12_eats RX12 2 := C
  rw [fX12_eats] at h
  refine cj_aload_n C (i := 0) dX12_eats_0 rfl rfl ?_
  refine cj_iload_n C (i := 1) dX12_eats_1 rfl rfl ?_
  refine cj_callVi C (As := [.int x1]) (rest := []) qX12_is mw_24_20 o_150 rfl rfl rfl (Nat.le_of_ble_eq_true rfl) (by decide) dX12_eats_2 h (fun _ _ hf => m_X12_is l w A x1 S _ hf) (fun z1 S2 h => ?_)
  refine cj_if_ne C (tgt := 10) dX12_eats_5 rfl h (fun _ h => ?_) (fun _ h => ?_)
  · refine cj_iconst C (v := (0 : Int32)) dX12_eats_8 rfl ?_
    exact cj_zreturn C hr rfl h dX12_eats_9
  · refine cj_aload_n C (i := 0) dX12_eats_10 rfl rfl ?_
    refine cj_callVv C (As := []) (rest := []) qX12_next mw_23_18 o_150 rfl rfl rfl (Nat.le_of_ble_eq_true rfl) (by decide) dX12_eats_11 h (fun _ _ hf => m_X12_next l w A S2 _ hf) (fun z3 S4 h => ?_)
    refine cj_iconst C (v := (1 : Int32)) dX12_eats_14 rfl ?_
    exact cj_zreturn C hr rfl h dX12_eats_15
/-! X12_takes -/
def fX12_takes_37 (S : cpS) : Option (Int32 × cpS) :=
    cpLt (S.1 150 10) fun y1 =>
    if (S.1 150 11) = 0 then (
    cpB (fX12_next S) fun _ S3 =>
    some (y1, S3)) else (
    some (y1, S))
set_option maxRecDepth 100000 in
set_option maxHeartbeats 4000000 in
theorem wX12_takes_37 (C : cpCx p s m args meth c w A cX12_takes RX12 4) (hr : meth.sig.returnType = (some .int)) {r : Int32 × cpS} (S : cpS) (h : fX12_takes_37 S = some r) : cpJ p l e (cpRm 6) s m args below meth c (MQ below (va_Qi (fun x S' => (x, S') = r) (cpWorld w A) A) args s 0 0 A) w A 4 37 [some (.ref (w.2.1 150)), none, none, none] [] S := by
  rw [fX12_takes_37] at h
  refine cj_aload_n C (i := 0) dX12_takes_37 rfl rfl ?_
  refine cj_getI C (j := 10) o_150 rfl gfX12_133 dX12_takes_38 ?_
  refine cj_let h (fun y1 h => ?_)
  refine cj_istore_n C (i := 3) (lv' := [some (.ref (w.2.1 150)), none, none, some (.int y1)]) dX12_takes_41 rfl (by decide) rfl rfl ?_
  refine cj_aload_n C (i := 0) dX12_takes_42 rfl rfl ?_
  refine cj_getI C (j := 11) o_150 rfl gfX12_138 dX12_takes_43 ?_
  refine cj_if_ne C (tgt := 53) dX12_takes_46 rfl h (fun _ h => ?_) (fun _ h => ?_)
  · refine cj_aload_n C (i := 0) dX12_takes_49 rfl rfl ?_
    refine cj_callVv C (As := []) (rest := []) qX12_next mw_23_18 o_150 rfl rfl rfl (Nat.le_of_ble_eq_true rfl) (by decide) dX12_takes_50 h (fun _ _ hf => m_X12_next l w A S _ hf) (fun z2 S3 h => ?_)
    refine cj_iload_n C (i := 3) dX12_takes_53 rfl rfl ?_
    exact cj_ireturn C hr h dX12_takes_54
  · refine cj_iload_n C (i := 3) dX12_takes_53 rfl rfl ?_
    exact cj_ireturn C hr h dX12_takes_54
def fX12_takes (x1 : Int32) (x2 : Int32) (S : cpS) : Option (Int32 × cpS) :=
    cpB (fX12_is (25 : Int32) S) fun z1 S2 =>
    if z1 = 0 then (
    cpB (fX12_fails (2 : Int32) S2) fun _ S4 =>
    fX12_takes_37 S4) else (
    cpB (fX12_within (Int32.toInt64 (S2.1 150 10)) (Int32.toInt64 x1) (Int32.toInt64 x2) S2) fun z5 S6 =>
    if z5 = 0 then (
    cpB (fX12_fails (3 : Int32) S6) fun _ S8 =>
    fX12_takes_37 S8) else (
    fX12_takes_37 S6))
set_option maxRecDepth 100000 in
set_option maxHeartbeats 4000000 in
theorem m_X12_takes (l : Launch) (w : cpW) (A : Nat → Prop) (x1 : Int32) (x2 : Int32) (S : cpS) (r : Int32 × cpS) (h : fX12_takes x1 x2 S = some r) : cpMi l yX12_takes cX12_takes 4 ((some .int)) 6 w A [.ref (w.2.1 150), .int x1, .int x2] S r := by
  refine cpMi.of (lv := [some (.ref (w.2.1 150)), some (.int x1), some (.int x2), none]) (by decide) (Nat.le_of_ble_eq_true rfl) rfl (fun p e s m args below meth c C hr => ?_)
  replace C : cpCx p s m args meth c w A cX12_takes RX12 4 := C
  rw [fX12_takes] at h
  refine cj_aload_n C (i := 0) dX12_takes_0 rfl rfl ?_
  refine cj_bipush C (v := (25 : Int32)) dX12_takes_1 rfl ?_
  refine cj_callVi C (As := [.int (25 : Int32)]) (rest := []) qX12_is mw_24_20 o_150 rfl rfl rfl (Nat.le_of_ble_eq_true rfl) (by decide) dX12_takes_3 h (fun _ _ hf => m_X12_is l w A (25 : Int32) S _ hf) (fun z1 S2 h => ?_)
  refine cj_if_ne C (tgt := 17) dX12_takes_6 rfl h (fun _ h => ?_) (fun _ h => ?_)
  · refine cj_aload_n C (i := 0) dX12_takes_9 rfl rfl ?_
    refine cj_iconst C (v := (2 : Int32)) dX12_takes_10 rfl ?_
    refine cj_callVv C (As := [.int (2 : Int32)]) (rest := []) qX12_fails mw_25_0 o_150 rfl rfl rfl (Nat.le_of_ble_eq_true rfl) (by decide) dX12_takes_11 h (fun _ _ hf => m_X12_fails l w A (2 : Int32) S2 _ hf) (fun z3 S4 h => ?_)
    refine cj_goto C (tgt := 37) dX12_takes_14 rfl ?_
    refine cj_weak C (lv' := [some (.ref (w.2.1 150)), none, none, none]) (cpSub_s (cpSub_n (cpSub_n (cpSub_n cpSub_nil)))) ?_
    exact wX12_takes_37 C hr S4 h
  · refine cj_aload_n C (i := 0) dX12_takes_17 rfl rfl ?_
    refine cj_getI C (j := 10) o_150 rfl gfX12_133 dX12_takes_18 ?_
    refine cj_i2l C dX12_takes_21 ?_
    refine cj_iload_n C (i := 1) dX12_takes_22 rfl rfl ?_
    refine cj_i2l C dX12_takes_23 ?_
    refine cj_iload_n C (i := 2) dX12_takes_24 rfl rfl ?_
    refine cj_i2l C dX12_takes_25 ?_
    refine cj_callSi C (As := [.long (Int32.toInt64 (S2.1 150 10)), .long (Int32.toInt64 x1), .long (Int32.toInt64 x2)]) (rest := []) qX12_within mw_23_15 rfl rfl (Nat.le_of_ble_eq_true rfl) (by decide) dX12_takes_26 h (fun _ _ hf => m_X12_within l w A (Int32.toInt64 (S2.1 150 10)) (Int32.toInt64 x1) (Int32.toInt64 x2) S2 _ hf) (fun z5 S6 h => ?_)
    refine cj_if_ne C (tgt := 37) dX12_takes_29 rfl h (fun _ h => ?_) (fun _ h => ?_)
    · refine cj_aload_n C (i := 0) dX12_takes_32 rfl rfl ?_
      refine cj_iconst C (v := (3 : Int32)) dX12_takes_33 rfl ?_
      refine cj_callVv C (As := [.int (3 : Int32)]) (rest := []) qX12_fails mw_25_0 o_150 rfl rfl rfl (Nat.le_of_ble_eq_true rfl) (by decide) dX12_takes_34 h (fun _ _ hf => m_X12_fails l w A (3 : Int32) S6 _ hf) (fun z7 S8 h => ?_)
      refine cj_weak C (lv' := [some (.ref (w.2.1 150)), none, none, none]) (cpSub_s (cpSub_n (cpSub_n (cpSub_n cpSub_nil)))) ?_
      exact wX12_takes_37 C hr S8 h
    · refine cj_weak C (lv' := [some (.ref (w.2.1 150)), none, none, none]) (cpSub_s (cpSub_n (cpSub_n (cpSub_n cpSub_nil)))) ?_
      exact wX12_takes_37 C hr S6 h
/-! X12_isIn -/
def fX12_isIn (x0 : Int64) (x2 : Int32) (S : cpS) : Option (Int32 × cpS) :=
    if (lg_cmp ((cpShrl x0 x2) &&& (1 : Int64)) (1 : Int64)) = 0 then (
    some ((1 : Int32), S)) else (
    some ((0 : Int32), S))
set_option maxRecDepth 100000 in
set_option maxHeartbeats 4000000 in
theorem m_X12_isIn (l : Launch) (w : cpW) (A : Nat → Prop) (x0 : Int64) (x2 : Int32) (S : cpS) (r : Int32 × cpS) (h : fX12_isIn x0 x2 S = some r) : cpMi l yX12_isIn cX12_isIn 3 ((some .boolean)) 0 w A [.long x0, .int x2] S r := by
  refine cpMi.of (lv := [some (.long x0), none, some (.int x2)]) (by decide) (Nat.le_of_ble_eq_true rfl) rfl (fun p e s m args below meth c C hr => ?_)
  replace C : cpCx p s m args meth c w A cX12_isIn RX12 3 := C
  rw [fX12_isIn] at h
  refine cj_lload_n C (i := 0) dX12_isIn_0 rfl rfl ?_
  refine cj_iload_n C (i := 2) dX12_isIn_1 rfl rfl ?_
  refine ck_lshr C dX12_isIn_2 ?_
  refine cj_lconst C (v := (1 : Int64)) dX12_isIn_3 rfl ?_
  refine cj_land C dX12_isIn_4 ?_
  refine cj_lconst C (v := (1 : Int64)) dX12_isIn_5 rfl ?_
  refine cj_lcmp C dX12_isIn_6 ?_
  refine cj_if_ne C (tgt := 14) dX12_isIn_7 rfl h (fun _ h => ?_) (fun _ h => ?_)
  · refine cj_iconst C (v := (1 : Int32)) dX12_isIn_10 rfl ?_
    refine cj_goto C (tgt := 15) dX12_isIn_11 rfl ?_
    exact cj_zreturn C hr rfl h dX12_isIn_15
  · refine cj_iconst C (v := (0 : Int32)) dX12_isIn_14 rfl ?_
    exact cj_zreturn C hr rfl h dX12_isIn_15
/-! X12_wordOf -/
def fX12_wordOf (x1 : Int32) (S : cpS) : Option (Int32 × cpS) :=
    if x1 = (2 : Int32) then (
    some ((4 : Int32), S)) else (if x1 = (3 : Int32) then (
    some ((-1 : Int32), S)) else (if x1 = (4 : Int32) then (
    some ((3 : Int32), S)) else (if x1 = (5 : Int32) then (
    some ((-1 : Int32), S)) else (if x1 = (6 : Int32) then (
    some ((-1 : Int32), S)) else (if x1 = (7 : Int32) then (
    some ((0 : Int32), S)) else (if x1 = (8 : Int32) then (
    some ((-1 : Int32), S)) else (if x1 = (9 : Int32) then (
    some ((-1 : Int32), S)) else (if x1 = (10 : Int32) then (
    some ((1 : Int32), S)) else (if x1 = (11 : Int32) then (
    some ((-1 : Int32), S)) else (if x1 = (12 : Int32) then (
    some ((-1 : Int32), S)) else (if x1 = (13 : Int32) then (
    some ((-1 : Int32), S)) else (if x1 = (14 : Int32) then (
    some ((-1 : Int32), S)) else (if x1 = (15 : Int32) then (
    some ((-1 : Int32), S)) else (if x1 = (16 : Int32) then (
    some ((-1 : Int32), S)) else (if x1 = (17 : Int32) then (
    some ((-1 : Int32), S)) else (if x1 = (18 : Int32) then (
    some ((2 : Int32), S)) else (if x1 = (19 : Int32) then (
    if (S.1 150 15) = (1 : Int32) then (
    some ((5 : Int32), S)) else (
    some ((-1 : Int32), S))) else (
    some ((-1 : Int32), S)))))))))))))))))))
set_option maxRecDepth 100000 in
set_option maxHeartbeats 4000000 in
theorem m_X12_wordOf (l : Launch) (w : cpW) (A : Nat → Prop) (x1 : Int32) (S : cpS) (r : Int32 × cpS) (h : fX12_wordOf x1 S = some r) : cpMi l yX12_wordOf cX12_wordOf 2 ((some .int)) 0 w A [.ref (w.2.1 150), .int x1] S r := by
  refine cpMi.of (lv := [some (.ref (w.2.1 150)), some (.int x1)]) (by decide) (Nat.le_of_ble_eq_true rfl) rfl (fun p e s m args below meth c C hr => ?_)
  replace C : cpCx p s m args meth c w A cX12_wordOf RX12 2 := C
  rw [fX12_wordOf] at h
  refine cj_iload_n C (i := 1) dX12_wordOf_0 rfl rfl ?_
  by_cases hs0 : x1 = (2 : Int32)
  · rw [if_pos hs0] at h
    refine cj_tableIn C (tgt := 96) dX12_wordOf_1 (by rw [hs0]; decide) (by rw [hs0]; decide) (by rw [hs0]; rfl) rfl ?_
    refine cj_iconst C (v := (4 : Int32)) dX12_wordOf_96 rfl ?_
    exact cj_ireturn C hr h dX12_wordOf_97
  rw [if_neg hs0] at h
  by_cases hs1 : x1 = (3 : Int32)
  · rw [if_pos hs1] at h
    refine cj_tableIn C (tgt := 112) dX12_wordOf_1 (by rw [hs1]; decide) (by rw [hs1]; decide) (by rw [hs1]; rfl) rfl ?_
    refine cj_iconst C (v := (-1 : Int32)) dX12_wordOf_112 rfl ?_
    exact cj_ireturn C hr h dX12_wordOf_113
  rw [if_neg hs1] at h
  by_cases hs2 : x1 = (4 : Int32)
  · rw [if_pos hs2] at h
    refine cj_tableIn C (tgt := 94) dX12_wordOf_1 (by rw [hs2]; decide) (by rw [hs2]; decide) (by rw [hs2]; rfl) rfl ?_
    refine cj_iconst C (v := (3 : Int32)) dX12_wordOf_94 rfl ?_
    exact cj_ireturn C hr h dX12_wordOf_95
  rw [if_neg hs2] at h
  by_cases hs3 : x1 = (5 : Int32)
  · rw [if_pos hs3] at h
    refine cj_tableIn C (tgt := 112) dX12_wordOf_1 (by rw [hs3]; decide) (by rw [hs3]; decide) (by rw [hs3]; rfl) rfl ?_
    refine cj_iconst C (v := (-1 : Int32)) dX12_wordOf_112 rfl ?_
    exact cj_ireturn C hr h dX12_wordOf_113
  rw [if_neg hs3] at h
  by_cases hs4 : x1 = (6 : Int32)
  · rw [if_pos hs4] at h
    refine cj_tableIn C (tgt := 112) dX12_wordOf_1 (by rw [hs4]; decide) (by rw [hs4]; decide) (by rw [hs4]; rfl) rfl ?_
    refine cj_iconst C (v := (-1 : Int32)) dX12_wordOf_112 rfl ?_
    exact cj_ireturn C hr h dX12_wordOf_113
  rw [if_neg hs4] at h
  by_cases hs5 : x1 = (7 : Int32)
  · rw [if_pos hs5] at h
    refine cj_tableIn C (tgt := 88) dX12_wordOf_1 (by rw [hs5]; decide) (by rw [hs5]; decide) (by rw [hs5]; rfl) rfl ?_
    refine cj_iconst C (v := (0 : Int32)) dX12_wordOf_88 rfl ?_
    exact cj_ireturn C hr h dX12_wordOf_89
  rw [if_neg hs5] at h
  by_cases hs6 : x1 = (8 : Int32)
  · rw [if_pos hs6] at h
    refine cj_tableIn C (tgt := 112) dX12_wordOf_1 (by rw [hs6]; decide) (by rw [hs6]; decide) (by rw [hs6]; rfl) rfl ?_
    refine cj_iconst C (v := (-1 : Int32)) dX12_wordOf_112 rfl ?_
    exact cj_ireturn C hr h dX12_wordOf_113
  rw [if_neg hs6] at h
  by_cases hs7 : x1 = (9 : Int32)
  · rw [if_pos hs7] at h
    refine cj_tableIn C (tgt := 112) dX12_wordOf_1 (by rw [hs7]; decide) (by rw [hs7]; decide) (by rw [hs7]; rfl) rfl ?_
    refine cj_iconst C (v := (-1 : Int32)) dX12_wordOf_112 rfl ?_
    exact cj_ireturn C hr h dX12_wordOf_113
  rw [if_neg hs7] at h
  by_cases hs8 : x1 = (10 : Int32)
  · rw [if_pos hs8] at h
    refine cj_tableIn C (tgt := 90) dX12_wordOf_1 (by rw [hs8]; decide) (by rw [hs8]; decide) (by rw [hs8]; rfl) rfl ?_
    refine cj_iconst C (v := (1 : Int32)) dX12_wordOf_90 rfl ?_
    exact cj_ireturn C hr h dX12_wordOf_91
  rw [if_neg hs8] at h
  by_cases hs9 : x1 = (11 : Int32)
  · rw [if_pos hs9] at h
    refine cj_tableIn C (tgt := 112) dX12_wordOf_1 (by rw [hs9]; decide) (by rw [hs9]; decide) (by rw [hs9]; rfl) rfl ?_
    refine cj_iconst C (v := (-1 : Int32)) dX12_wordOf_112 rfl ?_
    exact cj_ireturn C hr h dX12_wordOf_113
  rw [if_neg hs9] at h
  by_cases hs10 : x1 = (12 : Int32)
  · rw [if_pos hs10] at h
    refine cj_tableIn C (tgt := 112) dX12_wordOf_1 (by rw [hs10]; decide) (by rw [hs10]; decide) (by rw [hs10]; rfl) rfl ?_
    refine cj_iconst C (v := (-1 : Int32)) dX12_wordOf_112 rfl ?_
    exact cj_ireturn C hr h dX12_wordOf_113
  rw [if_neg hs10] at h
  by_cases hs11 : x1 = (13 : Int32)
  · rw [if_pos hs11] at h
    refine cj_tableIn C (tgt := 112) dX12_wordOf_1 (by rw [hs11]; decide) (by rw [hs11]; decide) (by rw [hs11]; rfl) rfl ?_
    refine cj_iconst C (v := (-1 : Int32)) dX12_wordOf_112 rfl ?_
    exact cj_ireturn C hr h dX12_wordOf_113
  rw [if_neg hs11] at h
  by_cases hs12 : x1 = (14 : Int32)
  · rw [if_pos hs12] at h
    refine cj_tableIn C (tgt := 112) dX12_wordOf_1 (by rw [hs12]; decide) (by rw [hs12]; decide) (by rw [hs12]; rfl) rfl ?_
    refine cj_iconst C (v := (-1 : Int32)) dX12_wordOf_112 rfl ?_
    exact cj_ireturn C hr h dX12_wordOf_113
  rw [if_neg hs12] at h
  by_cases hs13 : x1 = (15 : Int32)
  · rw [if_pos hs13] at h
    refine cj_tableIn C (tgt := 112) dX12_wordOf_1 (by rw [hs13]; decide) (by rw [hs13]; decide) (by rw [hs13]; rfl) rfl ?_
    refine cj_iconst C (v := (-1 : Int32)) dX12_wordOf_112 rfl ?_
    exact cj_ireturn C hr h dX12_wordOf_113
  rw [if_neg hs13] at h
  by_cases hs14 : x1 = (16 : Int32)
  · rw [if_pos hs14] at h
    refine cj_tableIn C (tgt := 112) dX12_wordOf_1 (by rw [hs14]; decide) (by rw [hs14]; decide) (by rw [hs14]; rfl) rfl ?_
    refine cj_iconst C (v := (-1 : Int32)) dX12_wordOf_112 rfl ?_
    exact cj_ireturn C hr h dX12_wordOf_113
  rw [if_neg hs14] at h
  by_cases hs15 : x1 = (17 : Int32)
  · rw [if_pos hs15] at h
    refine cj_tableIn C (tgt := 112) dX12_wordOf_1 (by rw [hs15]; decide) (by rw [hs15]; decide) (by rw [hs15]; rfl) rfl ?_
    refine cj_iconst C (v := (-1 : Int32)) dX12_wordOf_112 rfl ?_
    exact cj_ireturn C hr h dX12_wordOf_113
  rw [if_neg hs15] at h
  by_cases hs16 : x1 = (18 : Int32)
  · rw [if_pos hs16] at h
    refine cj_tableIn C (tgt := 92) dX12_wordOf_1 (by rw [hs16]; decide) (by rw [hs16]; decide) (by rw [hs16]; rfl) rfl ?_
    refine cj_iconst C (v := (2 : Int32)) dX12_wordOf_92 rfl ?_
    exact cj_ireturn C hr h dX12_wordOf_93
  rw [if_neg hs16] at h
  by_cases hs17 : x1 = (19 : Int32)
  · rw [if_pos hs17] at h
    refine cj_tableIn C (tgt := 98) dX12_wordOf_1 (by rw [hs17]; decide) (by rw [hs17]; decide) (by rw [hs17]; rfl) rfl ?_
    refine cj_aload_n C (i := 0) dX12_wordOf_98 rfl rfl ?_
    refine cj_getI C (j := 15) o_150 rfl gfX12_158 dX12_wordOf_99 ?_
    refine cj_iconst C (v := (1 : Int32)) dX12_wordOf_102 rfl ?_
    refine cj_icmp_ne C (tgt := 110) dX12_wordOf_103 rfl h (fun _ h => ?_) (fun _ h => ?_)
    · refine cj_iconst C (v := (5 : Int32)) dX12_wordOf_106 rfl ?_
      refine cj_goto C (tgt := 111) dX12_wordOf_107 rfl ?_
      exact cj_ireturn C hr h dX12_wordOf_111
    · refine cj_iconst C (v := (-1 : Int32)) dX12_wordOf_110 rfl ?_
      exact cj_ireturn C hr h dX12_wordOf_111
  rw [if_neg hs17] at h
  refine cj_tableOut C (tgt := 112) dX12_wordOf_1 (cpOut (by decide) (by decide) (fun k h1 h2 => ?_)) rfl ?_
  · rcases (show k = 2 ∨ k = 3 ∨ k = 4 ∨ k = 5 ∨ k = 6 ∨ k = 7 ∨ k = 8 ∨ k = 9 ∨ k = 10 ∨ k = 11 ∨ k = 12 ∨ k = 13 ∨ k = 14 ∨ k = 15 ∨ k = 16 ∨ k = 17 ∨ k = 18 ∨ k = 19 by omega) with rfl | rfl | rfl | rfl | rfl | rfl | rfl | rfl | rfl | rfl | rfl | rfl | rfl | rfl | rfl | rfl | rfl | rfl
    · exact hs0
    · exact hs1
    · exact hs2
    · exact hs3
    · exact hs4
    · exact hs5
    · exact hs6
    · exact hs7
    · exact hs8
    · exact hs9
    · exact hs10
    · exact hs11
    · exact hs12
    · exact hs13
    · exact hs14
    · exact hs15
    · exact hs16
    · exact hs17
  · refine cj_iconst C (v := (-1 : Int32)) dX12_wordOf_112 rfl ?_
    exact cj_ireturn C hr h dX12_wordOf_113
/-! X12_codes -/
def fX12_codes (x1 : Int32) (S : cpS) : Option (Unit × cpS) :=
    if (S.1 150 11) = 0 then (
    if cpIn ((262 : Int32) + (S.1 154 261)) 1162 then (
    cpLt (cpI S 154 ((262 : Int32) + (S.1 154 261)).toNatClampNeg x1) fun S1 =>
    cpLt (cpI S1 154 261 ((S1.1 154 261) + (1 : Int32))) fun S2 =>
    some ((), S2)) else none) else (
    some ((), S))
set_option maxRecDepth 100000 in
set_option maxHeartbeats 4000000 in
theorem m_X12_codes (l : Launch) (w : cpW) (A : Nat → Prop) (x1 : Int32) (S : cpS) (r : Unit × cpS) (h : fX12_codes x1 S = some r) : cpMv l yX12_codes cX12_codes 2 (none) 0 w A [.ref (w.2.1 150), .int x1] S r := by
  refine cpMv.of (lv := [some (.ref (w.2.1 150)), some (.int x1)]) (by decide) (Nat.le_of_ble_eq_true rfl) rfl (fun p e s m args below meth c C hr => ?_)
  replace C : cpCx p s m args meth c w A cX12_codes RX12 2 := C
  rw [fX12_codes] at h
  refine cj_aload_n C (i := 0) dX12_codes_0 rfl rfl ?_
  refine cj_getI C (j := 11) o_150 rfl gfX12_138 dX12_codes_1 ?_
  refine cj_if_eq C (tgt := 8) dX12_codes_4 rfl h (fun _ h => ?_) (fun _ h => ?_)
  · refine cj_aload_n C (i := 0) dX12_codes_8 rfl rfl ?_
    refine cj_getR C (d := 154) o_150 rfl gfX12_24 dX12_codes_9 ?_
    refine cj_sipush C (v := (262 : Int32)) dX12_codes_12 rfl ?_
    refine cj_aload_n C (i := 0) dX12_codes_15 rfl rfl ?_
    refine cj_getR C (d := 154) o_150 rfl gfX12_24 dX12_codes_16 ?_
    refine cj_sipush C (v := (261 : Int32)) dX12_codes_19 rfl ?_
    refine cj_ialoadC C (j := 261) o_154 (by decide) (by decide) dX12_codes_22 ?_
    refine cj_iadd C dX12_codes_23 ?_
    refine cj_iload_n C (i := 1) dX12_codes_24 rfl rfl ?_
    refine cj_iastore C o_154 h dX12_codes_25 (fun h => ?_)
    refine cj_lets h (fun S1 h => ?_)
    refine cj_aload_n C (i := 0) dX12_codes_26 rfl rfl ?_
    refine cj_getR C (d := 154) o_150 rfl gfX12_24 dX12_codes_27 ?_
    refine cj_sipush C (v := (261 : Int32)) dX12_codes_30 rfl ?_
    refine cj_dup2 C dX12_codes_33 rfl rfl ?_
    refine cj_ialoadC C (j := 261) o_154 (by decide) (by decide) dX12_codes_34 ?_
    refine cj_iconst C (v := (1 : Int32)) dX12_codes_35 rfl ?_
    refine cj_iadd C dX12_codes_36 ?_
    refine cj_iastoreC C (j := 261) o_154 (by decide) (by decide) dX12_codes_37 ?_
    refine cj_lets h (fun S2 h => ?_)
    exact cj_vreturn C hr h dX12_codes_38
  · exact cj_vreturn C hr h dX12_codes_7
/-! X12_goesIn -/
def fX12_goesIn_11 (S : cpS) : Option (Int32 × cpS) :=
    if (S.1 150 11) = 0 then (
    cpB (fX12_next S) fun _ S2 =>
    if (S2.1 150 11) = 0 then (
    some ((1 : Int32), S2)) else (
    some ((0 : Int32), S2))) else (
    if (S.1 150 11) = 0 then (
    some ((1 : Int32), S)) else (
    some ((0 : Int32), S)))
set_option maxRecDepth 100000 in
set_option maxHeartbeats 4000000 in
theorem wX12_goesIn_11 (C : cpCx p s m args meth c w A cX12_goesIn RX12 2) (hr : meth.sig.returnType = (some .boolean)) {r : Int32 × cpS} (S : cpS) (h : fX12_goesIn_11 S = some r) : cpJ p l e (cpRm 6) s m args below meth c (MQ below (va_Qi (fun x S' => (x, S') = r) (cpWorld w A) A) args s 0 0 A) w A 2 11 [some (.ref (w.2.1 150)), none] [] S := by
  rw [fX12_goesIn_11] at h
  refine cj_aload_n C (i := 0) dX12_goesIn_11 rfl rfl ?_
  refine cj_getI C (j := 11) o_150 rfl gfX12_138 dX12_goesIn_12 ?_
  refine cj_if_ne C (tgt := 22) dX12_goesIn_15 rfl h (fun _ h => ?_) (fun _ h => ?_)
  · refine cj_aload_n C (i := 0) dX12_goesIn_18 rfl rfl ?_
    refine cj_callVv C (As := []) (rest := []) qX12_next mw_23_18 o_150 rfl rfl rfl (Nat.le_of_ble_eq_true rfl) (by decide) dX12_goesIn_19 h (fun _ _ hf => m_X12_next l w A S _ hf) (fun z1 S2 h => ?_)
    refine cj_aload_n C (i := 0) dX12_goesIn_22 rfl rfl ?_
    refine cj_getI C (j := 11) o_150 rfl gfX12_138 dX12_goesIn_23 ?_
    refine cj_if_ne C (tgt := 33) dX12_goesIn_26 rfl h (fun _ h => ?_) (fun _ h => ?_)
    · refine cj_iconst C (v := (1 : Int32)) dX12_goesIn_29 rfl ?_
      refine cj_goto C (tgt := 34) dX12_goesIn_30 rfl ?_
      exact cj_zreturn C hr rfl h dX12_goesIn_34
    · refine cj_iconst C (v := (0 : Int32)) dX12_goesIn_33 rfl ?_
      exact cj_zreturn C hr rfl h dX12_goesIn_34
  · refine cj_aload_n C (i := 0) dX12_goesIn_22 rfl rfl ?_
    refine cj_getI C (j := 11) o_150 rfl gfX12_138 dX12_goesIn_23 ?_
    refine cj_if_ne C (tgt := 33) dX12_goesIn_26 rfl h (fun _ h => ?_) (fun _ h => ?_)
    · refine cj_iconst C (v := (1 : Int32)) dX12_goesIn_29 rfl ?_
      refine cj_goto C (tgt := 34) dX12_goesIn_30 rfl ?_
      exact cj_zreturn C hr rfl h dX12_goesIn_34
    · refine cj_iconst C (v := (0 : Int32)) dX12_goesIn_33 rfl ?_
      exact cj_zreturn C hr rfl h dX12_goesIn_34
def fX12_goesIn (x1 : Int32) (S : cpS) : Option (Int32 × cpS) :=
    if x1 = (6 : Int32) then (
    cpB (fX12_fails (4 : Int32) S) fun _ S2 =>
    fX12_goesIn_11 S2) else (
    fX12_goesIn_11 S)
set_option maxRecDepth 100000 in
set_option maxHeartbeats 4000000 in
theorem m_X12_goesIn (l : Launch) (w : cpW) (A : Nat → Prop) (x1 : Int32) (S : cpS) (r : Int32 × cpS) (h : fX12_goesIn x1 S = some r) : cpMi l yX12_goesIn cX12_goesIn 2 ((some .boolean)) 6 w A [.ref (w.2.1 150), .int x1] S r := by
  refine cpMi.of (lv := [some (.ref (w.2.1 150)), some (.int x1)]) (by decide) (Nat.le_of_ble_eq_true rfl) rfl (fun p e s m args below meth c C hr => ?_)
  replace C : cpCx p s m args meth c w A cX12_goesIn RX12 2 := C
  rw [fX12_goesIn] at h
  refine cj_iload_n C (i := 1) dX12_goesIn_0 rfl rfl ?_
  refine cj_bipush C (v := (6 : Int32)) dX12_goesIn_1 rfl ?_
  refine cj_icmp_ne C (tgt := 11) dX12_goesIn_3 rfl h (fun _ h => ?_) (fun _ h => ?_)
  · refine cj_aload_n C (i := 0) dX12_goesIn_6 rfl rfl ?_
    refine cj_iconst C (v := (4 : Int32)) dX12_goesIn_7 rfl ?_
    refine cj_callVv C (As := [.int (4 : Int32)]) (rest := []) qX12_fails mw_25_0 o_150 rfl rfl rfl (Nat.le_of_ble_eq_true rfl) (by decide) dX12_goesIn_8 h (fun _ _ hf => m_X12_fails l w A (4 : Int32) S _ hf) (fun z1 S2 h => ?_)
    refine cj_weak C (lv' := [some (.ref (w.2.1 150)), none]) (cpSub_s (cpSub_n cpSub_nil)) ?_
    exact wX12_goesIn_11 C hr S2 h
  · refine cj_weak C (lv' := [some (.ref (w.2.1 150)), none]) (cpSub_s (cpSub_n cpSub_nil)) ?_
    exact wX12_goesIn_11 C hr S h
/-! X12_readAtom -/
def fX12_readAtom_66 (rec : Nat → Int32 → cpS → Option (Unit × cpS)) (x1 : Int32) (S : cpS) : Option (Unit × cpS) :=
    cpB (fX12_is (35 : Int32) S) fun z1 S2 =>
    if z1 = 0 then (
    cpB (fX12_is (14 : Int32) S2) fun z3 S4 =>
    if z3 = 0 then (
    cpB (fX12_fails (2 : Int32) S4) fun _ S6 =>
    some ((), S6)) else (
    cpB (rec 6 x1 S4) fun _ S8 =>
    some ((), S8))) else (
    cpB (fX12_goesIn x1 S2) fun z9 S10 =>
    if z9 = 0 then (
    some ((), S10)) else (
    cpB (rec 3 (x1 + (1 : Int32)) S10) fun _ S12 =>
    cpB (fX12_eats (36 : Int32) S12) fun z13 S14 =>
    if z13 = 0 then (
    cpB (fX12_fails (2 : Int32) S14) fun _ S16 =>
    some ((), S16)) else (
    some ((), S14))))
set_option maxRecDepth 100000 in
set_option maxHeartbeats 4000000 in
theorem wX12_readAtom_66 (C : cpCx p s m args meth c w A cX12_readAtom RX12 2) (hr : meth.sig.returnType = none) {r : Unit × cpS} {rec : Nat → Int32 → cpS → Option (Unit × cpS)} {dz : Nat} (hz : 7 ≤ dz) (hrec0 : ∀ (x1 : Int32) (S : cpS) (r : Unit × cpS), rec 0 x1 S = some r → cpMv l yX12_readTruth cX12_readTruth 2 (none) dz w A [.ref (w.2.1 150), .int x1] S r) (hrec1 : ∀ (x1 : Int32) (S : cpS) (r : Unit × cpS), rec 1 x1 S = some r → cpMv l yX12_readBoth cX12_readBoth 2 (none) dz w A [.ref (w.2.1 150), .int x1] S r) (hrec2 : ∀ (x1 : Int32) (S : cpS) (r : Unit × cpS), rec 2 x1 S = some r → cpMv l yX12_readUnit cX12_readUnit 3 (none) dz w A [.ref (w.2.1 150), .int x1] S r) (hrec3 : ∀ (x1 : Int32) (S : cpS) (r : Unit × cpS), rec 3 x1 S = some r → cpMv l yX12_readSum cX12_readSum 3 (none) dz w A [.ref (w.2.1 150), .int x1] S r) (hrec4 : ∀ (x1 : Int32) (S : cpS) (r : Unit × cpS), rec 4 x1 S = some r → cpMv l yX12_readTerm cX12_readTerm 2 (none) dz w A [.ref (w.2.1 150), .int x1] S r) (hrec5 : ∀ (x1 : Int32) (S : cpS) (r : Unit × cpS), rec 5 x1 S = some r → cpMv l yX12_readAtom cX12_readAtom 2 (none) dz w A [.ref (w.2.1 150), .int x1] S r) (hrec6 : ∀ (x1 : Int32) (S : cpS) (r : Unit × cpS), rec 6 x1 S = some r → cpMv l yX12_readIf cX12_readIf 2 (none) dz w A [.ref (w.2.1 150), .int x1] S r) (x1 : Int32) (S : cpS) (h : fX12_readAtom_66 rec x1 S = some r) : cpJ p l e (cpRm (dz + 1)) s m args below meth c (MQ below (va_Qv (fun S' => ((), S') = r) (cpWorld w A) A) args s 0 0 A) w A 2 66 [some (.ref (w.2.1 150)), some (.int x1)] [] S := by
  rw [fX12_readAtom_66] at h
  refine cj_aload_n C (i := 0) dX12_readAtom_66 rfl rfl ?_
  refine cj_bipush C (v := (35 : Int32)) dX12_readAtom_67 rfl ?_
  refine cj_callVi C (As := [.int (35 : Int32)]) (rest := []) qX12_is mw_24_20 o_150 rfl rfl rfl (Nat.le_of_ble_eq_true rfl) (by omega) dX12_readAtom_69 h (fun _ _ hf => m_X12_is l w A (35 : Int32) S _ hf) (fun z1 S2 h => ?_)
  refine cj_if_eq C (tgt := 108) dX12_readAtom_72 rfl h (fun _ h => ?_) (fun _ h => ?_)
  · refine cj_aload_n C (i := 0) dX12_readAtom_108 rfl rfl ?_
    refine cj_bipush C (v := (14 : Int32)) dX12_readAtom_109 rfl ?_
    refine cj_callVi C (As := [.int (14 : Int32)]) (rest := []) qX12_is mw_24_20 o_150 rfl rfl rfl (Nat.le_of_ble_eq_true rfl) (by omega) dX12_readAtom_111 h (fun _ _ hf => m_X12_is l w A (14 : Int32) S2 _ hf) (fun z3 S4 h => ?_)
    refine cj_if_eq C (tgt := 125) dX12_readAtom_114 rfl h (fun _ h => ?_) (fun _ h => ?_)
    · refine cj_aload_n C (i := 0) dX12_readAtom_125 rfl rfl ?_
      refine cj_iconst C (v := (2 : Int32)) dX12_readAtom_126 rfl ?_
      refine cj_callVv C (As := [.int (2 : Int32)]) (rest := []) qX12_fails mw_25_0 o_150 rfl rfl rfl (Nat.le_of_ble_eq_true rfl) (by omega) dX12_readAtom_127 h (fun _ _ hf => m_X12_fails l w A (2 : Int32) S4 _ hf) (fun z5 S6 h => ?_)
      exact cj_vreturn C hr h dX12_readAtom_130
    · refine cj_aload_n C (i := 0) dX12_readAtom_117 rfl rfl ?_
      refine cj_iload_n C (i := 1) dX12_readAtom_118 rfl rfl ?_
      refine cj_callVv C (As := [.int x1]) (rest := []) qX12_readIf mw_27_17 o_150 rfl rfl rfl (Nat.le_of_ble_eq_true rfl) (by omega) dX12_readAtom_119 h (fun _ _ hf => hrec6 x1 S4 _ hf) (fun z7 S8 h => ?_)
      refine cj_goto C (tgt := 130) dX12_readAtom_122 rfl ?_
      exact cj_vreturn C hr h dX12_readAtom_130
  · refine cj_aload_n C (i := 0) dX12_readAtom_75 rfl rfl ?_
    refine cj_iload_n C (i := 1) dX12_readAtom_76 rfl rfl ?_
    refine cj_callVi C (As := [.int x1]) (rest := []) qX12_goesIn mw_27_13 o_150 rfl rfl rfl (Nat.le_of_ble_eq_true rfl) (by omega) dX12_readAtom_77 h (fun _ _ hf => m_X12_goesIn l w A x1 S2 _ hf) (fun z9 S10 h => ?_)
    refine cj_if_ne C (tgt := 84) dX12_readAtom_80 rfl h (fun _ h => ?_) (fun _ h => ?_)
    · exact cj_vreturn C hr h dX12_readAtom_83
    · refine cj_aload_n C (i := 0) dX12_readAtom_84 rfl rfl ?_
      refine cj_iload_n C (i := 1) dX12_readAtom_85 rfl rfl ?_
      refine cj_iconst C (v := (1 : Int32)) dX12_readAtom_86 rfl ?_
      refine cj_iadd C dX12_readAtom_87 ?_
      refine cj_callVv C (As := [.int (x1 + (1 : Int32))]) (rest := []) qX12_readSum mw_26_21 o_150 rfl rfl rfl (Nat.le_of_ble_eq_true rfl) (by omega) dX12_readAtom_88 h (fun _ _ hf => hrec3 (x1 + (1 : Int32)) S10 _ hf) (fun z11 S12 h => ?_)
      refine cj_aload_n C (i := 0) dX12_readAtom_91 rfl rfl ?_
      refine cj_bipush C (v := (36 : Int32)) dX12_readAtom_92 rfl ?_
      refine cj_callVi C (As := [.int (36 : Int32)]) (rest := []) qX12_eats mw_24_16 o_150 rfl rfl rfl (Nat.le_of_ble_eq_true rfl) (by omega) dX12_readAtom_94 h (fun _ _ hf => m_X12_eats l w A (36 : Int32) S12 _ hf) (fun z13 S14 h => ?_)
      refine cj_if_ne C (tgt := 130) dX12_readAtom_97 rfl h (fun _ h => ?_) (fun _ h => ?_)
      · refine cj_aload_n C (i := 0) dX12_readAtom_100 rfl rfl ?_
        refine cj_iconst C (v := (2 : Int32)) dX12_readAtom_101 rfl ?_
        refine cj_callVv C (As := [.int (2 : Int32)]) (rest := []) qX12_fails mw_25_0 o_150 rfl rfl rfl (Nat.le_of_ble_eq_true rfl) (by omega) dX12_readAtom_102 h (fun _ _ hf => m_X12_fails l w A (2 : Int32) S14 _ hf) (fun z15 S16 h => ?_)
        refine cj_goto C (tgt := 130) dX12_readAtom_105 rfl ?_
        exact cj_vreturn C hr h dX12_readAtom_130
      · exact cj_vreturn C hr h dX12_readAtom_130
def fX12_readAtom (rec : Nat → Int32 → cpS → Option (Unit × cpS)) (x1 : Int32) (S : cpS) : Option (Unit × cpS) :=
    cpB (fX12_is (25 : Int32) S) fun z1 S2 =>
    if z1 = 0 then (
    if (S2.1 150 11) = 0 then (
    cpB (fX12_wordOf (S2.1 150 9) S2) fun z3 S4 =>
    if z3 = (-1 : Int32) then (
    fX12_readAtom_66 rec x1 S4) else (
    cpB (fX12_wordOf (S4.1 150 9) S4) fun z5 S6 =>
    cpB (fX12_codes ((1000 : Int32) + z5) S6) fun _ S8 =>
    cpB (fX12_next S8) fun _ S10 =>
    some ((), S10))) else (
    fX12_readAtom_66 rec x1 S2)) else (
    cpB (fX12_codes (S2.1 150 10) S2) fun _ S12 =>
    cpB (fX12_next S12) fun _ S14 =>
    some ((), S14))
set_option maxRecDepth 100000 in
set_option maxHeartbeats 4000000 in
theorem m_X12_readAtom (l : Launch) (w : cpW) (A : Nat → Prop) {rec : Nat → Int32 → cpS → Option (Unit × cpS)} {dz : Nat} (hz : 7 ≤ dz) (hrec0 : ∀ (x1 : Int32) (S : cpS) (r : Unit × cpS), rec 0 x1 S = some r → cpMv l yX12_readTruth cX12_readTruth 2 (none) dz w A [.ref (w.2.1 150), .int x1] S r) (hrec1 : ∀ (x1 : Int32) (S : cpS) (r : Unit × cpS), rec 1 x1 S = some r → cpMv l yX12_readBoth cX12_readBoth 2 (none) dz w A [.ref (w.2.1 150), .int x1] S r) (hrec2 : ∀ (x1 : Int32) (S : cpS) (r : Unit × cpS), rec 2 x1 S = some r → cpMv l yX12_readUnit cX12_readUnit 3 (none) dz w A [.ref (w.2.1 150), .int x1] S r) (hrec3 : ∀ (x1 : Int32) (S : cpS) (r : Unit × cpS), rec 3 x1 S = some r → cpMv l yX12_readSum cX12_readSum 3 (none) dz w A [.ref (w.2.1 150), .int x1] S r) (hrec4 : ∀ (x1 : Int32) (S : cpS) (r : Unit × cpS), rec 4 x1 S = some r → cpMv l yX12_readTerm cX12_readTerm 2 (none) dz w A [.ref (w.2.1 150), .int x1] S r) (hrec5 : ∀ (x1 : Int32) (S : cpS) (r : Unit × cpS), rec 5 x1 S = some r → cpMv l yX12_readAtom cX12_readAtom 2 (none) dz w A [.ref (w.2.1 150), .int x1] S r) (hrec6 : ∀ (x1 : Int32) (S : cpS) (r : Unit × cpS), rec 6 x1 S = some r → cpMv l yX12_readIf cX12_readIf 2 (none) dz w A [.ref (w.2.1 150), .int x1] S r) (x1 : Int32) (S : cpS) (r : Unit × cpS) (h : fX12_readAtom rec x1 S = some r) : cpMv l yX12_readAtom cX12_readAtom 2 (none) (dz + 1) w A [.ref (w.2.1 150), .int x1] S r := by
  refine cpMv.of (lv := [some (.ref (w.2.1 150)), some (.int x1)]) (by decide) (Nat.le_of_ble_eq_true rfl) rfl (fun p e s m args below meth c C hr => ?_)
  replace C : cpCx p s m args meth c w A cX12_readAtom RX12 2 := C
  rw [fX12_readAtom] at h
  refine cj_aload_n C (i := 0) dX12_readAtom_0 rfl rfl ?_
  refine cj_bipush C (v := (25 : Int32)) dX12_readAtom_1 rfl ?_
  refine cj_callVi C (As := [.int (25 : Int32)]) (rest := []) qX12_is mw_24_20 o_150 rfl rfl rfl (Nat.le_of_ble_eq_true rfl) (by omega) dX12_readAtom_3 h (fun _ _ hf => m_X12_is l w A (25 : Int32) S _ hf) (fun z1 S2 h => ?_)
  refine cj_if_eq C (tgt := 24) dX12_readAtom_6 rfl h (fun _ h => ?_) (fun _ h => ?_)
  · refine cj_aload_n C (i := 0) dX12_readAtom_24 rfl rfl ?_
    refine cj_getI C (j := 11) o_150 rfl gfX12_138 dX12_readAtom_25 ?_
    refine cj_if_ne C (tgt := 66) dX12_readAtom_28 rfl h (fun _ h => ?_) (fun _ h => ?_)
    · refine cj_aload_n C (i := 0) dX12_readAtom_31 rfl rfl ?_
      refine cj_aload_n C (i := 0) dX12_readAtom_32 rfl rfl ?_
      refine cj_getI C (j := 9) o_150 rfl gfX12_120 dX12_readAtom_33 ?_
      refine cj_callVi C (As := [.int (S2.1 150 9)]) (rest := []) qX12_wordOf mw_27_9 o_150 rfl rfl rfl (Nat.le_of_ble_eq_true rfl) (by omega) dX12_readAtom_36 h (fun _ _ hf => m_X12_wordOf l w A (S2.1 150 9) S2 _ hf) (fun z3 S4 h => ?_)
      refine cj_iconst C (v := (-1 : Int32)) dX12_readAtom_39 rfl ?_
      refine cj_icmp_eq C (tgt := 66) dX12_readAtom_40 rfl h (fun _ h => ?_) (fun _ h => ?_)
      · exact wX12_readAtom_66 C hr hz hrec0 hrec1 hrec2 hrec3 hrec4 hrec5 hrec6 x1 S4 h
      · refine cj_aload_n C (i := 0) dX12_readAtom_43 rfl rfl ?_
        refine cj_sipush C (v := (1000 : Int32)) dX12_readAtom_44 rfl ?_
        refine cj_aload_n C (i := 0) dX12_readAtom_47 rfl rfl ?_
        refine cj_aload_n C (i := 0) dX12_readAtom_48 rfl rfl ?_
        refine cj_getI C (j := 9) o_150 rfl gfX12_120 dX12_readAtom_49 ?_
        refine cj_callVi C (As := [.int (S4.1 150 9)]) (rest := [.int (1000 : Int32), .ref (w.2.1 150)]) qX12_wordOf mw_27_9 o_150 rfl rfl rfl (Nat.le_of_ble_eq_true rfl) (by omega) dX12_readAtom_52 h (fun _ _ hf => m_X12_wordOf l w A (S4.1 150 9) S4 _ hf) (fun z5 S6 h => ?_)
        refine cj_iadd C dX12_readAtom_55 ?_
        refine cj_callVv C (As := [.int ((1000 : Int32) + z5)]) (rest := []) qX12_codes mw_27_4 o_150 rfl rfl rfl (Nat.le_of_ble_eq_true rfl) (by omega) dX12_readAtom_56 h (fun _ _ hf => m_X12_codes l w A ((1000 : Int32) + z5) S6 _ hf) (fun z7 S8 h => ?_)
        refine cj_aload_n C (i := 0) dX12_readAtom_59 rfl rfl ?_
        refine cj_callVv C (As := []) (rest := []) qX12_next mw_23_18 o_150 rfl rfl rfl (Nat.le_of_ble_eq_true rfl) (by omega) dX12_readAtom_60 h (fun _ _ hf => m_X12_next l w A S8 _ hf) (fun z9 S10 h => ?_)
        refine cj_goto C (tgt := 130) dX12_readAtom_63 rfl ?_
        exact cj_vreturn C hr h dX12_readAtom_130
    · exact wX12_readAtom_66 C hr hz hrec0 hrec1 hrec2 hrec3 hrec4 hrec5 hrec6 x1 S2 h
  · refine cj_aload_n C (i := 0) dX12_readAtom_9 rfl rfl ?_
    refine cj_aload_n C (i := 0) dX12_readAtom_10 rfl rfl ?_
    refine cj_getI C (j := 10) o_150 rfl gfX12_133 dX12_readAtom_11 ?_
    refine cj_callVv C (As := [.int (S2.1 150 10)]) (rest := []) qX12_codes mw_27_4 o_150 rfl rfl rfl (Nat.le_of_ble_eq_true rfl) (by omega) dX12_readAtom_14 h (fun _ _ hf => m_X12_codes l w A (S2.1 150 10) S2 _ hf) (fun z11 S12 h => ?_)
    refine cj_aload_n C (i := 0) dX12_readAtom_17 rfl rfl ?_
    refine cj_callVv C (As := []) (rest := []) qX12_next mw_23_18 o_150 rfl rfl rfl (Nat.le_of_ble_eq_true rfl) (by omega) dX12_readAtom_18 h (fun _ _ hf => m_X12_next l w A S12 _ hf) (fun z13 S14 h => ?_)
    refine cj_goto C (tgt := 130) dX12_readAtom_21 rfl ?_
    exact cj_vreturn C hr h dX12_readAtom_130
/-! X12_readTruth -/
def fX12_readTruth_5 (rec : Nat → Int32 → cpS → Option (Unit × cpS)) (x1 : Int32) : Nat → cpS → Option (Unit × cpS)
  | 0, _ => none
  | n + 1, S =>
    cpB (fX12_eats (21 : Int32) S) fun z1 S2 =>
    if z1 = 0 then (
    some ((), S2)) else (
    cpB (rec 1 x1 S2) fun _ S4 =>
    cpB (fX12_codes (3008 : Int32) S4) fun _ S6 =>
    fX12_readTruth_5 rec x1 n S6)
set_option maxRecDepth 100000 in
set_option maxHeartbeats 4000000 in
theorem wX12_readTruth_5 (C : cpCx p s m args meth c w A cX12_readTruth RX12 2) (hr : meth.sig.returnType = none) {r : Unit × cpS} {rec : Nat → Int32 → cpS → Option (Unit × cpS)} {dz : Nat} (hz : 7 ≤ dz) (hrec0 : ∀ (x1 : Int32) (S : cpS) (r : Unit × cpS), rec 0 x1 S = some r → cpMv l yX12_readTruth cX12_readTruth 2 (none) dz w A [.ref (w.2.1 150), .int x1] S r) (hrec1 : ∀ (x1 : Int32) (S : cpS) (r : Unit × cpS), rec 1 x1 S = some r → cpMv l yX12_readBoth cX12_readBoth 2 (none) dz w A [.ref (w.2.1 150), .int x1] S r) (hrec2 : ∀ (x1 : Int32) (S : cpS) (r : Unit × cpS), rec 2 x1 S = some r → cpMv l yX12_readUnit cX12_readUnit 3 (none) dz w A [.ref (w.2.1 150), .int x1] S r) (hrec3 : ∀ (x1 : Int32) (S : cpS) (r : Unit × cpS), rec 3 x1 S = some r → cpMv l yX12_readSum cX12_readSum 3 (none) dz w A [.ref (w.2.1 150), .int x1] S r) (hrec4 : ∀ (x1 : Int32) (S : cpS) (r : Unit × cpS), rec 4 x1 S = some r → cpMv l yX12_readTerm cX12_readTerm 2 (none) dz w A [.ref (w.2.1 150), .int x1] S r) (hrec5 : ∀ (x1 : Int32) (S : cpS) (r : Unit × cpS), rec 5 x1 S = some r → cpMv l yX12_readAtom cX12_readAtom 2 (none) dz w A [.ref (w.2.1 150), .int x1] S r) (hrec6 : ∀ (x1 : Int32) (S : cpS) (r : Unit × cpS), rec 6 x1 S = some r → cpMv l yX12_readIf cX12_readIf 2 (none) dz w A [.ref (w.2.1 150), .int x1] S r) (x1 : Int32) : ∀ (n : Nat)  (S : cpS), fX12_readTruth_5 rec x1 n S = some r → cpJ p l e (cpRm (dz + 1)) s m args below meth c (MQ below (va_Qv (fun S' => ((), S') = r) (cpWorld w A) A) args s 0 0 A) w A 2 5 [some (.ref (w.2.1 150)), some (.int x1)] [] S := by
  intro n
  induction n with
  | zero => intro  S h; rw [fX12_readTruth_5] at h; cases h
  | succ n ih =>
    intro  S h
    rw [fX12_readTruth_5] at h
    refine cj_aload_n C (i := 0) dX12_readTruth_5 rfl rfl ?_
    refine cj_bipush C (v := (21 : Int32)) dX12_readTruth_6 rfl ?_
    refine cj_callVi C (As := [.int (21 : Int32)]) (rest := []) qX12_eats mw_24_16 o_150 rfl rfl rfl (Nat.le_of_ble_eq_true rfl) (by omega) dX12_readTruth_8 h (fun _ _ hf => m_X12_eats l w A (21 : Int32) S _ hf) (fun z1 S2 h => ?_)
    refine cj_if_eq C (tgt := 29) dX12_readTruth_11 rfl h (fun _ h => ?_) (fun _ h => ?_)
    · exact cj_vreturn C hr h dX12_readTruth_29
    · refine cj_aload_n C (i := 0) dX12_readTruth_14 rfl rfl ?_
      refine cj_iload_n C (i := 1) dX12_readTruth_15 rfl rfl ?_
      refine cj_callVv C (As := [.int x1]) (rest := []) qX12_readBoth mw_28_9 o_150 rfl rfl rfl (Nat.le_of_ble_eq_true rfl) (by omega) dX12_readTruth_16 h (fun _ _ hf => hrec1 x1 S2 _ hf) (fun z3 S4 h => ?_)
      refine cj_aload_n C (i := 0) dX12_readTruth_19 rfl rfl ?_
      refine cj_sipush C (v := (3008 : Int32)) dX12_readTruth_20 rfl ?_
      refine cj_callVv C (As := [.int (3008 : Int32)]) (rest := []) qX12_codes mw_27_4 o_150 rfl rfl rfl (Nat.le_of_ble_eq_true rfl) (by omega) dX12_readTruth_23 h (fun _ _ hf => m_X12_codes l w A (3008 : Int32) S4 _ hf) (fun z5 S6 h => ?_)
      refine cj_goto C (tgt := 5) dX12_readTruth_26 rfl ?_
      exact ih S6 h
def fX12_readTruth (rec : Nat → Int32 → cpS → Option (Unit × cpS)) (x1 : Int32) (S : cpS) : Option (Unit × cpS) :=
    cpB (rec 1 x1 S) fun _ S2 =>
    fX12_readTruth_5 rec x1 cpFu S2
set_option maxRecDepth 100000 in
set_option maxHeartbeats 4000000 in
theorem m_X12_readTruth (l : Launch) (w : cpW) (A : Nat → Prop) {rec : Nat → Int32 → cpS → Option (Unit × cpS)} {dz : Nat} (hz : 7 ≤ dz) (hrec0 : ∀ (x1 : Int32) (S : cpS) (r : Unit × cpS), rec 0 x1 S = some r → cpMv l yX12_readTruth cX12_readTruth 2 (none) dz w A [.ref (w.2.1 150), .int x1] S r) (hrec1 : ∀ (x1 : Int32) (S : cpS) (r : Unit × cpS), rec 1 x1 S = some r → cpMv l yX12_readBoth cX12_readBoth 2 (none) dz w A [.ref (w.2.1 150), .int x1] S r) (hrec2 : ∀ (x1 : Int32) (S : cpS) (r : Unit × cpS), rec 2 x1 S = some r → cpMv l yX12_readUnit cX12_readUnit 3 (none) dz w A [.ref (w.2.1 150), .int x1] S r) (hrec3 : ∀ (x1 : Int32) (S : cpS) (r : Unit × cpS), rec 3 x1 S = some r → cpMv l yX12_readSum cX12_readSum 3 (none) dz w A [.ref (w.2.1 150), .int x1] S r) (hrec4 : ∀ (x1 : Int32) (S : cpS) (r : Unit × cpS), rec 4 x1 S = some r → cpMv l yX12_readTerm cX12_readTerm 2 (none) dz w A [.ref (w.2.1 150), .int x1] S r) (hrec5 : ∀ (x1 : Int32) (S : cpS) (r : Unit × cpS), rec 5 x1 S = some r → cpMv l yX12_readAtom cX12_readAtom 2 (none) dz w A [.ref (w.2.1 150), .int x1] S r) (hrec6 : ∀ (x1 : Int32) (S : cpS) (r : Unit × cpS), rec 6 x1 S = some r → cpMv l yX12_readIf cX12_readIf 2 (none) dz w A [.ref (w.2.1 150), .int x1] S r) (x1 : Int32) (S : cpS) (r : Unit × cpS) (h : fX12_readTruth rec x1 S = some r) : cpMv l yX12_readTruth cX12_readTruth 2 (none) (dz + 1) w A [.ref (w.2.1 150), .int x1] S r := by
  refine cpMv.of (lv := [some (.ref (w.2.1 150)), some (.int x1)]) (by decide) (Nat.le_of_ble_eq_true rfl) rfl (fun p e s m args below meth c C hr => ?_)
  replace C : cpCx p s m args meth c w A cX12_readTruth RX12 2 := C
  rw [fX12_readTruth] at h
  refine cj_aload_n C (i := 0) dX12_readTruth_0 rfl rfl ?_
  refine cj_iload_n C (i := 1) dX12_readTruth_1 rfl rfl ?_
  refine cj_callVv C (As := [.int x1]) (rest := []) qX12_readBoth mw_28_9 o_150 rfl rfl rfl (Nat.le_of_ble_eq_true rfl) (by omega) dX12_readTruth_2 h (fun _ _ hf => hrec1 x1 S _ hf) (fun z1 S2 h => ?_)
  exact wX12_readTruth_5 C hr hz hrec0 hrec1 hrec2 hrec3 hrec4 hrec5 hrec6 x1 cpFu S2 h
/-! X12_readBoth -/
def fX12_readBoth_5 (rec : Nat → Int32 → cpS → Option (Unit × cpS)) (x1 : Int32) : Nat → cpS → Option (Unit × cpS)
  | 0, _ => none
  | n + 1, S =>
    cpB (fX12_eats (20 : Int32) S) fun z1 S2 =>
    if z1 = 0 then (
    some ((), S2)) else (
    cpB (rec 2 x1 S2) fun _ S4 =>
    cpB (fX12_codes (3007 : Int32) S4) fun _ S6 =>
    fX12_readBoth_5 rec x1 n S6)
set_option maxRecDepth 100000 in
set_option maxHeartbeats 4000000 in
theorem wX12_readBoth_5 (C : cpCx p s m args meth c w A cX12_readBoth RX12 2) (hr : meth.sig.returnType = none) {r : Unit × cpS} {rec : Nat → Int32 → cpS → Option (Unit × cpS)} {dz : Nat} (hz : 7 ≤ dz) (hrec0 : ∀ (x1 : Int32) (S : cpS) (r : Unit × cpS), rec 0 x1 S = some r → cpMv l yX12_readTruth cX12_readTruth 2 (none) dz w A [.ref (w.2.1 150), .int x1] S r) (hrec1 : ∀ (x1 : Int32) (S : cpS) (r : Unit × cpS), rec 1 x1 S = some r → cpMv l yX12_readBoth cX12_readBoth 2 (none) dz w A [.ref (w.2.1 150), .int x1] S r) (hrec2 : ∀ (x1 : Int32) (S : cpS) (r : Unit × cpS), rec 2 x1 S = some r → cpMv l yX12_readUnit cX12_readUnit 3 (none) dz w A [.ref (w.2.1 150), .int x1] S r) (hrec3 : ∀ (x1 : Int32) (S : cpS) (r : Unit × cpS), rec 3 x1 S = some r → cpMv l yX12_readSum cX12_readSum 3 (none) dz w A [.ref (w.2.1 150), .int x1] S r) (hrec4 : ∀ (x1 : Int32) (S : cpS) (r : Unit × cpS), rec 4 x1 S = some r → cpMv l yX12_readTerm cX12_readTerm 2 (none) dz w A [.ref (w.2.1 150), .int x1] S r) (hrec5 : ∀ (x1 : Int32) (S : cpS) (r : Unit × cpS), rec 5 x1 S = some r → cpMv l yX12_readAtom cX12_readAtom 2 (none) dz w A [.ref (w.2.1 150), .int x1] S r) (hrec6 : ∀ (x1 : Int32) (S : cpS) (r : Unit × cpS), rec 6 x1 S = some r → cpMv l yX12_readIf cX12_readIf 2 (none) dz w A [.ref (w.2.1 150), .int x1] S r) (x1 : Int32) : ∀ (n : Nat)  (S : cpS), fX12_readBoth_5 rec x1 n S = some r → cpJ p l e (cpRm (dz + 1)) s m args below meth c (MQ below (va_Qv (fun S' => ((), S') = r) (cpWorld w A) A) args s 0 0 A) w A 2 5 [some (.ref (w.2.1 150)), some (.int x1)] [] S := by
  intro n
  induction n with
  | zero => intro  S h; rw [fX12_readBoth_5] at h; cases h
  | succ n ih =>
    intro  S h
    rw [fX12_readBoth_5] at h
    refine cj_aload_n C (i := 0) dX12_readBoth_5 rfl rfl ?_
    refine cj_bipush C (v := (20 : Int32)) dX12_readBoth_6 rfl ?_
    refine cj_callVi C (As := [.int (20 : Int32)]) (rest := []) qX12_eats mw_24_16 o_150 rfl rfl rfl (Nat.le_of_ble_eq_true rfl) (by omega) dX12_readBoth_8 h (fun _ _ hf => m_X12_eats l w A (20 : Int32) S _ hf) (fun z1 S2 h => ?_)
    refine cj_if_eq C (tgt := 29) dX12_readBoth_11 rfl h (fun _ h => ?_) (fun _ h => ?_)
    · exact cj_vreturn C hr h dX12_readBoth_29
    · refine cj_aload_n C (i := 0) dX12_readBoth_14 rfl rfl ?_
      refine cj_iload_n C (i := 1) dX12_readBoth_15 rfl rfl ?_
      refine cj_callVv C (As := [.int x1]) (rest := []) qX12_readUnit mw_27_21 o_150 rfl rfl rfl (Nat.le_of_ble_eq_true rfl) (by omega) dX12_readBoth_16 h (fun _ _ hf => hrec2 x1 S2 _ hf) (fun z3 S4 h => ?_)
      refine cj_aload_n C (i := 0) dX12_readBoth_19 rfl rfl ?_
      refine cj_sipush C (v := (3007 : Int32)) dX12_readBoth_20 rfl ?_
      refine cj_callVv C (As := [.int (3007 : Int32)]) (rest := []) qX12_codes mw_27_4 o_150 rfl rfl rfl (Nat.le_of_ble_eq_true rfl) (by omega) dX12_readBoth_23 h (fun _ _ hf => m_X12_codes l w A (3007 : Int32) S4 _ hf) (fun z5 S6 h => ?_)
      refine cj_goto C (tgt := 5) dX12_readBoth_26 rfl ?_
      exact ih S6 h
def fX12_readBoth (rec : Nat → Int32 → cpS → Option (Unit × cpS)) (x1 : Int32) (S : cpS) : Option (Unit × cpS) :=
    cpB (rec 2 x1 S) fun _ S2 =>
    fX12_readBoth_5 rec x1 cpFu S2
set_option maxRecDepth 100000 in
set_option maxHeartbeats 4000000 in
theorem m_X12_readBoth (l : Launch) (w : cpW) (A : Nat → Prop) {rec : Nat → Int32 → cpS → Option (Unit × cpS)} {dz : Nat} (hz : 7 ≤ dz) (hrec0 : ∀ (x1 : Int32) (S : cpS) (r : Unit × cpS), rec 0 x1 S = some r → cpMv l yX12_readTruth cX12_readTruth 2 (none) dz w A [.ref (w.2.1 150), .int x1] S r) (hrec1 : ∀ (x1 : Int32) (S : cpS) (r : Unit × cpS), rec 1 x1 S = some r → cpMv l yX12_readBoth cX12_readBoth 2 (none) dz w A [.ref (w.2.1 150), .int x1] S r) (hrec2 : ∀ (x1 : Int32) (S : cpS) (r : Unit × cpS), rec 2 x1 S = some r → cpMv l yX12_readUnit cX12_readUnit 3 (none) dz w A [.ref (w.2.1 150), .int x1] S r) (hrec3 : ∀ (x1 : Int32) (S : cpS) (r : Unit × cpS), rec 3 x1 S = some r → cpMv l yX12_readSum cX12_readSum 3 (none) dz w A [.ref (w.2.1 150), .int x1] S r) (hrec4 : ∀ (x1 : Int32) (S : cpS) (r : Unit × cpS), rec 4 x1 S = some r → cpMv l yX12_readTerm cX12_readTerm 2 (none) dz w A [.ref (w.2.1 150), .int x1] S r) (hrec5 : ∀ (x1 : Int32) (S : cpS) (r : Unit × cpS), rec 5 x1 S = some r → cpMv l yX12_readAtom cX12_readAtom 2 (none) dz w A [.ref (w.2.1 150), .int x1] S r) (hrec6 : ∀ (x1 : Int32) (S : cpS) (r : Unit × cpS), rec 6 x1 S = some r → cpMv l yX12_readIf cX12_readIf 2 (none) dz w A [.ref (w.2.1 150), .int x1] S r) (x1 : Int32) (S : cpS) (r : Unit × cpS) (h : fX12_readBoth rec x1 S = some r) : cpMv l yX12_readBoth cX12_readBoth 2 (none) (dz + 1) w A [.ref (w.2.1 150), .int x1] S r := by
  refine cpMv.of (lv := [some (.ref (w.2.1 150)), some (.int x1)]) (by decide) (Nat.le_of_ble_eq_true rfl) rfl (fun p e s m args below meth c C hr => ?_)
  replace C : cpCx p s m args meth c w A cX12_readBoth RX12 2 := C
  rw [fX12_readBoth] at h
  refine cj_aload_n C (i := 0) dX12_readBoth_0 rfl rfl ?_
  refine cj_iload_n C (i := 1) dX12_readBoth_1 rfl rfl ?_
  refine cj_callVv C (As := [.int x1]) (rest := []) qX12_readUnit mw_27_21 o_150 rfl rfl rfl (Nat.le_of_ble_eq_true rfl) (by omega) dX12_readBoth_2 h (fun _ _ hf => hrec2 x1 S _ hf) (fun z1 S2 h => ?_)
  exact wX12_readBoth_5 C hr hz hrec0 hrec1 hrec2 hrec3 hrec4 hrec5 hrec6 x1 cpFu S2 h
/-! X12_readUnit -/
def fX12_readUnit_139 (rec : Nat → Int32 → cpS → Option (Unit × cpS)) (x1 : Int32) (x2 : Int32) (S : cpS) : Option (Unit × cpS) :=
    cpB (fX12_next S) fun _ S2 =>
    cpB (rec 3 x1 S2) fun _ S4 =>
    cpB (fX12_codes x2 S4) fun _ S6 =>
    some ((), S6)
set_option maxRecDepth 100000 in
set_option maxHeartbeats 4000000 in
theorem wX12_readUnit_139 (C : cpCx p s m args meth c w A cX12_readUnit RX12 3) (hr : meth.sig.returnType = none) {r : Unit × cpS} {rec : Nat → Int32 → cpS → Option (Unit × cpS)} {dz : Nat} (hz : 7 ≤ dz) (hrec0 : ∀ (x1 : Int32) (S : cpS) (r : Unit × cpS), rec 0 x1 S = some r → cpMv l yX12_readTruth cX12_readTruth 2 (none) dz w A [.ref (w.2.1 150), .int x1] S r) (hrec1 : ∀ (x1 : Int32) (S : cpS) (r : Unit × cpS), rec 1 x1 S = some r → cpMv l yX12_readBoth cX12_readBoth 2 (none) dz w A [.ref (w.2.1 150), .int x1] S r) (hrec2 : ∀ (x1 : Int32) (S : cpS) (r : Unit × cpS), rec 2 x1 S = some r → cpMv l yX12_readUnit cX12_readUnit 3 (none) dz w A [.ref (w.2.1 150), .int x1] S r) (hrec3 : ∀ (x1 : Int32) (S : cpS) (r : Unit × cpS), rec 3 x1 S = some r → cpMv l yX12_readSum cX12_readSum 3 (none) dz w A [.ref (w.2.1 150), .int x1] S r) (hrec4 : ∀ (x1 : Int32) (S : cpS) (r : Unit × cpS), rec 4 x1 S = some r → cpMv l yX12_readTerm cX12_readTerm 2 (none) dz w A [.ref (w.2.1 150), .int x1] S r) (hrec5 : ∀ (x1 : Int32) (S : cpS) (r : Unit × cpS), rec 5 x1 S = some r → cpMv l yX12_readAtom cX12_readAtom 2 (none) dz w A [.ref (w.2.1 150), .int x1] S r) (hrec6 : ∀ (x1 : Int32) (S : cpS) (r : Unit × cpS), rec 6 x1 S = some r → cpMv l yX12_readIf cX12_readIf 2 (none) dz w A [.ref (w.2.1 150), .int x1] S r) (x1 : Int32) (x2 : Int32) (S : cpS) (h : fX12_readUnit_139 rec x1 x2 S = some r) : cpJ p l e (cpRm (dz + 1)) s m args below meth c (MQ below (va_Qv (fun S' => ((), S') = r) (cpWorld w A) A) args s 0 0 A) w A 3 139 [some (.ref (w.2.1 150)), some (.int x1), some (.int x2)] [] S := by
  rw [fX12_readUnit_139] at h
  refine cj_aload_n C (i := 0) dX12_readUnit_139 rfl rfl ?_
  refine cj_callVv C (As := []) (rest := []) qX12_next mw_23_18 o_150 rfl rfl rfl (Nat.le_of_ble_eq_true rfl) (by omega) dX12_readUnit_140 h (fun _ _ hf => m_X12_next l w A S _ hf) (fun z1 S2 h => ?_)
  refine cj_goto C (tgt := 151) dX12_readUnit_143 rfl ?_
  refine cj_aload_n C (i := 0) dX12_readUnit_151 rfl rfl ?_
  refine cj_iload_n C (i := 1) dX12_readUnit_152 rfl rfl ?_
  refine cj_callVv C (As := [.int x1]) (rest := []) qX12_readSum mw_26_21 o_150 rfl rfl rfl (Nat.le_of_ble_eq_true rfl) (by omega) dX12_readUnit_153 h (fun _ _ hf => hrec3 x1 S2 _ hf) (fun z3 S4 h => ?_)
  refine cj_aload_n C (i := 0) dX12_readUnit_156 rfl rfl ?_
  refine cj_iload_n C (i := 2) dX12_readUnit_157 rfl rfl ?_
  refine cj_callVv C (As := [.int x2]) (rest := []) qX12_codes mw_27_4 o_150 rfl rfl rfl (Nat.le_of_ble_eq_true rfl) (by omega) dX12_readUnit_158 h (fun _ _ hf => m_X12_codes l w A x2 S4 _ hf) (fun z5 S6 h => ?_)
  exact cj_vreturn C hr h dX12_readUnit_161
def fX12_readUnit_111 (rec : Nat → Int32 → cpS → Option (Unit × cpS)) (x1 : Int32) (s0 : Int32) (S : cpS) : Option (Unit × cpS) :=
    cpB (fX12_is (39 : Int32) S) fun z1 S2 =>
    if z1 = 0 then (
    cpB (fX12_is (40 : Int32) S2) fun z3 S4 =>
    if z3 = 0 then (
    cpB (fX12_is (41 : Int32) S4) fun z5 S6 =>
    if z5 = 0 then (
    cpB (fX12_fails (2 : Int32) S6) fun _ S8 =>
    cpB (rec 3 x1 S8) fun _ S10 =>
    cpB (fX12_codes s0 S10) fun _ S12 =>
    some ((), S12)) else (
    fX12_readUnit_139 rec x1 s0 S6)) else (
    fX12_readUnit_139 rec x1 s0 S4)) else (
    fX12_readUnit_139 rec x1 s0 S2)
set_option maxRecDepth 100000 in
set_option maxHeartbeats 4000000 in
theorem wX12_readUnit_111 (C : cpCx p s m args meth c w A cX12_readUnit RX12 3) (hr : meth.sig.returnType = none) {r : Unit × cpS} {rec : Nat → Int32 → cpS → Option (Unit × cpS)} {dz : Nat} (hz : 7 ≤ dz) (hrec0 : ∀ (x1 : Int32) (S : cpS) (r : Unit × cpS), rec 0 x1 S = some r → cpMv l yX12_readTruth cX12_readTruth 2 (none) dz w A [.ref (w.2.1 150), .int x1] S r) (hrec1 : ∀ (x1 : Int32) (S : cpS) (r : Unit × cpS), rec 1 x1 S = some r → cpMv l yX12_readBoth cX12_readBoth 2 (none) dz w A [.ref (w.2.1 150), .int x1] S r) (hrec2 : ∀ (x1 : Int32) (S : cpS) (r : Unit × cpS), rec 2 x1 S = some r → cpMv l yX12_readUnit cX12_readUnit 3 (none) dz w A [.ref (w.2.1 150), .int x1] S r) (hrec3 : ∀ (x1 : Int32) (S : cpS) (r : Unit × cpS), rec 3 x1 S = some r → cpMv l yX12_readSum cX12_readSum 3 (none) dz w A [.ref (w.2.1 150), .int x1] S r) (hrec4 : ∀ (x1 : Int32) (S : cpS) (r : Unit × cpS), rec 4 x1 S = some r → cpMv l yX12_readTerm cX12_readTerm 2 (none) dz w A [.ref (w.2.1 150), .int x1] S r) (hrec5 : ∀ (x1 : Int32) (S : cpS) (r : Unit × cpS), rec 5 x1 S = some r → cpMv l yX12_readAtom cX12_readAtom 2 (none) dz w A [.ref (w.2.1 150), .int x1] S r) (hrec6 : ∀ (x1 : Int32) (S : cpS) (r : Unit × cpS), rec 6 x1 S = some r → cpMv l yX12_readIf cX12_readIf 2 (none) dz w A [.ref (w.2.1 150), .int x1] S r) (x1 : Int32) (s0 : Int32) (S : cpS) (h : fX12_readUnit_111 rec x1 s0 S = some r) : cpJ p l e (cpRm (dz + 1)) s m args below meth c (MQ below (va_Qv (fun S' => ((), S') = r) (cpWorld w A) A) args s 0 0 A) w A 3 111 [some (.ref (w.2.1 150)), some (.int x1), none] [.int s0] S := by
  rw [fX12_readUnit_111] at h
  refine cj_istore_n C (i := 2) (lv' := [some (.ref (w.2.1 150)), some (.int x1), some (.int s0)]) dX12_readUnit_111 rfl (by decide) rfl rfl ?_
  refine cj_aload_n C (i := 0) dX12_readUnit_112 rfl rfl ?_
  refine cj_bipush C (v := (39 : Int32)) dX12_readUnit_113 rfl ?_
  refine cj_callVi C (As := [.int (39 : Int32)]) (rest := []) qX12_is mw_24_20 o_150 rfl rfl rfl (Nat.le_of_ble_eq_true rfl) (by omega) dX12_readUnit_115 h (fun _ _ hf => m_X12_is l w A (39 : Int32) S _ hf) (fun z1 S2 h => ?_)
  refine cj_if_ne C (tgt := 139) dX12_readUnit_118 rfl h (fun _ h => ?_) (fun _ h => ?_)
  · refine cj_aload_n C (i := 0) dX12_readUnit_121 rfl rfl ?_
    refine cj_bipush C (v := (40 : Int32)) dX12_readUnit_122 rfl ?_
    refine cj_callVi C (As := [.int (40 : Int32)]) (rest := []) qX12_is mw_24_20 o_150 rfl rfl rfl (Nat.le_of_ble_eq_true rfl) (by omega) dX12_readUnit_124 h (fun _ _ hf => m_X12_is l w A (40 : Int32) S2 _ hf) (fun z3 S4 h => ?_)
    refine cj_if_ne C (tgt := 139) dX12_readUnit_127 rfl h (fun _ h => ?_) (fun _ h => ?_)
    · refine cj_aload_n C (i := 0) dX12_readUnit_130 rfl rfl ?_
      refine cj_bipush C (v := (41 : Int32)) dX12_readUnit_131 rfl ?_
      refine cj_callVi C (As := [.int (41 : Int32)]) (rest := []) qX12_is mw_24_20 o_150 rfl rfl rfl (Nat.le_of_ble_eq_true rfl) (by omega) dX12_readUnit_133 h (fun _ _ hf => m_X12_is l w A (41 : Int32) S4 _ hf) (fun z5 S6 h => ?_)
      refine cj_if_eq C (tgt := 146) dX12_readUnit_136 rfl h (fun _ h => ?_) (fun _ h => ?_)
      · refine cj_aload_n C (i := 0) dX12_readUnit_146 rfl rfl ?_
        refine cj_iconst C (v := (2 : Int32)) dX12_readUnit_147 rfl ?_
        refine cj_callVv C (As := [.int (2 : Int32)]) (rest := []) qX12_fails mw_25_0 o_150 rfl rfl rfl (Nat.le_of_ble_eq_true rfl) (by omega) dX12_readUnit_148 h (fun _ _ hf => m_X12_fails l w A (2 : Int32) S6 _ hf) (fun z7 S8 h => ?_)
        refine cj_aload_n C (i := 0) dX12_readUnit_151 rfl rfl ?_
        refine cj_iload_n C (i := 1) dX12_readUnit_152 rfl rfl ?_
        refine cj_callVv C (As := [.int x1]) (rest := []) qX12_readSum mw_26_21 o_150 rfl rfl rfl (Nat.le_of_ble_eq_true rfl) (by omega) dX12_readUnit_153 h (fun _ _ hf => hrec3 x1 S8 _ hf) (fun z9 S10 h => ?_)
        refine cj_aload_n C (i := 0) dX12_readUnit_156 rfl rfl ?_
        refine cj_iload_n C (i := 2) dX12_readUnit_157 rfl rfl ?_
        refine cj_callVv C (As := [.int s0]) (rest := []) qX12_codes mw_27_4 o_150 rfl rfl rfl (Nat.le_of_ble_eq_true rfl) (by omega) dX12_readUnit_158 h (fun _ _ hf => m_X12_codes l w A s0 S10 _ hf) (fun z11 S12 h => ?_)
        exact cj_vreturn C hr h dX12_readUnit_161
      · exact wX12_readUnit_139 C hr hz hrec0 hrec1 hrec2 hrec3 hrec4 hrec5 hrec6 x1 s0 S6 h
    · exact wX12_readUnit_139 C hr hz hrec0 hrec1 hrec2 hrec3 hrec4 hrec5 hrec6 x1 s0 S4 h
  · exact wX12_readUnit_139 C hr hz hrec0 hrec1 hrec2 hrec3 hrec4 hrec5 hrec6 x1 s0 S2 h
def fX12_readUnit (rec : Nat → Int32 → cpS → Option (Unit × cpS)) (x1 : Int32) (S : cpS) : Option (Unit × cpS) :=
    cpB (fX12_is (22 : Int32) S) fun z1 S2 =>
    if z1 = 0 then (
    cpB (fX12_is (37 : Int32) S2) fun z3 S4 =>
    if z3 = 0 then (
    cpB (rec 3 x1 S4) fun _ S6 =>
    cpB (fX12_is (39 : Int32) S6) fun z7 S8 =>
    if z7 = 0 then (
    cpB (fX12_is (40 : Int32) S8) fun z9 S10 =>
    if z9 = 0 then (
    fX12_readUnit_111 rec x1 (3005 : Int32) S10) else (
    fX12_readUnit_111 rec x1 (3004 : Int32) S10)) else (
    fX12_readUnit_111 rec x1 (3003 : Int32) S8)) else (
    cpB (fX12_goesIn x1 S4) fun z11 S12 =>
    if z11 = 0 then (
    some ((), S12)) else (
    cpB (rec 0 (x1 + (1 : Int32)) S12) fun _ S14 =>
    cpB (fX12_eats (38 : Int32) S14) fun z15 S16 =>
    if z15 = 0 then (
    cpB (fX12_fails (2 : Int32) S16) fun _ S18 =>
    some ((), S18)) else (
    some ((), S16))))) else (
    cpB (fX12_goesIn x1 S2) fun z19 S20 =>
    if z19 = 0 then (
    some ((), S20)) else (
    cpB (rec 2 (x1 + (1 : Int32)) S20) fun _ S22 =>
    cpB (fX12_codes (3006 : Int32) S22) fun _ S24 =>
    some ((), S24)))
set_option maxRecDepth 100000 in
set_option maxHeartbeats 4000000 in
theorem m_X12_readUnit (l : Launch) (w : cpW) (A : Nat → Prop) {rec : Nat → Int32 → cpS → Option (Unit × cpS)} {dz : Nat} (hz : 7 ≤ dz) (hrec0 : ∀ (x1 : Int32) (S : cpS) (r : Unit × cpS), rec 0 x1 S = some r → cpMv l yX12_readTruth cX12_readTruth 2 (none) dz w A [.ref (w.2.1 150), .int x1] S r) (hrec1 : ∀ (x1 : Int32) (S : cpS) (r : Unit × cpS), rec 1 x1 S = some r → cpMv l yX12_readBoth cX12_readBoth 2 (none) dz w A [.ref (w.2.1 150), .int x1] S r) (hrec2 : ∀ (x1 : Int32) (S : cpS) (r : Unit × cpS), rec 2 x1 S = some r → cpMv l yX12_readUnit cX12_readUnit 3 (none) dz w A [.ref (w.2.1 150), .int x1] S r) (hrec3 : ∀ (x1 : Int32) (S : cpS) (r : Unit × cpS), rec 3 x1 S = some r → cpMv l yX12_readSum cX12_readSum 3 (none) dz w A [.ref (w.2.1 150), .int x1] S r) (hrec4 : ∀ (x1 : Int32) (S : cpS) (r : Unit × cpS), rec 4 x1 S = some r → cpMv l yX12_readTerm cX12_readTerm 2 (none) dz w A [.ref (w.2.1 150), .int x1] S r) (hrec5 : ∀ (x1 : Int32) (S : cpS) (r : Unit × cpS), rec 5 x1 S = some r → cpMv l yX12_readAtom cX12_readAtom 2 (none) dz w A [.ref (w.2.1 150), .int x1] S r) (hrec6 : ∀ (x1 : Int32) (S : cpS) (r : Unit × cpS), rec 6 x1 S = some r → cpMv l yX12_readIf cX12_readIf 2 (none) dz w A [.ref (w.2.1 150), .int x1] S r) (x1 : Int32) (S : cpS) (r : Unit × cpS) (h : fX12_readUnit rec x1 S = some r) : cpMv l yX12_readUnit cX12_readUnit 3 (none) (dz + 1) w A [.ref (w.2.1 150), .int x1] S r := by
  refine cpMv.of (lv := [some (.ref (w.2.1 150)), some (.int x1), none]) (by decide) (Nat.le_of_ble_eq_true rfl) rfl (fun p e s m args below meth c C hr => ?_)
  replace C : cpCx p s m args meth c w A cX12_readUnit RX12 3 := C
  rw [fX12_readUnit] at h
  refine cj_aload_n C (i := 0) dX12_readUnit_0 rfl rfl ?_
  refine cj_bipush C (v := (22 : Int32)) dX12_readUnit_1 rfl ?_
  refine cj_callVi C (As := [.int (22 : Int32)]) (rest := []) qX12_is mw_24_20 o_150 rfl rfl rfl (Nat.le_of_ble_eq_true rfl) (by omega) dX12_readUnit_3 h (fun _ _ hf => m_X12_is l w A (22 : Int32) S _ hf) (fun z1 S2 h => ?_)
  refine cj_if_eq C (tgt := 33) dX12_readUnit_6 rfl h (fun _ h => ?_) (fun _ h => ?_)
  · refine cj_aload_n C (i := 0) dX12_readUnit_33 rfl rfl ?_
    refine cj_bipush C (v := (37 : Int32)) dX12_readUnit_34 rfl ?_
    refine cj_callVi C (As := [.int (37 : Int32)]) (rest := []) qX12_is mw_24_20 o_150 rfl rfl rfl (Nat.le_of_ble_eq_true rfl) (by omega) dX12_readUnit_36 h (fun _ _ hf => m_X12_is l w A (37 : Int32) S2 _ hf) (fun z3 S4 h => ?_)
    refine cj_if_eq C (tgt := 73) dX12_readUnit_39 rfl h (fun _ h => ?_) (fun _ h => ?_)
    · refine cj_aload_n C (i := 0) dX12_readUnit_73 rfl rfl ?_
      refine cj_iload_n C (i := 1) dX12_readUnit_74 rfl rfl ?_
      refine cj_callVv C (As := [.int x1]) (rest := []) qX12_readSum mw_26_21 o_150 rfl rfl rfl (Nat.le_of_ble_eq_true rfl) (by omega) dX12_readUnit_75 h (fun _ _ hf => hrec3 x1 S4 _ hf) (fun z5 S6 h => ?_)
      refine cj_aload_n C (i := 0) dX12_readUnit_78 rfl rfl ?_
      refine cj_bipush C (v := (39 : Int32)) dX12_readUnit_79 rfl ?_
      refine cj_callVi C (As := [.int (39 : Int32)]) (rest := []) qX12_is mw_24_20 o_150 rfl rfl rfl (Nat.le_of_ble_eq_true rfl) (by omega) dX12_readUnit_81 h (fun _ _ hf => m_X12_is l w A (39 : Int32) S6 _ hf) (fun z7 S8 h => ?_)
      refine cj_if_eq C (tgt := 93) dX12_readUnit_84 rfl h (fun _ h => ?_) (fun _ h => ?_)
      · refine cj_aload_n C (i := 0) dX12_readUnit_93 rfl rfl ?_
        refine cj_bipush C (v := (40 : Int32)) dX12_readUnit_94 rfl ?_
        refine cj_callVi C (As := [.int (40 : Int32)]) (rest := []) qX12_is mw_24_20 o_150 rfl rfl rfl (Nat.le_of_ble_eq_true rfl) (by omega) dX12_readUnit_96 h (fun _ _ hf => m_X12_is l w A (40 : Int32) S8 _ hf) (fun z9 S10 h => ?_)
        refine cj_if_eq C (tgt := 108) dX12_readUnit_99 rfl h (fun _ h => ?_) (fun _ h => ?_)
        · refine cj_sipush C (v := (3005 : Int32)) dX12_readUnit_108 rfl ?_
          exact wX12_readUnit_111 C hr hz hrec0 hrec1 hrec2 hrec3 hrec4 hrec5 hrec6 x1 (3005 : Int32) S10 h
        · refine cj_sipush C (v := (3004 : Int32)) dX12_readUnit_102 rfl ?_
          refine cj_goto C (tgt := 111) dX12_readUnit_105 rfl ?_
          exact wX12_readUnit_111 C hr hz hrec0 hrec1 hrec2 hrec3 hrec4 hrec5 hrec6 x1 (3004 : Int32) S10 h
      · refine cj_sipush C (v := (3003 : Int32)) dX12_readUnit_87 rfl ?_
        refine cj_goto C (tgt := 111) dX12_readUnit_90 rfl ?_
        exact wX12_readUnit_111 C hr hz hrec0 hrec1 hrec2 hrec3 hrec4 hrec5 hrec6 x1 (3003 : Int32) S8 h
    · refine cj_aload_n C (i := 0) dX12_readUnit_42 rfl rfl ?_
      refine cj_iload_n C (i := 1) dX12_readUnit_43 rfl rfl ?_
      refine cj_callVi C (As := [.int x1]) (rest := []) qX12_goesIn mw_27_13 o_150 rfl rfl rfl (Nat.le_of_ble_eq_true rfl) (by omega) dX12_readUnit_44 h (fun _ _ hf => m_X12_goesIn l w A x1 S4 _ hf) (fun z11 S12 h => ?_)
      refine cj_if_ne C (tgt := 51) dX12_readUnit_47 rfl h (fun _ h => ?_) (fun _ h => ?_)
      · exact cj_vreturn C hr h dX12_readUnit_50
      · refine cj_aload_n C (i := 0) dX12_readUnit_51 rfl rfl ?_
        refine cj_iload_n C (i := 1) dX12_readUnit_52 rfl rfl ?_
        refine cj_iconst C (v := (1 : Int32)) dX12_readUnit_53 rfl ?_
        refine cj_iadd C dX12_readUnit_54 ?_
        refine cj_callVv C (As := [.int (x1 + (1 : Int32))]) (rest := []) qX12_readTruth mw_28_1 o_150 rfl rfl rfl (Nat.le_of_ble_eq_true rfl) (by omega) dX12_readUnit_55 h (fun _ _ hf => hrec0 (x1 + (1 : Int32)) S12 _ hf) (fun z13 S14 h => ?_)
        refine cj_aload_n C (i := 0) dX12_readUnit_58 rfl rfl ?_
        refine cj_bipush C (v := (38 : Int32)) dX12_readUnit_59 rfl ?_
        refine cj_callVi C (As := [.int (38 : Int32)]) (rest := []) qX12_eats mw_24_16 o_150 rfl rfl rfl (Nat.le_of_ble_eq_true rfl) (by omega) dX12_readUnit_61 h (fun _ _ hf => m_X12_eats l w A (38 : Int32) S14 _ hf) (fun z15 S16 h => ?_)
        refine cj_if_ne C (tgt := 72) dX12_readUnit_64 rfl h (fun _ h => ?_) (fun _ h => ?_)
        · refine cj_aload_n C (i := 0) dX12_readUnit_67 rfl rfl ?_
          refine cj_iconst C (v := (2 : Int32)) dX12_readUnit_68 rfl ?_
          refine cj_callVv C (As := [.int (2 : Int32)]) (rest := []) qX12_fails mw_25_0 o_150 rfl rfl rfl (Nat.le_of_ble_eq_true rfl) (by omega) dX12_readUnit_69 h (fun _ _ hf => m_X12_fails l w A (2 : Int32) S16 _ hf) (fun z17 S18 h => ?_)
          exact cj_vreturn C hr h dX12_readUnit_72
        · exact cj_vreturn C hr h dX12_readUnit_72
  · refine cj_aload_n C (i := 0) dX12_readUnit_9 rfl rfl ?_
    refine cj_iload_n C (i := 1) dX12_readUnit_10 rfl rfl ?_
    refine cj_callVi C (As := [.int x1]) (rest := []) qX12_goesIn mw_27_13 o_150 rfl rfl rfl (Nat.le_of_ble_eq_true rfl) (by omega) dX12_readUnit_11 h (fun _ _ hf => m_X12_goesIn l w A x1 S2 _ hf) (fun z19 S20 h => ?_)
    refine cj_if_ne C (tgt := 18) dX12_readUnit_14 rfl h (fun _ h => ?_) (fun _ h => ?_)
    · exact cj_vreturn C hr h dX12_readUnit_17
    · refine cj_aload_n C (i := 0) dX12_readUnit_18 rfl rfl ?_
      refine cj_iload_n C (i := 1) dX12_readUnit_19 rfl rfl ?_
      refine cj_iconst C (v := (1 : Int32)) dX12_readUnit_20 rfl ?_
      refine cj_iadd C dX12_readUnit_21 ?_
      refine cj_callVv C (As := [.int (x1 + (1 : Int32))]) (rest := []) qX12_readUnit mw_27_21 o_150 rfl rfl rfl (Nat.le_of_ble_eq_true rfl) (by omega) dX12_readUnit_22 h (fun _ _ hf => hrec2 (x1 + (1 : Int32)) S20 _ hf) (fun z21 S22 h => ?_)
      refine cj_aload_n C (i := 0) dX12_readUnit_25 rfl rfl ?_
      refine cj_sipush C (v := (3006 : Int32)) dX12_readUnit_26 rfl ?_
      refine cj_callVv C (As := [.int (3006 : Int32)]) (rest := []) qX12_codes mw_27_4 o_150 rfl rfl rfl (Nat.le_of_ble_eq_true rfl) (by omega) dX12_readUnit_29 h (fun _ _ hf => m_X12_codes l w A (3006 : Int32) S22 _ hf) (fun z23 S24 h => ?_)
      exact cj_vreturn C hr h dX12_readUnit_32
/-! X12_readSum -/
def fX12_readSum_41 (rec : Nat → Int32 → cpS → Option (Unit × cpS)) (x1 : Int32) (s0 : Int32) (k5 : cpS → Option (Unit × cpS)) (S : cpS) : Option (Unit × cpS) :=
    cpB (fX12_next S) fun _ S2 =>
    cpB (rec 4 x1 S2) fun _ S4 =>
    cpB (fX12_codes s0 S4) fun _ S6 =>
    k5 S6
set_option maxRecDepth 100000 in
set_option maxHeartbeats 4000000 in
theorem wX12_readSum_41 (C : cpCx p s m args meth c w A cX12_readSum RX12 3) (hr : meth.sig.returnType = none) {r : Unit × cpS} {rec : Nat → Int32 → cpS → Option (Unit × cpS)} {dz : Nat} (hz : 7 ≤ dz) (hrec0 : ∀ (x1 : Int32) (S : cpS) (r : Unit × cpS), rec 0 x1 S = some r → cpMv l yX12_readTruth cX12_readTruth 2 (none) dz w A [.ref (w.2.1 150), .int x1] S r) (hrec1 : ∀ (x1 : Int32) (S : cpS) (r : Unit × cpS), rec 1 x1 S = some r → cpMv l yX12_readBoth cX12_readBoth 2 (none) dz w A [.ref (w.2.1 150), .int x1] S r) (hrec2 : ∀ (x1 : Int32) (S : cpS) (r : Unit × cpS), rec 2 x1 S = some r → cpMv l yX12_readUnit cX12_readUnit 3 (none) dz w A [.ref (w.2.1 150), .int x1] S r) (hrec3 : ∀ (x1 : Int32) (S : cpS) (r : Unit × cpS), rec 3 x1 S = some r → cpMv l yX12_readSum cX12_readSum 3 (none) dz w A [.ref (w.2.1 150), .int x1] S r) (hrec4 : ∀ (x1 : Int32) (S : cpS) (r : Unit × cpS), rec 4 x1 S = some r → cpMv l yX12_readTerm cX12_readTerm 2 (none) dz w A [.ref (w.2.1 150), .int x1] S r) (hrec5 : ∀ (x1 : Int32) (S : cpS) (r : Unit × cpS), rec 5 x1 S = some r → cpMv l yX12_readAtom cX12_readAtom 2 (none) dz w A [.ref (w.2.1 150), .int x1] S r) (hrec6 : ∀ (x1 : Int32) (S : cpS) (r : Unit × cpS), rec 6 x1 S = some r → cpMv l yX12_readIf cX12_readIf 2 (none) dz w A [.ref (w.2.1 150), .int x1] S r) (x1 : Int32) (s0 : Int32) {k5 : cpS → Option (Unit × cpS)} (hk5 : ∀ (S : cpS), k5 S = some r → cpJ p l e (cpRm (dz + 1)) s m args below meth c (MQ below (va_Qv (fun S' => ((), S') = r) (cpWorld w A) A) args s 0 0 A) w A 3 5 [some (.ref (w.2.1 150)), some (.int x1), none] [] S) (S : cpS) (h : fX12_readSum_41 rec x1 s0 k5 S = some r) : cpJ p l e (cpRm (dz + 1)) s m args below meth c (MQ below (va_Qv (fun S' => ((), S') = r) (cpWorld w A) A) args s 0 0 A) w A 3 41 [some (.ref (w.2.1 150)), some (.int x1), none] [.int s0] S := by
  rw [fX12_readSum_41] at h
  refine cj_istore_n C (i := 2) (lv' := [some (.ref (w.2.1 150)), some (.int x1), some (.int s0)]) dX12_readSum_41 rfl (by decide) rfl rfl ?_
  refine cj_aload_n C (i := 0) dX12_readSum_42 rfl rfl ?_
  refine cj_callVv C (As := []) (rest := []) qX12_next mw_23_18 o_150 rfl rfl rfl (Nat.le_of_ble_eq_true rfl) (by omega) dX12_readSum_43 h (fun _ _ hf => m_X12_next l w A S _ hf) (fun z1 S2 h => ?_)
  refine cj_aload_n C (i := 0) dX12_readSum_46 rfl rfl ?_
  refine cj_iload_n C (i := 1) dX12_readSum_47 rfl rfl ?_
  refine cj_callVv C (As := [.int x1]) (rest := []) qX12_readTerm mw_27_1 o_150 rfl rfl rfl (Nat.le_of_ble_eq_true rfl) (by omega) dX12_readSum_48 h (fun _ _ hf => hrec4 x1 S2 _ hf) (fun z3 S4 h => ?_)
  refine cj_aload_n C (i := 0) dX12_readSum_51 rfl rfl ?_
  refine cj_iload_n C (i := 2) dX12_readSum_52 rfl rfl ?_
  refine cj_callVv C (As := [.int s0]) (rest := []) qX12_codes mw_27_4 o_150 rfl rfl rfl (Nat.le_of_ble_eq_true rfl) (by omega) dX12_readSum_53 h (fun _ _ hf => m_X12_codes l w A s0 S4 _ hf) (fun z5 S6 h => ?_)
  refine cj_goto C (tgt := 5) dX12_readSum_56 rfl ?_
  refine cj_weak C (lv' := [some (.ref (w.2.1 150)), some (.int x1), none]) (cpSub_s (cpSub_s (cpSub_n cpSub_nil))) ?_
  exact hk5 S6 h
def fX12_readSum_23 (rec : Nat → Int32 → cpS → Option (Unit × cpS)) (x1 : Int32) (k5 : cpS → Option (Unit × cpS)) (S : cpS) : Option (Unit × cpS) :=
    if (S.1 150 9) = (32 : Int32) then (
    fX12_readSum_41 rec x1 (3000 : Int32) k5 S) else (
    fX12_readSum_41 rec x1 (3001 : Int32) k5 S)
set_option maxRecDepth 100000 in
set_option maxHeartbeats 4000000 in
theorem wX12_readSum_23 (C : cpCx p s m args meth c w A cX12_readSum RX12 3) (hr : meth.sig.returnType = none) {r : Unit × cpS} {rec : Nat → Int32 → cpS → Option (Unit × cpS)} {dz : Nat} (hz : 7 ≤ dz) (hrec0 : ∀ (x1 : Int32) (S : cpS) (r : Unit × cpS), rec 0 x1 S = some r → cpMv l yX12_readTruth cX12_readTruth 2 (none) dz w A [.ref (w.2.1 150), .int x1] S r) (hrec1 : ∀ (x1 : Int32) (S : cpS) (r : Unit × cpS), rec 1 x1 S = some r → cpMv l yX12_readBoth cX12_readBoth 2 (none) dz w A [.ref (w.2.1 150), .int x1] S r) (hrec2 : ∀ (x1 : Int32) (S : cpS) (r : Unit × cpS), rec 2 x1 S = some r → cpMv l yX12_readUnit cX12_readUnit 3 (none) dz w A [.ref (w.2.1 150), .int x1] S r) (hrec3 : ∀ (x1 : Int32) (S : cpS) (r : Unit × cpS), rec 3 x1 S = some r → cpMv l yX12_readSum cX12_readSum 3 (none) dz w A [.ref (w.2.1 150), .int x1] S r) (hrec4 : ∀ (x1 : Int32) (S : cpS) (r : Unit × cpS), rec 4 x1 S = some r → cpMv l yX12_readTerm cX12_readTerm 2 (none) dz w A [.ref (w.2.1 150), .int x1] S r) (hrec5 : ∀ (x1 : Int32) (S : cpS) (r : Unit × cpS), rec 5 x1 S = some r → cpMv l yX12_readAtom cX12_readAtom 2 (none) dz w A [.ref (w.2.1 150), .int x1] S r) (hrec6 : ∀ (x1 : Int32) (S : cpS) (r : Unit × cpS), rec 6 x1 S = some r → cpMv l yX12_readIf cX12_readIf 2 (none) dz w A [.ref (w.2.1 150), .int x1] S r) (x1 : Int32) {k5 : cpS → Option (Unit × cpS)} (hk5 : ∀ (S : cpS), k5 S = some r → cpJ p l e (cpRm (dz + 1)) s m args below meth c (MQ below (va_Qv (fun S' => ((), S') = r) (cpWorld w A) A) args s 0 0 A) w A 3 5 [some (.ref (w.2.1 150)), some (.int x1), none] [] S) (S : cpS) (h : fX12_readSum_23 rec x1 k5 S = some r) : cpJ p l e (cpRm (dz + 1)) s m args below meth c (MQ below (va_Qv (fun S' => ((), S') = r) (cpWorld w A) A) args s 0 0 A) w A 3 23 [some (.ref (w.2.1 150)), some (.int x1), none] [] S := by
  rw [fX12_readSum_23] at h
  refine cj_aload_n C (i := 0) dX12_readSum_23 rfl rfl ?_
  refine cj_getI C (j := 9) o_150 rfl gfX12_120 dX12_readSum_24 ?_
  refine cj_bipush C (v := (32 : Int32)) dX12_readSum_27 rfl ?_
  refine cj_icmp_ne C (tgt := 38) dX12_readSum_29 rfl h (fun _ h => ?_) (fun _ h => ?_)
  · refine cj_sipush C (v := (3000 : Int32)) dX12_readSum_32 rfl ?_
    refine cj_goto C (tgt := 41) dX12_readSum_35 rfl ?_
    exact wX12_readSum_41 C hr hz hrec0 hrec1 hrec2 hrec3 hrec4 hrec5 hrec6 x1 (3000 : Int32) hk5 S h
  · refine cj_sipush C (v := (3001 : Int32)) dX12_readSum_38 rfl ?_
    exact wX12_readSum_41 C hr hz hrec0 hrec1 hrec2 hrec3 hrec4 hrec5 hrec6 x1 (3001 : Int32) hk5 S h
def fX12_readSum_5 (rec : Nat → Int32 → cpS → Option (Unit × cpS)) (x1 : Int32) : Nat → cpS → Option (Unit × cpS)
  | 0, _ => none
  | n + 1, S =>
    cpB (fX12_is (32 : Int32) S) fun z1 S2 =>
    if z1 = 0 then (
    cpB (fX12_is (33 : Int32) S2) fun z3 S4 =>
    if z3 = 0 then (
    some ((), S4)) else (
    fX12_readSum_23 rec x1 (fX12_readSum_5 rec x1 n) S4)) else (
    fX12_readSum_23 rec x1 (fX12_readSum_5 rec x1 n) S2)
set_option maxRecDepth 100000 in
set_option maxHeartbeats 4000000 in
theorem wX12_readSum_5 (C : cpCx p s m args meth c w A cX12_readSum RX12 3) (hr : meth.sig.returnType = none) {r : Unit × cpS} {rec : Nat → Int32 → cpS → Option (Unit × cpS)} {dz : Nat} (hz : 7 ≤ dz) (hrec0 : ∀ (x1 : Int32) (S : cpS) (r : Unit × cpS), rec 0 x1 S = some r → cpMv l yX12_readTruth cX12_readTruth 2 (none) dz w A [.ref (w.2.1 150), .int x1] S r) (hrec1 : ∀ (x1 : Int32) (S : cpS) (r : Unit × cpS), rec 1 x1 S = some r → cpMv l yX12_readBoth cX12_readBoth 2 (none) dz w A [.ref (w.2.1 150), .int x1] S r) (hrec2 : ∀ (x1 : Int32) (S : cpS) (r : Unit × cpS), rec 2 x1 S = some r → cpMv l yX12_readUnit cX12_readUnit 3 (none) dz w A [.ref (w.2.1 150), .int x1] S r) (hrec3 : ∀ (x1 : Int32) (S : cpS) (r : Unit × cpS), rec 3 x1 S = some r → cpMv l yX12_readSum cX12_readSum 3 (none) dz w A [.ref (w.2.1 150), .int x1] S r) (hrec4 : ∀ (x1 : Int32) (S : cpS) (r : Unit × cpS), rec 4 x1 S = some r → cpMv l yX12_readTerm cX12_readTerm 2 (none) dz w A [.ref (w.2.1 150), .int x1] S r) (hrec5 : ∀ (x1 : Int32) (S : cpS) (r : Unit × cpS), rec 5 x1 S = some r → cpMv l yX12_readAtom cX12_readAtom 2 (none) dz w A [.ref (w.2.1 150), .int x1] S r) (hrec6 : ∀ (x1 : Int32) (S : cpS) (r : Unit × cpS), rec 6 x1 S = some r → cpMv l yX12_readIf cX12_readIf 2 (none) dz w A [.ref (w.2.1 150), .int x1] S r) (x1 : Int32) : ∀ (n : Nat)  (S : cpS), fX12_readSum_5 rec x1 n S = some r → cpJ p l e (cpRm (dz + 1)) s m args below meth c (MQ below (va_Qv (fun S' => ((), S') = r) (cpWorld w A) A) args s 0 0 A) w A 3 5 [some (.ref (w.2.1 150)), some (.int x1), none] [] S := by
  intro n
  induction n with
  | zero => intro  S h; rw [fX12_readSum_5] at h; cases h
  | succ n ih =>
    intro  S h
    rw [fX12_readSum_5] at h
    refine cj_aload_n C (i := 0) dX12_readSum_5 rfl rfl ?_
    refine cj_bipush C (v := (32 : Int32)) dX12_readSum_6 rfl ?_
    refine cj_callVi C (As := [.int (32 : Int32)]) (rest := []) qX12_is mw_24_20 o_150 rfl rfl rfl (Nat.le_of_ble_eq_true rfl) (by omega) dX12_readSum_8 h (fun _ _ hf => m_X12_is l w A (32 : Int32) S _ hf) (fun z1 S2 h => ?_)
    refine cj_if_ne C (tgt := 23) dX12_readSum_11 rfl h (fun _ h => ?_) (fun _ h => ?_)
    · refine cj_aload_n C (i := 0) dX12_readSum_14 rfl rfl ?_
      refine cj_bipush C (v := (33 : Int32)) dX12_readSum_15 rfl ?_
      refine cj_callVi C (As := [.int (33 : Int32)]) (rest := []) qX12_is mw_24_20 o_150 rfl rfl rfl (Nat.le_of_ble_eq_true rfl) (by omega) dX12_readSum_17 h (fun _ _ hf => m_X12_is l w A (33 : Int32) S2 _ hf) (fun z3 S4 h => ?_)
      refine cj_if_eq C (tgt := 59) dX12_readSum_20 rfl h (fun _ h => ?_) (fun _ h => ?_)
      · exact cj_vreturn C hr h dX12_readSum_59
      · exact wX12_readSum_23 C hr hz hrec0 hrec1 hrec2 hrec3 hrec4 hrec5 hrec6 x1 ih S4 h
    · exact wX12_readSum_23 C hr hz hrec0 hrec1 hrec2 hrec3 hrec4 hrec5 hrec6 x1 ih S2 h
def fX12_readSum (rec : Nat → Int32 → cpS → Option (Unit × cpS)) (x1 : Int32) (S : cpS) : Option (Unit × cpS) :=
    cpB (rec 4 x1 S) fun _ S2 =>
    fX12_readSum_5 rec x1 cpFu S2
set_option maxRecDepth 100000 in
set_option maxHeartbeats 4000000 in
theorem m_X12_readSum (l : Launch) (w : cpW) (A : Nat → Prop) {rec : Nat → Int32 → cpS → Option (Unit × cpS)} {dz : Nat} (hz : 7 ≤ dz) (hrec0 : ∀ (x1 : Int32) (S : cpS) (r : Unit × cpS), rec 0 x1 S = some r → cpMv l yX12_readTruth cX12_readTruth 2 (none) dz w A [.ref (w.2.1 150), .int x1] S r) (hrec1 : ∀ (x1 : Int32) (S : cpS) (r : Unit × cpS), rec 1 x1 S = some r → cpMv l yX12_readBoth cX12_readBoth 2 (none) dz w A [.ref (w.2.1 150), .int x1] S r) (hrec2 : ∀ (x1 : Int32) (S : cpS) (r : Unit × cpS), rec 2 x1 S = some r → cpMv l yX12_readUnit cX12_readUnit 3 (none) dz w A [.ref (w.2.1 150), .int x1] S r) (hrec3 : ∀ (x1 : Int32) (S : cpS) (r : Unit × cpS), rec 3 x1 S = some r → cpMv l yX12_readSum cX12_readSum 3 (none) dz w A [.ref (w.2.1 150), .int x1] S r) (hrec4 : ∀ (x1 : Int32) (S : cpS) (r : Unit × cpS), rec 4 x1 S = some r → cpMv l yX12_readTerm cX12_readTerm 2 (none) dz w A [.ref (w.2.1 150), .int x1] S r) (hrec5 : ∀ (x1 : Int32) (S : cpS) (r : Unit × cpS), rec 5 x1 S = some r → cpMv l yX12_readAtom cX12_readAtom 2 (none) dz w A [.ref (w.2.1 150), .int x1] S r) (hrec6 : ∀ (x1 : Int32) (S : cpS) (r : Unit × cpS), rec 6 x1 S = some r → cpMv l yX12_readIf cX12_readIf 2 (none) dz w A [.ref (w.2.1 150), .int x1] S r) (x1 : Int32) (S : cpS) (r : Unit × cpS) (h : fX12_readSum rec x1 S = some r) : cpMv l yX12_readSum cX12_readSum 3 (none) (dz + 1) w A [.ref (w.2.1 150), .int x1] S r := by
  refine cpMv.of (lv := [some (.ref (w.2.1 150)), some (.int x1), none]) (by decide) (Nat.le_of_ble_eq_true rfl) rfl (fun p e s m args below meth c C hr => ?_)
  replace C : cpCx p s m args meth c w A cX12_readSum RX12 3 := C
  rw [fX12_readSum] at h
  refine cj_aload_n C (i := 0) dX12_readSum_0 rfl rfl ?_
  refine cj_iload_n C (i := 1) dX12_readSum_1 rfl rfl ?_
  refine cj_callVv C (As := [.int x1]) (rest := []) qX12_readTerm mw_27_1 o_150 rfl rfl rfl (Nat.le_of_ble_eq_true rfl) (by omega) dX12_readSum_2 h (fun _ _ hf => hrec4 x1 S _ hf) (fun z1 S2 h => ?_)
  exact wX12_readSum_5 C hr hz hrec0 hrec1 hrec2 hrec3 hrec4 hrec5 hrec6 x1 cpFu S2 h
/-! X12_readTerm -/
def fX12_readTerm_5 (rec : Nat → Int32 → cpS → Option (Unit × cpS)) (x1 : Int32) : Nat → cpS → Option (Unit × cpS)
  | 0, _ => none
  | n + 1, S =>
    cpB (fX12_eats (34 : Int32) S) fun z1 S2 =>
    if z1 = 0 then (
    some ((), S2)) else (
    cpB (rec 5 x1 S2) fun _ S4 =>
    cpB (fX12_codes (3002 : Int32) S4) fun _ S6 =>
    fX12_readTerm_5 rec x1 n S6)
set_option maxRecDepth 100000 in
set_option maxHeartbeats 4000000 in
theorem wX12_readTerm_5 (C : cpCx p s m args meth c w A cX12_readTerm RX12 2) (hr : meth.sig.returnType = none) {r : Unit × cpS} {rec : Nat → Int32 → cpS → Option (Unit × cpS)} {dz : Nat} (hz : 7 ≤ dz) (hrec0 : ∀ (x1 : Int32) (S : cpS) (r : Unit × cpS), rec 0 x1 S = some r → cpMv l yX12_readTruth cX12_readTruth 2 (none) dz w A [.ref (w.2.1 150), .int x1] S r) (hrec1 : ∀ (x1 : Int32) (S : cpS) (r : Unit × cpS), rec 1 x1 S = some r → cpMv l yX12_readBoth cX12_readBoth 2 (none) dz w A [.ref (w.2.1 150), .int x1] S r) (hrec2 : ∀ (x1 : Int32) (S : cpS) (r : Unit × cpS), rec 2 x1 S = some r → cpMv l yX12_readUnit cX12_readUnit 3 (none) dz w A [.ref (w.2.1 150), .int x1] S r) (hrec3 : ∀ (x1 : Int32) (S : cpS) (r : Unit × cpS), rec 3 x1 S = some r → cpMv l yX12_readSum cX12_readSum 3 (none) dz w A [.ref (w.2.1 150), .int x1] S r) (hrec4 : ∀ (x1 : Int32) (S : cpS) (r : Unit × cpS), rec 4 x1 S = some r → cpMv l yX12_readTerm cX12_readTerm 2 (none) dz w A [.ref (w.2.1 150), .int x1] S r) (hrec5 : ∀ (x1 : Int32) (S : cpS) (r : Unit × cpS), rec 5 x1 S = some r → cpMv l yX12_readAtom cX12_readAtom 2 (none) dz w A [.ref (w.2.1 150), .int x1] S r) (hrec6 : ∀ (x1 : Int32) (S : cpS) (r : Unit × cpS), rec 6 x1 S = some r → cpMv l yX12_readIf cX12_readIf 2 (none) dz w A [.ref (w.2.1 150), .int x1] S r) (x1 : Int32) : ∀ (n : Nat)  (S : cpS), fX12_readTerm_5 rec x1 n S = some r → cpJ p l e (cpRm (dz + 1)) s m args below meth c (MQ below (va_Qv (fun S' => ((), S') = r) (cpWorld w A) A) args s 0 0 A) w A 2 5 [some (.ref (w.2.1 150)), some (.int x1)] [] S := by
  intro n
  induction n with
  | zero => intro  S h; rw [fX12_readTerm_5] at h; cases h
  | succ n ih =>
    intro  S h
    rw [fX12_readTerm_5] at h
    refine cj_aload_n C (i := 0) dX12_readTerm_5 rfl rfl ?_
    refine cj_bipush C (v := (34 : Int32)) dX12_readTerm_6 rfl ?_
    refine cj_callVi C (As := [.int (34 : Int32)]) (rest := []) qX12_eats mw_24_16 o_150 rfl rfl rfl (Nat.le_of_ble_eq_true rfl) (by omega) dX12_readTerm_8 h (fun _ _ hf => m_X12_eats l w A (34 : Int32) S _ hf) (fun z1 S2 h => ?_)
    refine cj_if_eq C (tgt := 29) dX12_readTerm_11 rfl h (fun _ h => ?_) (fun _ h => ?_)
    · exact cj_vreturn C hr h dX12_readTerm_29
    · refine cj_aload_n C (i := 0) dX12_readTerm_14 rfl rfl ?_
      refine cj_iload_n C (i := 1) dX12_readTerm_15 rfl rfl ?_
      refine cj_callVv C (As := [.int x1]) (rest := []) qX12_readAtom mw_28_5 o_150 rfl rfl rfl (Nat.le_of_ble_eq_true rfl) (by omega) dX12_readTerm_16 h (fun _ _ hf => hrec5 x1 S2 _ hf) (fun z3 S4 h => ?_)
      refine cj_aload_n C (i := 0) dX12_readTerm_19 rfl rfl ?_
      refine cj_sipush C (v := (3002 : Int32)) dX12_readTerm_20 rfl ?_
      refine cj_callVv C (As := [.int (3002 : Int32)]) (rest := []) qX12_codes mw_27_4 o_150 rfl rfl rfl (Nat.le_of_ble_eq_true rfl) (by omega) dX12_readTerm_23 h (fun _ _ hf => m_X12_codes l w A (3002 : Int32) S4 _ hf) (fun z5 S6 h => ?_)
      refine cj_goto C (tgt := 5) dX12_readTerm_26 rfl ?_
      exact ih S6 h
def fX12_readTerm (rec : Nat → Int32 → cpS → Option (Unit × cpS)) (x1 : Int32) (S : cpS) : Option (Unit × cpS) :=
    cpB (rec 5 x1 S) fun _ S2 =>
    fX12_readTerm_5 rec x1 cpFu S2
set_option maxRecDepth 100000 in
set_option maxHeartbeats 4000000 in
theorem m_X12_readTerm (l : Launch) (w : cpW) (A : Nat → Prop) {rec : Nat → Int32 → cpS → Option (Unit × cpS)} {dz : Nat} (hz : 7 ≤ dz) (hrec0 : ∀ (x1 : Int32) (S : cpS) (r : Unit × cpS), rec 0 x1 S = some r → cpMv l yX12_readTruth cX12_readTruth 2 (none) dz w A [.ref (w.2.1 150), .int x1] S r) (hrec1 : ∀ (x1 : Int32) (S : cpS) (r : Unit × cpS), rec 1 x1 S = some r → cpMv l yX12_readBoth cX12_readBoth 2 (none) dz w A [.ref (w.2.1 150), .int x1] S r) (hrec2 : ∀ (x1 : Int32) (S : cpS) (r : Unit × cpS), rec 2 x1 S = some r → cpMv l yX12_readUnit cX12_readUnit 3 (none) dz w A [.ref (w.2.1 150), .int x1] S r) (hrec3 : ∀ (x1 : Int32) (S : cpS) (r : Unit × cpS), rec 3 x1 S = some r → cpMv l yX12_readSum cX12_readSum 3 (none) dz w A [.ref (w.2.1 150), .int x1] S r) (hrec4 : ∀ (x1 : Int32) (S : cpS) (r : Unit × cpS), rec 4 x1 S = some r → cpMv l yX12_readTerm cX12_readTerm 2 (none) dz w A [.ref (w.2.1 150), .int x1] S r) (hrec5 : ∀ (x1 : Int32) (S : cpS) (r : Unit × cpS), rec 5 x1 S = some r → cpMv l yX12_readAtom cX12_readAtom 2 (none) dz w A [.ref (w.2.1 150), .int x1] S r) (hrec6 : ∀ (x1 : Int32) (S : cpS) (r : Unit × cpS), rec 6 x1 S = some r → cpMv l yX12_readIf cX12_readIf 2 (none) dz w A [.ref (w.2.1 150), .int x1] S r) (x1 : Int32) (S : cpS) (r : Unit × cpS) (h : fX12_readTerm rec x1 S = some r) : cpMv l yX12_readTerm cX12_readTerm 2 (none) (dz + 1) w A [.ref (w.2.1 150), .int x1] S r := by
  refine cpMv.of (lv := [some (.ref (w.2.1 150)), some (.int x1)]) (by decide) (Nat.le_of_ble_eq_true rfl) rfl (fun p e s m args below meth c C hr => ?_)
  replace C : cpCx p s m args meth c w A cX12_readTerm RX12 2 := C
  rw [fX12_readTerm] at h
  refine cj_aload_n C (i := 0) dX12_readTerm_0 rfl rfl ?_
  refine cj_iload_n C (i := 1) dX12_readTerm_1 rfl rfl ?_
  refine cj_callVv C (As := [.int x1]) (rest := []) qX12_readAtom mw_28_5 o_150 rfl rfl rfl (Nat.le_of_ble_eq_true rfl) (by omega) dX12_readTerm_2 h (fun _ _ hf => hrec5 x1 S _ hf) (fun z1 S2 h => ?_)
  exact wX12_readTerm_5 C hr hz hrec0 hrec1 hrec2 hrec3 hrec4 hrec5 hrec6 x1 cpFu S2 h
/-! X12_readIf -/
def fX12_readIf_51 (rec : Nat → Int32 → cpS → Option (Unit × cpS)) (x1 : Int32) (S : cpS) : Option (Unit × cpS) :=
    cpB (rec 3 (x1 + (1 : Int32)) S) fun _ S2 =>
    cpB (fX12_eats (17 : Int32) S2) fun z3 S4 =>
    if z3 = 0 then (
    cpB (fX12_fails (2 : Int32) S4) fun _ S6 =>
    cpB (fX12_codes (3009 : Int32) S6) fun _ S8 =>
    some ((), S8)) else (
    cpB (fX12_codes (3009 : Int32) S4) fun _ S10 =>
    some ((), S10))
set_option maxRecDepth 100000 in
set_option maxHeartbeats 4000000 in
theorem wX12_readIf_51 (C : cpCx p s m args meth c w A cX12_readIf RX12 2) (hr : meth.sig.returnType = none) {r : Unit × cpS} {rec : Nat → Int32 → cpS → Option (Unit × cpS)} {dz : Nat} (hz : 7 ≤ dz) (hrec0 : ∀ (x1 : Int32) (S : cpS) (r : Unit × cpS), rec 0 x1 S = some r → cpMv l yX12_readTruth cX12_readTruth 2 (none) dz w A [.ref (w.2.1 150), .int x1] S r) (hrec1 : ∀ (x1 : Int32) (S : cpS) (r : Unit × cpS), rec 1 x1 S = some r → cpMv l yX12_readBoth cX12_readBoth 2 (none) dz w A [.ref (w.2.1 150), .int x1] S r) (hrec2 : ∀ (x1 : Int32) (S : cpS) (r : Unit × cpS), rec 2 x1 S = some r → cpMv l yX12_readUnit cX12_readUnit 3 (none) dz w A [.ref (w.2.1 150), .int x1] S r) (hrec3 : ∀ (x1 : Int32) (S : cpS) (r : Unit × cpS), rec 3 x1 S = some r → cpMv l yX12_readSum cX12_readSum 3 (none) dz w A [.ref (w.2.1 150), .int x1] S r) (hrec4 : ∀ (x1 : Int32) (S : cpS) (r : Unit × cpS), rec 4 x1 S = some r → cpMv l yX12_readTerm cX12_readTerm 2 (none) dz w A [.ref (w.2.1 150), .int x1] S r) (hrec5 : ∀ (x1 : Int32) (S : cpS) (r : Unit × cpS), rec 5 x1 S = some r → cpMv l yX12_readAtom cX12_readAtom 2 (none) dz w A [.ref (w.2.1 150), .int x1] S r) (hrec6 : ∀ (x1 : Int32) (S : cpS) (r : Unit × cpS), rec 6 x1 S = some r → cpMv l yX12_readIf cX12_readIf 2 (none) dz w A [.ref (w.2.1 150), .int x1] S r) (x1 : Int32) (S : cpS) (h : fX12_readIf_51 rec x1 S = some r) : cpJ p l e (cpRm (dz + 1)) s m args below meth c (MQ below (va_Qv (fun S' => ((), S') = r) (cpWorld w A) A) args s 0 0 A) w A 2 51 [some (.ref (w.2.1 150)), some (.int x1)] [] S := by
  rw [fX12_readIf_51] at h
  refine cj_aload_n C (i := 0) dX12_readIf_51 rfl rfl ?_
  refine cj_iload_n C (i := 1) dX12_readIf_52 rfl rfl ?_
  refine cj_iconst C (v := (1 : Int32)) dX12_readIf_53 rfl ?_
  refine cj_iadd C dX12_readIf_54 ?_
  refine cj_callVv C (As := [.int (x1 + (1 : Int32))]) (rest := []) qX12_readSum mw_26_21 o_150 rfl rfl rfl (Nat.le_of_ble_eq_true rfl) (by omega) dX12_readIf_55 h (fun _ _ hf => hrec3 (x1 + (1 : Int32)) S _ hf) (fun z1 S2 h => ?_)
  refine cj_aload_n C (i := 0) dX12_readIf_58 rfl rfl ?_
  refine cj_bipush C (v := (17 : Int32)) dX12_readIf_59 rfl ?_
  refine cj_callVi C (As := [.int (17 : Int32)]) (rest := []) qX12_eats mw_24_16 o_150 rfl rfl rfl (Nat.le_of_ble_eq_true rfl) (by omega) dX12_readIf_61 h (fun _ _ hf => m_X12_eats l w A (17 : Int32) S2 _ hf) (fun z3 S4 h => ?_)
  refine cj_if_ne C (tgt := 72) dX12_readIf_64 rfl h (fun _ h => ?_) (fun _ h => ?_)
  · refine cj_aload_n C (i := 0) dX12_readIf_67 rfl rfl ?_
    refine cj_iconst C (v := (2 : Int32)) dX12_readIf_68 rfl ?_
    refine cj_callVv C (As := [.int (2 : Int32)]) (rest := []) qX12_fails mw_25_0 o_150 rfl rfl rfl (Nat.le_of_ble_eq_true rfl) (by omega) dX12_readIf_69 h (fun _ _ hf => m_X12_fails l w A (2 : Int32) S4 _ hf) (fun z5 S6 h => ?_)
    refine cj_aload_n C (i := 0) dX12_readIf_72 rfl rfl ?_
    refine cj_sipush C (v := (3009 : Int32)) dX12_readIf_73 rfl ?_
    refine cj_callVv C (As := [.int (3009 : Int32)]) (rest := []) qX12_codes mw_27_4 o_150 rfl rfl rfl (Nat.le_of_ble_eq_true rfl) (by omega) dX12_readIf_76 h (fun _ _ hf => m_X12_codes l w A (3009 : Int32) S6 _ hf) (fun z7 S8 h => ?_)
    exact cj_vreturn C hr h dX12_readIf_79
  · refine cj_aload_n C (i := 0) dX12_readIf_72 rfl rfl ?_
    refine cj_sipush C (v := (3009 : Int32)) dX12_readIf_73 rfl ?_
    refine cj_callVv C (As := [.int (3009 : Int32)]) (rest := []) qX12_codes mw_27_4 o_150 rfl rfl rfl (Nat.le_of_ble_eq_true rfl) (by omega) dX12_readIf_76 h (fun _ _ hf => m_X12_codes l w A (3009 : Int32) S4 _ hf) (fun z9 S10 h => ?_)
    exact cj_vreturn C hr h dX12_readIf_79
def fX12_readIf_30 (rec : Nat → Int32 → cpS → Option (Unit × cpS)) (x1 : Int32) (S : cpS) : Option (Unit × cpS) :=
    cpB (rec 3 (x1 + (1 : Int32)) S) fun _ S2 =>
    cpB (fX12_eats (16 : Int32) S2) fun z3 S4 =>
    if z3 = 0 then (
    cpB (fX12_fails (2 : Int32) S4) fun _ S6 =>
    fX12_readIf_51 rec x1 S6) else (
    fX12_readIf_51 rec x1 S4)
set_option maxRecDepth 100000 in
set_option maxHeartbeats 4000000 in
theorem wX12_readIf_30 (C : cpCx p s m args meth c w A cX12_readIf RX12 2) (hr : meth.sig.returnType = none) {r : Unit × cpS} {rec : Nat → Int32 → cpS → Option (Unit × cpS)} {dz : Nat} (hz : 7 ≤ dz) (hrec0 : ∀ (x1 : Int32) (S : cpS) (r : Unit × cpS), rec 0 x1 S = some r → cpMv l yX12_readTruth cX12_readTruth 2 (none) dz w A [.ref (w.2.1 150), .int x1] S r) (hrec1 : ∀ (x1 : Int32) (S : cpS) (r : Unit × cpS), rec 1 x1 S = some r → cpMv l yX12_readBoth cX12_readBoth 2 (none) dz w A [.ref (w.2.1 150), .int x1] S r) (hrec2 : ∀ (x1 : Int32) (S : cpS) (r : Unit × cpS), rec 2 x1 S = some r → cpMv l yX12_readUnit cX12_readUnit 3 (none) dz w A [.ref (w.2.1 150), .int x1] S r) (hrec3 : ∀ (x1 : Int32) (S : cpS) (r : Unit × cpS), rec 3 x1 S = some r → cpMv l yX12_readSum cX12_readSum 3 (none) dz w A [.ref (w.2.1 150), .int x1] S r) (hrec4 : ∀ (x1 : Int32) (S : cpS) (r : Unit × cpS), rec 4 x1 S = some r → cpMv l yX12_readTerm cX12_readTerm 2 (none) dz w A [.ref (w.2.1 150), .int x1] S r) (hrec5 : ∀ (x1 : Int32) (S : cpS) (r : Unit × cpS), rec 5 x1 S = some r → cpMv l yX12_readAtom cX12_readAtom 2 (none) dz w A [.ref (w.2.1 150), .int x1] S r) (hrec6 : ∀ (x1 : Int32) (S : cpS) (r : Unit × cpS), rec 6 x1 S = some r → cpMv l yX12_readIf cX12_readIf 2 (none) dz w A [.ref (w.2.1 150), .int x1] S r) (x1 : Int32) (S : cpS) (h : fX12_readIf_30 rec x1 S = some r) : cpJ p l e (cpRm (dz + 1)) s m args below meth c (MQ below (va_Qv (fun S' => ((), S') = r) (cpWorld w A) A) args s 0 0 A) w A 2 30 [some (.ref (w.2.1 150)), some (.int x1)] [] S := by
  rw [fX12_readIf_30] at h
  refine cj_aload_n C (i := 0) dX12_readIf_30 rfl rfl ?_
  refine cj_iload_n C (i := 1) dX12_readIf_31 rfl rfl ?_
  refine cj_iconst C (v := (1 : Int32)) dX12_readIf_32 rfl ?_
  refine cj_iadd C dX12_readIf_33 ?_
  refine cj_callVv C (As := [.int (x1 + (1 : Int32))]) (rest := []) qX12_readSum mw_26_21 o_150 rfl rfl rfl (Nat.le_of_ble_eq_true rfl) (by omega) dX12_readIf_34 h (fun _ _ hf => hrec3 (x1 + (1 : Int32)) S _ hf) (fun z1 S2 h => ?_)
  refine cj_aload_n C (i := 0) dX12_readIf_37 rfl rfl ?_
  refine cj_bipush C (v := (16 : Int32)) dX12_readIf_38 rfl ?_
  refine cj_callVi C (As := [.int (16 : Int32)]) (rest := []) qX12_eats mw_24_16 o_150 rfl rfl rfl (Nat.le_of_ble_eq_true rfl) (by omega) dX12_readIf_40 h (fun _ _ hf => m_X12_eats l w A (16 : Int32) S2 _ hf) (fun z3 S4 h => ?_)
  refine cj_if_ne C (tgt := 51) dX12_readIf_43 rfl h (fun _ h => ?_) (fun _ h => ?_)
  · refine cj_aload_n C (i := 0) dX12_readIf_46 rfl rfl ?_
    refine cj_iconst C (v := (2 : Int32)) dX12_readIf_47 rfl ?_
    refine cj_callVv C (As := [.int (2 : Int32)]) (rest := []) qX12_fails mw_25_0 o_150 rfl rfl rfl (Nat.le_of_ble_eq_true rfl) (by omega) dX12_readIf_48 h (fun _ _ hf => m_X12_fails l w A (2 : Int32) S4 _ hf) (fun z5 S6 h => ?_)
    exact wX12_readIf_51 C hr hz hrec0 hrec1 hrec2 hrec3 hrec4 hrec5 hrec6 x1 S6 h
  · exact wX12_readIf_51 C hr hz hrec0 hrec1 hrec2 hrec3 hrec4 hrec5 hrec6 x1 S4 h
def fX12_readIf (rec : Nat → Int32 → cpS → Option (Unit × cpS)) (x1 : Int32) (S : cpS) : Option (Unit × cpS) :=
    cpB (fX12_goesIn x1 S) fun z1 S2 =>
    if z1 = 0 then (
    some ((), S2)) else (
    cpB (rec 0 (x1 + (1 : Int32)) S2) fun _ S4 =>
    cpB (fX12_eats (15 : Int32) S4) fun z5 S6 =>
    if z5 = 0 then (
    cpB (fX12_fails (2 : Int32) S6) fun _ S8 =>
    fX12_readIf_30 rec x1 S8) else (
    fX12_readIf_30 rec x1 S6))
set_option maxRecDepth 100000 in
set_option maxHeartbeats 4000000 in
theorem m_X12_readIf (l : Launch) (w : cpW) (A : Nat → Prop) {rec : Nat → Int32 → cpS → Option (Unit × cpS)} {dz : Nat} (hz : 7 ≤ dz) (hrec0 : ∀ (x1 : Int32) (S : cpS) (r : Unit × cpS), rec 0 x1 S = some r → cpMv l yX12_readTruth cX12_readTruth 2 (none) dz w A [.ref (w.2.1 150), .int x1] S r) (hrec1 : ∀ (x1 : Int32) (S : cpS) (r : Unit × cpS), rec 1 x1 S = some r → cpMv l yX12_readBoth cX12_readBoth 2 (none) dz w A [.ref (w.2.1 150), .int x1] S r) (hrec2 : ∀ (x1 : Int32) (S : cpS) (r : Unit × cpS), rec 2 x1 S = some r → cpMv l yX12_readUnit cX12_readUnit 3 (none) dz w A [.ref (w.2.1 150), .int x1] S r) (hrec3 : ∀ (x1 : Int32) (S : cpS) (r : Unit × cpS), rec 3 x1 S = some r → cpMv l yX12_readSum cX12_readSum 3 (none) dz w A [.ref (w.2.1 150), .int x1] S r) (hrec4 : ∀ (x1 : Int32) (S : cpS) (r : Unit × cpS), rec 4 x1 S = some r → cpMv l yX12_readTerm cX12_readTerm 2 (none) dz w A [.ref (w.2.1 150), .int x1] S r) (hrec5 : ∀ (x1 : Int32) (S : cpS) (r : Unit × cpS), rec 5 x1 S = some r → cpMv l yX12_readAtom cX12_readAtom 2 (none) dz w A [.ref (w.2.1 150), .int x1] S r) (hrec6 : ∀ (x1 : Int32) (S : cpS) (r : Unit × cpS), rec 6 x1 S = some r → cpMv l yX12_readIf cX12_readIf 2 (none) dz w A [.ref (w.2.1 150), .int x1] S r) (x1 : Int32) (S : cpS) (r : Unit × cpS) (h : fX12_readIf rec x1 S = some r) : cpMv l yX12_readIf cX12_readIf 2 (none) (dz + 1) w A [.ref (w.2.1 150), .int x1] S r := by
  refine cpMv.of (lv := [some (.ref (w.2.1 150)), some (.int x1)]) (by decide) (Nat.le_of_ble_eq_true rfl) rfl (fun p e s m args below meth c C hr => ?_)
  replace C : cpCx p s m args meth c w A cX12_readIf RX12 2 := C
  rw [fX12_readIf] at h
  refine cj_aload_n C (i := 0) dX12_readIf_0 rfl rfl ?_
  refine cj_iload_n C (i := 1) dX12_readIf_1 rfl rfl ?_
  refine cj_callVi C (As := [.int x1]) (rest := []) qX12_goesIn mw_27_13 o_150 rfl rfl rfl (Nat.le_of_ble_eq_true rfl) (by omega) dX12_readIf_2 h (fun _ _ hf => m_X12_goesIn l w A x1 S _ hf) (fun z1 S2 h => ?_)
  refine cj_if_ne C (tgt := 9) dX12_readIf_5 rfl h (fun _ h => ?_) (fun _ h => ?_)
  · exact cj_vreturn C hr h dX12_readIf_8
  · refine cj_aload_n C (i := 0) dX12_readIf_9 rfl rfl ?_
    refine cj_iload_n C (i := 1) dX12_readIf_10 rfl rfl ?_
    refine cj_iconst C (v := (1 : Int32)) dX12_readIf_11 rfl ?_
    refine cj_iadd C dX12_readIf_12 ?_
    refine cj_callVv C (As := [.int (x1 + (1 : Int32))]) (rest := []) qX12_readTruth mw_28_1 o_150 rfl rfl rfl (Nat.le_of_ble_eq_true rfl) (by omega) dX12_readIf_13 h (fun _ _ hf => hrec0 (x1 + (1 : Int32)) S2 _ hf) (fun z3 S4 h => ?_)
    refine cj_aload_n C (i := 0) dX12_readIf_16 rfl rfl ?_
    refine cj_bipush C (v := (15 : Int32)) dX12_readIf_17 rfl ?_
    refine cj_callVi C (As := [.int (15 : Int32)]) (rest := []) qX12_eats mw_24_16 o_150 rfl rfl rfl (Nat.le_of_ble_eq_true rfl) (by omega) dX12_readIf_19 h (fun _ _ hf => m_X12_eats l w A (15 : Int32) S4 _ hf) (fun z5 S6 h => ?_)
    refine cj_if_ne C (tgt := 30) dX12_readIf_22 rfl h (fun _ h => ?_) (fun _ h => ?_)
    · refine cj_aload_n C (i := 0) dX12_readIf_25 rfl rfl ?_
      refine cj_iconst C (v := (2 : Int32)) dX12_readIf_26 rfl ?_
      refine cj_callVv C (As := [.int (2 : Int32)]) (rest := []) qX12_fails mw_25_0 o_150 rfl rfl rfl (Nat.le_of_ble_eq_true rfl) (by omega) dX12_readIf_27 h (fun _ _ hf => m_X12_fails l w A (2 : Int32) S6 _ hf) (fun z7 S8 h => ?_)
      exact wX12_readIf_30 C hr hz hrec0 hrec1 hrec2 hrec3 hrec4 hrec5 hrec6 x1 S8 h
    · exact wX12_readIf_30 C hr hz hrec0 hrec1 hrec2 hrec3 hrec4 hrec5 hrec6 x1 S6 h
def fX12_rec : Nat → Nat → Int32 → cpS → Option (Unit × cpS)
  | 0, _, _, _ => none
  | n + 1, t, x1, S => if t = 0 then fX12_readTruth (fX12_rec n) x1 S else if t = 1 then fX12_readBoth (fX12_rec n) x1 S else if t = 2 then fX12_readUnit (fX12_rec n) x1 S else if t = 3 then fX12_readSum (fX12_rec n) x1 S else if t = 4 then fX12_readTerm (fX12_rec n) x1 S else if t = 5 then fX12_readAtom (fX12_rec n) x1 S else if t = 6 then fX12_readIf (fX12_rec n) x1 S else none
theorem m_X12_rec (l : Launch) (w : cpW) (A : Nat → Prop) : ∀ n : Nat, (∀ (x1 : Int32) (S : cpS) (r : Unit × cpS), fX12_rec n 0 x1 S = some r → cpMv l yX12_readTruth cX12_readTruth 2 (none) (7 + n) w A [.ref (w.2.1 150), .int x1] S r) ∧ (∀ (x1 : Int32) (S : cpS) (r : Unit × cpS), fX12_rec n 1 x1 S = some r → cpMv l yX12_readBoth cX12_readBoth 2 (none) (7 + n) w A [.ref (w.2.1 150), .int x1] S r) ∧ (∀ (x1 : Int32) (S : cpS) (r : Unit × cpS), fX12_rec n 2 x1 S = some r → cpMv l yX12_readUnit cX12_readUnit 3 (none) (7 + n) w A [.ref (w.2.1 150), .int x1] S r) ∧ (∀ (x1 : Int32) (S : cpS) (r : Unit × cpS), fX12_rec n 3 x1 S = some r → cpMv l yX12_readSum cX12_readSum 3 (none) (7 + n) w A [.ref (w.2.1 150), .int x1] S r) ∧ (∀ (x1 : Int32) (S : cpS) (r : Unit × cpS), fX12_rec n 4 x1 S = some r → cpMv l yX12_readTerm cX12_readTerm 2 (none) (7 + n) w A [.ref (w.2.1 150), .int x1] S r) ∧ (∀ (x1 : Int32) (S : cpS) (r : Unit × cpS), fX12_rec n 5 x1 S = some r → cpMv l yX12_readAtom cX12_readAtom 2 (none) (7 + n) w A [.ref (w.2.1 150), .int x1] S r) ∧ (∀ (x1 : Int32) (S : cpS) (r : Unit × cpS), fX12_rec n 6 x1 S = some r → cpMv l yX12_readIf cX12_readIf 2 (none) (7 + n) w A [.ref (w.2.1 150), .int x1] S r) := by
  intro n
  induction n with
  | zero => exact ⟨(fun x1 S r h => (by rw [fX12_rec] at h; cases h)), (fun x1 S r h => (by rw [fX12_rec] at h; cases h)), (fun x1 S r h => (by rw [fX12_rec] at h; cases h)), (fun x1 S r h => (by rw [fX12_rec] at h; cases h)), (fun x1 S r h => (by rw [fX12_rec] at h; cases h)), (fun x1 S r h => (by rw [fX12_rec] at h; cases h)), (fun x1 S r h => (by rw [fX12_rec] at h; cases h))⟩
  | succ n ih =>
    obtain ⟨h0, h1, h2, h3, h4, h5, h6⟩ := ih
    exact ⟨(fun x1 S r h => m_X12_readTruth l w A (dz := 7 + n) (by omega) h0 h1 h2 h3 h4 h5 h6 x1 S r (by rw [fX12_rec] at h; exact h)),
      (fun x1 S r h => m_X12_readBoth l w A (dz := 7 + n) (by omega) h0 h1 h2 h3 h4 h5 h6 x1 S r (by rw [fX12_rec] at h; exact h)),
      (fun x1 S r h => m_X12_readUnit l w A (dz := 7 + n) (by omega) h0 h1 h2 h3 h4 h5 h6 x1 S r (by rw [fX12_rec] at h; exact h)),
      (fun x1 S r h => m_X12_readSum l w A (dz := 7 + n) (by omega) h0 h1 h2 h3 h4 h5 h6 x1 S r (by rw [fX12_rec] at h; exact h)),
      (fun x1 S r h => m_X12_readTerm l w A (dz := 7 + n) (by omega) h0 h1 h2 h3 h4 h5 h6 x1 S r (by rw [fX12_rec] at h; exact h)),
      (fun x1 S r h => m_X12_readAtom l w A (dz := 7 + n) (by omega) h0 h1 h2 h3 h4 h5 h6 x1 S r (by rw [fX12_rec] at h; exact h)),
      (fun x1 S r h => m_X12_readIf l w A (dz := 7 + n) (by omega) h0 h1 h2 h3 h4 h5 h6 x1 S r (by rw [fX12_rec] at h; exact h))⟩
/-! X12_named -/
def fX12_named (x1 : Int32) (x2 : Int32) (x3 : Int32) (S : cpS) : Option (Int32 × cpS) :=
    cpB (fX12_eats x1 S) fun z1 S2 =>
    if z1 = 0 then (
    cpB (fX12_fails (2 : Int32) S2) fun _ S4 =>
    cpB (fX12_takes x2 x3 S4) fun z5 S6 =>
    some (z5, S6)) else (
    cpB (fX12_takes x2 x3 S2) fun z7 S8 =>
    some (z7, S8))
set_option maxRecDepth 100000 in
set_option maxHeartbeats 4000000 in
theorem m_X12_named (l : Launch) (w : cpW) (A : Nat → Prop) (x1 : Int32) (x2 : Int32) (x3 : Int32) (S : cpS) (r : Int32 × cpS) (h : fX12_named x1 x2 x3 S = some r) : cpMi l yX12_named cX12_named 4 ((some .int)) 7 w A [.ref (w.2.1 150), .int x1, .int x2, .int x3] S r := by
  refine cpMi.of (lv := [some (.ref (w.2.1 150)), some (.int x1), some (.int x2), some (.int x3)]) (by decide) (Nat.le_of_ble_eq_true rfl) rfl (fun p e s m args below meth c C hr => ?_)
  replace C : cpCx p s m args meth c w A cX12_named RX12 4 := C
  rw [fX12_named] at h
  refine cj_aload_n C (i := 0) dX12_named_0 rfl rfl ?_
  refine cj_iload_n C (i := 1) dX12_named_1 rfl rfl ?_
  refine cj_callVi C (As := [.int x1]) (rest := []) qX12_eats mw_24_16 o_150 rfl rfl rfl (Nat.le_of_ble_eq_true rfl) (by decide) dX12_named_2 h (fun _ _ hf => m_X12_eats l w A x1 S _ hf) (fun z1 S2 h => ?_)
  refine cj_if_ne C (tgt := 13) dX12_named_5 rfl h (fun _ h => ?_) (fun _ h => ?_)
  · refine cj_aload_n C (i := 0) dX12_named_8 rfl rfl ?_
    refine cj_iconst C (v := (2 : Int32)) dX12_named_9 rfl ?_
    refine cj_callVv C (As := [.int (2 : Int32)]) (rest := []) qX12_fails mw_25_0 o_150 rfl rfl rfl (Nat.le_of_ble_eq_true rfl) (by decide) dX12_named_10 h (fun _ _ hf => m_X12_fails l w A (2 : Int32) S2 _ hf) (fun z3 S4 h => ?_)
    refine cj_aload_n C (i := 0) dX12_named_13 rfl rfl ?_
    refine cj_iload_n C (i := 2) dX12_named_14 rfl rfl ?_
    refine cj_iload_n C (i := 3) dX12_named_15 rfl rfl ?_
    refine cj_callVi C (As := [.int x2, .int x3]) (rest := []) qX12_takes mw_25_8 o_150 rfl rfl rfl (Nat.le_of_ble_eq_true rfl) (by decide) dX12_named_16 h (fun _ _ hf => m_X12_takes l w A x2 x3 S4 _ hf) (fun z5 S6 h => ?_)
    exact cj_ireturn C hr h dX12_named_19
  · refine cj_aload_n C (i := 0) dX12_named_13 rfl rfl ?_
    refine cj_iload_n C (i := 2) dX12_named_14 rfl rfl ?_
    refine cj_iload_n C (i := 3) dX12_named_15 rfl rfl ?_
    refine cj_callVi C (As := [.int x2, .int x3]) (rest := []) qX12_takes mw_25_8 o_150 rfl rfl rfl (Nat.le_of_ble_eq_true rfl) (by decide) dX12_named_16 h (fun _ _ hf => m_X12_takes l w A x2 x3 S2 _ hf) (fun z7 S8 h => ?_)
    exact cj_ireturn C hr h dX12_named_19
/-! X12_takesOther -/
def fX12_takesOther (x1 : Int32) (x2 : Int32) (S : cpS) : Option (Int32 × cpS) :=
    cpB (fX12_is (25 : Int32) S) fun z1 S2 =>
    if z1 = 0 then (
    cpB (fX12_takes (0 : Int32) x2 S2) fun z3 S4 =>
    some (z3, S4)) else (
    if (S2.1 150 10) = x1 then (
    cpB (fX12_fails (3 : Int32) S2) fun _ S6 =>
    cpB (fX12_takes (0 : Int32) x2 S6) fun z7 S8 =>
    some (z7, S8)) else (
    cpB (fX12_takes (0 : Int32) x2 S2) fun z9 S10 =>
    some (z9, S10)))
set_option maxRecDepth 100000 in
set_option maxHeartbeats 4000000 in
theorem m_X12_takesOther (l : Launch) (w : cpW) (A : Nat → Prop) (x1 : Int32) (x2 : Int32) (S : cpS) (r : Int32 × cpS) (h : fX12_takesOther x1 x2 S = some r) : cpMi l yX12_takesOther cX12_takesOther 3 ((some .int)) 7 w A [.ref (w.2.1 150), .int x1, .int x2] S r := by
  refine cpMi.of (lv := [some (.ref (w.2.1 150)), some (.int x1), some (.int x2)]) (by decide) (Nat.le_of_ble_eq_true rfl) rfl (fun p e s m args below meth c C hr => ?_)
  replace C : cpCx p s m args meth c w A cX12_takesOther RX12 3 := C
  rw [fX12_takesOther] at h
  refine cj_aload_n C (i := 0) dX12_takesOther_0 rfl rfl ?_
  refine cj_bipush C (v := (25 : Int32)) dX12_takesOther_1 rfl ?_
  refine cj_callVi C (As := [.int (25 : Int32)]) (rest := []) qX12_is mw_24_20 o_150 rfl rfl rfl (Nat.le_of_ble_eq_true rfl) (by decide) dX12_takesOther_3 h (fun _ _ hf => m_X12_is l w A (25 : Int32) S _ hf) (fun z1 S2 h => ?_)
  refine cj_if_eq C (tgt := 22) dX12_takesOther_6 rfl h (fun _ h => ?_) (fun _ h => ?_)
  · refine cj_aload_n C (i := 0) dX12_takesOther_22 rfl rfl ?_
    refine cj_iconst C (v := (0 : Int32)) dX12_takesOther_23 rfl ?_
    refine cj_iload_n C (i := 2) dX12_takesOther_24 rfl rfl ?_
    refine cj_callVi C (As := [.int (0 : Int32), .int x2]) (rest := []) qX12_takes mw_25_8 o_150 rfl rfl rfl (Nat.le_of_ble_eq_true rfl) (by decide) dX12_takesOther_25 h (fun _ _ hf => m_X12_takes l w A (0 : Int32) x2 S2 _ hf) (fun z3 S4 h => ?_)
    exact cj_ireturn C hr h dX12_takesOther_28
  · refine cj_aload_n C (i := 0) dX12_takesOther_9 rfl rfl ?_
    refine cj_getI C (j := 10) o_150 rfl gfX12_133 dX12_takesOther_10 ?_
    refine cj_iload_n C (i := 1) dX12_takesOther_13 rfl rfl ?_
    refine cj_icmp_ne C (tgt := 22) dX12_takesOther_14 rfl h (fun _ h => ?_) (fun _ h => ?_)
    · refine cj_aload_n C (i := 0) dX12_takesOther_17 rfl rfl ?_
      refine cj_iconst C (v := (3 : Int32)) dX12_takesOther_18 rfl ?_
      refine cj_callVv C (As := [.int (3 : Int32)]) (rest := []) qX12_fails mw_25_0 o_150 rfl rfl rfl (Nat.le_of_ble_eq_true rfl) (by decide) dX12_takesOther_19 h (fun _ _ hf => m_X12_fails l w A (3 : Int32) S2 _ hf) (fun z5 S6 h => ?_)
      refine cj_aload_n C (i := 0) dX12_takesOther_22 rfl rfl ?_
      refine cj_iconst C (v := (0 : Int32)) dX12_takesOther_23 rfl ?_
      refine cj_iload_n C (i := 2) dX12_takesOther_24 rfl rfl ?_
      refine cj_callVi C (As := [.int (0 : Int32), .int x2]) (rest := []) qX12_takes mw_25_8 o_150 rfl rfl rfl (Nat.le_of_ble_eq_true rfl) (by decide) dX12_takesOther_25 h (fun _ _ hf => m_X12_takes l w A (0 : Int32) x2 S6 _ hf) (fun z7 S8 h => ?_)
      exact cj_ireturn C hr h dX12_takesOther_28
    · refine cj_aload_n C (i := 0) dX12_takesOther_22 rfl rfl ?_
      refine cj_iconst C (v := (0 : Int32)) dX12_takesOther_23 rfl ?_
      refine cj_iload_n C (i := 2) dX12_takesOther_24 rfl rfl ?_
      refine cj_callVi C (As := [.int (0 : Int32), .int x2]) (rest := []) qX12_takes mw_25_8 o_150 rfl rfl rfl (Nat.le_of_ble_eq_true rfl) (by decide) dX12_takesOther_25 h (fun _ _ hf => m_X12_takes l w A (0 : Int32) x2 S2 _ hf) (fun z9 S10 h => ?_)
      exact cj_ireturn C hr h dX12_takesOther_28
/-! X12_readRoad -/
def fX12_readRoad_28 (x1 : Int32) (S : cpS) : Option (Unit × cpS) :=
    if (S.1 150 11) = 0 then (
    cpB (fX12_next S) fun _ S2 =>
    cpB (fX12_takes (0 : Int32) ((S2.1 154 1) - (1 : Int32)) S2) fun z3 S4 =>
    if cpIn x1 1162 then (
    cpLt (cpI S4 154 x1.toNatClampNeg z3) fun S5 =>
    if cpIn x1 1162 then (
    cpB (fX12_takesOther (S5.1 154 x1.toNatClampNeg) ((S5.1 154 1) - (1 : Int32)) S5) fun z6 S7 =>
    if cpIn (x1 + (1 : Int32)) 1162 then (
    cpLt (cpI S7 154 (x1 + (1 : Int32)).toNatClampNeg z6) fun S8 =>
    cpB (fX12_named (4 : Int32) (1 : Int32) (9 : Int32) S8) fun z9 S10 =>
    if cpIn (x1 + (2 : Int32)) 1162 then (
    cpLt (cpI S10 154 (x1 + (2 : Int32)).toNatClampNeg z9) fun S11 =>
    if (S11.1 150 11) = 0 then (
    cpLt (cpI S11 154 2 ((S11.1 154 2) + (1 : Int32))) fun S12 =>
    some ((), S12)) else (
    some ((), S11))) else none) else none) else none) else none) else (
    some ((), S))
set_option maxRecDepth 100000 in
set_option maxHeartbeats 4000000 in
theorem wX12_readRoad_28 (C : cpCx p s m args meth c w A cX12_readRoad RX12 2) (hr : meth.sig.returnType = none) {r : Unit × cpS} (x1 : Int32) (S : cpS) (h : fX12_readRoad_28 x1 S = some r) : cpJ p l e (cpRm 8) s m args below meth c (MQ below (va_Qv (fun S' => ((), S') = r) (cpWorld w A) A) args s 0 0 A) w A 2 28 [some (.ref (w.2.1 150)), some (.int x1)] [] S := by
  rw [fX12_readRoad_28] at h
  refine cj_aload_n C (i := 0) dX12_readRoad_28 rfl rfl ?_
  refine cj_getI C (j := 11) o_150 rfl gfX12_138 dX12_readRoad_29 ?_
  refine cj_if_eq C (tgt := 36) dX12_readRoad_32 rfl h (fun _ h => ?_) (fun _ h => ?_)
  · refine cj_aload_n C (i := 0) dX12_readRoad_36 rfl rfl ?_
    refine cj_callVv C (As := []) (rest := []) qX12_next mw_23_18 o_150 rfl rfl rfl (Nat.le_of_ble_eq_true rfl) (by decide) dX12_readRoad_37 h (fun _ _ hf => m_X12_next l w A S _ hf) (fun z1 S2 h => ?_)
    refine cj_aload_n C (i := 0) dX12_readRoad_40 rfl rfl ?_
    refine cj_getR C (d := 154) o_150 rfl gfX12_24 dX12_readRoad_41 ?_
    refine cj_iload_n C (i := 1) dX12_readRoad_44 rfl rfl ?_
    refine cj_aload_n C (i := 0) dX12_readRoad_45 rfl rfl ?_
    refine cj_iconst C (v := (0 : Int32)) dX12_readRoad_46 rfl ?_
    refine cj_aload_n C (i := 0) dX12_readRoad_47 rfl rfl ?_
    refine cj_getR C (d := 154) o_150 rfl gfX12_24 dX12_readRoad_48 ?_
    refine cj_iconst C (v := (1 : Int32)) dX12_readRoad_51 rfl ?_
    refine cj_ialoadC C (j := 1) o_154 (by decide) (by decide) dX12_readRoad_52 ?_
    refine cj_iconst C (v := (1 : Int32)) dX12_readRoad_53 rfl ?_
    refine cj_isub C dX12_readRoad_54 ?_
    refine cj_callVi C (As := [.int (0 : Int32), .int ((S2.1 154 1) - (1 : Int32))]) (rest := [.int x1, .ref (w.2.1 154)]) qX12_takes mw_25_8 o_150 rfl rfl rfl (Nat.le_of_ble_eq_true rfl) (by decide) dX12_readRoad_55 h (fun _ _ hf => m_X12_takes l w A (0 : Int32) ((S2.1 154 1) - (1 : Int32)) S2 _ hf) (fun z3 S4 h => ?_)
    refine cj_iastore C o_154 h dX12_readRoad_58 (fun h => ?_)
    refine cj_lets h (fun S5 h => ?_)
    refine cj_aload_n C (i := 0) dX12_readRoad_59 rfl rfl ?_
    refine cj_getR C (d := 154) o_150 rfl gfX12_24 dX12_readRoad_60 ?_
    refine cj_iload_n C (i := 1) dX12_readRoad_63 rfl rfl ?_
    refine cj_iconst C (v := (1 : Int32)) dX12_readRoad_64 rfl ?_
    refine cj_iadd C dX12_readRoad_65 ?_
    refine cj_aload_n C (i := 0) dX12_readRoad_66 rfl rfl ?_
    refine cj_aload_n C (i := 0) dX12_readRoad_67 rfl rfl ?_
    refine cj_getR C (d := 154) o_150 rfl gfX12_24 dX12_readRoad_68 ?_
    refine cj_iload_n C (i := 1) dX12_readRoad_71 rfl rfl ?_
    refine cj_iaload C o_154 h dX12_readRoad_72 (fun h => ?_)
    refine cj_aload_n C (i := 0) dX12_readRoad_73 rfl rfl ?_
    refine cj_getR C (d := 154) o_150 rfl gfX12_24 dX12_readRoad_74 ?_
    refine cj_iconst C (v := (1 : Int32)) dX12_readRoad_77 rfl ?_
    refine cj_ialoadC C (j := 1) o_154 (by decide) (by decide) dX12_readRoad_78 ?_
    refine cj_iconst C (v := (1 : Int32)) dX12_readRoad_79 rfl ?_
    refine cj_isub C dX12_readRoad_80 ?_
    refine cj_callVi C (As := [.int (S5.1 154 x1.toNatClampNeg), .int ((S5.1 154 1) - (1 : Int32))]) (rest := [.int (x1 + (1 : Int32)), .ref (w.2.1 154)]) qX12_takesOther mw_26_0 o_150 rfl rfl rfl (Nat.le_of_ble_eq_true rfl) (by decide) dX12_readRoad_81 h (fun _ _ hf => m_X12_takesOther l w A (S5.1 154 x1.toNatClampNeg) ((S5.1 154 1) - (1 : Int32)) S5 _ hf) (fun z6 S7 h => ?_)
    refine cj_iastore C o_154 h dX12_readRoad_84 (fun h => ?_)
    refine cj_lets h (fun S8 h => ?_)
    refine cj_aload_n C (i := 0) dX12_readRoad_85 rfl rfl ?_
    refine cj_getR C (d := 154) o_150 rfl gfX12_24 dX12_readRoad_86 ?_
    refine cj_iload_n C (i := 1) dX12_readRoad_89 rfl rfl ?_
    refine cj_iconst C (v := (2 : Int32)) dX12_readRoad_90 rfl ?_
    refine cj_iadd C dX12_readRoad_91 ?_
    refine cj_aload_n C (i := 0) dX12_readRoad_92 rfl rfl ?_
    refine cj_iconst C (v := (4 : Int32)) dX12_readRoad_93 rfl ?_
    refine cj_iconst C (v := (1 : Int32)) dX12_readRoad_94 rfl ?_
    refine cj_bipush C (v := (9 : Int32)) dX12_readRoad_95 rfl ?_
    refine cj_callVi C (As := [.int (4 : Int32), .int (1 : Int32), .int (9 : Int32)]) (rest := [.int (x1 + (2 : Int32)), .ref (w.2.1 154)]) qX12_named mw_25_4 o_150 rfl rfl rfl (Nat.le_of_ble_eq_true rfl) (by decide) dX12_readRoad_97 h (fun _ _ hf => m_X12_named l w A (4 : Int32) (1 : Int32) (9 : Int32) S8 _ hf) (fun z9 S10 h => ?_)
    refine cj_iastore C o_154 h dX12_readRoad_100 (fun h => ?_)
    refine cj_lets h (fun S11 h => ?_)
    refine cj_aload_n C (i := 0) dX12_readRoad_101 rfl rfl ?_
    refine cj_getI C (j := 11) o_150 rfl gfX12_138 dX12_readRoad_102 ?_
    refine cj_if_ne C (tgt := 118) dX12_readRoad_105 rfl h (fun _ h => ?_) (fun _ h => ?_)
    · refine cj_aload_n C (i := 0) dX12_readRoad_108 rfl rfl ?_
      refine cj_getR C (d := 154) o_150 rfl gfX12_24 dX12_readRoad_109 ?_
      refine cj_iconst C (v := (2 : Int32)) dX12_readRoad_112 rfl ?_
      refine cj_dup2 C dX12_readRoad_113 rfl rfl ?_
      refine cj_ialoadC C (j := 2) o_154 (by decide) (by decide) dX12_readRoad_114 ?_
      refine cj_iconst C (v := (1 : Int32)) dX12_readRoad_115 rfl ?_
      refine cj_iadd C dX12_readRoad_116 ?_
      refine cj_iastoreC C (j := 2) o_154 (by decide) (by decide) dX12_readRoad_117 ?_
      refine cj_lets h (fun S12 h => ?_)
      exact cj_vreturn C hr h dX12_readRoad_118
    · exact cj_vreturn C hr h dX12_readRoad_118
  · exact cj_vreturn C hr h dX12_readRoad_35
def fX12_readRoad (S : cpS) : Option (Unit × cpS) :=
    cpLt ((11 : Int32) + ((3 : Int32) * (S.1 154 2))) fun y1 =>
    if (S.1 154 2) = (9 : Int32) then (
    cpB (fX12_fails (4 : Int32) S) fun _ S3 =>
    fX12_readRoad_28 y1 S3) else (
    fX12_readRoad_28 y1 S)
set_option maxRecDepth 100000 in
set_option maxHeartbeats 4000000 in
theorem m_X12_readRoad (l : Launch) (w : cpW) (A : Nat → Prop) (S : cpS) (r : Unit × cpS) (h : fX12_readRoad S = some r) : cpMv l yX12_readRoad cX12_readRoad 2 (none) 8 w A [.ref (w.2.1 150)] S r := by
  refine cpMv.of (lv := [some (.ref (w.2.1 150)), none]) (by decide) (Nat.le_of_ble_eq_true rfl) rfl (fun p e s m args below meth c C hr => ?_)
  replace C : cpCx p s m args meth c w A cX12_readRoad RX12 2 := C
  rw [fX12_readRoad] at h
  refine cj_bipush C (v := (11 : Int32)) dX12_readRoad_0 rfl ?_
  refine cj_iconst C (v := (3 : Int32)) dX12_readRoad_2 rfl ?_
  refine cj_aload_n C (i := 0) dX12_readRoad_3 rfl rfl ?_
  refine cj_getR C (d := 154) o_150 rfl gfX12_24 dX12_readRoad_4 ?_
  refine cj_iconst C (v := (2 : Int32)) dX12_readRoad_7 rfl ?_
  refine cj_ialoadC C (j := 2) o_154 (by decide) (by decide) dX12_readRoad_8 ?_
  refine cj_imul C dX12_readRoad_9 ?_
  refine cj_iadd C dX12_readRoad_10 ?_
  refine cj_let h (fun y1 h => ?_)
  refine cj_istore_n C (i := 1) (lv' := [some (.ref (w.2.1 150)), some (.int y1)]) dX12_readRoad_11 rfl (by decide) rfl rfl ?_
  refine cj_aload_n C (i := 0) dX12_readRoad_12 rfl rfl ?_
  refine cj_getR C (d := 154) o_150 rfl gfX12_24 dX12_readRoad_13 ?_
  refine cj_iconst C (v := (2 : Int32)) dX12_readRoad_16 rfl ?_
  refine cj_ialoadC C (j := 2) o_154 (by decide) (by decide) dX12_readRoad_17 ?_
  refine cj_bipush C (v := (9 : Int32)) dX12_readRoad_18 rfl ?_
  refine cj_icmp_ne C (tgt := 28) dX12_readRoad_20 rfl h (fun _ h => ?_) (fun _ h => ?_)
  · refine cj_aload_n C (i := 0) dX12_readRoad_23 rfl rfl ?_
    refine cj_iconst C (v := (4 : Int32)) dX12_readRoad_24 rfl ?_
    refine cj_callVv C (As := [.int (4 : Int32)]) (rest := []) qX12_fails mw_25_0 o_150 rfl rfl rfl (Nat.le_of_ble_eq_true rfl) (by decide) dX12_readRoad_25 h (fun _ _ hf => m_X12_fails l w A (4 : Int32) S _ hf) (fun z2 S3 h => ?_)
    exact wX12_readRoad_28 C hr y1 S3 h
  · exact wX12_readRoad_28 C hr y1 S h
/-! X12_readPerson -/
def fX12_readPerson_18 (x1 : Int32) (S : cpS) : Option (Unit × cpS) :=
    if (S.1 150 11) = 0 then (
    cpB (fX12_next S) fun _ S2 =>
    cpB (fX12_named (6 : Int32) (0 : Int32) ((S2.1 154 1) - (1 : Int32)) S2) fun z3 S4 =>
    if cpIn ((38 : Int32) + x1) 1162 then (
    cpLt (cpI S4 154 ((38 : Int32) + x1).toNatClampNeg z3) fun S5 =>
    cpB (fX12_named (7 : Int32) (0 : Int32) (9 : Int32) S5) fun z6 S7 =>
    if cpIn ((46 : Int32) + x1) 1162 then (
    cpLt (cpI S7 154 ((46 : Int32) + x1).toNatClampNeg z6) fun S8 =>
    if (S8.1 150 11) = 0 then (
    cpLt (cpI S8 154 3 ((S8.1 154 3) + (1 : Int32))) fun S9 =>
    some ((), S9)) else (
    some ((), S8))) else none) else none) else (
    some ((), S))
set_option maxRecDepth 100000 in
set_option maxHeartbeats 4000000 in
theorem wX12_readPerson_18 (C : cpCx p s m args meth c w A cX12_readPerson RX12 2) (hr : meth.sig.returnType = none) {r : Unit × cpS} (x1 : Int32) (S : cpS) (h : fX12_readPerson_18 x1 S = some r) : cpJ p l e (cpRm 8) s m args below meth c (MQ below (va_Qv (fun S' => ((), S') = r) (cpWorld w A) A) args s 0 0 A) w A 2 18 [some (.ref (w.2.1 150)), some (.int x1)] [] S := by
  rw [fX12_readPerson_18] at h
  refine cj_aload_n C (i := 0) dX12_readPerson_18 rfl rfl ?_
  refine cj_getI C (j := 11) o_150 rfl gfX12_138 dX12_readPerson_19 ?_
  refine cj_if_eq C (tgt := 26) dX12_readPerson_22 rfl h (fun _ h => ?_) (fun _ h => ?_)
  · refine cj_aload_n C (i := 0) dX12_readPerson_26 rfl rfl ?_
    refine cj_callVv C (As := []) (rest := []) qX12_next mw_23_18 o_150 rfl rfl rfl (Nat.le_of_ble_eq_true rfl) (by decide) dX12_readPerson_27 h (fun _ _ hf => m_X12_next l w A S _ hf) (fun z1 S2 h => ?_)
    refine cj_aload_n C (i := 0) dX12_readPerson_30 rfl rfl ?_
    refine cj_getR C (d := 154) o_150 rfl gfX12_24 dX12_readPerson_31 ?_
    refine cj_bipush C (v := (38 : Int32)) dX12_readPerson_34 rfl ?_
    refine cj_iload_n C (i := 1) dX12_readPerson_36 rfl rfl ?_
    refine cj_iadd C dX12_readPerson_37 ?_
    refine cj_aload_n C (i := 0) dX12_readPerson_38 rfl rfl ?_
    refine cj_bipush C (v := (6 : Int32)) dX12_readPerson_39 rfl ?_
    refine cj_iconst C (v := (0 : Int32)) dX12_readPerson_41 rfl ?_
    refine cj_aload_n C (i := 0) dX12_readPerson_42 rfl rfl ?_
    refine cj_getR C (d := 154) o_150 rfl gfX12_24 dX12_readPerson_43 ?_
    refine cj_iconst C (v := (1 : Int32)) dX12_readPerson_46 rfl ?_
    refine cj_ialoadC C (j := 1) o_154 (by decide) (by decide) dX12_readPerson_47 ?_
    refine cj_iconst C (v := (1 : Int32)) dX12_readPerson_48 rfl ?_
    refine cj_isub C dX12_readPerson_49 ?_
    refine cj_callVi C (As := [.int (6 : Int32), .int (0 : Int32), .int ((S2.1 154 1) - (1 : Int32))]) (rest := [.int ((38 : Int32) + x1), .ref (w.2.1 154)]) qX12_named mw_25_4 o_150 rfl rfl rfl (Nat.le_of_ble_eq_true rfl) (by decide) dX12_readPerson_50 h (fun _ _ hf => m_X12_named l w A (6 : Int32) (0 : Int32) ((S2.1 154 1) - (1 : Int32)) S2 _ hf) (fun z3 S4 h => ?_)
    refine cj_iastore C o_154 h dX12_readPerson_53 (fun h => ?_)
    refine cj_lets h (fun S5 h => ?_)
    refine cj_aload_n C (i := 0) dX12_readPerson_54 rfl rfl ?_
    refine cj_getR C (d := 154) o_150 rfl gfX12_24 dX12_readPerson_55 ?_
    refine cj_bipush C (v := (46 : Int32)) dX12_readPerson_58 rfl ?_
    refine cj_iload_n C (i := 1) dX12_readPerson_60 rfl rfl ?_
    refine cj_iadd C dX12_readPerson_61 ?_
    refine cj_aload_n C (i := 0) dX12_readPerson_62 rfl rfl ?_
    refine cj_bipush C (v := (7 : Int32)) dX12_readPerson_63 rfl ?_
    refine cj_iconst C (v := (0 : Int32)) dX12_readPerson_65 rfl ?_
    refine cj_bipush C (v := (9 : Int32)) dX12_readPerson_66 rfl ?_
    refine cj_callVi C (As := [.int (7 : Int32), .int (0 : Int32), .int (9 : Int32)]) (rest := [.int ((46 : Int32) + x1), .ref (w.2.1 154)]) qX12_named mw_25_4 o_150 rfl rfl rfl (Nat.le_of_ble_eq_true rfl) (by decide) dX12_readPerson_68 h (fun _ _ hf => m_X12_named l w A (7 : Int32) (0 : Int32) (9 : Int32) S5 _ hf) (fun z6 S7 h => ?_)
    refine cj_iastore C o_154 h dX12_readPerson_71 (fun h => ?_)
    refine cj_lets h (fun S8 h => ?_)
    refine cj_aload_n C (i := 0) dX12_readPerson_72 rfl rfl ?_
    refine cj_getI C (j := 11) o_150 rfl gfX12_138 dX12_readPerson_73 ?_
    refine cj_if_ne C (tgt := 89) dX12_readPerson_76 rfl h (fun _ h => ?_) (fun _ h => ?_)
    · refine cj_aload_n C (i := 0) dX12_readPerson_79 rfl rfl ?_
      refine cj_getR C (d := 154) o_150 rfl gfX12_24 dX12_readPerson_80 ?_
      refine cj_iconst C (v := (3 : Int32)) dX12_readPerson_83 rfl ?_
      refine cj_dup2 C dX12_readPerson_84 rfl rfl ?_
      refine cj_ialoadC C (j := 3) o_154 (by decide) (by decide) dX12_readPerson_85 ?_
      refine cj_iconst C (v := (1 : Int32)) dX12_readPerson_86 rfl ?_
      refine cj_iadd C dX12_readPerson_87 ?_
      refine cj_iastoreC C (j := 3) o_154 (by decide) (by decide) dX12_readPerson_88 ?_
      refine cj_lets h (fun S9 h => ?_)
      exact cj_vreturn C hr h dX12_readPerson_89
    · exact cj_vreturn C hr h dX12_readPerson_89
  · exact cj_vreturn C hr h dX12_readPerson_25
def fX12_readPerson (S : cpS) : Option (Unit × cpS) :=
    cpLt (S.1 154 3) fun y1 =>
    if y1 = (8 : Int32) then (
    cpB (fX12_fails (4 : Int32) S) fun _ S3 =>
    fX12_readPerson_18 y1 S3) else (
    fX12_readPerson_18 y1 S)
set_option maxRecDepth 100000 in
set_option maxHeartbeats 4000000 in
theorem m_X12_readPerson (l : Launch) (w : cpW) (A : Nat → Prop) (S : cpS) (r : Unit × cpS) (h : fX12_readPerson S = some r) : cpMv l yX12_readPerson cX12_readPerson 2 (none) 8 w A [.ref (w.2.1 150)] S r := by
  refine cpMv.of (lv := [some (.ref (w.2.1 150)), none]) (by decide) (Nat.le_of_ble_eq_true rfl) rfl (fun p e s m args below meth c C hr => ?_)
  replace C : cpCx p s m args meth c w A cX12_readPerson RX12 2 := C
  rw [fX12_readPerson] at h
  refine cj_aload_n C (i := 0) dX12_readPerson_0 rfl rfl ?_
  refine cj_getR C (d := 154) o_150 rfl gfX12_24 dX12_readPerson_1 ?_
  refine cj_iconst C (v := (3 : Int32)) dX12_readPerson_4 rfl ?_
  refine cj_ialoadC C (j := 3) o_154 (by decide) (by decide) dX12_readPerson_5 ?_
  refine cj_let h (fun y1 h => ?_)
  refine cj_istore_n C (i := 1) (lv' := [some (.ref (w.2.1 150)), some (.int y1)]) dX12_readPerson_6 rfl (by decide) rfl rfl ?_
  refine cj_iload_n C (i := 1) dX12_readPerson_7 rfl rfl ?_
  refine cj_bipush C (v := (8 : Int32)) dX12_readPerson_8 rfl ?_
  refine cj_icmp_ne C (tgt := 18) dX12_readPerson_10 rfl h (fun _ h => ?_) (fun _ h => ?_)
  · refine cj_aload_n C (i := 0) dX12_readPerson_13 rfl rfl ?_
    refine cj_iconst C (v := (4 : Int32)) dX12_readPerson_14 rfl ?_
    refine cj_callVv C (As := [.int (4 : Int32)]) (rest := []) qX12_fails mw_25_0 o_150 rfl rfl rfl (Nat.le_of_ble_eq_true rfl) (by decide) dX12_readPerson_15 h (fun _ _ hf => m_X12_fails l w A (4 : Int32) S _ hf) (fun z2 S3 h => ?_)
    exact wX12_readPerson_18 C hr y1 S3 h
  · exact wX12_readPerson_18 C hr y1 S h
/-! X12_readQuarrel -/
def fX12_readQuarrel (S : cpS) : Option (Unit × cpS) :=
    cpB (fX12_next S) fun _ S2 =>
    cpB (fX12_takes (0 : Int32) ((S2.1 154 3) - (1 : Int32)) S2) fun z3 S4 =>
    cpB (fX12_takesOther z3 ((S4.1 154 3) - (1 : Int32)) S4) fun z5 S6 =>
    if (S6.1 150 11) = 0 then (
    if cpIn ((70 : Int32) + z3) 1162 then (
    if cpIn ((70 : Int32) + z3) 1162 then (
    cpLt (cpI S6 154 ((70 : Int32) + z3).toNatClampNeg ((S6.1 154 ((70 : Int32) + z3).toNatClampNeg) ||| (cpShl (1 : Int32) z5))) fun S7 =>
    if cpIn ((70 : Int32) + z5) 1162 then (
    if cpIn ((70 : Int32) + z5) 1162 then (
    cpLt (cpI S7 154 ((70 : Int32) + z5).toNatClampNeg ((S7.1 154 ((70 : Int32) + z5).toNatClampNeg) ||| (cpShl (1 : Int32) z3))) fun S8 =>
    some ((), S8)) else none) else none) else none) else none) else (
    some ((), S6))
set_option maxRecDepth 100000 in
set_option maxHeartbeats 4000000 in
theorem m_X12_readQuarrel (l : Launch) (w : cpW) (A : Nat → Prop) (S : cpS) (r : Unit × cpS) (h : fX12_readQuarrel S = some r) : cpMv l yX12_readQuarrel cX12_readQuarrel 3 (none) 8 w A [.ref (w.2.1 150)] S r := by
  refine cpMv.of (lv := [some (.ref (w.2.1 150)), none, none]) (by decide) (Nat.le_of_ble_eq_true rfl) rfl (fun p e s m args below meth c C hr => ?_)
  replace C : cpCx p s m args meth c w A cX12_readQuarrel RX12 3 := C
  rw [fX12_readQuarrel] at h
  refine cj_aload_n C (i := 0) dX12_readQuarrel_0 rfl rfl ?_
  refine cj_callVv C (As := []) (rest := []) qX12_next mw_23_18 o_150 rfl rfl rfl (Nat.le_of_ble_eq_true rfl) (by decide) dX12_readQuarrel_1 h (fun _ _ hf => m_X12_next l w A S _ hf) (fun z1 S2 h => ?_)
  refine cj_aload_n C (i := 0) dX12_readQuarrel_4 rfl rfl ?_
  refine cj_iconst C (v := (0 : Int32)) dX12_readQuarrel_5 rfl ?_
  refine cj_aload_n C (i := 0) dX12_readQuarrel_6 rfl rfl ?_
  refine cj_getR C (d := 154) o_150 rfl gfX12_24 dX12_readQuarrel_7 ?_
  refine cj_iconst C (v := (3 : Int32)) dX12_readQuarrel_10 rfl ?_
  refine cj_ialoadC C (j := 3) o_154 (by decide) (by decide) dX12_readQuarrel_11 ?_
  refine cj_iconst C (v := (1 : Int32)) dX12_readQuarrel_12 rfl ?_
  refine cj_isub C dX12_readQuarrel_13 ?_
  refine cj_callVi C (As := [.int (0 : Int32), .int ((S2.1 154 3) - (1 : Int32))]) (rest := []) qX12_takes mw_25_8 o_150 rfl rfl rfl (Nat.le_of_ble_eq_true rfl) (by decide) dX12_readQuarrel_14 h (fun _ _ hf => m_X12_takes l w A (0 : Int32) ((S2.1 154 3) - (1 : Int32)) S2 _ hf) (fun z3 S4 h => ?_)
  refine cj_istore_n C (i := 1) (lv' := [some (.ref (w.2.1 150)), some (.int z3), none]) dX12_readQuarrel_17 rfl (by decide) rfl rfl ?_
  refine cj_aload_n C (i := 0) dX12_readQuarrel_18 rfl rfl ?_
  refine cj_iload_n C (i := 1) dX12_readQuarrel_19 rfl rfl ?_
  refine cj_aload_n C (i := 0) dX12_readQuarrel_20 rfl rfl ?_
  refine cj_getR C (d := 154) o_150 rfl gfX12_24 dX12_readQuarrel_21 ?_
  refine cj_iconst C (v := (3 : Int32)) dX12_readQuarrel_24 rfl ?_
  refine cj_ialoadC C (j := 3) o_154 (by decide) (by decide) dX12_readQuarrel_25 ?_
  refine cj_iconst C (v := (1 : Int32)) dX12_readQuarrel_26 rfl ?_
  refine cj_isub C dX12_readQuarrel_27 ?_
  refine cj_callVi C (As := [.int z3, .int ((S4.1 154 3) - (1 : Int32))]) (rest := []) qX12_takesOther mw_26_0 o_150 rfl rfl rfl (Nat.le_of_ble_eq_true rfl) (by decide) dX12_readQuarrel_28 h (fun _ _ hf => m_X12_takesOther l w A z3 ((S4.1 154 3) - (1 : Int32)) S4 _ hf) (fun z5 S6 h => ?_)
  refine cj_istore_n C (i := 2) (lv' := [some (.ref (w.2.1 150)), some (.int z3), some (.int z5)]) dX12_readQuarrel_31 rfl (by decide) rfl rfl ?_
  refine cj_aload_n C (i := 0) dX12_readQuarrel_32 rfl rfl ?_
  refine cj_getI C (j := 11) o_150 rfl gfX12_138 dX12_readQuarrel_33 ?_
  refine cj_if_eq C (tgt := 40) dX12_readQuarrel_36 rfl h (fun _ h => ?_) (fun _ h => ?_)
  · refine cj_aload_n C (i := 0) dX12_readQuarrel_40 rfl rfl ?_
    refine cj_getR C (d := 154) o_150 rfl gfX12_24 dX12_readQuarrel_41 ?_
    refine cj_bipush C (v := (70 : Int32)) dX12_readQuarrel_44 rfl ?_
    refine cj_iload_n C (i := 1) dX12_readQuarrel_46 rfl rfl ?_
    refine cj_iadd C dX12_readQuarrel_47 ?_
    refine cj_dup2 C dX12_readQuarrel_48 rfl rfl ?_
    refine cj_iaload C o_154 h dX12_readQuarrel_49 (fun h => ?_)
    refine cj_iconst C (v := (1 : Int32)) dX12_readQuarrel_50 rfl ?_
    refine cj_iload_n C (i := 2) dX12_readQuarrel_51 rfl rfl ?_
    refine ck_ishl C dX12_readQuarrel_52 ?_
    refine cj_ior C dX12_readQuarrel_53 ?_
    refine cj_iastore C o_154 h dX12_readQuarrel_54 (fun h => ?_)
    refine cj_lets h (fun S7 h => ?_)
    refine cj_aload_n C (i := 0) dX12_readQuarrel_55 rfl rfl ?_
    refine cj_getR C (d := 154) o_150 rfl gfX12_24 dX12_readQuarrel_56 ?_
    refine cj_bipush C (v := (70 : Int32)) dX12_readQuarrel_59 rfl ?_
    refine cj_iload_n C (i := 2) dX12_readQuarrel_61 rfl rfl ?_
    refine cj_iadd C dX12_readQuarrel_62 ?_
    refine cj_dup2 C dX12_readQuarrel_63 rfl rfl ?_
    refine cj_iaload C o_154 h dX12_readQuarrel_64 (fun h => ?_)
    refine cj_iconst C (v := (1 : Int32)) dX12_readQuarrel_65 rfl ?_
    refine cj_iload_n C (i := 1) dX12_readQuarrel_66 rfl rfl ?_
    refine ck_ishl C dX12_readQuarrel_67 ?_
    refine cj_ior C dX12_readQuarrel_68 ?_
    refine cj_iastore C o_154 h dX12_readQuarrel_69 (fun h => ?_)
    refine cj_lets h (fun S8 h => ?_)
    exact cj_vreturn C hr h dX12_readQuarrel_70
  · exact cj_vreturn C hr h dX12_readQuarrel_39
end CPV
