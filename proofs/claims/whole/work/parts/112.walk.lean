section CPV
variable {p : Program} {l : Launch} {e : Env} {s : State} {m : MethodId} {args : Array Value} {below : List Frame} {meth : Method} {c : Code} {w : cpW} {A : Nat → Prop}
/-! X12_readCoin -/
def fX12_readCoin_17 (x1 : Int32) (S : cpS) : Option (Unit × cpS) :=
    if (S.1 150 11) = 0 then (
    cpB (fX12_next S) fun _ S2 =>
    cpB (fX12_named (6 : Int32) (0 : Int32) ((S2.1 154 1) - (1 : Int32)) S2) fun z3 S4 =>
    if cpIn ((62 : Int32) + x1) 1162 then (
    cpLt (cpI S4 154 ((62 : Int32) + x1).toNatClampNeg z3) fun S5 =>
    cpB (fX12_named (10 : Int32) (0 : Int32) (99 : Int32) S5) fun z6 S7 =>
    if cpIn ((54 : Int32) + x1) 1162 then (
    cpLt (cpI S7 154 ((54 : Int32) + x1).toNatClampNeg z6) fun S8 =>
    cpB (fX12_named (11 : Int32) (0 : Int32) (99 : Int32) S8) fun z9 S10 =>
    if cpIn ((58 : Int32) + x1) 1162 then (
    cpLt (cpI S10 154 ((58 : Int32) + x1).toNatClampNeg z9) fun S11 =>
    if (S11.1 150 11) = 0 then (
    cpLt (cpI S11 154 4 ((S11.1 154 4) + (1 : Int32))) fun S12 =>
    some ((), S12)) else (
    some ((), S11))) else none) else none) else none) else (
    some ((), S))
set_option maxRecDepth 100000 in
set_option maxHeartbeats 4000000 in
theorem wX12_readCoin_17 (C : cpCx p s m args meth c w A cX12_readCoin RX12 2) (hr : meth.sig.returnType = none) {r : Unit × cpS} (x1 : Int32) (S : cpS) (h : fX12_readCoin_17 x1 S = some r) : cpJ p l e (cpRm 8) s m args below meth c (MQ below (va_Qv (fun S' => ((), S') = r) (cpWorld w A) A) args s 0 0 A) w A 2 17 [some (.ref (w.2.1 150)), some (.int x1)] [] S := by
  rw [fX12_readCoin_17] at h
  refine cj_aload_n C (i := 0) dX12_readCoin_17 rfl rfl ?_
  refine cj_getI C (j := 11) o_150 rfl gfX12_138 dX12_readCoin_18 ?_
  refine cj_if_eq C (tgt := 25) dX12_readCoin_21 rfl h (fun _ h => ?_) (fun _ h => ?_)
  · refine cj_aload_n C (i := 0) dX12_readCoin_25 rfl rfl ?_
    refine cj_callVv C (As := []) (rest := []) qX12_next mw_23_18 o_150 rfl rfl rfl (Nat.le_of_ble_eq_true rfl) (by decide) dX12_readCoin_26 h (fun _ _ hf => m_X12_next l w A S _ hf) (fun z1 S2 h => ?_)
    refine cj_aload_n C (i := 0) dX12_readCoin_29 rfl rfl ?_
    refine cj_getR C (d := 154) o_150 rfl gfX12_24 dX12_readCoin_30 ?_
    refine cj_bipush C (v := (62 : Int32)) dX12_readCoin_33 rfl ?_
    refine cj_iload_n C (i := 1) dX12_readCoin_35 rfl rfl ?_
    refine cj_iadd C dX12_readCoin_36 ?_
    refine cj_aload_n C (i := 0) dX12_readCoin_37 rfl rfl ?_
    refine cj_bipush C (v := (6 : Int32)) dX12_readCoin_38 rfl ?_
    refine cj_iconst C (v := (0 : Int32)) dX12_readCoin_40 rfl ?_
    refine cj_aload_n C (i := 0) dX12_readCoin_41 rfl rfl ?_
    refine cj_getR C (d := 154) o_150 rfl gfX12_24 dX12_readCoin_42 ?_
    refine cj_iconst C (v := (1 : Int32)) dX12_readCoin_45 rfl ?_
    refine cj_ialoadC C (j := 1) o_154 (by decide) (by decide) dX12_readCoin_46 ?_
    refine cj_iconst C (v := (1 : Int32)) dX12_readCoin_47 rfl ?_
    refine cj_isub C dX12_readCoin_48 ?_
    refine cj_callVi C (As := [.int (6 : Int32), .int (0 : Int32), .int ((S2.1 154 1) - (1 : Int32))]) (rest := [.int ((62 : Int32) + x1), .ref (w.2.1 154)]) qX12_named mw_25_4 o_150 rfl rfl rfl (Nat.le_of_ble_eq_true rfl) (by decide) dX12_readCoin_49 h (fun _ _ hf => m_X12_named l w A (6 : Int32) (0 : Int32) ((S2.1 154 1) - (1 : Int32)) S2 _ hf) (fun z3 S4 h => ?_)
    refine cj_iastore C o_154 h dX12_readCoin_52 (fun h => ?_)
    refine cj_lets h (fun S5 h => ?_)
    refine cj_aload_n C (i := 0) dX12_readCoin_53 rfl rfl ?_
    refine cj_getR C (d := 154) o_150 rfl gfX12_24 dX12_readCoin_54 ?_
    refine cj_bipush C (v := (54 : Int32)) dX12_readCoin_57 rfl ?_
    refine cj_iload_n C (i := 1) dX12_readCoin_59 rfl rfl ?_
    refine cj_iadd C dX12_readCoin_60 ?_
    refine cj_aload_n C (i := 0) dX12_readCoin_61 rfl rfl ?_
    refine cj_bipush C (v := (10 : Int32)) dX12_readCoin_62 rfl ?_
    refine cj_iconst C (v := (0 : Int32)) dX12_readCoin_64 rfl ?_
    refine cj_bipush C (v := (99 : Int32)) dX12_readCoin_65 rfl ?_
    refine cj_callVi C (As := [.int (10 : Int32), .int (0 : Int32), .int (99 : Int32)]) (rest := [.int ((54 : Int32) + x1), .ref (w.2.1 154)]) qX12_named mw_25_4 o_150 rfl rfl rfl (Nat.le_of_ble_eq_true rfl) (by decide) dX12_readCoin_67 h (fun _ _ hf => m_X12_named l w A (10 : Int32) (0 : Int32) (99 : Int32) S5 _ hf) (fun z6 S7 h => ?_)
    refine cj_iastore C o_154 h dX12_readCoin_70 (fun h => ?_)
    refine cj_lets h (fun S8 h => ?_)
    refine cj_aload_n C (i := 0) dX12_readCoin_71 rfl rfl ?_
    refine cj_getR C (d := 154) o_150 rfl gfX12_24 dX12_readCoin_72 ?_
    refine cj_bipush C (v := (58 : Int32)) dX12_readCoin_75 rfl ?_
    refine cj_iload_n C (i := 1) dX12_readCoin_77 rfl rfl ?_
    refine cj_iadd C dX12_readCoin_78 ?_
    refine cj_aload_n C (i := 0) dX12_readCoin_79 rfl rfl ?_
    refine cj_bipush C (v := (11 : Int32)) dX12_readCoin_80 rfl ?_
    refine cj_iconst C (v := (0 : Int32)) dX12_readCoin_82 rfl ?_
    refine cj_bipush C (v := (99 : Int32)) dX12_readCoin_83 rfl ?_
    refine cj_callVi C (As := [.int (11 : Int32), .int (0 : Int32), .int (99 : Int32)]) (rest := [.int ((58 : Int32) + x1), .ref (w.2.1 154)]) qX12_named mw_25_4 o_150 rfl rfl rfl (Nat.le_of_ble_eq_true rfl) (by decide) dX12_readCoin_85 h (fun _ _ hf => m_X12_named l w A (11 : Int32) (0 : Int32) (99 : Int32) S8 _ hf) (fun z9 S10 h => ?_)
    refine cj_iastore C o_154 h dX12_readCoin_88 (fun h => ?_)
    refine cj_lets h (fun S11 h => ?_)
    refine cj_aload_n C (i := 0) dX12_readCoin_89 rfl rfl ?_
    refine cj_getI C (j := 11) o_150 rfl gfX12_138 dX12_readCoin_90 ?_
    refine cj_if_ne C (tgt := 106) dX12_readCoin_93 rfl h (fun _ h => ?_) (fun _ h => ?_)
    · refine cj_aload_n C (i := 0) dX12_readCoin_96 rfl rfl ?_
      refine cj_getR C (d := 154) o_150 rfl gfX12_24 dX12_readCoin_97 ?_
      refine cj_iconst C (v := (4 : Int32)) dX12_readCoin_100 rfl ?_
      refine cj_dup2 C dX12_readCoin_101 rfl rfl ?_
      refine cj_ialoadC C (j := 4) o_154 (by decide) (by decide) dX12_readCoin_102 ?_
      refine cj_iconst C (v := (1 : Int32)) dX12_readCoin_103 rfl ?_
      refine cj_iadd C dX12_readCoin_104 ?_
      refine cj_iastoreC C (j := 4) o_154 (by decide) (by decide) dX12_readCoin_105 ?_
      refine cj_lets h (fun S12 h => ?_)
      exact cj_vreturn C hr h dX12_readCoin_106
    · exact cj_vreturn C hr h dX12_readCoin_106
  · exact cj_vreturn C hr h dX12_readCoin_24
def fX12_readCoin (S : cpS) : Option (Unit × cpS) :=
    cpLt (S.1 154 4) fun y1 =>
    if y1 = (4 : Int32) then (
    cpB (fX12_fails (4 : Int32) S) fun _ S3 =>
    fX12_readCoin_17 y1 S3) else (
    fX12_readCoin_17 y1 S)
set_option maxRecDepth 100000 in
set_option maxHeartbeats 4000000 in
theorem m_X12_readCoin (l : Launch) (w : cpW) (A : Nat → Prop) (S : cpS) (r : Unit × cpS) (h : fX12_readCoin S = some r) : cpMv l yX12_readCoin cX12_readCoin 2 (none) 8 w A [.ref (w.2.1 150)] S r := by
  refine cpMv.of (lv := [some (.ref (w.2.1 150)), none]) (by decide) (Nat.le_of_ble_eq_true rfl) rfl (fun p e s m args below meth c C hr => ?_)
  replace C : cpCx p s m args meth c w A cX12_readCoin RX12 2 := C
  rw [fX12_readCoin] at h
  refine cj_aload_n C (i := 0) dX12_readCoin_0 rfl rfl ?_
  refine cj_getR C (d := 154) o_150 rfl gfX12_24 dX12_readCoin_1 ?_
  refine cj_iconst C (v := (4 : Int32)) dX12_readCoin_4 rfl ?_
  refine cj_ialoadC C (j := 4) o_154 (by decide) (by decide) dX12_readCoin_5 ?_
  refine cj_let h (fun y1 h => ?_)
  refine cj_istore_n C (i := 1) (lv' := [some (.ref (w.2.1 150)), some (.int y1)]) dX12_readCoin_6 rfl (by decide) rfl rfl ?_
  refine cj_iload_n C (i := 1) dX12_readCoin_7 rfl rfl ?_
  refine cj_iconst C (v := (4 : Int32)) dX12_readCoin_8 rfl ?_
  refine cj_icmp_ne C (tgt := 17) dX12_readCoin_9 rfl h (fun _ h => ?_) (fun _ h => ?_)
  · refine cj_aload_n C (i := 0) dX12_readCoin_12 rfl rfl ?_
    refine cj_iconst C (v := (4 : Int32)) dX12_readCoin_13 rfl ?_
    refine cj_callVv C (As := [.int (4 : Int32)]) (rest := []) qX12_fails mw_25_0 o_150 rfl rfl rfl (Nat.le_of_ble_eq_true rfl) (by decide) dX12_readCoin_14 h (fun _ _ hf => m_X12_fails l w A (4 : Int32) S _ hf) (fun z2 S3 h => ?_)
    exact wX12_readCoin_17 C hr y1 S3 h
  · exact wX12_readCoin_17 C hr y1 S h
/-! X12_readLaw -/
def fX12_readLaw_50 (x1 : Int32) (x2 : Int32) (S : cpS) : Option (Unit × cpS) :=
    if (S.1 150 11) = 0 then (
    if cpIn ((5 : Int32) + x1) 1162 then (
    cpLt (cpI S 154 ((5 : Int32) + x1).toNatClampNeg (1 : Int32)) fun S1 =>
    if cpIn ((7 : Int32) + x1) 1162 then (
    cpLt (cpI S1 154 ((7 : Int32) + x1).toNatClampNeg x2) fun S2 =>
    if cpIn ((9 : Int32) + x1) 1162 then (
    cpLt (cpI S2 154 ((9 : Int32) + x1).toNatClampNeg ((S2.1 154 261) - x2)) fun S3 =>
    some ((), S3)) else none) else none) else none) else (
    some ((), S))
set_option maxRecDepth 100000 in
set_option maxHeartbeats 4000000 in
theorem wX12_readLaw_50 (C : cpCx p s m args meth c w A cX12_readLaw RX12 3) (hr : meth.sig.returnType = none) {r : Unit × cpS} (x1 : Int32) (x2 : Int32) (S : cpS) (h : fX12_readLaw_50 x1 x2 S = some r) : cpJ p l e (cpRm 88) s m args below meth c (MQ below (va_Qv (fun S' => ((), S') = r) (cpWorld w A) A) args s 0 0 A) w A 3 50 [some (.ref (w.2.1 150)), some (.int x1), some (.int x2)] [] S := by
  rw [fX12_readLaw_50] at h
  refine cj_aload_n C (i := 0) dX12_readLaw_50 rfl rfl ?_
  refine cj_getI C (j := 11) o_150 rfl gfX12_138 dX12_readLaw_51 ?_
  refine cj_if_eq C (tgt := 58) dX12_readLaw_54 rfl h (fun _ h => ?_) (fun _ h => ?_)
  · refine cj_aload_n C (i := 0) dX12_readLaw_58 rfl rfl ?_
    refine cj_getR C (d := 154) o_150 rfl gfX12_24 dX12_readLaw_59 ?_
    refine cj_iconst C (v := (5 : Int32)) dX12_readLaw_62 rfl ?_
    refine cj_iload_n C (i := 1) dX12_readLaw_63 rfl rfl ?_
    refine cj_iadd C dX12_readLaw_64 ?_
    refine cj_iconst C (v := (1 : Int32)) dX12_readLaw_65 rfl ?_
    refine cj_iastore C o_154 h dX12_readLaw_66 (fun h => ?_)
    refine cj_lets h (fun S1 h => ?_)
    refine cj_aload_n C (i := 0) dX12_readLaw_67 rfl rfl ?_
    refine cj_getR C (d := 154) o_150 rfl gfX12_24 dX12_readLaw_68 ?_
    refine cj_bipush C (v := (7 : Int32)) dX12_readLaw_71 rfl ?_
    refine cj_iload_n C (i := 1) dX12_readLaw_73 rfl rfl ?_
    refine cj_iadd C dX12_readLaw_74 ?_
    refine cj_iload_n C (i := 2) dX12_readLaw_75 rfl rfl ?_
    refine cj_iastore C o_154 h dX12_readLaw_76 (fun h => ?_)
    refine cj_lets h (fun S2 h => ?_)
    refine cj_aload_n C (i := 0) dX12_readLaw_77 rfl rfl ?_
    refine cj_getR C (d := 154) o_150 rfl gfX12_24 dX12_readLaw_78 ?_
    refine cj_bipush C (v := (9 : Int32)) dX12_readLaw_81 rfl ?_
    refine cj_iload_n C (i := 1) dX12_readLaw_83 rfl rfl ?_
    refine cj_iadd C dX12_readLaw_84 ?_
    refine cj_aload_n C (i := 0) dX12_readLaw_85 rfl rfl ?_
    refine cj_getR C (d := 154) o_150 rfl gfX12_24 dX12_readLaw_86 ?_
    refine cj_sipush C (v := (261 : Int32)) dX12_readLaw_89 rfl ?_
    refine cj_ialoadC C (j := 261) o_154 (by decide) (by decide) dX12_readLaw_92 ?_
    refine cj_iload_n C (i := 2) dX12_readLaw_93 rfl rfl ?_
    refine cj_isub C dX12_readLaw_94 ?_
    refine cj_iastore C o_154 h dX12_readLaw_95 (fun h => ?_)
    refine cj_lets h (fun S3 h => ?_)
    exact cj_vreturn C hr h dX12_readLaw_96
  · exact cj_vreturn C hr h dX12_readLaw_57
def fX12_readLaw_18 (x1 : Int32) (S : cpS) : Option (Unit × cpS) :=
    cpLt (S.1 154 261) fun y1 =>
    cpLt (cpI S 150 15 x1) fun S2 =>
    if x1 = (1 : Int32) then (
    cpB (fX12_rec 80 3 (0 : Int32) S2) fun _ S4 =>
    fX12_readLaw_50 x1 y1 S4) else (
    cpB (fX12_rec 80 0 (0 : Int32) S2) fun _ S6 =>
    fX12_readLaw_50 x1 y1 S6)
set_option maxRecDepth 100000 in
set_option maxHeartbeats 4000000 in
theorem wX12_readLaw_18 (C : cpCx p s m args meth c w A cX12_readLaw RX12 3) (hr : meth.sig.returnType = none) {r : Unit × cpS} (x1 : Int32) (S : cpS) (h : fX12_readLaw_18 x1 S = some r) : cpJ p l e (cpRm 88) s m args below meth c (MQ below (va_Qv (fun S' => ((), S') = r) (cpWorld w A) A) args s 0 0 A) w A 3 18 [some (.ref (w.2.1 150)), some (.int x1), none] [] S := by
  rw [fX12_readLaw_18] at h
  refine cj_aload_n C (i := 0) dX12_readLaw_18 rfl rfl ?_
  refine cj_getR C (d := 154) o_150 rfl gfX12_24 dX12_readLaw_19 ?_
  refine cj_sipush C (v := (261 : Int32)) dX12_readLaw_22 rfl ?_
  refine cj_ialoadC C (j := 261) o_154 (by decide) (by decide) dX12_readLaw_25 ?_
  refine cj_let h (fun y1 h => ?_)
  refine cj_istore_n C (i := 2) (lv' := [some (.ref (w.2.1 150)), some (.int x1), some (.int y1)]) dX12_readLaw_26 rfl (by decide) rfl rfl ?_
  refine cj_aload_n C (i := 0) dX12_readLaw_27 rfl rfl ?_
  refine cj_iload_n C (i := 1) dX12_readLaw_28 rfl rfl ?_
  refine cj_put C (j := 15) o_150 rfl pfX12_158 rfl rfl dX12_readLaw_29 ?_
  refine cj_lets h (fun S2 h => ?_)
  refine cj_iload_n C (i := 1) dX12_readLaw_32 rfl rfl ?_
  refine cj_iconst C (v := (1 : Int32)) dX12_readLaw_33 rfl ?_
  refine cj_icmp_ne C (tgt := 45) dX12_readLaw_34 rfl h (fun _ h => ?_) (fun _ h => ?_)
  · refine cj_aload_n C (i := 0) dX12_readLaw_37 rfl rfl ?_
    refine cj_iconst C (v := (0 : Int32)) dX12_readLaw_38 rfl ?_
    refine cj_callVv C (As := [.int (0 : Int32)]) (rest := []) qX12_readSum mw_26_21 o_150 rfl rfl rfl (Nat.le_of_ble_eq_true rfl) (by decide) dX12_readLaw_39 h (fun _ _ hf => (m_X12_rec l w A 80).2.2.2.1 (0 : Int32) S2 _ hf) (fun z3 S4 h => ?_)
    refine cj_goto C (tgt := 50) dX12_readLaw_42 rfl ?_
    exact wX12_readLaw_50 C hr x1 y1 S4 h
  · refine cj_aload_n C (i := 0) dX12_readLaw_45 rfl rfl ?_
    refine cj_iconst C (v := (0 : Int32)) dX12_readLaw_46 rfl ?_
    refine cj_callVv C (As := [.int (0 : Int32)]) (rest := []) qX12_readTruth mw_28_1 o_150 rfl rfl rfl (Nat.le_of_ble_eq_true rfl) (by decide) dX12_readLaw_47 h (fun _ _ hf => (m_X12_rec l w A 80).1 (0 : Int32) S2 _ hf) (fun z5 S6 h => ?_)
    exact wX12_readLaw_50 C hr x1 y1 S6 h
def fX12_readLaw (x1 : Int32) (S : cpS) : Option (Unit × cpS) :=
    cpB (fX12_next S) fun _ S2 =>
    cpB (fX12_eats (31 : Int32) S2) fun z3 S4 =>
    if z3 = 0 then (
    cpB (fX12_fails (2 : Int32) S4) fun _ S6 =>
    fX12_readLaw_18 x1 S6) else (
    fX12_readLaw_18 x1 S4)
set_option maxRecDepth 100000 in
set_option maxHeartbeats 4000000 in
theorem m_X12_readLaw (l : Launch) (w : cpW) (A : Nat → Prop) (x1 : Int32) (S : cpS) (r : Unit × cpS) (h : fX12_readLaw x1 S = some r) : cpMv l yX12_readLaw cX12_readLaw 3 (none) 88 w A [.ref (w.2.1 150), .int x1] S r := by
  refine cpMv.of (lv := [some (.ref (w.2.1 150)), some (.int x1), none]) (by decide) (Nat.le_of_ble_eq_true rfl) rfl (fun p e s m args below meth c C hr => ?_)
  replace C : cpCx p s m args meth c w A cX12_readLaw RX12 3 := C
  rw [fX12_readLaw] at h
  refine cj_aload_n C (i := 0) dX12_readLaw_0 rfl rfl ?_
  refine cj_callVv C (As := []) (rest := []) qX12_next mw_23_18 o_150 rfl rfl rfl (Nat.le_of_ble_eq_true rfl) (by decide) dX12_readLaw_1 h (fun _ _ hf => m_X12_next l w A S _ hf) (fun z1 S2 h => ?_)
  refine cj_aload_n C (i := 0) dX12_readLaw_4 rfl rfl ?_
  refine cj_bipush C (v := (31 : Int32)) dX12_readLaw_5 rfl ?_
  refine cj_callVi C (As := [.int (31 : Int32)]) (rest := []) qX12_eats mw_24_16 o_150 rfl rfl rfl (Nat.le_of_ble_eq_true rfl) (by decide) dX12_readLaw_7 h (fun _ _ hf => m_X12_eats l w A (31 : Int32) S2 _ hf) (fun z3 S4 h => ?_)
  refine cj_if_ne C (tgt := 18) dX12_readLaw_10 rfl h (fun _ h => ?_) (fun _ h => ?_)
  · refine cj_aload_n C (i := 0) dX12_readLaw_13 rfl rfl ?_
    refine cj_iconst C (v := (2 : Int32)) dX12_readLaw_14 rfl ?_
    refine cj_callVv C (As := [.int (2 : Int32)]) (rest := []) qX12_fails mw_25_0 o_150 rfl rfl rfl (Nat.le_of_ble_eq_true rfl) (by decide) dX12_readLaw_15 h (fun _ _ hf => m_X12_fails l w A (2 : Int32) S4 _ hf) (fun z5 S6 h => ?_)
    exact wX12_readLaw_18 C hr x1 S6 h
  · exact wX12_readLaw_18 C hr x1 S4 h
/-! X12_readLine -/
def fX12_readLine (S : cpS) : Option (Unit × cpS) :=
    if (S.1 150 11) = 0 then (
    cpB (fX12_is (3 : Int32) S) fun z1 S2 =>
    if z1 = 0 then (
    cpB (fX12_is (5 : Int32) S2) fun z3 S4 =>
    if z3 = 0 then (
    cpB (fX12_is (8 : Int32) S4) fun z5 S6 =>
    if z5 = 0 then (
    cpB (fX12_is (9 : Int32) S6) fun z7 S8 =>
    if z7 = 0 then (
    cpB (fX12_is (12 : Int32) S8) fun z9 S10 =>
    if z9 = 0 then (
    cpB (fX12_is (13 : Int32) S10) fun z11 S12 =>
    if z11 = 0 then (
    cpB (fX12_fails (2 : Int32) S12) fun _ S14 =>
    some ((), S14)) else (
    cpB (fX12_readLaw ((S12.1 150 9) - (12 : Int32)) S12) fun _ S16 =>
    some ((), S16))) else (
    cpB (fX12_readLaw ((S10.1 150 9) - (12 : Int32)) S10) fun _ S18 =>
    some ((), S18))) else (
    cpB (fX12_readCoin S8) fun _ S20 =>
    some ((), S20))) else (
    cpB (fX12_readQuarrel S6) fun _ S22 =>
    some ((), S22))) else (
    cpB (fX12_readPerson S4) fun _ S24 =>
    some ((), S24))) else (
    cpB (fX12_readRoad S2) fun _ S26 =>
    some ((), S26))) else (
    some ((), S))
set_option maxRecDepth 100000 in
set_option maxHeartbeats 4000000 in
theorem m_X12_readLine (l : Launch) (w : cpW) (A : Nat → Prop) (S : cpS) (r : Unit × cpS) (h : fX12_readLine S = some r) : cpMv l yX12_readLine cX12_readLine 1 (none) 89 w A [.ref (w.2.1 150)] S r := by
  refine cpMv.of (lv := [some (.ref (w.2.1 150))]) (by decide) (Nat.le_of_ble_eq_true rfl) rfl (fun p e s m args below meth c C hr => ?_)
  replace C : cpCx p s m args meth c w A cX12_readLine RX12 1 := C
  rw [fX12_readLine] at h
  refine cj_aload_n C (i := 0) dX12_readLine_0 rfl rfl ?_
  refine cj_getI C (j := 11) o_150 rfl gfX12_138 dX12_readLine_1 ?_
  refine cj_if_eq C (tgt := 8) dX12_readLine_4 rfl h (fun _ h => ?_) (fun _ h => ?_)
  · refine cj_aload_n C (i := 0) dX12_readLine_8 rfl rfl ?_
    refine cj_iconst C (v := (3 : Int32)) dX12_readLine_9 rfl ?_
    refine cj_callVi C (As := [.int (3 : Int32)]) (rest := []) qX12_is mw_24_20 o_150 rfl rfl rfl (Nat.le_of_ble_eq_true rfl) (by decide) dX12_readLine_10 h (fun _ _ hf => m_X12_is l w A (3 : Int32) S _ hf) (fun z1 S2 h => ?_)
    refine cj_if_eq C (tgt := 23) dX12_readLine_13 rfl h (fun _ h => ?_) (fun _ h => ?_)
    · refine cj_aload_n C (i := 0) dX12_readLine_23 rfl rfl ?_
      refine cj_iconst C (v := (5 : Int32)) dX12_readLine_24 rfl ?_
      refine cj_callVi C (As := [.int (5 : Int32)]) (rest := []) qX12_is mw_24_20 o_150 rfl rfl rfl (Nat.le_of_ble_eq_true rfl) (by decide) dX12_readLine_25 h (fun _ _ hf => m_X12_is l w A (5 : Int32) S2 _ hf) (fun z3 S4 h => ?_)
      refine cj_if_eq C (tgt := 38) dX12_readLine_28 rfl h (fun _ h => ?_) (fun _ h => ?_)
      · refine cj_aload_n C (i := 0) dX12_readLine_38 rfl rfl ?_
        refine cj_bipush C (v := (8 : Int32)) dX12_readLine_39 rfl ?_
        refine cj_callVi C (As := [.int (8 : Int32)]) (rest := []) qX12_is mw_24_20 o_150 rfl rfl rfl (Nat.le_of_ble_eq_true rfl) (by decide) dX12_readLine_41 h (fun _ _ hf => m_X12_is l w A (8 : Int32) S4 _ hf) (fun z5 S6 h => ?_)
        refine cj_if_eq C (tgt := 54) dX12_readLine_44 rfl h (fun _ h => ?_) (fun _ h => ?_)
        · refine cj_aload_n C (i := 0) dX12_readLine_54 rfl rfl ?_
          refine cj_bipush C (v := (9 : Int32)) dX12_readLine_55 rfl ?_
          refine cj_callVi C (As := [.int (9 : Int32)]) (rest := []) qX12_is mw_24_20 o_150 rfl rfl rfl (Nat.le_of_ble_eq_true rfl) (by decide) dX12_readLine_57 h (fun _ _ hf => m_X12_is l w A (9 : Int32) S6 _ hf) (fun z7 S8 h => ?_)
          refine cj_if_eq C (tgt := 70) dX12_readLine_60 rfl h (fun _ h => ?_) (fun _ h => ?_)
          · refine cj_aload_n C (i := 0) dX12_readLine_70 rfl rfl ?_
            refine cj_bipush C (v := (12 : Int32)) dX12_readLine_71 rfl ?_
            refine cj_callVi C (As := [.int (12 : Int32)]) (rest := []) qX12_is mw_24_20 o_150 rfl rfl rfl (Nat.le_of_ble_eq_true rfl) (by decide) dX12_readLine_73 h (fun _ _ hf => m_X12_is l w A (12 : Int32) S8 _ hf) (fun z9 S10 h => ?_)
            refine cj_if_ne C (tgt := 88) dX12_readLine_76 rfl h (fun _ h => ?_) (fun _ h => ?_)
            · refine cj_aload_n C (i := 0) dX12_readLine_79 rfl rfl ?_
              refine cj_bipush C (v := (13 : Int32)) dX12_readLine_80 rfl ?_
              refine cj_callVi C (As := [.int (13 : Int32)]) (rest := []) qX12_is mw_24_20 o_150 rfl rfl rfl (Nat.le_of_ble_eq_true rfl) (by decide) dX12_readLine_82 h (fun _ _ hf => m_X12_is l w A (13 : Int32) S10 _ hf) (fun z11 S12 h => ?_)
              refine cj_if_eq C (tgt := 102) dX12_readLine_85 rfl h (fun _ h => ?_) (fun _ h => ?_)
              · refine cj_aload_n C (i := 0) dX12_readLine_102 rfl rfl ?_
                refine cj_iconst C (v := (2 : Int32)) dX12_readLine_103 rfl ?_
                refine cj_callVv C (As := [.int (2 : Int32)]) (rest := []) qX12_fails mw_25_0 o_150 rfl rfl rfl (Nat.le_of_ble_eq_true rfl) (by decide) dX12_readLine_104 h (fun _ _ hf => m_X12_fails l w A (2 : Int32) S12 _ hf) (fun z13 S14 h => ?_)
                exact cj_vreturn C hr h dX12_readLine_107
              · refine cj_aload_n C (i := 0) dX12_readLine_88 rfl rfl ?_
                refine cj_aload_n C (i := 0) dX12_readLine_89 rfl rfl ?_
                refine cj_getI C (j := 9) o_150 rfl gfX12_120 dX12_readLine_90 ?_
                refine cj_bipush C (v := (12 : Int32)) dX12_readLine_93 rfl ?_
                refine cj_isub C dX12_readLine_95 ?_
                refine cj_callVv C (As := [.int ((S12.1 150 9) - (12 : Int32))]) (rest := []) qX12_readLaw mw_26_16 o_150 rfl rfl rfl (Nat.le_of_ble_eq_true rfl) (by decide) dX12_readLine_96 h (fun _ _ hf => m_X12_readLaw l w A ((S12.1 150 9) - (12 : Int32)) S12 _ hf) (fun z15 S16 h => ?_)
                refine cj_goto C (tgt := 107) dX12_readLine_99 rfl ?_
                exact cj_vreturn C hr h dX12_readLine_107
            · refine cj_aload_n C (i := 0) dX12_readLine_88 rfl rfl ?_
              refine cj_aload_n C (i := 0) dX12_readLine_89 rfl rfl ?_
              refine cj_getI C (j := 9) o_150 rfl gfX12_120 dX12_readLine_90 ?_
              refine cj_bipush C (v := (12 : Int32)) dX12_readLine_93 rfl ?_
              refine cj_isub C dX12_readLine_95 ?_
              refine cj_callVv C (As := [.int ((S10.1 150 9) - (12 : Int32))]) (rest := []) qX12_readLaw mw_26_16 o_150 rfl rfl rfl (Nat.le_of_ble_eq_true rfl) (by decide) dX12_readLine_96 h (fun _ _ hf => m_X12_readLaw l w A ((S10.1 150 9) - (12 : Int32)) S10 _ hf) (fun z17 S18 h => ?_)
              refine cj_goto C (tgt := 107) dX12_readLine_99 rfl ?_
              exact cj_vreturn C hr h dX12_readLine_107
          · refine cj_aload_n C (i := 0) dX12_readLine_63 rfl rfl ?_
            refine cj_callVv C (As := []) (rest := []) qX12_readCoin mw_26_12 o_150 rfl rfl rfl (Nat.le_of_ble_eq_true rfl) (by decide) dX12_readLine_64 h (fun _ _ hf => m_X12_readCoin l w A S8 _ hf) (fun z19 S20 h => ?_)
            refine cj_goto C (tgt := 107) dX12_readLine_67 rfl ?_
            exact cj_vreturn C hr h dX12_readLine_107
        · refine cj_aload_n C (i := 0) dX12_readLine_47 rfl rfl ?_
          refine cj_callVv C (As := []) (rest := []) qX12_readQuarrel mw_26_8 o_150 rfl rfl rfl (Nat.le_of_ble_eq_true rfl) (by decide) dX12_readLine_48 h (fun _ _ hf => m_X12_readQuarrel l w A S6 _ hf) (fun z21 S22 h => ?_)
          refine cj_goto C (tgt := 107) dX12_readLine_51 rfl ?_
          exact cj_vreturn C hr h dX12_readLine_107
      · refine cj_aload_n C (i := 0) dX12_readLine_31 rfl rfl ?_
        refine cj_callVv C (As := []) (rest := []) qX12_readPerson mw_26_4 o_150 rfl rfl rfl (Nat.le_of_ble_eq_true rfl) (by decide) dX12_readLine_32 h (fun _ _ hf => m_X12_readPerson l w A S4 _ hf) (fun z23 S24 h => ?_)
        refine cj_goto C (tgt := 107) dX12_readLine_35 rfl ?_
        exact cj_vreturn C hr h dX12_readLine_107
    · refine cj_aload_n C (i := 0) dX12_readLine_16 rfl rfl ?_
      refine cj_callVv C (As := []) (rest := []) qX12_readRoad mw_25_20 o_150 rfl rfl rfl (Nat.le_of_ble_eq_true rfl) (by decide) dX12_readLine_17 h (fun _ _ hf => m_X12_readRoad l w A S2 _ hf) (fun z25 S26 h => ?_)
      refine cj_goto C (tgt := 107) dX12_readLine_20 rfl ?_
      exact cj_vreturn C hr h dX12_readLine_107
  · exact cj_vreturn C hr h dX12_readLine_7
/-! X12_closes -/
def fX12_closes_14 (S : cpS) : Option (Unit × cpS) :=
    cpLt (cpI S 154 0 ((S.1 154 0) + (1 : Int32))) fun S1 =>
    some ((), S1)
set_option maxRecDepth 100000 in
set_option maxHeartbeats 4000000 in
theorem wX12_closes_14 (C : cpCx p s m args meth c w A cX12_closes RX12 1) (hr : meth.sig.returnType = none) {r : Unit × cpS} (S : cpS) (h : fX12_closes_14 S = some r) : cpJ p l e (cpRm 7) s m args below meth c (MQ below (va_Qv (fun S' => ((), S') = r) (cpWorld w A) A) args s 0 0 A) w A 1 14 [some (.ref (w.2.1 150))] [] S := by
  rw [fX12_closes_14] at h
  refine cj_aload_n C (i := 0) dX12_closes_14 rfl rfl ?_
  refine cj_getR C (d := 154) o_150 rfl gfX12_24 dX12_closes_15 ?_
  refine cj_iconst C (v := (0 : Int32)) dX12_closes_18 rfl ?_
  refine cj_dup2 C dX12_closes_19 rfl rfl ?_
  refine cj_ialoadC C (j := 0) o_154 (by decide) (by decide) dX12_closes_20 ?_
  refine cj_iconst C (v := (1 : Int32)) dX12_closes_21 rfl ?_
  refine cj_iadd C dX12_closes_22 ?_
  refine cj_iastoreC C (j := 0) o_154 (by decide) (by decide) dX12_closes_23 ?_
  refine cj_lets h (fun S1 h => ?_)
  exact cj_vreturn C hr h dX12_closes_24
def fX12_closes (S : cpS) : Option (Unit × cpS) :=
    cpB (fX12_eats (30 : Int32) S) fun z1 S2 =>
    if z1 = 0 then (
    cpB (fX12_fails (2 : Int32) S2) fun _ S4 =>
    fX12_closes_14 S4) else (
    fX12_closes_14 S2)
set_option maxRecDepth 100000 in
set_option maxHeartbeats 4000000 in
theorem m_X12_closes (l : Launch) (w : cpW) (A : Nat → Prop) (S : cpS) (r : Unit × cpS) (h : fX12_closes S = some r) : cpMv l yX12_closes cX12_closes 1 (none) 7 w A [.ref (w.2.1 150)] S r := by
  refine cpMv.of (lv := [some (.ref (w.2.1 150))]) (by decide) (Nat.le_of_ble_eq_true rfl) rfl (fun p e s m args below meth c C hr => ?_)
  replace C : cpCx p s m args meth c w A cX12_closes RX12 1 := C
  rw [fX12_closes] at h
  refine cj_aload_n C (i := 0) dX12_closes_0 rfl rfl ?_
  refine cj_bipush C (v := (30 : Int32)) dX12_closes_1 rfl ?_
  refine cj_callVi C (As := [.int (30 : Int32)]) (rest := []) qX12_eats mw_24_16 o_150 rfl rfl rfl (Nat.le_of_ble_eq_true rfl) (by decide) dX12_closes_3 h (fun _ _ hf => m_X12_eats l w A (30 : Int32) S _ hf) (fun z1 S2 h => ?_)
  refine cj_if_ne C (tgt := 14) dX12_closes_6 rfl h (fun _ h => ?_) (fun _ h => ?_)
  · refine cj_aload_n C (i := 0) dX12_closes_9 rfl rfl ?_
    refine cj_iconst C (v := (2 : Int32)) dX12_closes_10 rfl ?_
    refine cj_callVv C (As := [.int (2 : Int32)]) (rest := []) qX12_fails mw_25_0 o_150 rfl rfl rfl (Nat.le_of_ble_eq_true rfl) (by decide) dX12_closes_11 h (fun _ _ hf => m_X12_fails l w A (2 : Int32) S2 _ hf) (fun z3 S4 h => ?_)
    exact wX12_closes_14 C hr S4 h
  · exact wX12_closes_14 C hr S2 h
/-! X12_valley -/
def fX12_valley_170 : Nat → Int32 → cpS → Option (Int32 × cpS)
  | 0, _, _ => none
  | n + 1, x2, S =>
    if (1162 : Int32) ≤ x2 then (
    some ((S.1 151 0), S)) else (
    if cpIn x2 1162 then (
    if cpIn x2 3486 then (
    cpLt (cpI S 151 x2.toNatClampNeg (S.1 154 x2.toNatClampNeg)) fun S1 =>
    fX12_valley_170 n (x2 + 1) S1) else none) else none)
set_option maxRecDepth 100000 in
set_option maxHeartbeats 4000000 in
theorem wX12_valley_170 (C : cpCx p s m args meth c w A cX12_valley RX12 3) (hr : meth.sig.returnType = (some .int)) {r : Int32 × cpS} : ∀ (n : Nat) (x2 : Int32) (S : cpS), fX12_valley_170 n x2 S = some r → cpJ p l e (cpRm 90) s m args below meth c (MQ below (va_Qi (fun x S' => (x, S') = r) (cpWorld w A) A) args s 0 0 A) w A 3 170 [some (.ref (w.2.1 150)), none, some (.int x2)] [] S := by
  intro n
  induction n with
  | zero => intro x2 S h; rw [fX12_valley_170] at h; cases h
  | succ n ih =>
    intro x2 S h
    rw [fX12_valley_170] at h
    refine cj_iload_n C (i := 2) dX12_valley_170 rfl rfl ?_
    refine cj_sipush C (v := (1162 : Int32)) dX12_valley_171 rfl ?_
    refine cj_icmp_ge C (tgt := 195) dX12_valley_174 rfl h (fun _ h => ?_) (fun _ h => ?_)
    · refine cj_aload_n C (i := 0) dX12_valley_195 rfl rfl ?_
      refine cj_getR C (d := 151) o_150 rfl gfX12_13 dX12_valley_196 ?_
      refine cj_iconst C (v := (0 : Int32)) dX12_valley_199 rfl ?_
      refine cj_ialoadC C (j := 0) o_151 (by decide) (by decide) dX12_valley_200 ?_
      exact cj_ireturn C hr h dX12_valley_201
    · refine cj_aload_n C (i := 0) dX12_valley_177 rfl rfl ?_
      refine cj_getR C (d := 151) o_150 rfl gfX12_13 dX12_valley_178 ?_
      refine cj_iload_n C (i := 2) dX12_valley_181 rfl rfl ?_
      refine cj_aload_n C (i := 0) dX12_valley_182 rfl rfl ?_
      refine cj_getR C (d := 154) o_150 rfl gfX12_24 dX12_valley_183 ?_
      refine cj_iload_n C (i := 2) dX12_valley_186 rfl rfl ?_
      refine cj_iaload C o_154 h dX12_valley_187 (fun h => ?_)
      refine cj_iastore C o_151 h dX12_valley_188 (fun h => ?_)
      refine cj_lets h (fun S1 h => ?_)
      refine cj_iinc C (v := (x2 + 1)) (lv' := [some (.ref (w.2.1 150)), none, some (.int (x2 + 1))]) dX12_valley_189 rfl rfl (by decide) rfl rfl ?_
      refine cj_goto C (tgt := 170) dX12_valley_192 rfl ?_
      exact ih (x2 + 1) S1 h
def fX12_valley_150 (s0 : Int32) (S : cpS) : Option (Int32 × cpS) :=
    cpLt (cpI S 150 14 s0) fun S1 =>
    if (S1.1 150 11) = 0 then (
    fX12_valley_170 cpFu (0 : Int32) S1) else (
    some (((-30 : Int32) - (S1.1 150 11)), S1))
set_option maxRecDepth 100000 in
set_option maxHeartbeats 4000000 in
theorem wX12_valley_150 (C : cpCx p s m args meth c w A cX12_valley RX12 3) (hr : meth.sig.returnType = (some .int)) {r : Int32 × cpS} (s0 : Int32) (S : cpS) (h : fX12_valley_150 s0 S = some r) : cpJ p l e (cpRm 90) s m args below meth c (MQ below (va_Qi (fun x S' => (x, S') = r) (cpWorld w A) A) args s 0 0 A) w A 3 150 [some (.ref (w.2.1 150)), none, none] [.int s0, .ref (w.2.1 150)] S := by
  rw [fX12_valley_150] at h
  refine cj_put C (j := 14) o_150 rfl pfX12_27 rfl rfl dX12_valley_150 ?_
  refine cj_lets h (fun S1 h => ?_)
  refine cj_aload_n C (i := 0) dX12_valley_153 rfl rfl ?_
  refine cj_getI C (j := 11) o_150 rfl gfX12_138 dX12_valley_154 ?_
  refine cj_if_eq C (tgt := 168) dX12_valley_157 rfl h (fun _ h => ?_) (fun _ h => ?_)
  · refine cj_iconst C (v := (0 : Int32)) dX12_valley_168 rfl ?_
    refine cj_istore_n C (i := 2) (lv' := [some (.ref (w.2.1 150)), none, some (.int (0 : Int32))]) dX12_valley_169 rfl (by decide) rfl rfl ?_
    exact wX12_valley_170 C hr cpFu (0 : Int32) S1 h
  · refine cj_bipush C (v := (-30 : Int32)) dX12_valley_160 rfl ?_
    refine cj_aload_n C (i := 0) dX12_valley_162 rfl rfl ?_
    refine cj_getI C (j := 11) o_150 rfl gfX12_138 dX12_valley_163 ?_
    refine cj_isub C dX12_valley_166 ?_
    exact cj_ireturn C hr h dX12_valley_167
def fX12_valley_126 (S : cpS) : Option (Int32 × cpS) :=
    cpLt (cpI S 150 13 (S.1 150 11)) fun S1 =>
    if (S1.1 150 11) = 0 then (
    fX12_valley_150 (-1 : Int32) S1) else (
    fX12_valley_150 (S1.1 150 12) S1)
set_option maxRecDepth 100000 in
set_option maxHeartbeats 4000000 in
theorem wX12_valley_126 (C : cpCx p s m args meth c w A cX12_valley RX12 3) (hr : meth.sig.returnType = (some .int)) {r : Int32 × cpS} (S : cpS) (h : fX12_valley_126 S = some r) : cpJ p l e (cpRm 90) s m args below meth c (MQ below (va_Qi (fun x S' => (x, S') = r) (cpWorld w A) A) args s 0 0 A) w A 3 126 [some (.ref (w.2.1 150)), none, none] [] S := by
  rw [fX12_valley_126] at h
  refine cj_aload_n C (i := 0) dX12_valley_126 rfl rfl ?_
  refine cj_aload_n C (i := 0) dX12_valley_127 rfl rfl ?_
  refine cj_getI C (j := 11) o_150 rfl gfX12_138 dX12_valley_128 ?_
  refine cj_put C (j := 13) o_150 rfl pfX12_226 rfl rfl dX12_valley_131 ?_
  refine cj_lets h (fun S1 h => ?_)
  refine cj_aload_n C (i := 0) dX12_valley_134 rfl rfl ?_
  refine cj_aload_n C (i := 0) dX12_valley_135 rfl rfl ?_
  refine cj_getI C (j := 11) o_150 rfl gfX12_138 dX12_valley_136 ?_
  refine cj_if_ne C (tgt := 146) dX12_valley_139 rfl h (fun _ h => ?_) (fun _ h => ?_)
  · refine cj_iconst C (v := (-1 : Int32)) dX12_valley_142 rfl ?_
    refine cj_goto C (tgt := 150) dX12_valley_143 rfl ?_
    exact wX12_valley_150 C hr (-1 : Int32) S1 h
  · refine cj_aload_n C (i := 0) dX12_valley_146 rfl rfl ?_
    refine cj_getI C (j := 12) o_150 rfl gfX12_141 dX12_valley_147 ?_
    exact wX12_valley_150 C hr (S1.1 150 12) S1 h
def fX12_valley_99 : Nat → cpS → Option (Int32 × cpS)
  | 0, _ => none
  | n + 1, S =>
    if (S.1 150 11) = 0 then (
    if (S.1 150 9) = (26 : Int32) then (
    fX12_valley_126 S) else (
    cpB (fX12_readLine S) fun _ S2 =>
    cpB (fX12_closes S2) fun _ S4 =>
    fX12_valley_99 n S4)) else (
    fX12_valley_126 S)
set_option maxRecDepth 100000 in
set_option maxHeartbeats 4000000 in
theorem wX12_valley_99 (C : cpCx p s m args meth c w A cX12_valley RX12 3) (hr : meth.sig.returnType = (some .int)) {r : Int32 × cpS} : ∀ (n : Nat)  (S : cpS), fX12_valley_99 n S = some r → cpJ p l e (cpRm 90) s m args below meth c (MQ below (va_Qi (fun x S' => (x, S') = r) (cpWorld w A) A) args s 0 0 A) w A 3 99 [some (.ref (w.2.1 150)), none, none] [] S := by
  intro n
  induction n with
  | zero => intro  S h; rw [fX12_valley_99] at h; cases h
  | succ n ih =>
    intro  S h
    rw [fX12_valley_99] at h
    refine cj_aload_n C (i := 0) dX12_valley_99 rfl rfl ?_
    refine cj_getI C (j := 11) o_150 rfl gfX12_138 dX12_valley_100 ?_
    refine cj_if_ne C (tgt := 126) dX12_valley_103 rfl h (fun _ h => ?_) (fun _ h => ?_)
    · refine cj_aload_n C (i := 0) dX12_valley_106 rfl rfl ?_
      refine cj_getI C (j := 9) o_150 rfl gfX12_120 dX12_valley_107 ?_
      refine cj_bipush C (v := (26 : Int32)) dX12_valley_110 rfl ?_
      refine cj_icmp_eq C (tgt := 126) dX12_valley_112 rfl h (fun _ h => ?_) (fun _ h => ?_)
      · exact wX12_valley_126 C hr S h
      · refine cj_aload_n C (i := 0) dX12_valley_115 rfl rfl ?_
        refine cj_callVv C (As := []) (rest := []) qX12_readLine mw_25_16 o_150 rfl rfl rfl (Nat.le_of_ble_eq_true rfl) (by decide) dX12_valley_116 h (fun _ _ hf => m_X12_readLine l w A S _ hf) (fun z1 S2 h => ?_)
        refine cj_aload_n C (i := 0) dX12_valley_119 rfl rfl ?_
        refine cj_callVv C (As := []) (rest := []) qX12_closes mw_25_12 o_150 rfl rfl rfl (Nat.le_of_ble_eq_true rfl) (by decide) dX12_valley_120 h (fun _ _ hf => m_X12_closes l w A S2 _ hf) (fun z3 S4 h => ?_)
        refine cj_goto C (tgt := 99) dX12_valley_123 rfl ?_
        exact ih S4 h
    · exact wX12_valley_126 C hr S h
def fX12_valley_66 (S : cpS) : Option (Int32 × cpS) :=
    cpB (fX12_named (1 : Int32) (1 : Int32) (6 : Int32) S) fun z1 S2 =>
    cpLt (cpI S2 154 1 z1) fun S3 =>
    cpB (fX12_named (2 : Int32) (0 : Int32) (9 : Int32) S3) fun z4 S5 =>
    cpLt (cpI S5 154 78 z4) fun S6 =>
    cpB (fX12_closes S6) fun _ S8 =>
    fX12_valley_99 cpFu S8
set_option maxRecDepth 100000 in
set_option maxHeartbeats 4000000 in
theorem wX12_valley_66 (C : cpCx p s m args meth c w A cX12_valley RX12 3) (hr : meth.sig.returnType = (some .int)) {r : Int32 × cpS} (S : cpS) (h : fX12_valley_66 S = some r) : cpJ p l e (cpRm 90) s m args below meth c (MQ below (va_Qi (fun x S' => (x, S') = r) (cpWorld w A) A) args s 0 0 A) w A 3 66 [some (.ref (w.2.1 150)), none, none] [] S := by
  rw [fX12_valley_66] at h
  refine cj_aload_n C (i := 0) dX12_valley_66 rfl rfl ?_
  refine cj_getR C (d := 154) o_150 rfl gfX12_24 dX12_valley_67 ?_
  refine cj_iconst C (v := (1 : Int32)) dX12_valley_70 rfl ?_
  refine cj_aload_n C (i := 0) dX12_valley_71 rfl rfl ?_
  refine cj_iconst C (v := (1 : Int32)) dX12_valley_72 rfl ?_
  refine cj_iconst C (v := (1 : Int32)) dX12_valley_73 rfl ?_
  refine cj_bipush C (v := (6 : Int32)) dX12_valley_74 rfl ?_
  refine cj_callVi C (As := [.int (1 : Int32), .int (1 : Int32), .int (6 : Int32)]) (rest := [.int (1 : Int32), .ref (w.2.1 154)]) qX12_named mw_25_4 o_150 rfl rfl rfl (Nat.le_of_ble_eq_true rfl) (by decide) dX12_valley_76 h (fun _ _ hf => m_X12_named l w A (1 : Int32) (1 : Int32) (6 : Int32) S _ hf) (fun z1 S2 h => ?_)
  refine cj_iastoreC C (j := 1) o_154 (by decide) (by decide) dX12_valley_79 ?_
  refine cj_lets h (fun S3 h => ?_)
  refine cj_aload_n C (i := 0) dX12_valley_80 rfl rfl ?_
  refine cj_getR C (d := 154) o_150 rfl gfX12_24 dX12_valley_81 ?_
  refine cj_bipush C (v := (78 : Int32)) dX12_valley_84 rfl ?_
  refine cj_aload_n C (i := 0) dX12_valley_86 rfl rfl ?_
  refine cj_iconst C (v := (2 : Int32)) dX12_valley_87 rfl ?_
  refine cj_iconst C (v := (0 : Int32)) dX12_valley_88 rfl ?_
  refine cj_bipush C (v := (9 : Int32)) dX12_valley_89 rfl ?_
  refine cj_callVi C (As := [.int (2 : Int32), .int (0 : Int32), .int (9 : Int32)]) (rest := [.int (78 : Int32), .ref (w.2.1 154)]) qX12_named mw_25_4 o_150 rfl rfl rfl (Nat.le_of_ble_eq_true rfl) (by decide) dX12_valley_91 h (fun _ _ hf => m_X12_named l w A (2 : Int32) (0 : Int32) (9 : Int32) S3 _ hf) (fun z4 S5 h => ?_)
  refine cj_iastoreC C (j := 78) o_154 (by decide) (by decide) dX12_valley_94 ?_
  refine cj_lets h (fun S6 h => ?_)
  refine cj_aload_n C (i := 0) dX12_valley_95 rfl rfl ?_
  refine cj_callVv C (As := []) (rest := []) qX12_closes mw_25_12 o_150 rfl rfl rfl (Nat.le_of_ble_eq_true rfl) (by decide) dX12_valley_96 h (fun _ _ hf => m_X12_closes l w A S6 _ hf) (fun z7 S8 h => ?_)
  exact wX12_valley_99 C hr cpFu S8 h
def fX12_valley (x1 : Int32) (S : cpS) : Option (Int32 × cpS) :=
    cpLt (cpI S 150 0 (0 : Int32)) fun S1 =>
    cpB (fX12_within (Int32.toInt64 x1) (0 : Int64) (Int32.toInt64 (S1.1 150 5)) S1) fun z2 S3 =>
    if z2 = 0 then (
    some ((-3 : Int32), S3)) else (
    cpLt (cpI S3 150 8 x1) fun S4 =>
    cpLt (cpI S4 150 5 (0 : Int32)) fun S5 =>
    cpLt (cpI S5 150 7 (0 : Int32)) fun S6 =>
    cpLt (cpI S6 150 11 (0 : Int32)) fun S7 =>
    cpB (fX12_plain 154 1162 S7) fun _ S9 =>
    cpB (fX12_next S9) fun _ S11 =>
    cpB (fX12_eats (0 : Int32) S11) fun z12 S13 =>
    if z12 = 0 then (
    cpB (fX12_fails (2 : Int32) S13) fun _ S15 =>
    fX12_valley_66 S15) else (
    fX12_valley_66 S13))
set_option maxRecDepth 100000 in
set_option maxHeartbeats 4000000 in
theorem m_X12_valley (l : Launch) (w : cpW) (A : Nat → Prop) (x1 : Int32) (S : cpS) (r : Int32 × cpS) (h : fX12_valley x1 S = some r) : cpMi l yX12_valley cX12_valley 3 ((some .int)) 90 w A [.ref (w.2.1 150), .int x1] S r := by
  refine cpMi.of (lv := [some (.ref (w.2.1 150)), some (.int x1), none]) (by decide) (Nat.le_of_ble_eq_true rfl) rfl (fun p e s m args below meth c C hr => ?_)
  replace C : cpCx p s m args meth c w A cX12_valley RX12 3 := C
  rw [fX12_valley] at h
  refine cj_aload_n C (i := 0) dX12_valley_0 rfl rfl ?_
  refine cj_iconst C (v := (0 : Int32)) dX12_valley_1 rfl ?_
  refine cj_put C (j := 0) o_150 rfl pfX12_1 rfl rfl dX12_valley_2 ?_
  refine cj_lets h (fun S1 h => ?_)
  refine cj_iload_n C (i := 1) dX12_valley_5 rfl rfl ?_
  refine cj_i2l C dX12_valley_6 ?_
  refine cj_lconst C (v := (0 : Int64)) dX12_valley_7 rfl ?_
  refine cj_aload_n C (i := 0) dX12_valley_8 rfl rfl ?_
  refine cj_getI C (j := 5) o_150 rfl gfX12_92 dX12_valley_9 ?_
  refine cj_i2l C dX12_valley_12 ?_
  refine cj_callSi C (As := [.long (Int32.toInt64 x1), .long (0 : Int64), .long (Int32.toInt64 (S1.1 150 5))]) (rest := []) qX12_within mw_23_15 rfl rfl (Nat.le_of_ble_eq_true rfl) (by decide) dX12_valley_13 h (fun _ _ hf => m_X12_within l w A (Int32.toInt64 x1) (0 : Int64) (Int32.toInt64 (S1.1 150 5)) S1 _ hf) (fun z2 S3 h => ?_)
  refine cj_if_ne C (tgt := 22) dX12_valley_16 rfl h (fun _ h => ?_) (fun _ h => ?_)
  · refine cj_bipush C (v := (-3 : Int32)) dX12_valley_19 rfl ?_
    exact cj_ireturn C hr h dX12_valley_21
  · refine cj_aload_n C (i := 0) dX12_valley_22 rfl rfl ?_
    refine cj_iload_n C (i := 1) dX12_valley_23 rfl rfl ?_
    refine cj_put C (j := 8) o_150 rfl pfX12_95 rfl rfl dX12_valley_24 ?_
    refine cj_lets h (fun S4 h => ?_)
    refine cj_aload_n C (i := 0) dX12_valley_27 rfl rfl ?_
    refine cj_iconst C (v := (0 : Int32)) dX12_valley_28 rfl ?_
    refine cj_put C (j := 5) o_150 rfl pfX12_92 rfl rfl dX12_valley_29 ?_
    refine cj_lets h (fun S5 h => ?_)
    refine cj_aload_n C (i := 0) dX12_valley_32 rfl rfl ?_
    refine cj_iconst C (v := (0 : Int32)) dX12_valley_33 rfl ?_
    refine cj_put C (j := 7) o_150 rfl pfX12_113 rfl rfl dX12_valley_34 ?_
    refine cj_lets h (fun S6 h => ?_)
    refine cj_aload_n C (i := 0) dX12_valley_37 rfl rfl ?_
    refine cj_iconst C (v := (0 : Int32)) dX12_valley_38 rfl ?_
    refine cj_put C (j := 11) o_150 rfl pfX12_138 rfl rfl dX12_valley_39 ?_
    refine cj_lets h (fun S7 h => ?_)
    refine cj_aload_n C (i := 0) dX12_valley_42 rfl rfl ?_
    refine cj_getR C (d := 154) o_150 rfl gfX12_24 dX12_valley_43 ?_
    refine cj_callSv C (As := [.ref (w.2.1 154)]) (rest := []) qX12_plain mw_9_2 rfl rfl (Nat.le_of_ble_eq_true rfl) (by decide) dX12_valley_46 h (fun _ _ hf => m_X12_plain l w A o_154 S7 _ hf) (fun z8 S9 h => ?_)
    refine cj_aload_n C (i := 0) dX12_valley_49 rfl rfl ?_
    refine cj_callVv C (As := []) (rest := []) qX12_next mw_23_18 o_150 rfl rfl rfl (Nat.le_of_ble_eq_true rfl) (by decide) dX12_valley_50 h (fun _ _ hf => m_X12_next l w A S9 _ hf) (fun z10 S11 h => ?_)
    refine cj_aload_n C (i := 0) dX12_valley_53 rfl rfl ?_
    refine cj_iconst C (v := (0 : Int32)) dX12_valley_54 rfl ?_
    refine cj_callVi C (As := [.int (0 : Int32)]) (rest := []) qX12_eats mw_24_16 o_150 rfl rfl rfl (Nat.le_of_ble_eq_true rfl) (by decide) dX12_valley_55 h (fun _ _ hf => m_X12_eats l w A (0 : Int32) S11 _ hf) (fun z12 S13 h => ?_)
    refine cj_if_ne C (tgt := 66) dX12_valley_58 rfl h (fun _ h => ?_) (fun _ h => ?_)
    · refine cj_aload_n C (i := 0) dX12_valley_61 rfl rfl ?_
      refine cj_iconst C (v := (2 : Int32)) dX12_valley_62 rfl ?_
      refine cj_callVv C (As := [.int (2 : Int32)]) (rest := []) qX12_fails mw_25_0 o_150 rfl rfl rfl (Nat.le_of_ble_eq_true rfl) (by decide) dX12_valley_63 h (fun _ _ hf => m_X12_fails l w A (2 : Int32) S13 _ hf) (fun z14 S15 h => ?_)
      refine cj_weak C (lv' := [some (.ref (w.2.1 150)), none, none]) (cpSub_s (cpSub_n (cpSub_n cpSub_nil))) ?_
      exact wX12_valley_66 C hr S15 h
    · refine cj_weak C (lv' := [some (.ref (w.2.1 150)), none, none]) (cpSub_s (cpSub_n (cpSub_n cpSub_nil))) ?_
      exact wX12_valley_66 C hr S13 h
/-! X12_fault -/
def fX12_fault (x1 : Int32) (S : cpS) : Option (Int32 × cpS) :=
    cpLt (cpI S 150 0 (0 : Int32)) fun S1 =>
    if x1 = 0 then (
    some ((S1.1 150 13), S1)) else (
    if x1 = (1 : Int32) then (
    some ((S1.1 150 14), S1)) else (
    some ((-1 : Int32), S1)))
set_option maxRecDepth 100000 in
set_option maxHeartbeats 4000000 in
theorem m_X12_fault (l : Launch) (w : cpW) (A : Nat → Prop) (x1 : Int32) (S : cpS) (r : Int32 × cpS) (h : fX12_fault x1 S = some r) : cpMi l yX12_fault cX12_fault 2 ((some .int)) 0 w A [.ref (w.2.1 150), .int x1] S r := by
  refine cpMi.of (lv := [some (.ref (w.2.1 150)), some (.int x1)]) (by decide) (Nat.le_of_ble_eq_true rfl) rfl (fun p e s m args below meth c C hr => ?_)
  replace C : cpCx p s m args meth c w A cX12_fault RX12 2 := C
  rw [fX12_fault] at h
  refine cj_aload_n C (i := 0) dX12_fault_0 rfl rfl ?_
  refine cj_iconst C (v := (0 : Int32)) dX12_fault_1 rfl ?_
  refine cj_put C (j := 0) o_150 rfl pfX12_1 rfl rfl dX12_fault_2 ?_
  refine cj_lets h (fun S1 h => ?_)
  refine cj_iload_n C (i := 1) dX12_fault_5 rfl rfl ?_
  refine cj_if_ne C (tgt := 16) dX12_fault_6 rfl h (fun _ h => ?_) (fun _ h => ?_)
  · refine cj_aload_n C (i := 0) dX12_fault_9 rfl rfl ?_
    refine cj_getI C (j := 13) o_150 rfl gfX12_226 dX12_fault_10 ?_
    refine cj_goto C (tgt := 29) dX12_fault_13 rfl ?_
    exact cj_ireturn C hr h dX12_fault_29
  · refine cj_iload_n C (i := 1) dX12_fault_16 rfl rfl ?_
    refine cj_iconst C (v := (1 : Int32)) dX12_fault_17 rfl ?_
    refine cj_icmp_ne C (tgt := 28) dX12_fault_18 rfl h (fun _ h => ?_) (fun _ h => ?_)
    · refine cj_aload_n C (i := 0) dX12_fault_21 rfl rfl ?_
      refine cj_getI C (j := 14) o_150 rfl gfX12_27 dX12_fault_22 ?_
      refine cj_goto C (tgt := 29) dX12_fault_25 rfl ?_
      exact cj_ireturn C hr h dX12_fault_29
    · refine cj_iconst C (v := (-1 : Int32)) dX12_fault_28 rfl ?_
      exact cj_ireturn C hr h dX12_fault_29
/-! X12_isPlace -/
def fX12_isPlace (x1 : Int64) (S : cpS) : Option (Int32 × cpS) :=
    cpB (fX12_within x1 (0 : Int64) (Int32.toInt64 ((S.1 151 1) - (1 : Int32))) S) fun z1 S2 =>
    if cpBo z1 then some (z1, S2) else none
set_option maxRecDepth 100000 in
set_option maxHeartbeats 4000000 in
theorem m_X12_isPlace (l : Launch) (w : cpW) (A : Nat → Prop) (x1 : Int64) (S : cpS) (r : Int32 × cpS) (h : fX12_isPlace x1 S = some r) : cpMi l yX12_isPlace cX12_isPlace 3 ((some .boolean)) 1 w A [.ref (w.2.1 150), .long x1] S r := by
  refine cpMi.of (lv := [some (.ref (w.2.1 150)), some (.long x1), none]) (by decide) (Nat.le_of_ble_eq_true rfl) rfl (fun p e s m args below meth c C hr => ?_)
  replace C : cpCx p s m args meth c w A cX12_isPlace RX12 3 := C
  rw [fX12_isPlace] at h
  refine cj_lload_n C (i := 1) dX12_isPlace_0 rfl rfl ?_
  refine cj_lconst C (v := (0 : Int64)) dX12_isPlace_1 rfl ?_
  refine cj_aload_n C (i := 0) dX12_isPlace_2 rfl rfl ?_
  refine cj_getR C (d := 151) o_150 rfl gfX12_13 dX12_isPlace_3 ?_
  refine cj_iconst C (v := (1 : Int32)) dX12_isPlace_6 rfl ?_
  refine cj_ialoadC C (j := 1) o_151 (by decide) (by decide) dX12_isPlace_7 ?_
  refine cj_iconst C (v := (1 : Int32)) dX12_isPlace_8 rfl ?_
  refine cj_isub C dX12_isPlace_9 ?_
  refine cj_i2l C dX12_isPlace_10 ?_
  refine cj_callSi C (As := [.long x1, .long (0 : Int64), .long (Int32.toInt64 ((S.1 151 1) - (1 : Int32)))]) (rest := []) qX12_within mw_23_15 rfl rfl (Nat.le_of_ble_eq_true rfl) (by decide) dX12_isPlace_11 h (fun _ _ hf => m_X12_within l w A x1 (0 : Int64) (Int32.toInt64 ((S.1 151 1) - (1 : Int32))) S _ hf) (fun z1 S2 h => ?_)
  obtain ⟨hb, h⟩ := cpGuard h
  exact cj_zreturn C hr (cpBo_n hb) h dX12_isPlace_14
/-! X12_isPerson -/
def fX12_isPerson (x1 : Int64) (S : cpS) : Option (Int32 × cpS) :=
    cpB (fX12_within x1 (0 : Int64) (Int32.toInt64 ((S.1 151 3) - (1 : Int32))) S) fun z1 S2 =>
    if cpBo z1 then some (z1, S2) else none
set_option maxRecDepth 100000 in
set_option maxHeartbeats 4000000 in
theorem m_X12_isPerson (l : Launch) (w : cpW) (A : Nat → Prop) (x1 : Int64) (S : cpS) (r : Int32 × cpS) (h : fX12_isPerson x1 S = some r) : cpMi l yX12_isPerson cX12_isPerson 3 ((some .boolean)) 1 w A [.ref (w.2.1 150), .long x1] S r := by
  refine cpMi.of (lv := [some (.ref (w.2.1 150)), some (.long x1), none]) (by decide) (Nat.le_of_ble_eq_true rfl) rfl (fun p e s m args below meth c C hr => ?_)
  replace C : cpCx p s m args meth c w A cX12_isPerson RX12 3 := C
  rw [fX12_isPerson] at h
  refine cj_lload_n C (i := 1) dX12_isPerson_0 rfl rfl ?_
  refine cj_lconst C (v := (0 : Int64)) dX12_isPerson_1 rfl ?_
  refine cj_aload_n C (i := 0) dX12_isPerson_2 rfl rfl ?_
  refine cj_getR C (d := 151) o_150 rfl gfX12_13 dX12_isPerson_3 ?_
  refine cj_iconst C (v := (3 : Int32)) dX12_isPerson_6 rfl ?_
  refine cj_ialoadC C (j := 3) o_151 (by decide) (by decide) dX12_isPerson_7 ?_
  refine cj_iconst C (v := (1 : Int32)) dX12_isPerson_8 rfl ?_
  refine cj_isub C dX12_isPerson_9 ?_
  refine cj_i2l C dX12_isPerson_10 ?_
  refine cj_callSi C (As := [.long x1, .long (0 : Int64), .long (Int32.toInt64 ((S.1 151 3) - (1 : Int32)))]) (rest := []) qX12_within mw_23_15 rfl rfl (Nat.le_of_ble_eq_true rfl) (by decide) dX12_isPerson_11 h (fun _ _ hf => m_X12_within l w A x1 (0 : Int64) (Int32.toInt64 ((S.1 151 3) - (1 : Int32))) S _ hf) (fun z1 S2 h => ?_)
  obtain ⟨hb, h⟩ := cpGuard h
  exact cj_zreturn C hr (cpBo_n hb) h dX12_isPerson_14
/-! X12_isCoin -/
def fX12_isCoin (x1 : Int64) (S : cpS) : Option (Int32 × cpS) :=
    cpB (fX12_within x1 (0 : Int64) (Int32.toInt64 ((S.1 151 4) - (1 : Int32))) S) fun z1 S2 =>
    if cpBo z1 then some (z1, S2) else none
set_option maxRecDepth 100000 in
set_option maxHeartbeats 4000000 in
theorem m_X12_isCoin (l : Launch) (w : cpW) (A : Nat → Prop) (x1 : Int64) (S : cpS) (r : Int32 × cpS) (h : fX12_isCoin x1 S = some r) : cpMi l yX12_isCoin cX12_isCoin 3 ((some .boolean)) 1 w A [.ref (w.2.1 150), .long x1] S r := by
  refine cpMi.of (lv := [some (.ref (w.2.1 150)), some (.long x1), none]) (by decide) (Nat.le_of_ble_eq_true rfl) rfl (fun p e s m args below meth c C hr => ?_)
  replace C : cpCx p s m args meth c w A cX12_isCoin RX12 3 := C
  rw [fX12_isCoin] at h
  refine cj_lload_n C (i := 1) dX12_isCoin_0 rfl rfl ?_
  refine cj_lconst C (v := (0 : Int64)) dX12_isCoin_1 rfl ?_
  refine cj_aload_n C (i := 0) dX12_isCoin_2 rfl rfl ?_
  refine cj_getR C (d := 151) o_150 rfl gfX12_13 dX12_isCoin_3 ?_
  refine cj_iconst C (v := (4 : Int32)) dX12_isCoin_6 rfl ?_
  refine cj_ialoadC C (j := 4) o_151 (by decide) (by decide) dX12_isCoin_7 ?_
  refine cj_iconst C (v := (1 : Int32)) dX12_isCoin_8 rfl ?_
  refine cj_isub C dX12_isCoin_9 ?_
  refine cj_i2l C dX12_isCoin_10 ?_
  refine cj_callSi C (As := [.long x1, .long (0 : Int64), .long (Int32.toInt64 ((S.1 151 4) - (1 : Int32)))]) (rest := []) qX12_within mw_23_15 rfl rfl (Nat.le_of_ble_eq_true rfl) (by decide) dX12_isCoin_11 h (fun _ _ hf => m_X12_within l w A x1 (0 : Int64) (Int32.toInt64 ((S.1 151 4) - (1 : Int32))) S _ hf) (fun z1 S2 h => ?_)
  obtain ⟨hb, h⟩ := cpGuard h
  exact cj_zreturn C hr (cpBo_n hb) h dX12_isCoin_14
/-! X12_isRoad -/
def fX12_isRoad (x1 : Int32) (S : cpS) : Option (Int32 × cpS) :=
    cpB (fX12_within (Int32.toInt64 x1) (0 : Int64) (Int32.toInt64 ((S.1 151 2) - (1 : Int32))) S) fun z1 S2 =>
    if cpBo z1 then some (z1, S2) else none
set_option maxRecDepth 100000 in
set_option maxHeartbeats 4000000 in
theorem m_X12_isRoad (l : Launch) (w : cpW) (A : Nat → Prop) (x1 : Int32) (S : cpS) (r : Int32 × cpS) (h : fX12_isRoad x1 S = some r) : cpMi l yX12_isRoad cX12_isRoad 2 ((some .boolean)) 1 w A [.ref (w.2.1 150), .int x1] S r := by
  refine cpMi.of (lv := [some (.ref (w.2.1 150)), some (.int x1)]) (by decide) (Nat.le_of_ble_eq_true rfl) rfl (fun p e s m args below meth c C hr => ?_)
  replace C : cpCx p s m args meth c w A cX12_isRoad RX12 2 := C
  rw [fX12_isRoad] at h
  refine cj_iload_n C (i := 1) dX12_isRoad_0 rfl rfl ?_
  refine cj_i2l C dX12_isRoad_1 ?_
  refine cj_lconst C (v := (0 : Int64)) dX12_isRoad_2 rfl ?_
  refine cj_aload_n C (i := 0) dX12_isRoad_3 rfl rfl ?_
  refine cj_getR C (d := 151) o_150 rfl gfX12_13 dX12_isRoad_4 ?_
  refine cj_iconst C (v := (2 : Int32)) dX12_isRoad_7 rfl ?_
  refine cj_ialoadC C (j := 2) o_151 (by decide) (by decide) dX12_isRoad_8 ?_
  refine cj_iconst C (v := (1 : Int32)) dX12_isRoad_9 rfl ?_
  refine cj_isub C dX12_isRoad_10 ?_
  refine cj_i2l C dX12_isRoad_11 ?_
  refine cj_callSi C (As := [.long (Int32.toInt64 x1), .long (0 : Int64), .long (Int32.toInt64 ((S.1 151 2) - (1 : Int32)))]) (rest := []) qX12_within mw_23_15 rfl rfl (Nat.le_of_ble_eq_true rfl) (by decide) dX12_isRoad_12 h (fun _ _ hf => m_X12_within l w A (Int32.toInt64 x1) (0 : Int64) (Int32.toInt64 ((S.1 151 2) - (1 : Int32))) S _ hf) (fun z1 S2 h => ?_)
  obtain ⟨hb, h⟩ := cpGuard h
  exact cj_zreturn C hr (cpBo_n hb) h dX12_isRoad_15
/-! X12_joins -/
def fX12_joins_40 (x2 : Int32) (x3 : Int32) (x4 : Int32) (x5 : Int32) (S : cpS) : Option (Int32 × cpS) :=
    if x4 = x3 then (
    if x5 = x2 then (
    some ((1 : Int32), S)) else (
    some ((0 : Int32), S))) else (
    some ((0 : Int32), S))
set_option maxRecDepth 100000 in
set_option maxHeartbeats 4000000 in
theorem wX12_joins_40 (C : cpCx p s m args meth c w A cX12_joins RX12 6) (hr : meth.sig.returnType = (some .boolean)) {r : Int32 × cpS} (x2 : Int32) (x3 : Int32) (x4 : Int32) (x5 : Int32) (S : cpS) (h : fX12_joins_40 x2 x3 x4 x5 S = some r) : cpJ p l e (cpRm 0) s m args below meth c (MQ below (va_Qi (fun x S' => (x, S') = r) (cpWorld w A) A) args s 0 0 A) w A 6 40 [none, none, some (.int x2), some (.int x3), some (.int x4), some (.int x5)] [] S := by
  rw [fX12_joins_40] at h
  refine cj_iload C dX12_joins_40 rfl ?_
  refine cj_iload_n C (i := 3) dX12_joins_42 rfl rfl ?_
  refine cj_icmp_ne C (tgt := 56) dX12_joins_43 rfl h (fun _ h => ?_) (fun _ h => ?_)
  · refine cj_iload C dX12_joins_46 rfl ?_
    refine cj_iload_n C (i := 2) dX12_joins_48 rfl rfl ?_
    refine cj_icmp_ne C (tgt := 56) dX12_joins_49 rfl h (fun _ h => ?_) (fun _ h => ?_)
    · refine cj_iconst C (v := (1 : Int32)) dX12_joins_52 rfl ?_
      refine cj_goto C (tgt := 57) dX12_joins_53 rfl ?_
      exact cj_zreturn C hr rfl h dX12_joins_57
    · refine cj_iconst C (v := (0 : Int32)) dX12_joins_56 rfl ?_
      exact cj_zreturn C hr rfl h dX12_joins_57
  · refine cj_iconst C (v := (0 : Int32)) dX12_joins_56 rfl ?_
    exact cj_zreturn C hr rfl h dX12_joins_57
def fX12_joins (x1 : Int32) (x2 : Int32) (x3 : Int32) (S : cpS) : Option (Int32 × cpS) :=
    if cpIn ((11 : Int32) + ((3 : Int32) * x1)) 3486 then (
    cpLt (S.1 151 ((11 : Int32) + ((3 : Int32) * x1)).toNatClampNeg) fun y1 =>
    if cpIn (((11 : Int32) + ((3 : Int32) * x1)) + (1 : Int32)) 3486 then (
    cpLt (S.1 151 (((11 : Int32) + ((3 : Int32) * x1)) + (1 : Int32)).toNatClampNeg) fun y2 =>
    if y1 = x2 then (
    if y2 = x3 then (
    some ((1 : Int32), S)) else (
    fX12_joins_40 x2 x3 y1 y2 S)) else (
    fX12_joins_40 x2 x3 y1 y2 S)) else none) else none
set_option maxRecDepth 100000 in
set_option maxHeartbeats 4000000 in
theorem m_X12_joins (l : Launch) (w : cpW) (A : Nat → Prop) (x1 : Int32) (x2 : Int32) (x3 : Int32) (S : cpS) (r : Int32 × cpS) (h : fX12_joins x1 x2 x3 S = some r) : cpMi l yX12_joins cX12_joins 6 ((some .boolean)) 0 w A [.ref (w.2.1 150), .int x1, .int x2, .int x3] S r := by
  refine cpMi.of (lv := [some (.ref (w.2.1 150)), some (.int x1), some (.int x2), some (.int x3), none, none]) (by decide) (Nat.le_of_ble_eq_true rfl) rfl (fun p e s m args below meth c C hr => ?_)
  replace C : cpCx p s m args meth c w A cX12_joins RX12 6 := C
  rw [fX12_joins] at h
  refine cj_aload_n C (i := 0) dX12_joins_0 rfl rfl ?_
  refine cj_getR C (d := 151) o_150 rfl gfX12_13 dX12_joins_1 ?_
  refine cj_bipush C (v := (11 : Int32)) dX12_joins_4 rfl ?_
  refine cj_iconst C (v := (3 : Int32)) dX12_joins_6 rfl ?_
  refine cj_iload_n C (i := 1) dX12_joins_7 rfl rfl ?_
  refine cj_imul C dX12_joins_8 ?_
  refine cj_iadd C dX12_joins_9 ?_
  refine cj_iaload C o_151 h dX12_joins_10 (fun h => ?_)
  refine cj_let h (fun y1 h => ?_)
  refine cj_istore C (lv' := [some (.ref (w.2.1 150)), some (.int x1), some (.int x2), some (.int x3), some (.int y1), none]) dX12_joins_11 (by decide) rfl rfl ?_
  refine cj_aload_n C (i := 0) dX12_joins_13 rfl rfl ?_
  refine cj_getR C (d := 151) o_150 rfl gfX12_13 dX12_joins_14 ?_
  refine cj_bipush C (v := (11 : Int32)) dX12_joins_17 rfl ?_
  refine cj_iconst C (v := (3 : Int32)) dX12_joins_19 rfl ?_
  refine cj_iload_n C (i := 1) dX12_joins_20 rfl rfl ?_
  refine cj_imul C dX12_joins_21 ?_
  refine cj_iadd C dX12_joins_22 ?_
  refine cj_iconst C (v := (1 : Int32)) dX12_joins_23 rfl ?_
  refine cj_iadd C dX12_joins_24 ?_
  refine cj_iaload C o_151 h dX12_joins_25 (fun h => ?_)
  refine cj_let h (fun y2 h => ?_)
  refine cj_istore C (lv' := [some (.ref (w.2.1 150)), some (.int x1), some (.int x2), some (.int x3), some (.int y1), some (.int y2)]) dX12_joins_26 (by decide) rfl rfl ?_
  refine cj_iload C dX12_joins_28 rfl ?_
  refine cj_iload_n C (i := 2) dX12_joins_30 rfl rfl ?_
  refine cj_icmp_ne C (tgt := 40) dX12_joins_31 rfl h (fun _ h => ?_) (fun _ h => ?_)
  · refine cj_iload C dX12_joins_34 rfl ?_
    refine cj_iload_n C (i := 3) dX12_joins_36 rfl rfl ?_
    refine cj_icmp_eq C (tgt := 52) dX12_joins_37 rfl h (fun _ h => ?_) (fun _ h => ?_)
    · refine cj_iconst C (v := (1 : Int32)) dX12_joins_52 rfl ?_
      refine cj_goto C (tgt := 57) dX12_joins_53 rfl ?_
      exact cj_zreturn C hr rfl h dX12_joins_57
    · refine cj_weak C (lv' := [none, none, some (.int x2), some (.int x3), some (.int y1), some (.int y2)]) (cpSub_n (cpSub_n (cpSub_s (cpSub_s (cpSub_s (cpSub_s cpSub_nil)))))) ?_
      exact wX12_joins_40 C hr x2 x3 y1 y2 S h
  · refine cj_weak C (lv' := [none, none, some (.int x2), some (.int x3), some (.int y1), some (.int y2)]) (cpSub_n (cpSub_n (cpSub_s (cpSub_s (cpSub_s (cpSub_s cpSub_nil)))))) ?_
    exact wX12_joins_40 C hr x2 x3 y1 y2 S h
/-! X12_longOf -/
def fX12_longOf (x1 : Int32) (S : cpS) : Option (Int32 × cpS) :=
    if cpIn (((11 : Int32) + ((3 : Int32) * x1)) + (2 : Int32)) 3486 then (
    some ((S.1 151 (((11 : Int32) + ((3 : Int32) * x1)) + (2 : Int32)).toNatClampNeg), S)) else none
set_option maxRecDepth 100000 in
set_option maxHeartbeats 4000000 in
theorem m_X12_longOf (l : Launch) (w : cpW) (A : Nat → Prop) (x1 : Int32) (S : cpS) (r : Int32 × cpS) (h : fX12_longOf x1 S = some r) : cpMi l yX12_longOf cX12_longOf 2 ((some .int)) 0 w A [.ref (w.2.1 150), .int x1] S r := by
  refine cpMi.of (lv := [some (.ref (w.2.1 150)), some (.int x1)]) (by decide) (Nat.le_of_ble_eq_true rfl) rfl (fun p e s m args below meth c C hr => ?_)
  replace C : cpCx p s m args meth c w A cX12_longOf RX12 2 := C
  rw [fX12_longOf] at h
  refine cj_aload_n C (i := 0) dX12_longOf_0 rfl rfl ?_
  refine cj_getR C (d := 151) o_150 rfl gfX12_13 dX12_longOf_1 ?_
  refine cj_bipush C (v := (11 : Int32)) dX12_longOf_4 rfl ?_
  refine cj_iconst C (v := (3 : Int32)) dX12_longOf_6 rfl ?_
  refine cj_iload_n C (i := 1) dX12_longOf_7 rfl rfl ?_
  refine cj_imul C dX12_longOf_8 ?_
  refine cj_iadd C dX12_longOf_9 ?_
  refine cj_iconst C (v := (2 : Int32)) dX12_longOf_10 rfl ?_
  refine cj_iadd C dX12_longOf_11 ?_
  refine cj_iaload C o_151 h dX12_longOf_12 (fun h => ?_)
  exact cj_ireturn C hr h dX12_longOf_13
/-! X12_areJoined -/
def fX12_areJoined_2 (x1 : Int32) (x2 : Int32) : Nat → Int32 → cpS → Option (Int32 × cpS)
  | 0, _, _ => none
  | n + 1, x3, S =>
    if (S.1 151 2) ≤ x3 then (
    some ((0 : Int32), S)) else (
    cpB (fX12_joins x3 x1 x2 S) fun z1 S2 =>
    if z1 = 0 then (
    fX12_areJoined_2 x1 x2 n (x3 + 1) S2) else (
    some ((1 : Int32), S2)))
set_option maxRecDepth 100000 in
set_option maxHeartbeats 4000000 in
theorem wX12_areJoined_2 (C : cpCx p s m args meth c w A cX12_areJoined RX12 4) (hr : meth.sig.returnType = (some .boolean)) {r : Int32 × cpS} (x1 : Int32) (x2 : Int32) : ∀ (n : Nat) (x3 : Int32) (S : cpS), fX12_areJoined_2 x1 x2 n x3 S = some r → cpJ p l e (cpRm 1) s m args below meth c (MQ below (va_Qi (fun x S' => (x, S') = r) (cpWorld w A) A) args s 0 0 A) w A 4 2 [some (.ref (w.2.1 150)), some (.int x1), some (.int x2), some (.int x3)] [] S := by
  intro n
  induction n with
  | zero => intro x3 S h; rw [fX12_areJoined_2] at h; cases h
  | succ n ih =>
    intro x3 S h
    rw [fX12_areJoined_2] at h
    refine cj_iload_n C (i := 3) dX12_areJoined_2 rfl rfl ?_
    refine cj_aload_n C (i := 0) dX12_areJoined_3 rfl rfl ?_
    refine cj_getR C (d := 151) o_150 rfl gfX12_13 dX12_areJoined_4 ?_
    refine cj_iconst C (v := (2 : Int32)) dX12_areJoined_7 rfl ?_
    refine cj_ialoadC C (j := 2) o_151 (by decide) (by decide) dX12_areJoined_8 ?_
    refine cj_icmp_ge C (tgt := 30) dX12_areJoined_9 rfl h (fun _ h => ?_) (fun _ h => ?_)
    · refine cj_iconst C (v := (0 : Int32)) dX12_areJoined_30 rfl ?_
      exact cj_zreturn C hr rfl h dX12_areJoined_31
    · refine cj_aload_n C (i := 0) dX12_areJoined_12 rfl rfl ?_
      refine cj_iload_n C (i := 3) dX12_areJoined_13 rfl rfl ?_
      refine cj_iload_n C (i := 1) dX12_areJoined_14 rfl rfl ?_
      refine cj_iload_n C (i := 2) dX12_areJoined_15 rfl rfl ?_
      refine cj_callVi C (As := [.int x3, .int x1, .int x2]) (rest := []) qX12_joins mw_35_20 o_150 rfl rfl rfl (Nat.le_of_ble_eq_true rfl) (by decide) dX12_areJoined_16 h (fun _ _ hf => m_X12_joins l w A x3 x1 x2 S _ hf) (fun z1 S2 h => ?_)
      refine cj_if_eq C (tgt := 24) dX12_areJoined_19 rfl h (fun _ h => ?_) (fun _ h => ?_)
      · refine cj_iinc C (v := (x3 + 1)) (lv' := [some (.ref (w.2.1 150)), some (.int x1), some (.int x2), some (.int (x3 + 1))]) dX12_areJoined_24 rfl rfl (by decide) rfl rfl ?_
        refine cj_goto C (tgt := 2) dX12_areJoined_27 rfl ?_
        exact ih (x3 + 1) S2 h
      · refine cj_iconst C (v := (1 : Int32)) dX12_areJoined_22 rfl ?_
        exact cj_zreturn C hr rfl h dX12_areJoined_23
def fX12_areJoined (x1 : Int32) (x2 : Int32) (S : cpS) : Option (Int32 × cpS) :=
    fX12_areJoined_2 x1 x2 cpFu (0 : Int32) S
set_option maxRecDepth 100000 in
set_option maxHeartbeats 4000000 in
theorem m_X12_areJoined (l : Launch) (w : cpW) (A : Nat → Prop) (x1 : Int32) (x2 : Int32) (S : cpS) (r : Int32 × cpS) (h : fX12_areJoined x1 x2 S = some r) : cpMi l yX12_areJoined cX12_areJoined 4 ((some .boolean)) 1 w A [.ref (w.2.1 150), .int x1, .int x2] S r := by
  refine cpMi.of (lv := [some (.ref (w.2.1 150)), some (.int x1), some (.int x2), none]) (by decide) (Nat.le_of_ble_eq_true rfl) rfl (fun p e s m args below meth c C hr => ?_)
  replace C : cpCx p s m args meth c w A cX12_areJoined RX12 4 := C
  rw [fX12_areJoined] at h
  refine cj_iconst C (v := (0 : Int32)) dX12_areJoined_0 rfl ?_
  refine cj_istore_n C (i := 3) (lv' := [some (.ref (w.2.1 150)), some (.int x1), some (.int x2), some (.int (0 : Int32))]) dX12_areJoined_1 rfl (by decide) rfl rfl ?_
  exact wX12_areJoined_2 C hr x1 x2 cpFu (0 : Int32) S h
/-! X12_haveQuarrelled -/
def fX12_haveQuarrelled (x1 : Int32) (x2 : Int32) (S : cpS) : Option (Int32 × cpS) :=
    if cpIn ((70 : Int32) + x1) 3486 then (
    cpB (fX12_isIn (Int32.toInt64 (S.1 151 ((70 : Int32) + x1).toNatClampNeg)) x2 S) fun z1 S2 =>
    if cpBo z1 then some (z1, S2) else none) else none
set_option maxRecDepth 100000 in
set_option maxHeartbeats 4000000 in
theorem m_X12_haveQuarrelled (l : Launch) (w : cpW) (A : Nat → Prop) (x1 : Int32) (x2 : Int32) (S : cpS) (r : Int32 × cpS) (h : fX12_haveQuarrelled x1 x2 S = some r) : cpMi l yX12_haveQuarrelled cX12_haveQuarrelled 3 ((some .boolean)) 1 w A [.ref (w.2.1 150), .int x1, .int x2] S r := by
  refine cpMi.of (lv := [some (.ref (w.2.1 150)), some (.int x1), some (.int x2)]) (by decide) (Nat.le_of_ble_eq_true rfl) rfl (fun p e s m args below meth c C hr => ?_)
  replace C : cpCx p s m args meth c w A cX12_haveQuarrelled RX12 3 := C
  rw [fX12_haveQuarrelled] at h
  refine cj_aload_n C (i := 0) dX12_haveQuarrelled_0 rfl rfl ?_
  refine cj_getR C (d := 151) o_150 rfl gfX12_13 dX12_haveQuarrelled_1 ?_
  refine cj_bipush C (v := (70 : Int32)) dX12_haveQuarrelled_4 rfl ?_
  refine cj_iload_n C (i := 1) dX12_haveQuarrelled_6 rfl rfl ?_
  refine cj_iadd C dX12_haveQuarrelled_7 ?_
  refine cj_iaload C o_151 h dX12_haveQuarrelled_8 (fun h => ?_)
  refine cj_i2l C dX12_haveQuarrelled_9 ?_
  refine cj_iload_n C (i := 2) dX12_haveQuarrelled_10 rfl rfl ?_
  refine cj_callSi C (As := [.long (Int32.toInt64 (S.1 151 ((70 : Int32) + x1).toNatClampNeg)), .int x2]) (rest := []) qX12_isIn mw_36_4 rfl rfl (Nat.le_of_ble_eq_true rfl) (by decide) dX12_haveQuarrelled_11 h (fun _ _ hf => m_X12_isIn l w A (Int32.toInt64 (S.1 151 ((70 : Int32) + x1).toNatClampNeg)) x2 S _ hf) (fun z1 S2 h => ?_)
  obtain ⟨hb, h⟩ := cpGuard h
  exact cj_zreturn C hr (cpBo_n hb) h dX12_haveQuarrelled_14
/-! X12_bitsOf -/
def fX12_bitsOf_4 (x0 : Int32) : Nat → Int32 → Int32 → cpS → Option (Int32 × cpS)
  | 0, _, _, _ => none
  | n + 1, x1, x2, S =>
    if (8 : Int32) ≤ x2 then (
    some (x1, S)) else (
    cpLt (x1 + ((cpShr x0 x2) &&& (1 : Int32))) fun y1 =>
    fX12_bitsOf_4 x0 n y1 (x2 + 1) S)
set_option maxRecDepth 100000 in
set_option maxHeartbeats 4000000 in
theorem wX12_bitsOf_4 (C : cpCx p s m args meth c w A cX12_bitsOf RX12 3) (hr : meth.sig.returnType = (some .int)) {r : Int32 × cpS} (x0 : Int32) : ∀ (n : Nat) (x1 : Int32) (x2 : Int32) (S : cpS), fX12_bitsOf_4 x0 n x1 x2 S = some r → cpJ p l e (cpRm 0) s m args below meth c (MQ below (va_Qi (fun x S' => (x, S') = r) (cpWorld w A) A) args s 0 0 A) w A 3 4 [some (.int x0), some (.int x1), some (.int x2)] [] S := by
  intro n
  induction n with
  | zero => intro x1 x2 S h; rw [fX12_bitsOf_4] at h; cases h
  | succ n ih =>
    intro x1 x2 S h
    rw [fX12_bitsOf_4] at h
    refine cj_iload_n C (i := 2) dX12_bitsOf_4 rfl rfl ?_
    refine cj_bipush C (v := (8 : Int32)) dX12_bitsOf_5 rfl ?_
    refine cj_icmp_ge C (tgt := 24) dX12_bitsOf_7 rfl h (fun _ h => ?_) (fun _ h => ?_)
    · refine cj_iload_n C (i := 1) dX12_bitsOf_24 rfl rfl ?_
      exact cj_ireturn C hr h dX12_bitsOf_25
    · refine cj_iload_n C (i := 1) dX12_bitsOf_10 rfl rfl ?_
      refine cj_iload_n C (i := 0) dX12_bitsOf_11 rfl rfl ?_
      refine cj_iload_n C (i := 2) dX12_bitsOf_12 rfl rfl ?_
      refine ck_ishr C dX12_bitsOf_13 ?_
      refine cj_iconst C (v := (1 : Int32)) dX12_bitsOf_14 rfl ?_
      refine cj_iand C dX12_bitsOf_15 ?_
      refine cj_iadd C dX12_bitsOf_16 ?_
      refine cj_let h (fun y1 h => ?_)
      refine cj_istore_n C (i := 1) (lv' := [some (.int x0), some (.int y1), some (.int x2)]) dX12_bitsOf_17 rfl (by decide) rfl rfl ?_
      refine cj_iinc C (v := (x2 + 1)) (lv' := [some (.int x0), some (.int y1), some (.int (x2 + 1))]) dX12_bitsOf_18 rfl rfl (by decide) rfl rfl ?_
      refine cj_goto C (tgt := 4) dX12_bitsOf_21 rfl ?_
      exact ih y1 (x2 + 1) S h
def fX12_bitsOf (x0 : Int32) (S : cpS) : Option (Int32 × cpS) :=
    fX12_bitsOf_4 x0 cpFu (0 : Int32) (0 : Int32) S
set_option maxRecDepth 100000 in
set_option maxHeartbeats 4000000 in
theorem m_X12_bitsOf (l : Launch) (w : cpW) (A : Nat → Prop) (x0 : Int32) (S : cpS) (r : Int32 × cpS) (h : fX12_bitsOf x0 S = some r) : cpMi l yX12_bitsOf cX12_bitsOf 3 ((some .int)) 0 w A [.int x0] S r := by
  refine cpMi.of (lv := [some (.int x0), none, none]) (by decide) (Nat.le_of_ble_eq_true rfl) rfl (fun p e s m args below meth c C hr => ?_)
  replace C : cpCx p s m args meth c w A cX12_bitsOf RX12 3 := C
  rw [fX12_bitsOf] at h
  refine cj_iconst C (v := (0 : Int32)) dX12_bitsOf_0 rfl ?_
  refine cj_istore_n C (i := 1) (lv' := [some (.int x0), some (.int (0 : Int32)), none]) dX12_bitsOf_1 rfl (by decide) rfl rfl ?_
  refine cj_iconst C (v := (0 : Int32)) dX12_bitsOf_2 rfl ?_
  refine cj_istore_n C (i := 2) (lv' := [some (.int x0), some (.int (0 : Int32)), some (.int (0 : Int32))]) dX12_bitsOf_3 rfl (by decide) rfl rfl ?_
  exact wX12_bitsOf_4 C hr x0 cpFu (0 : Int32) (0 : Int32) S h
/-! X12_nearer -/
def fX12_nearer (x1 : Int32) (x2 : Int32) (x3 : Int32) (S : cpS) : Option (Unit × cpS) :=
    if cpIn (((6 : Int32) * x1) + x2) 36 then (
    if (S.1 155 (((6 : Int32) * x1) + x2).toNatClampNeg) ≤ x3 then (
    some ((), S)) else (
    if cpIn (((6 : Int32) * x1) + x2) 36 then (
    cpLt (cpI S 155 (((6 : Int32) * x1) + x2).toNatClampNeg x3) fun S1 =>
    some ((), S1)) else none)) else none
set_option maxRecDepth 100000 in
set_option maxHeartbeats 4000000 in
theorem m_X12_nearer (l : Launch) (w : cpW) (A : Nat → Prop) (x1 : Int32) (x2 : Int32) (x3 : Int32) (S : cpS) (r : Unit × cpS) (h : fX12_nearer x1 x2 x3 S = some r) : cpMv l yX12_nearer cX12_nearer 4 (none) 0 w A [.ref (w.2.1 150), .int x1, .int x2, .int x3] S r := by
  refine cpMv.of (lv := [some (.ref (w.2.1 150)), some (.int x1), some (.int x2), some (.int x3)]) (by decide) (Nat.le_of_ble_eq_true rfl) rfl (fun p e s m args below meth c C hr => ?_)
  replace C : cpCx p s m args meth c w A cX12_nearer RX12 4 := C
  rw [fX12_nearer] at h
  refine cj_iload_n C (i := 3) dX12_nearer_0 rfl rfl ?_
  refine cj_aload_n C (i := 0) dX12_nearer_1 rfl rfl ?_
  refine cj_getR C (d := 155) o_150 rfl gfX12_30 dX12_nearer_2 ?_
  refine cj_bipush C (v := (6 : Int32)) dX12_nearer_5 rfl ?_
  refine cj_iload_n C (i := 1) dX12_nearer_7 rfl rfl ?_
  refine cj_imul C dX12_nearer_8 ?_
  refine cj_iload_n C (i := 2) dX12_nearer_9 rfl rfl ?_
  refine cj_iadd C dX12_nearer_10 ?_
  refine cj_iaload C o_155 h dX12_nearer_11 (fun h => ?_)
  refine cj_icmp_ge C (tgt := 27) dX12_nearer_12 rfl h (fun _ h => ?_) (fun _ h => ?_)
  · exact cj_vreturn C hr h dX12_nearer_27
  · refine cj_aload_n C (i := 0) dX12_nearer_15 rfl rfl ?_
    refine cj_getR C (d := 155) o_150 rfl gfX12_30 dX12_nearer_16 ?_
    refine cj_bipush C (v := (6 : Int32)) dX12_nearer_19 rfl ?_
    refine cj_iload_n C (i := 1) dX12_nearer_21 rfl rfl ?_
    refine cj_imul C dX12_nearer_22 ?_
    refine cj_iload_n C (i := 2) dX12_nearer_23 rfl rfl ?_
    refine cj_iadd C dX12_nearer_24 ?_
    refine cj_iload_n C (i := 3) dX12_nearer_25 rfl rfl ?_
    refine cj_iastore C o_155 h dX12_nearer_26 (fun h => ?_)
    refine cj_lets h (fun S1 h => ?_)
    exact cj_vreturn C hr h dX12_nearer_27
/-! X12_laysFar -/
def fX12_laysFar_152 (x1 : Int32) (x2 : Int32) (k136 : Int32 → cpS → Option (Unit × cpS)) (k144 : Int32 → cpS → Option (Unit × cpS)) : Nat → Int32 → cpS → Option (Unit × cpS)
  | 0, _, _ => none
  | n + 1, x3, S =>
    if (6 : Int32) ≤ x3 then (
    k144 (x2 + 1) S) else (
    if cpIn (((6 : Int32) * x2) + x1) 36 then (
    if cpIn (((6 : Int32) * x1) + x3) 36 then (
    cpB (fX12_nearer x2 x3 ((S.1 155 (((6 : Int32) * x2) + x1).toNatClampNeg) + (S.1 155 (((6 : Int32) * x1) + x3).toNatClampNeg)) S) fun _ S2 =>
    fX12_laysFar_152 x1 x2 k136 k144 n (x3 + 1) S2) else none) else none)
set_option maxRecDepth 100000 in
set_option maxHeartbeats 4000000 in
theorem wX12_laysFar_152 (C : cpCx p s m args meth c w A cX12_laysFar RX12 4) (hr : meth.sig.returnType = none) {r : Unit × cpS} (x1 : Int32) (x2 : Int32) {k136 : Int32 → cpS → Option (Unit × cpS)} (hk136 : ∀ (x1 : Int32) (S : cpS), k136 x1 S = some r → cpJ p l e (cpRm 1) s m args below meth c (MQ below (va_Qv (fun S' => ((), S') = r) (cpWorld w A) A) args s 0 0 A) w A 4 136 [some (.ref (w.2.1 150)), some (.int x1), none, none] [] S) {k144 : Int32 → cpS → Option (Unit × cpS)} (hk144 : ∀ (x2 : Int32) (S : cpS), k144 x2 S = some r → cpJ p l e (cpRm 1) s m args below meth c (MQ below (va_Qv (fun S' => ((), S') = r) (cpWorld w A) A) args s 0 0 A) w A 4 144 [some (.ref (w.2.1 150)), some (.int x1), some (.int x2), none] [] S) : ∀ (n : Nat) (x3 : Int32) (S : cpS), fX12_laysFar_152 x1 x2 k136 k144 n x3 S = some r → cpJ p l e (cpRm 1) s m args below meth c (MQ below (va_Qv (fun S' => ((), S') = r) (cpWorld w A) A) args s 0 0 A) w A 4 152 [some (.ref (w.2.1 150)), some (.int x1), some (.int x2), some (.int x3)] [] S := by
  intro n
  induction n with
  | zero => intro x3 S h; rw [fX12_laysFar_152] at h; cases h
  | succ n ih =>
    intro x3 S h
    rw [fX12_laysFar_152] at h
    refine cj_iload_n C (i := 3) dX12_laysFar_152 rfl rfl ?_
    refine cj_bipush C (v := (6 : Int32)) dX12_laysFar_153 rfl ?_
    refine cj_icmp_ge C (tgt := 193) dX12_laysFar_155 rfl h (fun _ h => ?_) (fun _ h => ?_)
    · refine cj_iinc C (v := (x2 + 1)) (lv' := [some (.ref (w.2.1 150)), some (.int x1), some (.int (x2 + 1)), some (.int x3)]) dX12_laysFar_193 rfl rfl (by decide) rfl rfl ?_
      refine cj_goto C (tgt := 144) dX12_laysFar_196 rfl ?_
      refine cj_weak C (lv' := [some (.ref (w.2.1 150)), some (.int x1), some (.int (x2 + 1)), none]) (cpSub_s (cpSub_s (cpSub_s (cpSub_n cpSub_nil)))) ?_
      exact hk144 (x2 + 1) S h
    · refine cj_aload_n C (i := 0) dX12_laysFar_158 rfl rfl ?_
      refine cj_iload_n C (i := 2) dX12_laysFar_159 rfl rfl ?_
      refine cj_iload_n C (i := 3) dX12_laysFar_160 rfl rfl ?_
      refine cj_aload_n C (i := 0) dX12_laysFar_161 rfl rfl ?_
      refine cj_getR C (d := 155) o_150 rfl gfX12_30 dX12_laysFar_162 ?_
      refine cj_bipush C (v := (6 : Int32)) dX12_laysFar_165 rfl ?_
      refine cj_iload_n C (i := 2) dX12_laysFar_167 rfl rfl ?_
      refine cj_imul C dX12_laysFar_168 ?_
      refine cj_iload_n C (i := 1) dX12_laysFar_169 rfl rfl ?_
      refine cj_iadd C dX12_laysFar_170 ?_
      refine cj_iaload C o_155 h dX12_laysFar_171 (fun h => ?_)
      refine cj_aload_n C (i := 0) dX12_laysFar_172 rfl rfl ?_
      refine cj_getR C (d := 155) o_150 rfl gfX12_30 dX12_laysFar_173 ?_
      refine cj_bipush C (v := (6 : Int32)) dX12_laysFar_176 rfl ?_
      refine cj_iload_n C (i := 1) dX12_laysFar_178 rfl rfl ?_
      refine cj_imul C dX12_laysFar_179 ?_
      refine cj_iload_n C (i := 3) dX12_laysFar_180 rfl rfl ?_
      refine cj_iadd C dX12_laysFar_181 ?_
      refine cj_iaload C o_155 h dX12_laysFar_182 (fun h => ?_)
      refine cj_iadd C dX12_laysFar_183 ?_
      refine cj_callVv C (As := [.int x2, .int x3, .int ((S.1 155 (((6 : Int32) * x2) + x1).toNatClampNeg) + (S.1 155 (((6 : Int32) * x1) + x3).toNatClampNeg))]) (rest := []) qX12_nearer mw_32_7 o_150 rfl rfl rfl (Nat.le_of_ble_eq_true rfl) (by decide) dX12_laysFar_184 h (fun _ _ hf => m_X12_nearer l w A x2 x3 ((S.1 155 (((6 : Int32) * x2) + x1).toNatClampNeg) + (S.1 155 (((6 : Int32) * x1) + x3).toNatClampNeg)) S _ hf) (fun z1 S2 h => ?_)
      refine cj_iinc C (v := (x3 + 1)) (lv' := [some (.ref (w.2.1 150)), some (.int x1), some (.int x2), some (.int (x3 + 1))]) dX12_laysFar_187 rfl rfl (by decide) rfl rfl ?_
      refine cj_goto C (tgt := 152) dX12_laysFar_190 rfl ?_
      exact ih (x3 + 1) S2 h
def fX12_laysFar_144 (x1 : Int32) (k136 : Int32 → cpS → Option (Unit × cpS)) : Nat → Int32 → cpS → Option (Unit × cpS)
  | 0, _, _ => none
  | n + 1, x2, S =>
    if (6 : Int32) ≤ x2 then (
    k136 (x1 + 1) S) else (
    fX12_laysFar_152 x1 x2 k136 (fX12_laysFar_144 x1 k136 n) cpFu (0 : Int32) S)
set_option maxRecDepth 100000 in
set_option maxHeartbeats 4000000 in
theorem wX12_laysFar_144 (C : cpCx p s m args meth c w A cX12_laysFar RX12 4) (hr : meth.sig.returnType = none) {r : Unit × cpS} (x1 : Int32) {k136 : Int32 → cpS → Option (Unit × cpS)} (hk136 : ∀ (x1 : Int32) (S : cpS), k136 x1 S = some r → cpJ p l e (cpRm 1) s m args below meth c (MQ below (va_Qv (fun S' => ((), S') = r) (cpWorld w A) A) args s 0 0 A) w A 4 136 [some (.ref (w.2.1 150)), some (.int x1), none, none] [] S) : ∀ (n : Nat) (x2 : Int32) (S : cpS), fX12_laysFar_144 x1 k136 n x2 S = some r → cpJ p l e (cpRm 1) s m args below meth c (MQ below (va_Qv (fun S' => ((), S') = r) (cpWorld w A) A) args s 0 0 A) w A 4 144 [some (.ref (w.2.1 150)), some (.int x1), some (.int x2), none] [] S := by
  intro n
  induction n with
  | zero => intro x2 S h; rw [fX12_laysFar_144] at h; cases h
  | succ n ih =>
    intro x2 S h
    rw [fX12_laysFar_144] at h
    refine cj_iload_n C (i := 2) dX12_laysFar_144 rfl rfl ?_
    refine cj_bipush C (v := (6 : Int32)) dX12_laysFar_145 rfl ?_
    refine cj_icmp_ge C (tgt := 199) dX12_laysFar_147 rfl h (fun _ h => ?_) (fun _ h => ?_)
    · refine cj_iinc C (v := (x1 + 1)) (lv' := [some (.ref (w.2.1 150)), some (.int (x1 + 1)), some (.int x2), none]) dX12_laysFar_199 rfl rfl (by decide) rfl rfl ?_
      refine cj_goto C (tgt := 136) dX12_laysFar_202 rfl ?_
      refine cj_weak C (lv' := [some (.ref (w.2.1 150)), some (.int (x1 + 1)), none, none]) (cpSub_s (cpSub_s (cpSub_n (cpSub_n cpSub_nil)))) ?_
      exact hk136 (x1 + 1) S h
    · refine cj_iconst C (v := (0 : Int32)) dX12_laysFar_150 rfl ?_
      refine cj_istore_n C (i := 3) (lv' := [some (.ref (w.2.1 150)), some (.int x1), some (.int x2), some (.int (0 : Int32))]) dX12_laysFar_151 rfl (by decide) rfl rfl ?_
      exact wX12_laysFar_152 C hr x1 x2 hk136 ih cpFu (0 : Int32) S h
def fX12_laysFar_136 : Nat → Int32 → cpS → Option (Unit × cpS)
  | 0, _, _ => none
  | n + 1, x1, S =>
    if (6 : Int32) ≤ x1 then (
    some ((), S)) else (
    fX12_laysFar_144 x1 (fX12_laysFar_136 n) cpFu (0 : Int32) S)
set_option maxRecDepth 100000 in
set_option maxHeartbeats 4000000 in
theorem wX12_laysFar_136 (C : cpCx p s m args meth c w A cX12_laysFar RX12 4) (hr : meth.sig.returnType = none) {r : Unit × cpS} : ∀ (n : Nat) (x1 : Int32) (S : cpS), fX12_laysFar_136 n x1 S = some r → cpJ p l e (cpRm 1) s m args below meth c (MQ below (va_Qv (fun S' => ((), S') = r) (cpWorld w A) A) args s 0 0 A) w A 4 136 [some (.ref (w.2.1 150)), some (.int x1), none, none] [] S := by
  intro n
  induction n with
  | zero => intro x1 S h; rw [fX12_laysFar_136] at h; cases h
  | succ n ih =>
    intro x1 S h
    rw [fX12_laysFar_136] at h
    refine cj_iload_n C (i := 1) dX12_laysFar_136 rfl rfl ?_
    refine cj_bipush C (v := (6 : Int32)) dX12_laysFar_137 rfl ?_
    refine cj_icmp_ge C (tgt := 205) dX12_laysFar_139 rfl h (fun _ h => ?_) (fun _ h => ?_)
    · exact cj_vreturn C hr h dX12_laysFar_205
    · refine cj_iconst C (v := (0 : Int32)) dX12_laysFar_142 rfl ?_
      refine cj_istore_n C (i := 2) (lv' := [some (.ref (w.2.1 150)), some (.int x1), some (.int (0 : Int32)), none]) dX12_laysFar_143 rfl (by decide) rfl rfl ?_
      exact wX12_laysFar_144 C hr x1 ih cpFu (0 : Int32) S h
def fX12_laysFar_52 : Nat → Int32 → cpS → Option (Unit × cpS)
  | 0, _, _ => none
  | n + 1, x1, S =>
    if (S.1 151 2) ≤ x1 then (
    fX12_laysFar_136 cpFu (0 : Int32) S) else (
    if cpIn ((11 : Int32) + ((3 : Int32) * x1)) 3486 then (
    if cpIn (((11 : Int32) + ((3 : Int32) * x1)) + (1 : Int32)) 3486 then (
    cpB (fX12_longOf x1 S) fun z1 S2 =>
    cpB (fX12_nearer (S.1 151 ((11 : Int32) + ((3 : Int32) * x1)).toNatClampNeg) (S.1 151 (((11 : Int32) + ((3 : Int32) * x1)) + (1 : Int32)).toNatClampNeg) z1 S2) fun _ S4 =>
    if cpIn (((11 : Int32) + ((3 : Int32) * x1)) + (1 : Int32)) 3486 then (
    if cpIn ((11 : Int32) + ((3 : Int32) * x1)) 3486 then (
    cpB (fX12_longOf x1 S4) fun z5 S6 =>
    cpB (fX12_nearer (S4.1 151 (((11 : Int32) + ((3 : Int32) * x1)) + (1 : Int32)).toNatClampNeg) (S4.1 151 ((11 : Int32) + ((3 : Int32) * x1)).toNatClampNeg) z5 S6) fun _ S8 =>
    fX12_laysFar_52 n (x1 + 1) S8) else none) else none) else none) else none)
set_option maxRecDepth 100000 in
set_option maxHeartbeats 4000000 in
theorem wX12_laysFar_52 (C : cpCx p s m args meth c w A cX12_laysFar RX12 4) (hr : meth.sig.returnType = none) {r : Unit × cpS} : ∀ (n : Nat) (x1 : Int32) (S : cpS), fX12_laysFar_52 n x1 S = some r → cpJ p l e (cpRm 1) s m args below meth c (MQ below (va_Qv (fun S' => ((), S') = r) (cpWorld w A) A) args s 0 0 A) w A 4 52 [some (.ref (w.2.1 150)), some (.int x1), none, none] [] S := by
  intro n
  induction n with
  | zero => intro x1 S h; rw [fX12_laysFar_52] at h; cases h
  | succ n ih =>
    intro x1 S h
    rw [fX12_laysFar_52] at h
    refine cj_iload_n C (i := 1) dX12_laysFar_52 rfl rfl ?_
    refine cj_aload_n C (i := 0) dX12_laysFar_53 rfl rfl ?_
    refine cj_getR C (d := 151) o_150 rfl gfX12_13 dX12_laysFar_54 ?_
    refine cj_iconst C (v := (2 : Int32)) dX12_laysFar_57 rfl ?_
    refine cj_ialoadC C (j := 2) o_151 (by decide) (by decide) dX12_laysFar_58 ?_
    refine cj_icmp_ge C (tgt := 134) dX12_laysFar_59 rfl h (fun _ h => ?_) (fun _ h => ?_)
    · refine cj_iconst C (v := (0 : Int32)) dX12_laysFar_134 rfl ?_
      refine cj_istore_n C (i := 1) (lv' := [some (.ref (w.2.1 150)), some (.int (0 : Int32)), none, none]) dX12_laysFar_135 rfl (by decide) rfl rfl ?_
      exact wX12_laysFar_136 C hr cpFu (0 : Int32) S h
    · refine cj_aload_n C (i := 0) dX12_laysFar_62 rfl rfl ?_
      refine cj_aload_n C (i := 0) dX12_laysFar_63 rfl rfl ?_
      refine cj_getR C (d := 151) o_150 rfl gfX12_13 dX12_laysFar_64 ?_
      refine cj_bipush C (v := (11 : Int32)) dX12_laysFar_67 rfl ?_
      refine cj_iconst C (v := (3 : Int32)) dX12_laysFar_69 rfl ?_
      refine cj_iload_n C (i := 1) dX12_laysFar_70 rfl rfl ?_
      refine cj_imul C dX12_laysFar_71 ?_
      refine cj_iadd C dX12_laysFar_72 ?_
      refine cj_iaload C o_151 h dX12_laysFar_73 (fun h => ?_)
      refine cj_aload_n C (i := 0) dX12_laysFar_74 rfl rfl ?_
      refine cj_getR C (d := 151) o_150 rfl gfX12_13 dX12_laysFar_75 ?_
      refine cj_bipush C (v := (11 : Int32)) dX12_laysFar_78 rfl ?_
      refine cj_iconst C (v := (3 : Int32)) dX12_laysFar_80 rfl ?_
      refine cj_iload_n C (i := 1) dX12_laysFar_81 rfl rfl ?_
      refine cj_imul C dX12_laysFar_82 ?_
      refine cj_iadd C dX12_laysFar_83 ?_
      refine cj_iconst C (v := (1 : Int32)) dX12_laysFar_84 rfl ?_
      refine cj_iadd C dX12_laysFar_85 ?_
      refine cj_iaload C o_151 h dX12_laysFar_86 (fun h => ?_)
      refine cj_aload_n C (i := 0) dX12_laysFar_87 rfl rfl ?_
      refine cj_iload_n C (i := 1) dX12_laysFar_88 rfl rfl ?_
      refine cj_callVi C (As := [.int x1]) (rest := [.int (S.1 151 (((11 : Int32) + ((3 : Int32) * x1)) + (1 : Int32)).toNatClampNeg), .int (S.1 151 ((11 : Int32) + ((3 : Int32) * x1)).toNatClampNeg), .ref (w.2.1 150)]) qX12_longOf mw_32_3 o_150 rfl rfl rfl (Nat.le_of_ble_eq_true rfl) (by decide) dX12_laysFar_89 h (fun _ _ hf => m_X12_longOf l w A x1 S _ hf) (fun z1 S2 h => ?_)
      refine cj_callVv C (As := [.int (S.1 151 ((11 : Int32) + ((3 : Int32) * x1)).toNatClampNeg), .int (S.1 151 (((11 : Int32) + ((3 : Int32) * x1)) + (1 : Int32)).toNatClampNeg), .int z1]) (rest := []) qX12_nearer mw_32_7 o_150 rfl rfl rfl (Nat.le_of_ble_eq_true rfl) (by decide) dX12_laysFar_92 h (fun _ _ hf => m_X12_nearer l w A (S.1 151 ((11 : Int32) + ((3 : Int32) * x1)).toNatClampNeg) (S.1 151 (((11 : Int32) + ((3 : Int32) * x1)) + (1 : Int32)).toNatClampNeg) z1 S2 _ hf) (fun z3 S4 h => ?_)
      refine cj_aload_n C (i := 0) dX12_laysFar_95 rfl rfl ?_
      refine cj_aload_n C (i := 0) dX12_laysFar_96 rfl rfl ?_
      refine cj_getR C (d := 151) o_150 rfl gfX12_13 dX12_laysFar_97 ?_
      refine cj_bipush C (v := (11 : Int32)) dX12_laysFar_100 rfl ?_
      refine cj_iconst C (v := (3 : Int32)) dX12_laysFar_102 rfl ?_
      refine cj_iload_n C (i := 1) dX12_laysFar_103 rfl rfl ?_
      refine cj_imul C dX12_laysFar_104 ?_
      refine cj_iadd C dX12_laysFar_105 ?_
      refine cj_iconst C (v := (1 : Int32)) dX12_laysFar_106 rfl ?_
      refine cj_iadd C dX12_laysFar_107 ?_
      refine cj_iaload C o_151 h dX12_laysFar_108 (fun h => ?_)
      refine cj_aload_n C (i := 0) dX12_laysFar_109 rfl rfl ?_
      refine cj_getR C (d := 151) o_150 rfl gfX12_13 dX12_laysFar_110 ?_
      refine cj_bipush C (v := (11 : Int32)) dX12_laysFar_113 rfl ?_
      refine cj_iconst C (v := (3 : Int32)) dX12_laysFar_115 rfl ?_
      refine cj_iload_n C (i := 1) dX12_laysFar_116 rfl rfl ?_
      refine cj_imul C dX12_laysFar_117 ?_
      refine cj_iadd C dX12_laysFar_118 ?_
      refine cj_iaload C o_151 h dX12_laysFar_119 (fun h => ?_)
      refine cj_aload_n C (i := 0) dX12_laysFar_120 rfl rfl ?_
      refine cj_iload_n C (i := 1) dX12_laysFar_121 rfl rfl ?_
      refine cj_callVi C (As := [.int x1]) (rest := [.int (S4.1 151 ((11 : Int32) + ((3 : Int32) * x1)).toNatClampNeg), .int (S4.1 151 (((11 : Int32) + ((3 : Int32) * x1)) + (1 : Int32)).toNatClampNeg), .ref (w.2.1 150)]) qX12_longOf mw_32_3 o_150 rfl rfl rfl (Nat.le_of_ble_eq_true rfl) (by decide) dX12_laysFar_122 h (fun _ _ hf => m_X12_longOf l w A x1 S4 _ hf) (fun z5 S6 h => ?_)
      refine cj_callVv C (As := [.int (S4.1 151 (((11 : Int32) + ((3 : Int32) * x1)) + (1 : Int32)).toNatClampNeg), .int (S4.1 151 ((11 : Int32) + ((3 : Int32) * x1)).toNatClampNeg), .int z5]) (rest := []) qX12_nearer mw_32_7 o_150 rfl rfl rfl (Nat.le_of_ble_eq_true rfl) (by decide) dX12_laysFar_125 h (fun _ _ hf => m_X12_nearer l w A (S4.1 151 (((11 : Int32) + ((3 : Int32) * x1)) + (1 : Int32)).toNatClampNeg) (S4.1 151 ((11 : Int32) + ((3 : Int32) * x1)).toNatClampNeg) z5 S6 _ hf) (fun z7 S8 h => ?_)
      refine cj_iinc C (v := (x1 + 1)) (lv' := [some (.ref (w.2.1 150)), some (.int (x1 + 1)), none, none]) dX12_laysFar_128 rfl rfl (by decide) rfl rfl ?_
      refine cj_goto C (tgt := 52) dX12_laysFar_131 rfl ?_
      exact ih (x1 + 1) S8 h
def fX12_laysFar_10 (x1 : Int32) (k2 : Int32 → cpS → Option (Unit × cpS)) : Nat → Int32 → cpS → Option (Unit × cpS)
  | 0, _, _ => none
  | n + 1, x2, S =>
    if (6 : Int32) ≤ x2 then (
    k2 (x1 + 1) S) else (
    if x1 = x2 then (
    if cpIn (((6 : Int32) * x1) + x2) 36 then (
    cpLt (cpI S 155 (((6 : Int32) * x1) + x2).toNatClampNeg (0 : Int32)) fun S1 =>
    fX12_laysFar_10 x1 k2 n (x2 + 1) S1) else none) else (
    if cpIn (((6 : Int32) * x1) + x2) 36 then (
    cpLt (cpI S 155 (((6 : Int32) * x1) + x2).toNatClampNeg (99 : Int32)) fun S2 =>
    fX12_laysFar_10 x1 k2 n (x2 + 1) S2) else none))
set_option maxRecDepth 100000 in
set_option maxHeartbeats 4000000 in
theorem wX12_laysFar_10 (C : cpCx p s m args meth c w A cX12_laysFar RX12 4) (hr : meth.sig.returnType = none) {r : Unit × cpS} (x1 : Int32) {k2 : Int32 → cpS → Option (Unit × cpS)} (hk2 : ∀ (x1 : Int32) (S : cpS), k2 x1 S = some r → cpJ p l e (cpRm 1) s m args below meth c (MQ below (va_Qv (fun S' => ((), S') = r) (cpWorld w A) A) args s 0 0 A) w A 4 2 [some (.ref (w.2.1 150)), some (.int x1), none, none] [] S) : ∀ (n : Nat) (x2 : Int32) (S : cpS), fX12_laysFar_10 x1 k2 n x2 S = some r → cpJ p l e (cpRm 1) s m args below meth c (MQ below (va_Qv (fun S' => ((), S') = r) (cpWorld w A) A) args s 0 0 A) w A 4 10 [some (.ref (w.2.1 150)), some (.int x1), some (.int x2), none] [] S := by
  intro n
  induction n with
  | zero => intro x2 S h; rw [fX12_laysFar_10] at h; cases h
  | succ n ih =>
    intro x2 S h
    rw [fX12_laysFar_10] at h
    refine cj_iload_n C (i := 2) dX12_laysFar_10 rfl rfl ?_
    refine cj_bipush C (v := (6 : Int32)) dX12_laysFar_11 rfl ?_
    refine cj_icmp_ge C (tgt := 44) dX12_laysFar_13 rfl h (fun _ h => ?_) (fun _ h => ?_)
    · refine cj_iinc C (v := (x1 + 1)) (lv' := [some (.ref (w.2.1 150)), some (.int (x1 + 1)), some (.int x2), none]) dX12_laysFar_44 rfl rfl (by decide) rfl rfl ?_
      refine cj_goto C (tgt := 2) dX12_laysFar_47 rfl ?_
      refine cj_weak C (lv' := [some (.ref (w.2.1 150)), some (.int (x1 + 1)), none, none]) (cpSub_s (cpSub_s (cpSub_n (cpSub_n cpSub_nil)))) ?_
      exact hk2 (x1 + 1) S h
    · refine cj_aload_n C (i := 0) dX12_laysFar_16 rfl rfl ?_
      refine cj_getR C (d := 155) o_150 rfl gfX12_30 dX12_laysFar_17 ?_
      refine cj_bipush C (v := (6 : Int32)) dX12_laysFar_20 rfl ?_
      refine cj_iload_n C (i := 1) dX12_laysFar_22 rfl rfl ?_
      refine cj_imul C dX12_laysFar_23 ?_
      refine cj_iload_n C (i := 2) dX12_laysFar_24 rfl rfl ?_
      refine cj_iadd C dX12_laysFar_25 ?_
      refine cj_iload_n C (i := 1) dX12_laysFar_26 rfl rfl ?_
      refine cj_iload_n C (i := 2) dX12_laysFar_27 rfl rfl ?_
      refine cj_icmp_ne C (tgt := 35) dX12_laysFar_28 rfl h (fun _ h => ?_) (fun _ h => ?_)
      · refine cj_iconst C (v := (0 : Int32)) dX12_laysFar_31 rfl ?_
        refine cj_goto C (tgt := 37) dX12_laysFar_32 rfl ?_
        refine cj_iastore C o_155 h dX12_laysFar_37 (fun h => ?_)
        refine cj_lets h (fun S1 h => ?_)
        refine cj_iinc C (v := (x2 + 1)) (lv' := [some (.ref (w.2.1 150)), some (.int x1), some (.int (x2 + 1)), none]) dX12_laysFar_38 rfl rfl (by decide) rfl rfl ?_
        refine cj_goto C (tgt := 10) dX12_laysFar_41 rfl ?_
        exact ih (x2 + 1) S1 h
      · refine cj_bipush C (v := (99 : Int32)) dX12_laysFar_35 rfl ?_
        refine cj_iastore C o_155 h dX12_laysFar_37 (fun h => ?_)
        refine cj_lets h (fun S2 h => ?_)
        refine cj_iinc C (v := (x2 + 1)) (lv' := [some (.ref (w.2.1 150)), some (.int x1), some (.int (x2 + 1)), none]) dX12_laysFar_38 rfl rfl (by decide) rfl rfl ?_
        refine cj_goto C (tgt := 10) dX12_laysFar_41 rfl ?_
        exact ih (x2 + 1) S2 h
def fX12_laysFar_2 : Nat → Int32 → cpS → Option (Unit × cpS)
  | 0, _, _ => none
  | n + 1, x1, S =>
    if (6 : Int32) ≤ x1 then (
    fX12_laysFar_52 cpFu (0 : Int32) S) else (
    fX12_laysFar_10 x1 (fX12_laysFar_2 n) cpFu (0 : Int32) S)
set_option maxRecDepth 100000 in
set_option maxHeartbeats 4000000 in
theorem wX12_laysFar_2 (C : cpCx p s m args meth c w A cX12_laysFar RX12 4) (hr : meth.sig.returnType = none) {r : Unit × cpS} : ∀ (n : Nat) (x1 : Int32) (S : cpS), fX12_laysFar_2 n x1 S = some r → cpJ p l e (cpRm 1) s m args below meth c (MQ below (va_Qv (fun S' => ((), S') = r) (cpWorld w A) A) args s 0 0 A) w A 4 2 [some (.ref (w.2.1 150)), some (.int x1), none, none] [] S := by
  intro n
  induction n with
  | zero => intro x1 S h; rw [fX12_laysFar_2] at h; cases h
  | succ n ih =>
    intro x1 S h
    rw [fX12_laysFar_2] at h
    refine cj_iload_n C (i := 1) dX12_laysFar_2 rfl rfl ?_
    refine cj_bipush C (v := (6 : Int32)) dX12_laysFar_3 rfl ?_
    refine cj_icmp_ge C (tgt := 50) dX12_laysFar_5 rfl h (fun _ h => ?_) (fun _ h => ?_)
    · refine cj_iconst C (v := (0 : Int32)) dX12_laysFar_50 rfl ?_
      refine cj_istore_n C (i := 1) (lv' := [some (.ref (w.2.1 150)), some (.int (0 : Int32)), none, none]) dX12_laysFar_51 rfl (by decide) rfl rfl ?_
      exact wX12_laysFar_52 C hr cpFu (0 : Int32) S h
    · refine cj_iconst C (v := (0 : Int32)) dX12_laysFar_8 rfl ?_
      refine cj_istore_n C (i := 2) (lv' := [some (.ref (w.2.1 150)), some (.int x1), some (.int (0 : Int32)), none]) dX12_laysFar_9 rfl (by decide) rfl rfl ?_
      exact wX12_laysFar_10 C hr x1 ih cpFu (0 : Int32) S h
def fX12_laysFar (S : cpS) : Option (Unit × cpS) :=
    fX12_laysFar_2 cpFu (0 : Int32) S
set_option maxRecDepth 100000 in
set_option maxHeartbeats 4000000 in
theorem m_X12_laysFar (l : Launch) (w : cpW) (A : Nat → Prop) (S : cpS) (r : Unit × cpS) (h : fX12_laysFar S = some r) : cpMv l yX12_laysFar cX12_laysFar 4 (none) 1 w A [.ref (w.2.1 150)] S r := by
  refine cpMv.of (lv := [some (.ref (w.2.1 150)), none, none, none]) (by decide) (Nat.le_of_ble_eq_true rfl) rfl (fun p e s m args below meth c C hr => ?_)
  replace C : cpCx p s m args meth c w A cX12_laysFar RX12 4 := C
  rw [fX12_laysFar] at h
  refine cj_iconst C (v := (0 : Int32)) dX12_laysFar_0 rfl ?_
  refine cj_istore_n C (i := 1) (lv' := [some (.ref (w.2.1 150)), some (.int (0 : Int32)), none, none]) dX12_laysFar_1 rfl (by decide) rfl rfl ?_
  exact wX12_laysFar_2 C hr cpFu (0 : Int32) S h
end CPV
