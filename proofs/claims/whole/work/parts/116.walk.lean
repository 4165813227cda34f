section CPV
variable {p : Program} {l : Launch} {e : Env} {s : State} {m : MethodId} {args : Array Value} {below : List Frame} {meth : Method} {c : Code} {w : cpW} {A : Nat → Prop}
/-! X12_reach -/
def fX12_reach_55 (x3 : Int32) (x4 : Int32) (k36 : Int32 → Int32 → cpS → Option (Int32 × cpS)) (k45 : Int32 → Int32 → cpS → Option (Int32 × cpS)) : Nat → Int32 → Int32 → cpS → Option (Int32 × cpS)
  | 0, _, _, _ => none
  | n + 1, x2, x5, S =>
    if (6 : Int32) ≤ x5 then (
    k45 x2 (x4 + 1) S) else (
    cpB (fX12_isIn (Int32.toInt64 x2) x4 S) fun z1 S2 =>
    if z1 = 0 then (
    cpLt (x2 ||| (0 : Int32)) fun y3 =>
    fX12_reach_55 x3 x4 k36 k45 n y3 (x5 + 1) S2) else (
    if cpIn (((6 : Int32) * x4) + x5) 36 then (
    if (S2.1 159 (((6 : Int32) * x4) + x5).toNatClampNeg) ≤ 0 then (
    cpLt (x2 ||| (0 : Int32)) fun y4 =>
    fX12_reach_55 x3 x4 k36 k45 n y4 (x5 + 1) S2) else (
    cpLt (x2 ||| (cpShl (1 : Int32) x5)) fun y5 =>
    fX12_reach_55 x3 x4 k36 k45 n y5 (x5 + 1) S2)) else none))
set_option maxRecDepth 100000 in
set_option maxHeartbeats 4000000 in
theorem wX12_reach_55 (C : cpCx p s m args meth c w A cX12_reach RX12 6) (hr : meth.sig.returnType = (some .int)) {r : Int32 × cpS} (x3 : Int32) (x4 : Int32) {k36 : Int32 → Int32 → cpS → Option (Int32 × cpS)} (hk36 : ∀ (x2 : Int32) (x3 : Int32) (S : cpS), k36 x2 x3 S = some r → cpJ p l e (cpRm 6) s m args below meth c (MQ below (va_Qi (fun x S' => (x, S') = r) (cpWorld w A) A) args s 0 0 A) w A 6 36 [some (.ref (w.2.1 150)), none, some (.int x2), some (.int x3), none, none] [] S) {k45 : Int32 → Int32 → cpS → Option (Int32 × cpS)} (hk45 : ∀ (x2 : Int32) (x4 : Int32) (S : cpS), k45 x2 x4 S = some r → cpJ p l e (cpRm 6) s m args below meth c (MQ below (va_Qi (fun x S' => (x, S') = r) (cpWorld w A) A) args s 0 0 A) w A 6 45 [some (.ref (w.2.1 150)), none, some (.int x2), some (.int x3), some (.int x4), none] [] S) : ∀ (n : Nat) (x2 : Int32) (x5 : Int32) (S : cpS), fX12_reach_55 x3 x4 k36 k45 n x2 x5 S = some r → cpJ p l e (cpRm 6) s m args below meth c (MQ below (va_Qi (fun x S' => (x, S') = r) (cpWorld w A) A) args s 0 0 A) w A 6 55 [some (.ref (w.2.1 150)), none, some (.int x2), some (.int x3), some (.int x4), some (.int x5)] [] S := by
  intro n
  induction n with
  | zero => intro x2 x5 S h; rw [fX12_reach_55] at h; cases h
  | succ n ih =>
    intro x2 x5 S h
    rw [fX12_reach_55] at h
    refine cj_iload C dX12_reach_55 rfl ?_
    refine cj_bipush C (v := (6 : Int32)) dX12_reach_57 rfl ?_
    refine cj_icmp_ge C (tgt := 105) dX12_reach_59 rfl h (fun _ h => ?_) (fun _ h => ?_)
    · refine cj_iinc C (v := (x4 + 1)) (lv' := [some (.ref (w.2.1 150)), none, some (.int x2), some (.int x3), some (.int (x4 + 1)), some (.int x5)]) dX12_reach_105 rfl rfl (by decide) rfl rfl ?_
      refine cj_goto C (tgt := 45) dX12_reach_108 rfl ?_
      refine cj_weak C (lv' := [some (.ref (w.2.1 150)), none, some (.int x2), some (.int x3), some (.int (x4 + 1)), none]) (cpSub_s (cpSub_n (cpSub_s (cpSub_s (cpSub_s (cpSub_n cpSub_nil)))))) ?_
      exact hk45 x2 (x4 + 1) S h
    · refine cj_iload_n C (i := 2) dX12_reach_62 rfl rfl ?_
      refine cj_iload_n C (i := 2) dX12_reach_63 rfl rfl ?_
      refine cj_i2l C dX12_reach_64 ?_
      refine cj_iload C dX12_reach_65 rfl ?_
      refine cj_callSi C (As := [.long (Int32.toInt64 x2), .int x4]) (rest := [.int x2]) qX12_isIn mw_36_4 rfl rfl (Nat.le_of_ble_eq_true rfl) (by decide) dX12_reach_67 h (fun _ _ hf => m_X12_isIn l w A (Int32.toInt64 x2) x4 S _ hf) (fun z1 S2 h => ?_)
      refine cj_if_eq C (tgt := 96) dX12_reach_70 rfl h (fun _ h => ?_) (fun _ h => ?_)
      · refine cj_iconst C (v := (0 : Int32)) dX12_reach_96 rfl ?_
        refine cj_ior C dX12_reach_97 ?_
        refine cj_let h (fun y3 h => ?_)
        refine cj_istore_n C (i := 2) (lv' := [some (.ref (w.2.1 150)), none, some (.int y3), some (.int x3), some (.int x4), some (.int x5)]) dX12_reach_98 rfl (by decide) rfl rfl ?_
        refine cj_iinc C (v := (x5 + 1)) (lv' := [some (.ref (w.2.1 150)), none, some (.int y3), some (.int x3), some (.int x4), some (.int (x5 + 1))]) dX12_reach_99 rfl rfl (by decide) rfl rfl ?_
        refine cj_goto C (tgt := 55) dX12_reach_102 rfl ?_
        exact ih y3 (x5 + 1) S2 h
      · refine cj_aload_n C (i := 0) dX12_reach_73 rfl rfl ?_
        refine cj_getR C (d := 159) o_150 rfl gfX12_42 dX12_reach_74 ?_
        refine cj_bipush C (v := (6 : Int32)) dX12_reach_77 rfl ?_
        refine cj_iload C dX12_reach_79 rfl ?_
        refine cj_imul C dX12_reach_81 ?_
        refine cj_iload C dX12_reach_82 rfl ?_
        refine cj_iadd C dX12_reach_84 ?_
        refine cj_iaload C o_159 h dX12_reach_85 (fun h => ?_)
        refine cj_if_le C (tgt := 96) dX12_reach_86 rfl h (fun _ h => ?_) (fun _ h => ?_)
        · refine cj_iconst C (v := (0 : Int32)) dX12_reach_96 rfl ?_
          refine cj_ior C dX12_reach_97 ?_
          refine cj_let h (fun y4 h => ?_)
          refine cj_istore_n C (i := 2) (lv' := [some (.ref (w.2.1 150)), none, some (.int y4), some (.int x3), some (.int x4), some (.int x5)]) dX12_reach_98 rfl (by decide) rfl rfl ?_
          refine cj_iinc C (v := (x5 + 1)) (lv' := [some (.ref (w.2.1 150)), none, some (.int y4), some (.int x3), some (.int x4), some (.int (x5 + 1))]) dX12_reach_99 rfl rfl (by decide) rfl rfl ?_
          refine cj_goto C (tgt := 55) dX12_reach_102 rfl ?_
          exact ih y4 (x5 + 1) S2 h
        · refine cj_iconst C (v := (1 : Int32)) dX12_reach_89 rfl ?_
          refine cj_iload C dX12_reach_90 rfl ?_
          refine ck_ishl C dX12_reach_92 ?_
          refine cj_goto C (tgt := 97) dX12_reach_93 rfl ?_
          refine cj_ior C dX12_reach_97 ?_
          refine cj_let h (fun y5 h => ?_)
          refine cj_istore_n C (i := 2) (lv' := [some (.ref (w.2.1 150)), none, some (.int y5), some (.int x3), some (.int x4), some (.int x5)]) dX12_reach_98 rfl (by decide) rfl rfl ?_
          refine cj_iinc C (v := (x5 + 1)) (lv' := [some (.ref (w.2.1 150)), none, some (.int y5), some (.int x3), some (.int x4), some (.int (x5 + 1))]) dX12_reach_99 rfl rfl (by decide) rfl rfl ?_
          refine cj_goto C (tgt := 55) dX12_reach_102 rfl ?_
          exact ih y5 (x5 + 1) S2 h
def fX12_reach_45 (x3 : Int32) (k36 : Int32 → Int32 → cpS → Option (Int32 × cpS)) : Nat → Int32 → Int32 → cpS → Option (Int32 × cpS)
  | 0, _, _, _ => none
  | n + 1, x2, x4, S =>
    if (6 : Int32) ≤ x4 then (
    k36 x2 (x3 + 1) S) else (
    fX12_reach_55 x3 x4 k36 (fX12_reach_45 x3 k36 n) cpFu x2 (0 : Int32) S)
set_option maxRecDepth 100000 in
set_option maxHeartbeats 4000000 in
theorem wX12_reach_45 (C : cpCx p s m args meth c w A cX12_reach RX12 6) (hr : meth.sig.returnType = (some .int)) {r : Int32 × cpS} (x3 : Int32) {k36 : Int32 → Int32 → cpS → Option (Int32 × cpS)} (hk36 : ∀ (x2 : Int32) (x3 : Int32) (S : cpS), k36 x2 x3 S = some r → cpJ p l e (cpRm 6) s m args below meth c (MQ below (va_Qi (fun x S' => (x, S') = r) (cpWorld w A) A) args s 0 0 A) w A 6 36 [some (.ref (w.2.1 150)), none, some (.int x2), some (.int x3), none, none] [] S) : ∀ (n : Nat) (x2 : Int32) (x4 : Int32) (S : cpS), fX12_reach_45 x3 k36 n x2 x4 S = some r → cpJ p l e (cpRm 6) s m args below meth c (MQ below (va_Qi (fun x S' => (x, S') = r) (cpWorld w A) A) args s 0 0 A) w A 6 45 [some (.ref (w.2.1 150)), none, some (.int x2), some (.int x3), some (.int x4), none] [] S := by
  intro n
  induction n with
  | zero => intro x2 x4 S h; rw [fX12_reach_45] at h; cases h
  | succ n ih =>
    intro x2 x4 S h
    rw [fX12_reach_45] at h
    refine cj_iload C dX12_reach_45 rfl ?_
    refine cj_bipush C (v := (6 : Int32)) dX12_reach_47 rfl ?_
    refine cj_icmp_ge C (tgt := 111) dX12_reach_49 rfl h (fun _ h => ?_) (fun _ h => ?_)
    · refine cj_iinc C (v := (x3 + 1)) (lv' := [some (.ref (w.2.1 150)), none, some (.int x2), some (.int (x3 + 1)), some (.int x4), none]) dX12_reach_111 rfl rfl (by decide) rfl rfl ?_
      refine cj_goto C (tgt := 36) dX12_reach_114 rfl ?_
      refine cj_weak C (lv' := [some (.ref (w.2.1 150)), none, some (.int x2), some (.int (x3 + 1)), none, none]) (cpSub_s (cpSub_n (cpSub_s (cpSub_s (cpSub_n (cpSub_n cpSub_nil)))))) ?_
      exact hk36 x2 (x3 + 1) S h
    · refine cj_iconst C (v := (0 : Int32)) dX12_reach_52 rfl ?_
      refine cj_istore C (lv' := [some (.ref (w.2.1 150)), none, some (.int x2), some (.int x3), some (.int x4), some (.int (0 : Int32))]) dX12_reach_53 (by decide) rfl rfl ?_
      exact wX12_reach_55 C hr x3 x4 hk36 ih cpFu x2 (0 : Int32) S h
def fX12_reach_36 : Nat → Int32 → Int32 → cpS → Option (Int32 × cpS)
  | 0, _, _, _ => none
  | n + 1, x2, x3, S =>
    if (6 : Int32) ≤ x3 then (
    some (x2, S)) else (
    fX12_reach_45 x3 (fX12_reach_36 n) cpFu x2 (0 : Int32) S)
set_option maxRecDepth 100000 in
set_option maxHeartbeats 4000000 in
theorem wX12_reach_36 (C : cpCx p s m args meth c w A cX12_reach RX12 6) (hr : meth.sig.returnType = (some .int)) {r : Int32 × cpS} : ∀ (n : Nat) (x2 : Int32) (x3 : Int32) (S : cpS), fX12_reach_36 n x2 x3 S = some r → cpJ p l e (cpRm 6) s m args below meth c (MQ below (va_Qi (fun x S' => (x, S') = r) (cpWorld w A) A) args s 0 0 A) w A 6 36 [some (.ref (w.2.1 150)), none, some (.int x2), some (.int x3), none, none] [] S := by
  intro n
  induction n with
  | zero => intro x2 x3 S h; rw [fX12_reach_36] at h; cases h
  | succ n ih =>
    intro x2 x3 S h
    rw [fX12_reach_36] at h
    refine cj_iload_n C (i := 3) dX12_reach_36 rfl rfl ?_
    refine cj_bipush C (v := (6 : Int32)) dX12_reach_37 rfl ?_
    refine cj_icmp_ge C (tgt := 117) dX12_reach_39 rfl h (fun _ h => ?_) (fun _ h => ?_)
    · refine cj_iload_n C (i := 2) dX12_reach_117 rfl rfl ?_
      exact cj_ireturn C hr h dX12_reach_118
    · refine cj_iconst C (v := (0 : Int32)) dX12_reach_42 rfl ?_
      refine cj_istore C (lv' := [some (.ref (w.2.1 150)), none, some (.int x2), some (.int x3), some (.int (0 : Int32)), none]) dX12_reach_43 (by decide) rfl rfl ?_
      exact wX12_reach_45 C hr x3 ih cpFu x2 (0 : Int32) S h
def fX12_reach (x1 : Int32) (S : cpS) : Option (Int32 × cpS) :=
    cpLt (cpI S 150 0 (0 : Int32)) fun S1 =>
    cpB (fX12_isCoin (Int32.toInt64 x1) S1) fun z2 S3 =>
    if z2 = 0 then (
    some ((-2 : Int32), S3)) else (
    cpB (fX12_laysBears x1 S3) fun _ S5 =>
    if cpIn ((62 : Int32) + x1) 3486 then (
    cpLt (cpShl (1 : Int32) (S5.1 151 ((62 : Int32) + x1).toNatClampNeg)) fun y6 =>
    fX12_reach_36 cpFu y6 (0 : Int32) S5) else none)
set_option maxRecDepth 100000 in
set_option maxHeartbeats 4000000 in
theorem m_X12_reach (l : Launch) (w : cpW) (A : Nat → Prop) (x1 : Int32) (S : cpS) (r : Int32 × cpS) (h : fX12_reach x1 S = some r) : cpMi l yX12_reach cX12_reach 6 ((some .int)) 6 w A [.ref (w.2.1 150), .int x1] S r := by
  refine cpMi.of (lv := [some (.ref (w.2.1 150)), some (.int x1), none, none, none, none]) (by decide) (Nat.le_of_ble_eq_true rfl) rfl (fun p e s m args below meth c C hr => ?_)
  replace C : cpCx p s m args meth c w A cX12_reach RX12 6 := C
  rw [fX12_reach] at h
  refine cj_aload_n C (i := 0) dX12_reach_0 rfl rfl ?_
  refine cj_iconst C (v := (0 : Int32)) dX12_reach_1 rfl ?_
  refine cj_put C (j := 0) o_150 rfl pfX12_1 rfl rfl dX12_reach_2 ?_
  refine cj_lets h (fun S1 h => ?_)
  refine cj_aload_n C (i := 0) dX12_reach_5 rfl rfl ?_
  refine cj_iload_n C (i := 1) dX12_reach_6 rfl rfl ?_
  refine cj_i2l C dX12_reach_7 ?_
  refine cj_callVi C (As := [.long (Int32.toInt64 x1)]) (rest := []) qX12_isCoin mw_30_9 o_150 rfl rfl rfl (Nat.le_of_ble_eq_true rfl) (by decide) dX12_reach_8 h (fun _ _ hf => m_X12_isCoin l w A (Int32.toInt64 x1) S1 _ hf) (fun z2 S3 h => ?_)
  refine cj_if_ne C (tgt := 17) dX12_reach_11 rfl h (fun _ h => ?_) (fun _ h => ?_)
  · refine cj_bipush C (v := (-2 : Int32)) dX12_reach_14 rfl ?_
    exact cj_ireturn C hr h dX12_reach_16
  · refine cj_aload_n C (i := 0) dX12_reach_17 rfl rfl ?_
    refine cj_iload_n C (i := 1) dX12_reach_18 rfl rfl ?_
    refine cj_callVv C (As := [.int x1]) (rest := []) qX12_laysBears mw_49_15 o_150 rfl rfl rfl (Nat.le_of_ble_eq_true rfl) (by decide) dX12_reach_19 h (fun _ _ hf => m_X12_laysBears l w A x1 S3 _ hf) (fun z4 S5 h => ?_)
    refine cj_iconst C (v := (1 : Int32)) dX12_reach_22 rfl ?_
    refine cj_aload_n C (i := 0) dX12_reach_23 rfl rfl ?_
    refine cj_getR C (d := 151) o_150 rfl gfX12_13 dX12_reach_24 ?_
    refine cj_bipush C (v := (62 : Int32)) dX12_reach_27 rfl ?_
    refine cj_iload_n C (i := 1) dX12_reach_29 rfl rfl ?_
    refine cj_iadd C dX12_reach_30 ?_
    refine cj_iaload C o_151 h dX12_reach_31 (fun h => ?_)
    refine ck_ishl C dX12_reach_32 ?_
    refine cj_let h (fun y6 h => ?_)
    refine cj_istore_n C (i := 2) (lv' := [some (.ref (w.2.1 150)), some (.int x1), some (.int y6), none, none, none]) dX12_reach_33 rfl (by decide) rfl rfl ?_
    refine cj_iconst C (v := (0 : Int32)) dX12_reach_34 rfl ?_
    refine cj_istore_n C (i := 3) (lv' := [some (.ref (w.2.1 150)), some (.int x1), some (.int y6), some (.int (0 : Int32)), none, none]) dX12_reach_35 rfl (by decide) rfl rfl ?_
    refine cj_weak C (lv' := [some (.ref (w.2.1 150)), none, some (.int y6), some (.int (0 : Int32)), none, none]) (cpSub_s (cpSub_n (cpSub_s (cpSub_s (cpSub_n (cpSub_n cpSub_nil)))))) ?_
    exact wX12_reach_36 C hr cpFu y6 (0 : Int32) S5 h
/-! X12_laysPaying -/
def fX12_laysPaying_52 (x1 : Int32) (x2 : Int32) (k2 : Int32 → cpS → Option (Unit × cpS)) : Nat → Int32 → cpS → Option (Unit × cpS)
  | 0, _, _ => none
  | n + 1, x3, S =>
    if (6 : Int32) ≤ x3 then (
    k2 (x2 + 1) S) else (
    if cpIn ((62 : Int32) + x2) 3486 then (
    if (S.1 151 ((62 : Int32) + x2).toNatClampNeg) = x1 then (
    if cpIn (((6 : Int32) * x1) + x3) 36 then (
    if (S.1 159 (((6 : Int32) * x1) + x3).toNatClampNeg) ≤ 0 then (
    fX12_laysPaying_52 x1 x2 k2 n (x3 + 1) S) else (
    if cpIn x2 4 then (
    cpLt (cpI S 165 x2.toNatClampNeg (1 : Int32)) fun S1 =>
    fX12_laysPaying_52 x1 x2 k2 n (x3 + 1) S1) else none)) else none) else (
    k2 (x2 + 1) S)) else none)
set_option maxRecDepth 100000 in
set_option maxHeartbeats 4000000 in
theorem wX12_laysPaying_52 (C : cpCx p s m args meth c w A cX12_laysPaying RX12 4) (hr : meth.sig.returnType = none) {r : Unit × cpS} (x1 : Int32) (x2 : Int32) {k2 : Int32 → cpS → Option (Unit × cpS)} (hk2 : ∀ (x2 : Int32) (S : cpS), k2 x2 S = some r → cpJ p l e (cpRm 7) s m args below meth c (MQ below (va_Qv (fun S' => ((), S') = r) (cpWorld w A) A) args s 0 0 A) w A 4 2 [some (.ref (w.2.1 150)), some (.int x1), some (.int x2), none] [] S) : ∀ (n : Nat) (x3 : Int32) (S : cpS), fX12_laysPaying_52 x1 x2 k2 n x3 S = some r → cpJ p l e (cpRm 7) s m args below meth c (MQ below (va_Qv (fun S' => ((), S') = r) (cpWorld w A) A) args s 0 0 A) w A 4 52 [some (.ref (w.2.1 150)), some (.int x1), some (.int x2), some (.int x3)] [] S := by
  intro n
  induction n with
  | zero => intro x3 S h; rw [fX12_laysPaying_52] at h; cases h
  | succ n ih =>
    intro x3 S h
    rw [fX12_laysPaying_52] at h
    refine cj_iload_n C (i := 3) dX12_laysPaying_52 rfl rfl ?_
    refine cj_bipush C (v := (6 : Int32)) dX12_laysPaying_53 rfl ?_
    refine cj_icmp_ge C (tgt := 98) dX12_laysPaying_55 rfl h (fun _ h => ?_) (fun _ h => ?_)
    · refine cj_iinc C (v := (x2 + 1)) (lv' := [some (.ref (w.2.1 150)), some (.int x1), some (.int (x2 + 1)), some (.int x3)]) dX12_laysPaying_98 rfl rfl (by decide) rfl rfl ?_
      refine cj_goto C (tgt := 2) dX12_laysPaying_101 rfl ?_
      refine cj_weak C (lv' := [some (.ref (w.2.1 150)), some (.int x1), some (.int (x2 + 1)), none]) (cpSub_s (cpSub_s (cpSub_s (cpSub_n cpSub_nil)))) ?_
      exact hk2 (x2 + 1) S h
    · refine cj_aload_n C (i := 0) dX12_laysPaying_58 rfl rfl ?_
      refine cj_getR C (d := 151) o_150 rfl gfX12_13 dX12_laysPaying_59 ?_
      refine cj_bipush C (v := (62 : Int32)) dX12_laysPaying_62 rfl ?_
      refine cj_iload_n C (i := 2) dX12_laysPaying_64 rfl rfl ?_
      refine cj_iadd C dX12_laysPaying_65 ?_
      refine cj_iaload C o_151 h dX12_laysPaying_66 (fun h => ?_)
      refine cj_iload_n C (i := 1) dX12_laysPaying_67 rfl rfl ?_
      refine cj_icmp_ne C (tgt := 98) dX12_laysPaying_68 rfl h (fun _ h => ?_) (fun _ h => ?_)
      · refine cj_aload_n C (i := 0) dX12_laysPaying_71 rfl rfl ?_
        refine cj_getR C (d := 159) o_150 rfl gfX12_42 dX12_laysPaying_72 ?_
        refine cj_bipush C (v := (6 : Int32)) dX12_laysPaying_75 rfl ?_
        refine cj_iload_n C (i := 1) dX12_laysPaying_77 rfl rfl ?_
        refine cj_imul C dX12_laysPaying_78 ?_
        refine cj_iload_n C (i := 3) dX12_laysPaying_79 rfl rfl ?_
        refine cj_iadd C dX12_laysPaying_80 ?_
        refine cj_iaload C o_159 h dX12_laysPaying_81 (fun h => ?_)
        refine cj_if_le C (tgt := 92) dX12_laysPaying_82 rfl h (fun _ h => ?_) (fun _ h => ?_)
        · refine cj_iinc C (v := (x3 + 1)) (lv' := [some (.ref (w.2.1 150)), some (.int x1), some (.int x2), some (.int (x3 + 1))]) dX12_laysPaying_92 rfl rfl (by decide) rfl rfl ?_
          refine cj_goto C (tgt := 52) dX12_laysPaying_95 rfl ?_
          exact ih (x3 + 1) S h
        · refine cj_aload_n C (i := 0) dX12_laysPaying_85 rfl rfl ?_
          refine cj_getR C (d := 165) o_150 rfl gfX12_61 dX12_laysPaying_86 ?_
          refine cj_iload_n C (i := 2) dX12_laysPaying_89 rfl rfl ?_
          refine cj_iconst C (v := (1 : Int32)) dX12_laysPaying_90 rfl ?_
          refine cj_iastore C o_165 h dX12_laysPaying_91 (fun h => ?_)
          refine cj_lets h (fun S1 h => ?_)
          refine cj_iinc C (v := (x3 + 1)) (lv' := [some (.ref (w.2.1 150)), some (.int x1), some (.int x2), some (.int (x3 + 1))]) dX12_laysPaying_92 rfl rfl (by decide) rfl rfl ?_
          refine cj_goto C (tgt := 52) dX12_laysPaying_95 rfl ?_
          exact ih (x3 + 1) S1 h
      · refine cj_iinc C (v := (x2 + 1)) (lv' := [some (.ref (w.2.1 150)), some (.int x1), some (.int (x2 + 1)), some (.int x3)]) dX12_laysPaying_98 rfl rfl (by decide) rfl rfl ?_
        refine cj_goto C (tgt := 2) dX12_laysPaying_101 rfl ?_
        refine cj_weak C (lv' := [some (.ref (w.2.1 150)), some (.int x1), some (.int (x2 + 1)), none]) (cpSub_s (cpSub_s (cpSub_s (cpSub_n cpSub_nil)))) ?_
        exact hk2 (x2 + 1) S h
def fX12_laysPaying_2 (x1 : Int32) : Nat → Int32 → cpS → Option (Unit × cpS)
  | 0, _, _ => none
  | n + 1, x2, S =>
    if (S.1 151 4) ≤ x2 then (
    some ((), S)) else (
    cpB (fX12_laysStill x2 x1 S) fun z1 S2 =>
    if cpIn x2 4 then (
    cpLt (cpI S2 164 x2.toNatClampNeg z1) fun S3 =>
    if cpIn ((62 : Int32) + x2) 3486 then (
    if (S3.1 151 ((62 : Int32) + x2).toNatClampNeg) = x1 then (
    if cpIn x2 4 then (
    cpLt (cpI S3 165 x2.toNatClampNeg (268435456 : Int32)) fun S4 =>
    fX12_laysPaying_52 x1 x2 (fX12_laysPaying_2 x1 n) cpFu (0 : Int32) S4) else none) else (
    if cpIn x2 4 then (
    cpLt (cpI S3 165 x2.toNatClampNeg (0 : Int32)) fun S5 =>
    fX12_laysPaying_52 x1 x2 (fX12_laysPaying_2 x1 n) cpFu (0 : Int32) S5) else none)) else none) else none)
set_option maxRecDepth 100000 in
set_option maxHeartbeats 4000000 in
theorem wX12_laysPaying_2 (C : cpCx p s m args meth c w A cX12_laysPaying RX12 4) (hr : meth.sig.returnType = none) {r : Unit × cpS} (x1 : Int32) : ∀ (n : Nat) (x2 : Int32) (S : cpS), fX12_laysPaying_2 x1 n x2 S = some r → cpJ p l e (cpRm 7) s m args below meth c (MQ below (va_Qv (fun S' => ((), S') = r) (cpWorld w A) A) args s 0 0 A) w A 4 2 [some (.ref (w.2.1 150)), some (.int x1), some (.int x2), none] [] S := by
  intro n
  induction n with
  | zero => intro x2 S h; rw [fX12_laysPaying_2] at h; cases h
  | succ n ih =>
    intro x2 S h
    rw [fX12_laysPaying_2] at h
    refine cj_iload_n C (i := 2) dX12_laysPaying_2 rfl rfl ?_
    refine cj_aload_n C (i := 0) dX12_laysPaying_3 rfl rfl ?_
    refine cj_getR C (d := 151) o_150 rfl gfX12_13 dX12_laysPaying_4 ?_
    refine cj_iconst C (v := (4 : Int32)) dX12_laysPaying_7 rfl ?_
    refine cj_ialoadC C (j := 4) o_151 (by decide) (by decide) dX12_laysPaying_8 ?_
    refine cj_icmp_ge C (tgt := 104) dX12_laysPaying_9 rfl h (fun _ h => ?_) (fun _ h => ?_)
    · exact cj_vreturn C hr h dX12_laysPaying_104
    · refine cj_aload_n C (i := 0) dX12_laysPaying_12 rfl rfl ?_
      refine cj_getR C (d := 164) o_150 rfl gfX12_58 dX12_laysPaying_13 ?_
      refine cj_iload_n C (i := 2) dX12_laysPaying_16 rfl rfl ?_
      refine cj_aload_n C (i := 0) dX12_laysPaying_17 rfl rfl ?_
      refine cj_iload_n C (i := 2) dX12_laysPaying_18 rfl rfl ?_
      refine cj_iload_n C (i := 1) dX12_laysPaying_19 rfl rfl ?_
      refine cj_callVi C (As := [.int x2, .int x1]) (rest := [.int x2, .ref (w.2.1 164)]) qX12_laysStill mw_49_10 o_150 rfl rfl rfl (Nat.le_of_ble_eq_true rfl) (by decide) dX12_laysPaying_20 h (fun _ _ hf => m_X12_laysStill l w A x2 x1 S _ hf) (fun z1 S2 h => ?_)
      refine cj_iastore C o_164 h dX12_laysPaying_23 (fun h => ?_)
      refine cj_lets h (fun S3 h => ?_)
      refine cj_aload_n C (i := 0) dX12_laysPaying_24 rfl rfl ?_
      refine cj_getR C (d := 165) o_150 rfl gfX12_61 dX12_laysPaying_25 ?_
      refine cj_iload_n C (i := 2) dX12_laysPaying_28 rfl rfl ?_
      refine cj_aload_n C (i := 0) dX12_laysPaying_29 rfl rfl ?_
      refine cj_getR C (d := 151) o_150 rfl gfX12_13 dX12_laysPaying_30 ?_
      refine cj_bipush C (v := (62 : Int32)) dX12_laysPaying_33 rfl ?_
      refine cj_iload_n C (i := 2) dX12_laysPaying_35 rfl rfl ?_
      refine cj_iadd C dX12_laysPaying_36 ?_
      refine cj_iaload C o_151 h dX12_laysPaying_37 (fun h => ?_)
      refine cj_iload_n C (i := 1) dX12_laysPaying_38 rfl rfl ?_
      refine cj_icmp_ne C (tgt := 48) dX12_laysPaying_39 rfl h (fun _ h => ?_) (fun _ h => ?_)
      · refine cj_ldcw C (v := (268435456 : Int32)) mw_49_14 dX12_laysPaying_42 ?_
        refine cj_goto C (tgt := 49) dX12_laysPaying_45 rfl ?_
        refine cj_iastore C o_165 h dX12_laysPaying_49 (fun h => ?_)
        refine cj_lets h (fun S4 h => ?_)
        refine cj_iconst C (v := (0 : Int32)) dX12_laysPaying_50 rfl ?_
        refine cj_istore_n C (i := 3) (lv' := [some (.ref (w.2.1 150)), some (.int x1), some (.int x2), some (.int (0 : Int32))]) dX12_laysPaying_51 rfl (by decide) rfl rfl ?_
        exact wX12_laysPaying_52 C hr x1 x2 ih cpFu (0 : Int32) S4 h
      · refine cj_iconst C (v := (0 : Int32)) dX12_laysPaying_48 rfl ?_
        refine cj_iastore C o_165 h dX12_laysPaying_49 (fun h => ?_)
        refine cj_lets h (fun S5 h => ?_)
        refine cj_iconst C (v := (0 : Int32)) dX12_laysPaying_50 rfl ?_
        refine cj_istore_n C (i := 3) (lv' := [some (.ref (w.2.1 150)), some (.int x1), some (.int x2), some (.int (0 : Int32))]) dX12_laysPaying_51 rfl (by decide) rfl rfl ?_
        exact wX12_laysPaying_52 C hr x1 x2 ih cpFu (0 : Int32) S5 h
def fX12_laysPaying (x1 : Int32) (S : cpS) : Option (Unit × cpS) :=
    fX12_laysPaying_2 x1 cpFu (0 : Int32) S
set_option maxRecDepth 100000 in
set_option maxHeartbeats 4000000 in
theorem m_X12_laysPaying (l : Launch) (w : cpW) (A : Nat → Prop) (x1 : Int32) (S : cpS) (r : Unit × cpS) (h : fX12_laysPaying x1 S = some r) : cpMv l yX12_laysPaying cX12_laysPaying 4 (none) 7 w A [.ref (w.2.1 150), .int x1] S r := by
  refine cpMv.of (lv := [some (.ref (w.2.1 150)), some (.int x1), none, none]) (by decide) (Nat.le_of_ble_eq_true rfl) rfl (fun p e s m args below meth c C hr => ?_)
  replace C : cpCx p s m args meth c w A cX12_laysPaying RX12 4 := C
  rw [fX12_laysPaying] at h
  refine cj_iconst C (v := (0 : Int32)) dX12_laysPaying_0 rfl ?_
  refine cj_istore_n C (i := 2) (lv' := [some (.ref (w.2.1 150)), some (.int x1), some (.int (0 : Int32)), none]) dX12_laysPaying_1 rfl (by decide) rfl rfl ?_
  exact wX12_laysPaying_2 C hr x1 cpFu (0 : Int32) S h
/-! X12_pays -/
def fX12_pays_205 (x2 : Int32) (x3 : Int32) (x4 : Int32) (x5 : Int32) (x6 : Int32) (x8 : Int32) (k60 : Int32 → Int32 → Int32 → cpS → Option (Int32 × cpS)) (S : cpS) : Option (Int32 × cpS) :=
    if x8 < x5 then (
    k60 x6 x8 (x6 + 1) S) else (
    k60 x4 x5 (x6 + 1) S)
set_option maxRecDepth 100000 in
set_option maxHeartbeats 4000000 in
theorem wX12_pays_205 (C : cpCx p s m args meth c w A cX12_pays RX12 11) (hr : meth.sig.returnType = (some .int)) {r : Int32 × cpS} (x2 : Int32) (x3 : Int32) (x4 : Int32) (x5 : Int32) (x6 : Int32) (x8 : Int32) {k60 : Int32 → Int32 → Int32 → cpS → Option (Int32 × cpS)} (hk60 : ∀ (x4 : Int32) (x5 : Int32) (x6 : Int32) (S : cpS), k60 x4 x5 x6 S = some r → cpJ p l e (cpRm 8) s m args below meth c (MQ below (va_Qi (fun x S' => (x, S') = r) (cpWorld w A) A) args s 0 0 A) w A 11 60 [some (.ref (w.2.1 150)), none, some (.int x2), some (.int x3), some (.int x4), some (.int x5), some (.int x6), none, none, none, none] [] S) (S : cpS) (h : fX12_pays_205 x2 x3 x4 x5 x6 x8 k60 S = some r) : cpJ p l e (cpRm 8) s m args below meth c (MQ below (va_Qi (fun x S' => (x, S') = r) (cpWorld w A) A) args s 0 0 A) w A 11 205 [some (.ref (w.2.1 150)), none, some (.int x2), some (.int x3), some (.int x4), some (.int x5), some (.int x6), none, some (.int x8), none, none] [] S := by
  rw [fX12_pays_205] at h
  refine cj_iload C dX12_pays_205 rfl ?_
  refine cj_iload C dX12_pays_207 rfl ?_
  refine cj_icmp_lt C (tgt := 215) dX12_pays_209 rfl h (fun _ h => ?_) (fun _ h => ?_)
  · refine cj_iload C dX12_pays_215 rfl ?_
    refine cj_istore C (lv' := [some (.ref (w.2.1 150)), none, some (.int x2), some (.int x3), some (.int x6), some (.int x5), some (.int x6), none, some (.int x8), none, none]) dX12_pays_217 (by decide) rfl rfl ?_
    refine cj_iload C dX12_pays_219 rfl ?_
    refine cj_istore C (lv' := [some (.ref (w.2.1 150)), none, some (.int x2), some (.int x3), some (.int x6), some (.int x8), some (.int x6), none, some (.int x8), none, none]) dX12_pays_221 (by decide) rfl rfl ?_
    refine cj_iinc C (v := (x6 + 1)) (lv' := [some (.ref (w.2.1 150)), none, some (.int x2), some (.int x3), some (.int x6), some (.int x8), some (.int (x6 + 1)), none, some (.int x8), none, none]) dX12_pays_223 rfl rfl (by decide) rfl rfl ?_
    refine cj_goto C (tgt := 60) dX12_pays_226 rfl ?_
    refine cj_weak C (lv' := [some (.ref (w.2.1 150)), none, some (.int x2), some (.int x3), some (.int x6), some (.int x8), some (.int (x6 + 1)), none, none, none, none]) (cpSub_s (cpSub_n (cpSub_s (cpSub_s (cpSub_s (cpSub_s (cpSub_s (cpSub_n (cpSub_n (cpSub_n (cpSub_n cpSub_nil))))))))))) ?_
    exact hk60 x6 x8 (x6 + 1) S h
  · refine cj_goto C (tgt := 223) dX12_pays_212 rfl ?_
    refine cj_iinc C (v := (x6 + 1)) (lv' := [some (.ref (w.2.1 150)), none, some (.int x2), some (.int x3), some (.int x4), some (.int x5), some (.int (x6 + 1)), none, some (.int x8), none, none]) dX12_pays_223 rfl rfl (by decide) rfl rfl ?_
    refine cj_goto C (tgt := 60) dX12_pays_226 rfl ?_
    refine cj_weak C (lv' := [some (.ref (w.2.1 150)), none, some (.int x2), some (.int x3), some (.int x4), some (.int x5), some (.int (x6 + 1)), none, none, none, none]) (cpSub_s (cpSub_n (cpSub_s (cpSub_s (cpSub_s (cpSub_s (cpSub_s (cpSub_n (cpSub_n (cpSub_n (cpSub_n cpSub_nil))))))))))) ?_
    exact hk60 x4 x5 (x6 + 1) S h
def fX12_pays_151 (x2 : Int32) (x3 : Int32) (x4 : Int32) (x5 : Int32) (x6 : Int32) (x7 : Int32) (x8 : Int32) (x9 : Int32) (s0 : Int32) (k60 : Int32 → Int32 → Int32 → cpS → Option (Int32 × cpS)) (k82 : Int32 → Int32 → Int32 → cpS → Option (Int32 × cpS)) (S : cpS) : Option (Int32 × cpS) :=
    if x8 = (268435456 : Int32) then (
    k82 x7 (268435456 : Int32) (x9 + 1) S) else (
    if s0 = (268435456 : Int32) then (
    k82 x7 (268435456 : Int32) (x9 + 1) S) else (
    cpLt (x8 + s0) fun y1 =>
    k82 x7 y1 (x9 + 1) S))
set_option maxRecDepth 100000 in
set_option maxHeartbeats 4000000 in
theorem wX12_pays_151 (C : cpCx p s m args meth c w A cX12_pays RX12 11) (hr : meth.sig.returnType = (some .int)) {r : Int32 × cpS} (x2 : Int32) (x3 : Int32) (x4 : Int32) (x5 : Int32) (x6 : Int32) (x7 : Int32) (x8 : Int32) (x9 : Int32) (s0 : Int32) {k60 : Int32 → Int32 → Int32 → cpS → Option (Int32 × cpS)} (hk60 : ∀ (x4 : Int32) (x5 : Int32) (x6 : Int32) (S : cpS), k60 x4 x5 x6 S = some r → cpJ p l e (cpRm 8) s m args below meth c (MQ below (va_Qi (fun x S' => (x, S') = r) (cpWorld w A) A) args s 0 0 A) w A 11 60 [some (.ref (w.2.1 150)), none, some (.int x2), some (.int x3), some (.int x4), some (.int x5), some (.int x6), none, none, none, none] [] S) {k82 : Int32 → Int32 → Int32 → cpS → Option (Int32 × cpS)} (hk82 : ∀ (x7 : Int32) (x8 : Int32) (x9 : Int32) (S : cpS), k82 x7 x8 x9 S = some r → cpJ p l e (cpRm 8) s m args below meth c (MQ below (va_Qi (fun x S' => (x, S') = r) (cpWorld w A) A) args s 0 0 A) w A 11 82 [some (.ref (w.2.1 150)), none, some (.int x2), some (.int x3), some (.int x4), some (.int x5), some (.int x6), some (.int x7), some (.int x8), some (.int x9), none] [] S) (S : cpS) (h : fX12_pays_151 x2 x3 x4 x5 x6 x7 x8 x9 s0 k60 k82 S = some r) : cpJ p l e (cpRm 8) s m args below meth c (MQ below (va_Qi (fun x S' => (x, S') = r) (cpWorld w A) A) args s 0 0 A) w A 11 151 [some (.ref (w.2.1 150)), none, some (.int x2), some (.int x3), some (.int x4), some (.int x5), some (.int x6), some (.int x7), some (.int x8), some (.int x9), none] [.int s0] S := by
  rw [fX12_pays_151] at h
  refine cj_istore C (lv' := [some (.ref (w.2.1 150)), none, some (.int x2), some (.int x3), some (.int x4), some (.int x5), some (.int x6), some (.int x7), some (.int x8), some (.int x9), some (.int s0)]) dX12_pays_151 (by decide) rfl rfl ?_
  refine cj_iload C dX12_pays_153 rfl ?_
  refine cj_ldcw C (v := (268435456 : Int32)) mw_49_14 dX12_pays_155 ?_
  refine cj_icmp_eq C (tgt := 169) dX12_pays_158 rfl h (fun _ h => ?_) (fun _ h => ?_)
  · refine cj_ldcw C (v := (268435456 : Int32)) mw_49_14 dX12_pays_169 ?_
    refine cj_goto C (tgt := 180) dX12_pays_172 rfl ?_
    refine cj_istore C (lv' := [some (.ref (w.2.1 150)), none, some (.int x2), some (.int x3), some (.int x4), some (.int x5), some (.int x6), some (.int x7), some (.int (268435456 : Int32)), some (.int x9), some (.int s0)]) dX12_pays_180 (by decide) rfl rfl ?_
    refine cj_iinc C (v := (x9 + 1)) (lv' := [some (.ref (w.2.1 150)), none, some (.int x2), some (.int x3), some (.int x4), some (.int x5), some (.int x6), some (.int x7), some (.int (268435456 : Int32)), some (.int (x9 + 1)), some (.int s0)]) dX12_pays_182 rfl rfl (by decide) rfl rfl ?_
    refine cj_goto C (tgt := 82) dX12_pays_185 rfl ?_
    refine cj_weak C (lv' := [some (.ref (w.2.1 150)), none, some (.int x2), some (.int x3), some (.int x4), some (.int x5), some (.int x6), some (.int x7), some (.int (268435456 : Int32)), some (.int (x9 + 1)), none]) (cpSub_s (cpSub_n (cpSub_s (cpSub_s (cpSub_s (cpSub_s (cpSub_s (cpSub_s (cpSub_s (cpSub_s (cpSub_n cpSub_nil))))))))))) ?_
    exact hk82 x7 (268435456 : Int32) (x9 + 1) S h
  · refine cj_iload C dX12_pays_161 rfl ?_
    refine cj_ldcw C (v := (268435456 : Int32)) mw_49_14 dX12_pays_163 ?_
    refine cj_icmp_ne C (tgt := 175) dX12_pays_166 rfl h (fun _ h => ?_) (fun _ h => ?_)
    · refine cj_ldcw C (v := (268435456 : Int32)) mw_49_14 dX12_pays_169 ?_
      refine cj_goto C (tgt := 180) dX12_pays_172 rfl ?_
      refine cj_istore C (lv' := [some (.ref (w.2.1 150)), none, some (.int x2), some (.int x3), some (.int x4), some (.int x5), some (.int x6), some (.int x7), some (.int (268435456 : Int32)), some (.int x9), some (.int s0)]) dX12_pays_180 (by decide) rfl rfl ?_
      refine cj_iinc C (v := (x9 + 1)) (lv' := [some (.ref (w.2.1 150)), none, some (.int x2), some (.int x3), some (.int x4), some (.int x5), some (.int x6), some (.int x7), some (.int (268435456 : Int32)), some (.int (x9 + 1)), some (.int s0)]) dX12_pays_182 rfl rfl (by decide) rfl rfl ?_
      refine cj_goto C (tgt := 82) dX12_pays_185 rfl ?_
      refine cj_weak C (lv' := [some (.ref (w.2.1 150)), none, some (.int x2), some (.int x3), some (.int x4), some (.int x5), some (.int x6), some (.int x7), some (.int (268435456 : Int32)), some (.int (x9 + 1)), none]) (cpSub_s (cpSub_n (cpSub_s (cpSub_s (cpSub_s (cpSub_s (cpSub_s (cpSub_s (cpSub_s (cpSub_s (cpSub_n cpSub_nil))))))))))) ?_
      exact hk82 x7 (268435456 : Int32) (x9 + 1) S h
    · refine cj_iload C dX12_pays_175 rfl ?_
      refine cj_iload C dX12_pays_177 rfl ?_
      refine cj_iadd C dX12_pays_179 ?_
      refine cj_let h (fun y1 h => ?_)
      refine cj_istore C (lv' := [some (.ref (w.2.1 150)), none, some (.int x2), some (.int x3), some (.int x4), some (.int x5), some (.int x6), some (.int x7), some (.int y1), some (.int x9), some (.int s0)]) dX12_pays_180 (by decide) rfl rfl ?_
      refine cj_iinc C (v := (x9 + 1)) (lv' := [some (.ref (w.2.1 150)), none, some (.int x2), some (.int x3), some (.int x4), some (.int x5), some (.int x6), some (.int x7), some (.int y1), some (.int (x9 + 1)), some (.int s0)]) dX12_pays_182 rfl rfl (by decide) rfl rfl ?_
      refine cj_goto C (tgt := 82) dX12_pays_185 rfl ?_
      refine cj_weak C (lv' := [some (.ref (w.2.1 150)), none, some (.int x2), some (.int x3), some (.int x4), some (.int x5), some (.int x6), some (.int x7), some (.int y1), some (.int (x9 + 1)), none]) (cpSub_s (cpSub_n (cpSub_s (cpSub_s (cpSub_s (cpSub_s (cpSub_s (cpSub_s (cpSub_s (cpSub_s (cpSub_n cpSub_nil))))))))))) ?_
      exact hk82 x7 y1 (x9 + 1) S h
def fX12_pays_120 (x2 : Int32) (x3 : Int32) (x4 : Int32) (x5 : Int32) (x6 : Int32) (x8 : Int32) (x9 : Int32) (s0 : Int32) (s1 : Int32) (k60 : Int32 → Int32 → Int32 → cpS → Option (Int32 × cpS)) (k82 : Int32 → Int32 → Int32 → cpS → Option (Int32 × cpS)) (S : cpS) : Option (Int32 × cpS) :=
    cpLt (s1 + s0) fun y1 =>
    cpB (fX12_isIn (Int32.toInt64 x6) x9 S) fun z2 S3 =>
    if z2 = 0 then (
    if cpIn x9 4 then (
    fX12_pays_151 x2 x3 x4 x5 x6 y1 x8 x9 (S3.1 165 x9.toNatClampNeg) k60 k82 S3) else none) else (
    if cpIn x9 4 then (
    fX12_pays_151 x2 x3 x4 x5 x6 y1 x8 x9 (S3.1 164 x9.toNatClampNeg) k60 k82 S3) else none)
set_option maxRecDepth 100000 in
set_option maxHeartbeats 4000000 in
theorem wX12_pays_120 (C : cpCx p s m args meth c w A cX12_pays RX12 11) (hr : meth.sig.returnType = (some .int)) {r : Int32 × cpS} (x2 : Int32) (x3 : Int32) (x4 : Int32) (x5 : Int32) (x6 : Int32) (x8 : Int32) (x9 : Int32) (s0 : Int32) (s1 : Int32) {k60 : Int32 → Int32 → Int32 → cpS → Option (Int32 × cpS)} (hk60 : ∀ (x4 : Int32) (x5 : Int32) (x6 : Int32) (S : cpS), k60 x4 x5 x6 S = some r → cpJ p l e (cpRm 8) s m args below meth c (MQ below (va_Qi (fun x S' => (x, S') = r) (cpWorld w A) A) args s 0 0 A) w A 11 60 [some (.ref (w.2.1 150)), none, some (.int x2), some (.int x3), some (.int x4), some (.int x5), some (.int x6), none, none, none, none] [] S) {k82 : Int32 → Int32 → Int32 → cpS → Option (Int32 × cpS)} (hk82 : ∀ (x7 : Int32) (x8 : Int32) (x9 : Int32) (S : cpS), k82 x7 x8 x9 S = some r → cpJ p l e (cpRm 8) s m args below meth c (MQ below (va_Qi (fun x S' => (x, S') = r) (cpWorld w A) A) args s 0 0 A) w A 11 82 [some (.ref (w.2.1 150)), none, some (.int x2), some (.int x3), some (.int x4), some (.int x5), some (.int x6), some (.int x7), some (.int x8), some (.int x9), none] [] S) (S : cpS) (h : fX12_pays_120 x2 x3 x4 x5 x6 x8 x9 s0 s1 k60 k82 S = some r) : cpJ p l e (cpRm 8) s m args below meth c (MQ below (va_Qi (fun x S' => (x, S') = r) (cpWorld w A) A) args s 0 0 A) w A 11 120 [some (.ref (w.2.1 150)), none, some (.int x2), some (.int x3), some (.int x4), some (.int x5), some (.int x6), none, some (.int x8), some (.int x9), none] [.int s0, .int s1] S := by
  rw [fX12_pays_120] at h
  refine cj_iadd C dX12_pays_120 ?_
  refine cj_let h (fun y1 h => ?_)
  refine cj_istore C (lv' := [some (.ref (w.2.1 150)), none, some (.int x2), some (.int x3), some (.int x4), some (.int x5), some (.int x6), some (.int y1), some (.int x8), some (.int x9), none]) dX12_pays_121 (by decide) rfl rfl ?_
  refine cj_iload C dX12_pays_123 rfl ?_
  refine cj_i2l C dX12_pays_125 ?_
  refine cj_iload C dX12_pays_126 rfl ?_
  refine cj_callSi C (As := [.long (Int32.toInt64 x6), .int x9]) (rest := []) qX12_isIn mw_36_4 rfl rfl (Nat.le_of_ble_eq_true rfl) (by decide) dX12_pays_128 h (fun _ _ hf => m_X12_isIn l w A (Int32.toInt64 x6) x9 S _ hf) (fun z2 S3 h => ?_)
  refine cj_if_eq C (tgt := 144) dX12_pays_131 rfl h (fun _ h => ?_) (fun _ h => ?_)
  · refine cj_aload_n C (i := 0) dX12_pays_144 rfl rfl ?_
    refine cj_getR C (d := 165) o_150 rfl gfX12_61 dX12_pays_145 ?_
    refine cj_iload C dX12_pays_148 rfl ?_
    refine cj_iaload C o_165 h dX12_pays_150 (fun h => ?_)
    exact wX12_pays_151 C hr x2 x3 x4 x5 x6 y1 x8 x9 (S3.1 165 x9.toNatClampNeg) hk60 hk82 S3 h
  · refine cj_aload_n C (i := 0) dX12_pays_134 rfl rfl ?_
    refine cj_getR C (d := 164) o_150 rfl gfX12_58 dX12_pays_135 ?_
    refine cj_iload C dX12_pays_138 rfl ?_
    refine cj_iaload C o_164 h dX12_pays_140 (fun h => ?_)
    refine cj_goto C (tgt := 151) dX12_pays_141 rfl ?_
    exact wX12_pays_151 C hr x2 x3 x4 x5 x6 y1 x8 x9 (S3.1 164 x9.toNatClampNeg) hk60 hk82 S3 h
def fX12_pays_82 (x2 : Int32) (x3 : Int32) (x4 : Int32) (x5 : Int32) (x6 : Int32) (k60 : Int32 → Int32 → Int32 → cpS → Option (Int32 × cpS)) : Nat → Int32 → Int32 → Int32 → cpS → Option (Int32 × cpS)
  | 0, _, _, _, _ => none
  | n + 1, x7, x8, x9, S =>
    if (S.1 151 4) ≤ x9 then (
    if x7 < x2 then (
    k60 x4 x5 (x6 + 1) S) else (
    if (2 : Int32) ≤ x3 then (
    fX12_pays_205 x2 x3 x4 x5 x6 x8 k60 S) else (
    if x2 < x7 then (
    k60 x4 x5 (x6 + 1) S) else (
    fX12_pays_205 x2 x3 x4 x5 x6 x8 k60 S)))) else (
    cpB (fX12_isIn (Int32.toInt64 x6) x9 S) fun z1 S2 =>
    if z1 = 0 then (
    fX12_pays_120 x2 x3 x4 x5 x6 x8 x9 (0 : Int32) x7 k60 (fX12_pays_82 x2 x3 x4 x5 x6 k60 n) S2) else (
    if cpIn ((58 : Int32) + x9) 3486 then (
    fX12_pays_120 x2 x3 x4 x5 x6 x8 x9 (S2.1 151 ((58 : Int32) + x9).toNatClampNeg) x7 k60 (fX12_pays_82 x2 x3 x4 x5 x6 k60 n) S2) else none))
set_option maxRecDepth 100000 in
set_option maxHeartbeats 4000000 in
theorem wX12_pays_82 (C : cpCx p s m args meth c w A cX12_pays RX12 11) (hr : meth.sig.returnType = (some .int)) {r : Int32 × cpS} (x2 : Int32) (x3 : Int32) (x4 : Int32) (x5 : Int32) (x6 : Int32) {k60 : Int32 → Int32 → Int32 → cpS → Option (Int32 × cpS)} (hk60 : ∀ (x4 : Int32) (x5 : Int32) (x6 : Int32) (S : cpS), k60 x4 x5 x6 S = some r → cpJ p l e (cpRm 8) s m args below meth c (MQ below (va_Qi (fun x S' => (x, S') = r) (cpWorld w A) A) args s 0 0 A) w A 11 60 [some (.ref (w.2.1 150)), none, some (.int x2), some (.int x3), some (.int x4), some (.int x5), some (.int x6), none, none, none, none] [] S) : ∀ (n : Nat) (x7 : Int32) (x8 : Int32) (x9 : Int32) (S : cpS), fX12_pays_82 x2 x3 x4 x5 x6 k60 n x7 x8 x9 S = some r → cpJ p l e (cpRm 8) s m args below meth c (MQ below (va_Qi (fun x S' => (x, S') = r) (cpWorld w A) A) args s 0 0 A) w A 11 82 [some (.ref (w.2.1 150)), none, some (.int x2), some (.int x3), some (.int x4), some (.int x5), some (.int x6), some (.int x7), some (.int x8), some (.int x9), none] [] S := by
  intro n
  induction n with
  | zero => intro x7 x8 x9 S h; rw [fX12_pays_82] at h; cases h
  | succ n ih =>
    intro x7 x8 x9 S h
    rw [fX12_pays_82] at h
    refine cj_iload C dX12_pays_82 rfl ?_
    refine cj_aload_n C (i := 0) dX12_pays_84 rfl rfl ?_
    refine cj_getR C (d := 151) o_150 rfl gfX12_13 dX12_pays_85 ?_
    refine cj_iconst C (v := (4 : Int32)) dX12_pays_88 rfl ?_
    refine cj_ialoadC C (j := 4) o_151 (by decide) (by decide) dX12_pays_89 ?_
    refine cj_icmp_ge C (tgt := 188) dX12_pays_90 rfl h (fun _ h => ?_) (fun _ h => ?_)
    · refine cj_iload C dX12_pays_188 rfl ?_
      refine cj_iload_n C (i := 2) dX12_pays_190 rfl rfl ?_
      refine cj_icmp_lt C (tgt := 223) dX12_pays_191 rfl h (fun _ h => ?_) (fun _ h => ?_)
      · refine cj_iinc C (v := (x6 + 1)) (lv' := [some (.ref (w.2.1 150)), none, some (.int x2), some (.int x3), some (.int x4), some (.int x5), some (.int (x6 + 1)), some (.int x7), some (.int x8), some (.int x9), none]) dX12_pays_223 rfl rfl (by decide) rfl rfl ?_
        refine cj_goto C (tgt := 60) dX12_pays_226 rfl ?_
        refine cj_weak C (lv' := [some (.ref (w.2.1 150)), none, some (.int x2), some (.int x3), some (.int x4), some (.int x5), some (.int (x6 + 1)), none, none, none, none]) (cpSub_s (cpSub_n (cpSub_s (cpSub_s (cpSub_s (cpSub_s (cpSub_s (cpSub_n (cpSub_n (cpSub_n (cpSub_n cpSub_nil))))))))))) ?_
        exact hk60 x4 x5 (x6 + 1) S h
      · refine cj_iload_n C (i := 3) dX12_pays_194 rfl rfl ?_
        refine cj_iconst C (v := (2 : Int32)) dX12_pays_195 rfl ?_
        refine cj_icmp_ge C (tgt := 205) dX12_pays_196 rfl h (fun _ h => ?_) (fun _ h => ?_)
        · refine cj_weak C (lv' := [some (.ref (w.2.1 150)), none, some (.int x2), some (.int x3), some (.int x4), some (.int x5), some (.int x6), none, some (.int x8), none, none]) (cpSub_s (cpSub_n (cpSub_s (cpSub_s (cpSub_s (cpSub_s (cpSub_s (cpSub_n (cpSub_s (cpSub_n (cpSub_n cpSub_nil))))))))))) ?_
          exact wX12_pays_205 C hr x2 x3 x4 x5 x6 x8 hk60 S h
        · refine cj_iload C dX12_pays_199 rfl ?_
          refine cj_iload_n C (i := 2) dX12_pays_201 rfl rfl ?_
          refine cj_icmp_gt C (tgt := 223) dX12_pays_202 rfl h (fun _ h => ?_) (fun _ h => ?_)
          · refine cj_iinc C (v := (x6 + 1)) (lv' := [some (.ref (w.2.1 150)), none, some (.int x2), some (.int x3), some (.int x4), some (.int x5), some (.int (x6 + 1)), some (.int x7), some (.int x8), some (.int x9), none]) dX12_pays_223 rfl rfl (by decide) rfl rfl ?_
            refine cj_goto C (tgt := 60) dX12_pays_226 rfl ?_
            refine cj_weak C (lv' := [some (.ref (w.2.1 150)), none, some (.int x2), some (.int x3), some (.int x4), some (.int x5), some (.int (x6 + 1)), none, none, none, none]) (cpSub_s (cpSub_n (cpSub_s (cpSub_s (cpSub_s (cpSub_s (cpSub_s (cpSub_n (cpSub_n (cpSub_n (cpSub_n cpSub_nil))))))))))) ?_
            exact hk60 x4 x5 (x6 + 1) S h
          · refine cj_weak C (lv' := [some (.ref (w.2.1 150)), none, some (.int x2), some (.int x3), some (.int x4), some (.int x5), some (.int x6), none, some (.int x8), none, none]) (cpSub_s (cpSub_n (cpSub_s (cpSub_s (cpSub_s (cpSub_s (cpSub_s (cpSub_n (cpSub_s (cpSub_n (cpSub_n cpSub_nil))))))))))) ?_
            exact wX12_pays_205 C hr x2 x3 x4 x5 x6 x8 hk60 S h
    · refine cj_iload C dX12_pays_93 rfl ?_
      refine cj_iload C dX12_pays_95 rfl ?_
      refine cj_i2l C dX12_pays_97 ?_
      refine cj_iload C dX12_pays_98 rfl ?_
      refine cj_callSi C (As := [.long (Int32.toInt64 x6), .int x9]) (rest := [.int x7]) qX12_isIn mw_36_4 rfl rfl (Nat.le_of_ble_eq_true rfl) (by decide) dX12_pays_100 h (fun _ _ hf => m_X12_isIn l w A (Int32.toInt64 x6) x9 S _ hf) (fun z1 S2 h => ?_)
      refine cj_if_eq C (tgt := 119) dX12_pays_103 rfl h (fun _ h => ?_) (fun _ h => ?_)
      · refine cj_iconst C (v := (0 : Int32)) dX12_pays_119 rfl ?_
        refine cj_weak C (lv' := [some (.ref (w.2.1 150)), none, some (.int x2), some (.int x3), some (.int x4), some (.int x5), some (.int x6), none, some (.int x8), some (.int x9), none]) (cpSub_s (cpSub_n (cpSub_s (cpSub_s (cpSub_s (cpSub_s (cpSub_s (cpSub_n (cpSub_s (cpSub_s (cpSub_n cpSub_nil))))))))))) ?_
        exact wX12_pays_120 C hr x2 x3 x4 x5 x6 x8 x9 (0 : Int32) x7 hk60 ih S2 h
      · refine cj_aload_n C (i := 0) dX12_pays_106 rfl rfl ?_
        refine cj_getR C (d := 151) o_150 rfl gfX12_13 dX12_pays_107 ?_
        refine cj_bipush C (v := (58 : Int32)) dX12_pays_110 rfl ?_
        refine cj_iload C dX12_pays_112 rfl ?_
        refine cj_iadd C dX12_pays_114 ?_
        refine cj_iaload C o_151 h dX12_pays_115 (fun h => ?_)
        refine cj_goto C (tgt := 120) dX12_pays_116 rfl ?_
        refine cj_weak C (lv' := [some (.ref (w.2.1 150)), none, some (.int x2), some (.int x3), some (.int x4), some (.int x5), some (.int x6), none, some (.int x8), some (.int x9), none]) (cpSub_s (cpSub_n (cpSub_s (cpSub_s (cpSub_s (cpSub_s (cpSub_s (cpSub_n (cpSub_s (cpSub_s (cpSub_n cpSub_nil))))))))))) ?_
        exact wX12_pays_120 C hr x2 x3 x4 x5 x6 x8 x9 (S2.1 151 ((58 : Int32) + x9).toNatClampNeg) x7 hk60 ih S2 h
def fX12_pays_60 (x2 : Int32) (x3 : Int32) : Nat → Int32 → Int32 → Int32 → cpS → Option (Int32 × cpS)
  | 0, _, _, _, _ => none
  | n + 1, x4, x5, x6, S =>
    if (cpShl (1 : Int32) (S.1 151 4)) ≤ x6 then (
    if x4 = (-1 : Int32) then (
    some (x4, S)) else (
    if (cpRem x3 (2 : Int32)) = (1 : Int32) then (
    some (x4, S)) else (
    some (x5, S)))) else (
    fX12_pays_82 x2 x3 x4 x5 x6 (fX12_pays_60 x2 x3 n) cpFu (0 : Int32) (0 : Int32) (0 : Int32) S)
set_option maxRecDepth 100000 in
set_option maxHeartbeats 4000000 in
theorem wX12_pays_60 (C : cpCx p s m args meth c w A cX12_pays RX12 11) (hr : meth.sig.returnType = (some .int)) {r : Int32 × cpS} (x2 : Int32) (x3 : Int32) : ∀ (n : Nat) (x4 : Int32) (x5 : Int32) (x6 : Int32) (S : cpS), fX12_pays_60 x2 x3 n x4 x5 x6 S = some r → cpJ p l e (cpRm 8) s m args below meth c (MQ below (va_Qi (fun x S' => (x, S') = r) (cpWorld w A) A) args s 0 0 A) w A 11 60 [some (.ref (w.2.1 150)), none, some (.int x2), some (.int x3), some (.int x4), some (.int x5), some (.int x6), none, none, none, none] [] S := by
  intro n
  induction n with
  | zero => intro x4 x5 x6 S h; rw [fX12_pays_60] at h; cases h
  | succ n ih =>
    intro x4 x5 x6 S h
    rw [fX12_pays_60] at h
    refine cj_iload C dX12_pays_60 rfl ?_
    refine cj_iconst C (v := (1 : Int32)) dX12_pays_62 rfl ?_
    refine cj_aload_n C (i := 0) dX12_pays_63 rfl rfl ?_
    refine cj_getR C (d := 151) o_150 rfl gfX12_13 dX12_pays_64 ?_
    refine cj_iconst C (v := (4 : Int32)) dX12_pays_67 rfl ?_
    refine cj_ialoadC C (j := 4) o_151 (by decide) (by decide) dX12_pays_68 ?_
    refine ck_ishl C dX12_pays_69 ?_
    refine cj_icmp_ge C (tgt := 229) dX12_pays_70 rfl h (fun _ h => ?_) (fun _ h => ?_)
    · refine cj_iload C dX12_pays_229 rfl ?_
      refine cj_iconst C (v := (-1 : Int32)) dX12_pays_231 rfl ?_
      refine cj_icmp_eq C (tgt := 242) dX12_pays_232 rfl h (fun _ h => ?_) (fun _ h => ?_)
      · refine cj_iload C dX12_pays_242 rfl ?_
        refine cj_goto C (tgt := 249) dX12_pays_244 rfl ?_
        exact cj_ireturn C hr h dX12_pays_249
      · refine cj_iload_n C (i := 3) dX12_pays_235 rfl rfl ?_
        refine cj_iconst C (v := (2 : Int32)) dX12_pays_236 rfl ?_
        refine ck_irem C dX12_pays_237 (by decide) ?_
        refine cj_iconst C (v := (1 : Int32)) dX12_pays_238 rfl ?_
        refine cj_icmp_ne C (tgt := 247) dX12_pays_239 rfl h (fun _ h => ?_) (fun _ h => ?_)
        · refine cj_iload C dX12_pays_242 rfl ?_
          refine cj_goto C (tgt := 249) dX12_pays_244 rfl ?_
          exact cj_ireturn C hr h dX12_pays_249
        · refine cj_iload C dX12_pays_247 rfl ?_
          exact cj_ireturn C hr h dX12_pays_249
    · refine cj_iconst C (v := (0 : Int32)) dX12_pays_73 rfl ?_
      refine cj_istore C (lv' := [some (.ref (w.2.1 150)), none, some (.int x2), some (.int x3), some (.int x4), some (.int x5), some (.int x6), some (.int (0 : Int32)), none, none, none]) dX12_pays_74 (by decide) rfl rfl ?_
      refine cj_iconst C (v := (0 : Int32)) dX12_pays_76 rfl ?_
      refine cj_istore C (lv' := [some (.ref (w.2.1 150)), none, some (.int x2), some (.int x3), some (.int x4), some (.int x5), some (.int x6), some (.int (0 : Int32)), some (.int (0 : Int32)), none, none]) dX12_pays_77 (by decide) rfl rfl ?_
      refine cj_iconst C (v := (0 : Int32)) dX12_pays_79 rfl ?_
      refine cj_istore C (lv' := [some (.ref (w.2.1 150)), none, some (.int x2), some (.int x3), some (.int x4), some (.int x5), some (.int x6), some (.int (0 : Int32)), some (.int (0 : Int32)), some (.int (0 : Int32)), none]) dX12_pays_80 (by decide) rfl rfl ?_
      exact wX12_pays_82 C hr x2 x3 x4 x5 x6 ih cpFu (0 : Int32) (0 : Int32) (0 : Int32) S h
def fX12_pays (x1 : Int32) (x2 : Int32) (x3 : Int32) (S : cpS) : Option (Int32 × cpS) :=
    cpLt (cpI S 150 0 (0 : Int32)) fun S1 =>
    cpB (fX12_isPlace (Int32.toInt64 x1) S1) fun z2 S3 =>
    if z2 = 0 then (
    some ((-2 : Int32), S3)) else (
    cpB (fX12_within (Int32.toInt64 x3) (0 : Int64) (3 : Int64) S3) fun z4 S5 =>
    if z4 = 0 then (
    some ((-2 : Int32), S5)) else (
    cpB (fX12_within (Int32.toInt64 x2) (0 : Int64) (999 : Int64) S5) fun z6 S7 =>
    if z6 = 0 then (
    some ((-3 : Int32), S7)) else (
    cpB (fX12_laysPaying x1 S7) fun _ S9 =>
    fX12_pays_60 x2 x3 cpFu (-1 : Int32) (268435456 : Int32) (0 : Int32) S9)))
set_option maxRecDepth 100000 in
set_option maxHeartbeats 4000000 in
theorem m_X12_pays (l : Launch) (w : cpW) (A : Nat → Prop) (x1 : Int32) (x2 : Int32) (x3 : Int32) (S : cpS) (r : Int32 × cpS) (h : fX12_pays x1 x2 x3 S = some r) : cpMi l yX12_pays cX12_pays 11 ((some .int)) 8 w A [.ref (w.2.1 150), .int x1, .int x2, .int x3] S r := by
  refine cpMi.of (lv := [some (.ref (w.2.1 150)), some (.int x1), some (.int x2), some (.int x3), none, none, none, none, none, none, none]) (by decide) (Nat.le_of_ble_eq_true rfl) rfl (fun p e s m args below meth c C hr => ?_)
  replace C : cpCx p s m args meth c w A cX12_pays RX12 11 := C
  rw [fX12_pays] at h
  refine cj_aload_n C (i := 0) dX12_pays_0 rfl rfl ?_
  refine cj_iconst C (v := (0 : Int32)) dX12_pays_1 rfl ?_
  refine cj_put C (j := 0) o_150 rfl pfX12_1 rfl rfl dX12_pays_2 ?_
  refine cj_lets h (fun S1 h => ?_)
  refine cj_aload_n C (i := 0) dX12_pays_5 rfl rfl ?_
  refine cj_iload_n C (i := 1) dX12_pays_6 rfl rfl ?_
  refine cj_i2l C dX12_pays_7 ?_
  refine cj_callVi C (As := [.long (Int32.toInt64 x1)]) (rest := []) qX12_isPlace mw_31_19 o_150 rfl rfl rfl (Nat.le_of_ble_eq_true rfl) (by decide) dX12_pays_8 h (fun _ _ hf => m_X12_isPlace l w A (Int32.toInt64 x1) S1 _ hf) (fun z2 S3 h => ?_)
  refine cj_if_eq C (tgt := 26) dX12_pays_11 rfl h (fun _ h => ?_) (fun _ h => ?_)
  · refine cj_bipush C (v := (-2 : Int32)) dX12_pays_26 rfl ?_
    exact cj_ireturn C hr h dX12_pays_28
  · refine cj_iload_n C (i := 3) dX12_pays_14 rfl rfl ?_
    refine cj_i2l C dX12_pays_15 ?_
    refine cj_lconst C (v := (0 : Int64)) dX12_pays_16 rfl ?_
    refine cj_ldc2 C (v := (3 : Int64)) mw_44_8 dX12_pays_17 ?_
    refine cj_callSi C (As := [.long (Int32.toInt64 x3), .long (0 : Int64), .long (3 : Int64)]) (rest := []) qX12_within mw_23_15 rfl rfl (Nat.le_of_ble_eq_true rfl) (by decide) dX12_pays_20 h (fun _ _ hf => m_X12_within l w A (Int32.toInt64 x3) (0 : Int64) (3 : Int64) S3 _ hf) (fun z4 S5 h => ?_)
    refine cj_if_ne C (tgt := 29) dX12_pays_23 rfl h (fun _ h => ?_) (fun _ h => ?_)
    · refine cj_bipush C (v := (-2 : Int32)) dX12_pays_26 rfl ?_
      exact cj_ireturn C hr h dX12_pays_28
    · refine cj_iload_n C (i := 2) dX12_pays_29 rfl rfl ?_
      refine cj_i2l C dX12_pays_30 ?_
      refine cj_lconst C (v := (0 : Int64)) dX12_pays_31 rfl ?_
      refine cj_ldc2 C (v := (999 : Int64)) mw_53_20 dX12_pays_32 ?_
      refine cj_callSi C (As := [.long (Int32.toInt64 x2), .long (0 : Int64), .long (999 : Int64)]) (rest := []) qX12_within mw_23_15 rfl rfl (Nat.le_of_ble_eq_true rfl) (by decide) dX12_pays_35 h (fun _ _ hf => m_X12_within l w A (Int32.toInt64 x2) (0 : Int64) (999 : Int64) S5 _ hf) (fun z6 S7 h => ?_)
      refine cj_if_ne C (tgt := 44) dX12_pays_38 rfl h (fun _ h => ?_) (fun _ h => ?_)
      · refine cj_bipush C (v := (-3 : Int32)) dX12_pays_41 rfl ?_
        exact cj_ireturn C hr h dX12_pays_43
      · refine cj_aload_n C (i := 0) dX12_pays_44 rfl rfl ?_
        refine cj_iload_n C (i := 1) dX12_pays_45 rfl rfl ?_
        refine cj_callVv C (As := [.int x1]) (rest := []) qX12_laysPaying mw_53_21 o_150 rfl rfl rfl (Nat.le_of_ble_eq_true rfl) (by decide) dX12_pays_46 h (fun _ _ hf => m_X12_laysPaying l w A x1 S7 _ hf) (fun z8 S9 h => ?_)
        refine cj_iconst C (v := (-1 : Int32)) dX12_pays_49 rfl ?_
        refine cj_istore C (lv' := [some (.ref (w.2.1 150)), some (.int x1), some (.int x2), some (.int x3), some (.int (-1 : Int32)), none, none, none, none, none, none]) dX12_pays_50 (by decide) rfl rfl ?_
        refine cj_ldcw C (v := (268435456 : Int32)) mw_49_14 dX12_pays_52 ?_
        refine cj_istore C (lv' := [some (.ref (w.2.1 150)), some (.int x1), some (.int x2), some (.int x3), some (.int (-1 : Int32)), some (.int (268435456 : Int32)), none, none, none, none, none]) dX12_pays_55 (by decide) rfl rfl ?_
        refine cj_iconst C (v := (0 : Int32)) dX12_pays_57 rfl ?_
        refine cj_istore C (lv' := [some (.ref (w.2.1 150)), some (.int x1), some (.int x2), some (.int x3), some (.int (-1 : Int32)), some (.int (268435456 : Int32)), some (.int (0 : Int32)), none, none, none, none]) dX12_pays_58 (by decide) rfl rfl ?_
        refine cj_weak C (lv' := [some (.ref (w.2.1 150)), none, some (.int x2), some (.int x3), some (.int (-1 : Int32)), some (.int (268435456 : Int32)), some (.int (0 : Int32)), none, none, none, none]) (cpSub_s (cpSub_n (cpSub_s (cpSub_s (cpSub_s (cpSub_s (cpSub_s (cpSub_n (cpSub_n (cpSub_n (cpSub_n cpSub_nil))))))))))) ?_
        exact wX12_pays_60 C hr x2 x3 cpFu (-1 : Int32) (268435456 : Int32) (0 : Int32) S9 h
/-! X12_canPair -/
def fX12_canPair (x1 : Int32) (x2 : Int32) (x3 : Int32) (S : cpS) : Option (Int32 × cpS) :=
    cpB (fX12_haveQuarrelled x1 x2 S) fun z1 S2 =>
    if z1 = 0 then (
    if cpIn ((46 : Int32) + x1) 3486 then (
    if cpIn ((46 : Int32) + x2) 3486 then (
    if ((S2.1 151 ((46 : Int32) + x1).toNatClampNeg) + (S2.1 151 ((46 : Int32) + x2).toNatClampNeg)) < x3 then (
    some ((0 : Int32), S2)) else (
    some ((1 : Int32), S2))) else none) else none) else (
    some ((0 : Int32), S2))
set_option maxRecDepth 100000 in
set_option maxHeartbeats 4000000 in
theorem m_X12_canPair (l : Launch) (w : cpW) (A : Nat → Prop) (x1 : Int32) (x2 : Int32) (x3 : Int32) (S : cpS) (r : Int32 × cpS) (h : fX12_canPair x1 x2 x3 S = some r) : cpMi l yX12_canPair cX12_canPair 4 ((some .boolean)) 2 w A [.ref (w.2.1 150), .int x1, .int x2, .int x3] S r := by
  refine cpMi.of (lv := [some (.ref (w.2.1 150)), some (.int x1), some (.int x2), some (.int x3)]) (by decide) (Nat.le_of_ble_eq_true rfl) rfl (fun p e s m args below meth c C hr => ?_)
  replace C : cpCx p s m args meth c w A cX12_canPair RX12 4 := C
  rw [fX12_canPair] at h
  refine cj_aload_n C (i := 0) dX12_canPair_0 rfl rfl ?_
  refine cj_iload_n C (i := 1) dX12_canPair_1 rfl rfl ?_
  refine cj_iload_n C (i := 2) dX12_canPair_2 rfl rfl ?_
  refine cj_callVi C (As := [.int x1, .int x2]) (rest := []) qX12_haveQuarrelled mw_36_0 o_150 rfl rfl rfl (Nat.le_of_ble_eq_true rfl) (by decide) dX12_canPair_3 h (fun _ _ hf => m_X12_haveQuarrelled l w A x1 x2 S _ hf) (fun z1 S2 h => ?_)
  refine cj_if_ne C (tgt := 36) dX12_canPair_6 rfl h (fun _ h => ?_) (fun _ h => ?_)
  · refine cj_aload_n C (i := 0) dX12_canPair_9 rfl rfl ?_
    refine cj_getR C (d := 151) o_150 rfl gfX12_13 dX12_canPair_10 ?_
    refine cj_bipush C (v := (46 : Int32)) dX12_canPair_13 rfl ?_
    refine cj_iload_n C (i := 1) dX12_canPair_15 rfl rfl ?_
    refine cj_iadd C dX12_canPair_16 ?_
    refine cj_iaload C o_151 h dX12_canPair_17 (fun h => ?_)
    refine cj_aload_n C (i := 0) dX12_canPair_18 rfl rfl ?_
    refine cj_getR C (d := 151) o_150 rfl gfX12_13 dX12_canPair_19 ?_
    refine cj_bipush C (v := (46 : Int32)) dX12_canPair_22 rfl ?_
    refine cj_iload_n C (i := 2) dX12_canPair_24 rfl rfl ?_
    refine cj_iadd C dX12_canPair_25 ?_
    refine cj_iaload C o_151 h dX12_canPair_26 (fun h => ?_)
    refine cj_iadd C dX12_canPair_27 ?_
    refine cj_iload_n C (i := 3) dX12_canPair_28 rfl rfl ?_
    refine cj_icmp_lt C (tgt := 36) dX12_canPair_29 rfl h (fun _ h => ?_) (fun _ h => ?_)
    · refine cj_iconst C (v := (0 : Int32)) dX12_canPair_36 rfl ?_
      exact cj_zreturn C hr rfl h dX12_canPair_37
    · refine cj_iconst C (v := (1 : Int32)) dX12_canPair_32 rfl ?_
      refine cj_goto C (tgt := 37) dX12_canPair_33 rfl ?_
      exact cj_zreturn C hr rfl h dX12_canPair_37
  · refine cj_iconst C (v := (0 : Int32)) dX12_canPair_36 rfl ?_
    exact cj_zreturn C hr rfl h dX12_canPair_37
/-! X12_leastOf -/
def fX12_leastOf_2 (x0 : Int32) : Nat → Int32 → cpS → Option (Int32 × cpS)
  | 0, _, _ => none
  | n + 1, x1, S =>
    cpB (fX12_isIn (Int32.toInt64 x0) x1 S) fun z1 S2 =>
    if z1 = 0 then (
    fX12_leastOf_2 x0 n (x1 + 1) S2) else (
    some (x1, S2))
set_option maxRecDepth 100000 in
set_option maxHeartbeats 4000000 in
theorem wX12_leastOf_2 (C : cpCx p s m args meth c w A cX12_leastOf RX12 2) (hr : meth.sig.returnType = (some .int)) {r : Int32 × cpS} (x0 : Int32) : ∀ (n : Nat) (x1 : Int32) (S : cpS), fX12_leastOf_2 x0 n x1 S = some r → cpJ p l e (cpRm 1) s m args below meth c (MQ below (va_Qi (fun x S' => (x, S') = r) (cpWorld w A) A) args s 0 0 A) w A 2 2 [some (.int x0), some (.int x1)] [] S := by
  intro n
  induction n with
  | zero => intro x1 S h; rw [fX12_leastOf_2] at h; cases h
  | succ n ih =>
    intro x1 S h
    rw [fX12_leastOf_2] at h
    refine cj_iload_n C (i := 0) dX12_leastOf_2 rfl rfl ?_
    refine cj_i2l C dX12_leastOf_3 ?_
    refine cj_iload_n C (i := 1) dX12_leastOf_4 rfl rfl ?_
    refine cj_callSi C (As := [.long (Int32.toInt64 x0), .int x1]) (rest := []) qX12_isIn mw_36_4 rfl rfl (Nat.le_of_ble_eq_true rfl) (by decide) dX12_leastOf_5 h (fun _ _ hf => m_X12_isIn l w A (Int32.toInt64 x0) x1 S _ hf) (fun z1 S2 h => ?_)
    refine cj_if_ne C (tgt := 17) dX12_leastOf_8 rfl h (fun _ h => ?_) (fun _ h => ?_)
    · refine cj_iinc C (v := (x1 + 1)) (lv' := [some (.int x0), some (.int (x1 + 1))]) dX12_leastOf_11 rfl rfl (by decide) rfl rfl ?_
      refine cj_goto C (tgt := 2) dX12_leastOf_14 rfl ?_
      exact ih (x1 + 1) S2 h
    · refine cj_iload_n C (i := 1) dX12_leastOf_17 rfl rfl ?_
      exact cj_ireturn C hr h dX12_leastOf_18
def fX12_leastOf (x0 : Int32) (S : cpS) : Option (Int32 × cpS) :=
    fX12_leastOf_2 x0 cpFu (0 : Int32) S
set_option maxRecDepth 100000 in
set_option maxHeartbeats 4000000 in
theorem m_X12_leastOf (l : Launch) (w : cpW) (A : Nat → Prop) (x0 : Int32) (S : cpS) (r : Int32 × cpS) (h : fX12_leastOf x0 S = some r) : cpMi l yX12_leastOf cX12_leastOf 2 ((some .int)) 1 w A [.int x0] S r := by
  refine cpMi.of (lv := [some (.int x0), none]) (by decide) (Nat.le_of_ble_eq_true rfl) rfl (fun p e s m args below meth c C hr => ?_)
  replace C : cpCx p s m args meth c w A cX12_leastOf RX12 2 := C
  rw [fX12_leastOf] at h
  refine cj_iconst C (v := (0 : Int32)) dX12_leastOf_0 rfl ?_
  refine cj_istore_n C (i := 1) (lv' := [some (.int x0), some (.int (0 : Int32))]) dX12_leastOf_1 rfl (by decide) rfl rfl ?_
  exact wX12_leastOf_2 C hr x0 cpFu (0 : Int32) S h
/-! X12_laysPairs -/
def fX12_laysPairs_49 (x1 : Int32) (x2 : Int32) (x3 : Int32) (x4 : Int32) (k9 : Int32 → cpS → Option (Unit × cpS)) : Nat → Int32 → Int32 → cpS → Option (Unit × cpS)
  | 0, _, _, _ => none
  | n + 1, x5, x6, S =>
    if (S.1 151 3) ≤ x6 then (
    if cpIn x2 256 then (
    cpLt (cpI S 166 x2.toNatClampNeg x5) fun S1 =>
    k9 (x2 + 1) S1) else none) else (
    cpB (fX12_isIn (Int32.toInt64 x4) x6 S) fun z2 S3 =>
    if z2 = 0 then (
    fX12_laysPairs_49 x1 x2 x3 x4 k9 n x5 (x6 + 1) S3) else (
    cpB (fX12_canPair x3 x6 x1 S3) fun z4 S5 =>
    if z4 = 0 then (
    fX12_laysPairs_49 x1 x2 x3 x4 k9 n x5 (x6 + 1) S5) else (
    if cpIn (x4 &&& ((cpShl (1 : Int32) x6) ^^^ (-1 : Int32))) 256 then (
    cpLt ((1 : Int32) + (S5.1 166 (x4 &&& ((cpShl (1 : Int32) x6) ^^^ (-1 : Int32))).toNatClampNeg)) fun y6 =>
    if y6 ≤ x5 then (
    fX12_laysPairs_49 x1 x2 x3 x4 k9 n x5 (x6 + 1) S5) else (
    fX12_laysPairs_49 x1 x2 x3 x4 k9 n y6 (x6 + 1) S5)) else none)))
set_option maxRecDepth 100000 in
set_option maxHeartbeats 4000000 in
theorem wX12_laysPairs_49 (C : cpCx p s m args meth c w A cX12_laysPairs RX12 8) (hr : meth.sig.returnType = none) {r : Unit × cpS} (x1 : Int32) (x2 : Int32) (x3 : Int32) (x4 : Int32) {k9 : Int32 → cpS → Option (Unit × cpS)} (hk9 : ∀ (x2 : Int32) (S : cpS), k9 x2 S = some r → cpJ p l e (cpRm 3) s m args below meth c (MQ below (va_Qv (fun S' => ((), S') = r) (cpWorld w A) A) args s 0 0 A) w A 8 9 [some (.ref (w.2.1 150)), some (.int x1), some (.int x2), none, none, none, none, none] [] S) : ∀ (n : Nat) (x5 : Int32) (x6 : Int32) (S : cpS), fX12_laysPairs_49 x1 x2 x3 x4 k9 n x5 x6 S = some r → cpJ p l e (cpRm 3) s m args below meth c (MQ below (va_Qv (fun S' => ((), S') = r) (cpWorld w A) A) args s 0 0 A) w A 8 49 [some (.ref (w.2.1 150)), some (.int x1), some (.int x2), some (.int x3), some (.int x4), some (.int x5), some (.int x6), none] [] S := by
  intro n
  induction n with
  | zero => intro x5 x6 S h; rw [fX12_laysPairs_49] at h; cases h
  | succ n ih =>
    intro x5 x6 S h
    rw [fX12_laysPairs_49] at h
    refine cj_iload C dX12_laysPairs_49 rfl ?_
    refine cj_aload_n C (i := 0) dX12_laysPairs_51 rfl rfl ?_
    refine cj_getR C (d := 151) o_150 rfl gfX12_13 dX12_laysPairs_52 ?_
    refine cj_iconst C (v := (3 : Int32)) dX12_laysPairs_55 rfl ?_
    refine cj_ialoadC C (j := 3) o_151 (by decide) (by decide) dX12_laysPairs_56 ?_
    refine cj_icmp_ge C (tgt := 125) dX12_laysPairs_57 rfl h (fun _ h => ?_) (fun _ h => ?_)
    · refine cj_aload_n C (i := 0) dX12_laysPairs_125 rfl rfl ?_
      refine cj_getR C (d := 166) o_150 rfl gfX12_64 dX12_laysPairs_126 ?_
      refine cj_iload_n C (i := 2) dX12_laysPairs_129 rfl rfl ?_
      refine cj_iload C dX12_laysPairs_130 rfl ?_
      refine cj_iastore C o_166 h dX12_laysPairs_132 (fun h => ?_)
      refine cj_lets h (fun S1 h => ?_)
      refine cj_iinc C (v := (x2 + 1)) (lv' := [some (.ref (w.2.1 150)), some (.int x1), some (.int (x2 + 1)), some (.int x3), some (.int x4), some (.int x5), some (.int x6), none]) dX12_laysPairs_133 rfl rfl (by decide) rfl rfl ?_
      refine cj_goto C (tgt := 9) dX12_laysPairs_136 rfl ?_
      refine cj_weak C (lv' := [some (.ref (w.2.1 150)), some (.int x1), some (.int (x2 + 1)), none, none, none, none, none]) (cpSub_s (cpSub_s (cpSub_s (cpSub_n (cpSub_n (cpSub_n (cpSub_n (cpSub_n cpSub_nil)))))))) ?_
      exact hk9 (x2 + 1) S1 h
    · refine cj_iload C dX12_laysPairs_60 rfl ?_
      refine cj_i2l C dX12_laysPairs_62 ?_
      refine cj_iload C dX12_laysPairs_63 rfl ?_
      refine cj_callSi C (As := [.long (Int32.toInt64 x4), .int x6]) (rest := []) qX12_isIn mw_36_4 rfl rfl (Nat.le_of_ble_eq_true rfl) (by decide) dX12_laysPairs_65 h (fun _ _ hf => m_X12_isIn l w A (Int32.toInt64 x4) x6 S _ hf) (fun z2 S3 h => ?_)
      refine cj_if_eq C (tgt := 119) dX12_laysPairs_68 rfl h (fun _ h => ?_) (fun _ h => ?_)
      · refine cj_iinc C (v := (x6 + 1)) (lv' := [some (.ref (w.2.1 150)), some (.int x1), some (.int x2), some (.int x3), some (.int x4), some (.int x5), some (.int (x6 + 1)), none]) dX12_laysPairs_119 rfl rfl (by decide) rfl rfl ?_
        refine cj_goto C (tgt := 49) dX12_laysPairs_122 rfl ?_
        exact ih x5 (x6 + 1) S3 h
      · refine cj_aload_n C (i := 0) dX12_laysPairs_71 rfl rfl ?_
        refine cj_iload_n C (i := 3) dX12_laysPairs_72 rfl rfl ?_
        refine cj_iload C dX12_laysPairs_73 rfl ?_
        refine cj_iload_n C (i := 1) dX12_laysPairs_75 rfl rfl ?_
        refine cj_callVi C (As := [.int x3, .int x6, .int x1]) (rest := []) qX12_canPair mw_56_3 o_150 rfl rfl rfl (Nat.le_of_ble_eq_true rfl) (by decide) dX12_laysPairs_76 h (fun _ _ hf => m_X12_canPair l w A x3 x6 x1 S3 _ hf) (fun z4 S5 h => ?_)
        refine cj_if_ne C (tgt := 85) dX12_laysPairs_79 rfl h (fun _ h => ?_) (fun _ h => ?_)
        · refine cj_goto C (tgt := 119) dX12_laysPairs_82 rfl ?_
          refine cj_iinc C (v := (x6 + 1)) (lv' := [some (.ref (w.2.1 150)), some (.int x1), some (.int x2), some (.int x3), some (.int x4), some (.int x5), some (.int (x6 + 1)), none]) dX12_laysPairs_119 rfl rfl (by decide) rfl rfl ?_
          refine cj_goto C (tgt := 49) dX12_laysPairs_122 rfl ?_
          exact ih x5 (x6 + 1) S5 h
        · refine cj_iconst C (v := (1 : Int32)) dX12_laysPairs_85 rfl ?_
          refine cj_aload_n C (i := 0) dX12_laysPairs_86 rfl rfl ?_
          refine cj_getR C (d := 166) o_150 rfl gfX12_64 dX12_laysPairs_87 ?_
          refine cj_iload C dX12_laysPairs_90 rfl ?_
          refine cj_iconst C (v := (1 : Int32)) dX12_laysPairs_92 rfl ?_
          refine cj_iload C dX12_laysPairs_93 rfl ?_
          refine ck_ishl C dX12_laysPairs_95 ?_
          refine cj_iconst C (v := (-1 : Int32)) dX12_laysPairs_96 rfl ?_
          refine cj_ixor C dX12_laysPairs_97 ?_
          refine cj_iand C dX12_laysPairs_98 ?_
          refine cj_iaload C o_166 h dX12_laysPairs_99 (fun h => ?_)
          refine cj_iadd C dX12_laysPairs_100 ?_
          refine cj_let h (fun y6 h => ?_)
          refine cj_istore C (lv' := [some (.ref (w.2.1 150)), some (.int x1), some (.int x2), some (.int x3), some (.int x4), some (.int x5), some (.int x6), some (.int y6)]) dX12_laysPairs_101 (by decide) rfl rfl ?_
          refine cj_iload C dX12_laysPairs_103 rfl ?_
          refine cj_iload C dX12_laysPairs_105 rfl ?_
          refine cj_icmp_le C (tgt := 115) dX12_laysPairs_107 rfl h (fun _ h => ?_) (fun _ h => ?_)
          · refine cj_iload C dX12_laysPairs_115 rfl ?_
            refine cj_istore C (lv' := [some (.ref (w.2.1 150)), some (.int x1), some (.int x2), some (.int x3), some (.int x4), some (.int x5), some (.int x6), some (.int y6)]) dX12_laysPairs_117 (by decide) rfl rfl ?_
            refine cj_iinc C (v := (x6 + 1)) (lv' := [some (.ref (w.2.1 150)), some (.int x1), some (.int x2), some (.int x3), some (.int x4), some (.int x5), some (.int (x6 + 1)), some (.int y6)]) dX12_laysPairs_119 rfl rfl (by decide) rfl rfl ?_
            refine cj_goto C (tgt := 49) dX12_laysPairs_122 rfl ?_
            refine cj_weak C (lv' := [some (.ref (w.2.1 150)), some (.int x1), some (.int x2), some (.int x3), some (.int x4), some (.int x5), some (.int (x6 + 1)), none]) (cpSub_s (cpSub_s (cpSub_s (cpSub_s (cpSub_s (cpSub_s (cpSub_s (cpSub_n cpSub_nil)))))))) ?_
            exact ih x5 (x6 + 1) S5 h
          · refine cj_iload C dX12_laysPairs_110 rfl ?_
            refine cj_goto C (tgt := 117) dX12_laysPairs_112 rfl ?_
            refine cj_istore C (lv' := [some (.ref (w.2.1 150)), some (.int x1), some (.int x2), some (.int x3), some (.int x4), some (.int y6), some (.int x6), some (.int y6)]) dX12_laysPairs_117 (by decide) rfl rfl ?_
            refine cj_iinc C (v := (x6 + 1)) (lv' := [some (.ref (w.2.1 150)), some (.int x1), some (.int x2), some (.int x3), some (.int x4), some (.int y6), some (.int (x6 + 1)), some (.int y6)]) dX12_laysPairs_119 rfl rfl (by decide) rfl rfl ?_
            refine cj_goto C (tgt := 49) dX12_laysPairs_122 rfl ?_
            refine cj_weak C (lv' := [some (.ref (w.2.1 150)), some (.int x1), some (.int x2), some (.int x3), some (.int x4), some (.int y6), some (.int (x6 + 1)), none]) (cpSub_s (cpSub_s (cpSub_s (cpSub_s (cpSub_s (cpSub_s (cpSub_s (cpSub_n cpSub_nil)))))))) ?_
            exact ih y6 (x6 + 1) S5 h
def fX12_laysPairs_9 (x1 : Int32) : Nat → Int32 → cpS → Option (Unit × cpS)
  | 0, _, _ => none
  | n + 1, x2, S =>
    if (cpShl (1 : Int32) (S.1 151 3)) ≤ x2 then (
    some ((), S)) else (
    cpB (fX12_leastOf x2 S) fun z1 S2 =>
    cpLt (x2 &&& ((cpShl (1 : Int32) z1) ^^^ (-1 : Int32))) fun y3 =>
    if cpIn y3 256 then (
    cpLt (S2.1 166 y3.toNatClampNeg) fun y4 =>
    cpLt (z1 + (1 : Int32)) fun y5 =>
    fX12_laysPairs_49 x1 x2 z1 y3 (fX12_laysPairs_9 x1 n) cpFu y4 y5 S2) else none)
set_option maxRecDepth 100000 in
set_option maxHeartbeats 4000000 in
theorem wX12_laysPairs_9 (C : cpCx p s m args meth c w A cX12_laysPairs RX12 8) (hr : meth.sig.returnType = none) {r : Unit × cpS} (x1 : Int32) : ∀ (n : Nat) (x2 : Int32) (S : cpS), fX12_laysPairs_9 x1 n x2 S = some r → cpJ p l e (cpRm 3) s m args below meth c (MQ below (va_Qv (fun S' => ((), S') = r) (cpWorld w A) A) args s 0 0 A) w A 8 9 [some (.ref (w.2.1 150)), some (.int x1), some (.int x2), none, none, none, none, none] [] S := by
  intro n
  induction n with
  | zero => intro x2 S h; rw [fX12_laysPairs_9] at h; cases h
  | succ n ih =>
    intro x2 S h
    rw [fX12_laysPairs_9] at h
    refine cj_iload_n C (i := 2) dX12_laysPairs_9 rfl rfl ?_
    refine cj_iconst C (v := (1 : Int32)) dX12_laysPairs_10 rfl ?_
    refine cj_aload_n C (i := 0) dX12_laysPairs_11 rfl rfl ?_
    refine cj_getR C (d := 151) o_150 rfl gfX12_13 dX12_laysPairs_12 ?_
    refine cj_iconst C (v := (3 : Int32)) dX12_laysPairs_15 rfl ?_
    refine cj_ialoadC C (j := 3) o_151 (by decide) (by decide) dX12_laysPairs_16 ?_
    refine ck_ishl C dX12_laysPairs_17 ?_
    refine cj_icmp_ge C (tgt := 139) dX12_laysPairs_18 rfl h (fun _ h => ?_) (fun _ h => ?_)
    · exact cj_vreturn C hr h dX12_laysPairs_139
    · refine cj_iload_n C (i := 2) dX12_laysPairs_21 rfl rfl ?_
      refine cj_callSi C (As := [.int x2]) (rest := []) qX12_leastOf mw_56_0 rfl rfl (Nat.le_of_ble_eq_true rfl) (by decide) dX12_laysPairs_22 h (fun _ _ hf => m_X12_leastOf l w A x2 S _ hf) (fun z1 S2 h => ?_)
      refine cj_istore_n C (i := 3) (lv' := [some (.ref (w.2.1 150)), some (.int x1), some (.int x2), some (.int z1), none, none, none, none]) dX12_laysPairs_25 rfl (by decide) rfl rfl ?_
      refine cj_iload_n C (i := 2) dX12_laysPairs_26 rfl rfl ?_
      refine cj_iconst C (v := (1 : Int32)) dX12_laysPairs_27 rfl ?_
      refine cj_iload_n C (i := 3) dX12_laysPairs_28 rfl rfl ?_
      refine ck_ishl C dX12_laysPairs_29 ?_
      refine cj_iconst C (v := (-1 : Int32)) dX12_laysPairs_30 rfl ?_
      refine cj_ixor C dX12_laysPairs_31 ?_
      refine cj_iand C dX12_laysPairs_32 ?_
      refine cj_let h (fun y3 h => ?_)
      refine cj_istore C (lv' := [some (.ref (w.2.1 150)), some (.int x1), some (.int x2), some (.int z1), some (.int y3), none, none, none]) dX12_laysPairs_33 (by decide) rfl rfl ?_
      refine cj_aload_n C (i := 0) dX12_laysPairs_35 rfl rfl ?_
      refine cj_getR C (d := 166) o_150 rfl gfX12_64 dX12_laysPairs_36 ?_
      refine cj_iload C dX12_laysPairs_39 rfl ?_
      refine cj_iaload C o_166 h dX12_laysPairs_41 (fun h => ?_)
      refine cj_let h (fun y4 h => ?_)
      refine cj_istore C (lv' := [some (.ref (w.2.1 150)), some (.int x1), some (.int x2), some (.int z1), some (.int y3), some (.int y4), none, none]) dX12_laysPairs_42 (by decide) rfl rfl ?_
      refine cj_iload_n C (i := 3) dX12_laysPairs_44 rfl rfl ?_
      refine cj_iconst C (v := (1 : Int32)) dX12_laysPairs_45 rfl ?_
      refine cj_iadd C dX12_laysPairs_46 ?_
      refine cj_let h (fun y5 h => ?_)
      refine cj_istore C (lv' := [some (.ref (w.2.1 150)), some (.int x1), some (.int x2), some (.int z1), some (.int y3), some (.int y4), some (.int y5), none]) dX12_laysPairs_47 (by decide) rfl rfl ?_
      exact wX12_laysPairs_49 C hr x1 x2 z1 y3 ih cpFu y4 y5 S2 h
def fX12_laysPairs (x1 : Int32) (S : cpS) : Option (Unit × cpS) :=
    cpLt (cpI S 166 0 (0 : Int32)) fun S1 =>
    fX12_laysPairs_9 x1 cpFu (1 : Int32) S1
set_option maxRecDepth 100000 in
set_option maxHeartbeats 4000000 in
theorem m_X12_laysPairs (l : Launch) (w : cpW) (A : Nat → Prop) (x1 : Int32) (S : cpS) (r : Unit × cpS) (h : fX12_laysPairs x1 S = some r) : cpMv l yX12_laysPairs cX12_laysPairs 8 (none) 3 w A [.ref (w.2.1 150), .int x1] S r := by
  refine cpMv.of (lv := [some (.ref (w.2.1 150)), some (.int x1), none, none, none, none, none, none]) (by decide) (Nat.le_of_ble_eq_true rfl) rfl (fun p e s m args below meth c C hr => ?_)
  replace C : cpCx p s m args meth c w A cX12_laysPairs RX12 8 := C
  rw [fX12_laysPairs] at h
  refine cj_aload_n C (i := 0) dX12_laysPairs_0 rfl rfl ?_
  refine cj_getR C (d := 166) o_150 rfl gfX12_64 dX12_laysPairs_1 ?_
  refine cj_iconst C (v := (0 : Int32)) dX12_laysPairs_4 rfl ?_
  refine cj_iconst C (v := (0 : Int32)) dX12_laysPairs_5 rfl ?_
  refine cj_iastoreC C (j := 0) o_166 (by decide) (by decide) dX12_laysPairs_6 ?_
  refine cj_lets h (fun S1 h => ?_)
  refine cj_iconst C (v := (1 : Int32)) dX12_laysPairs_7 rfl ?_
  refine cj_istore_n C (i := 2) (lv' := [some (.ref (w.2.1 150)), some (.int x1), some (.int (1 : Int32)), none, none, none, none, none]) dX12_laysPairs_8 rfl (by decide) rfl rfl ?_
  exact wX12_laysPairs_9 C hr x1 cpFu (1 : Int32) S1 h
/-! X12_everybody -/
def fX12_everybody (S : cpS) : Option (Int32 × cpS) :=
    some (((cpShl (1 : Int32) (S.1 151 3)) - (1 : Int32)), S)
set_option maxRecDepth 100000 in
set_option maxHeartbeats 4000000 in
theorem m_X12_everybody (l : Launch) (w : cpW) (A : Nat → Prop) (S : cpS) (r : Int32 × cpS) (h : fX12_everybody S = some r) : cpMi l yX12_everybody cX12_everybody 1 ((some .int)) 0 w A [.ref (w.2.1 150)] S r := by
  refine cpMi.of (lv := [some (.ref (w.2.1 150))]) (by decide) (Nat.le_of_ble_eq_true rfl) rfl (fun p e s m args below meth c C hr => ?_)
  replace C : cpCx p s m args meth c w A cX12_everybody RX12 1 := C
  rw [fX12_everybody] at h
  refine cj_iconst C (v := (1 : Int32)) dX12_everybody_0 rfl ?_
  refine cj_aload_n C (i := 0) dX12_everybody_1 rfl rfl ?_
  refine cj_getR C (d := 151) o_150 rfl gfX12_13 dX12_everybody_2 ?_
  refine cj_iconst C (v := (3 : Int32)) dX12_everybody_5 rfl ?_
  refine cj_ialoadC C (j := 3) o_151 (by decide) (by decide) dX12_everybody_6 ?_
  refine ck_ishl C dX12_everybody_7 ?_
  refine cj_iconst C (v := (1 : Int32)) dX12_everybody_8 rfl ?_
  refine cj_isub C dX12_everybody_9 ?_
  exact cj_ireturn C hr h dX12_everybody_10
/-! X12_pairs -/
def fX12_pairs (x1 : Int32) (S : cpS) : Option (Int32 × cpS) :=
    cpLt (cpI S 150 0 (0 : Int32)) fun S1 =>
    cpB (fX12_within (Int32.toInt64 x1) (0 : Int64) (99 : Int64) S1) fun z2 S3 =>
    if z2 = 0 then (
    some ((-3 : Int32), S3)) else (
    cpB (fX12_laysPairs x1 S3) fun _ S5 =>
    cpB (fX12_everybody S5) fun z6 S7 =>
    if cpIn z6 256 then (
    some ((S7.1 166 z6.toNatClampNeg), S7)) else none)
set_option maxRecDepth 100000 in
set_option maxHeartbeats 4000000 in
theorem m_X12_pairs (l : Launch) (w : cpW) (A : Nat → Prop) (x1 : Int32) (S : cpS) (r : Int32 × cpS) (h : fX12_pairs x1 S = some r) : cpMi l yX12_pairs cX12_pairs 2 ((some .int)) 4 w A [.ref (w.2.1 150), .int x1] S r := by
  refine cpMi.of (lv := [some (.ref (w.2.1 150)), some (.int x1)]) (by decide) (Nat.le_of_ble_eq_true rfl) rfl (fun p e s m args below meth c C hr => ?_)
  replace C : cpCx p s m args meth c w A cX12_pairs RX12 2 := C
  rw [fX12_pairs] at h
  refine cj_aload_n C (i := 0) dX12_pairs_0 rfl rfl ?_
  refine cj_iconst C (v := (0 : Int32)) dX12_pairs_1 rfl ?_
  refine cj_put C (j := 0) o_150 rfl pfX12_1 rfl rfl dX12_pairs_2 ?_
  refine cj_lets h (fun S1 h => ?_)
  refine cj_iload_n C (i := 1) dX12_pairs_5 rfl rfl ?_
  refine cj_i2l C dX12_pairs_6 ?_
  refine cj_lconst C (v := (0 : Int64)) dX12_pairs_7 rfl ?_
  refine cj_ldc2 C (v := (99 : Int64)) mw_55_19 dX12_pairs_8 ?_
  refine cj_callSi C (As := [.long (Int32.toInt64 x1), .long (0 : Int64), .long (99 : Int64)]) (rest := []) qX12_within mw_23_15 rfl rfl (Nat.le_of_ble_eq_true rfl) (by decide) dX12_pairs_11 h (fun _ _ hf => m_X12_within l w A (Int32.toInt64 x1) (0 : Int64) (99 : Int64) S1 _ hf) (fun z2 S3 h => ?_)
  refine cj_if_ne C (tgt := 20) dX12_pairs_14 rfl h (fun _ h => ?_) (fun _ h => ?_)
  · refine cj_bipush C (v := (-3 : Int32)) dX12_pairs_17 rfl ?_
    exact cj_ireturn C hr h dX12_pairs_19
  · refine cj_aload_n C (i := 0) dX12_pairs_20 rfl rfl ?_
    refine cj_iload_n C (i := 1) dX12_pairs_21 rfl rfl ?_
    refine cj_callVv C (As := [.int x1]) (rest := []) qX12_laysPairs mw_55_20 o_150 rfl rfl rfl (Nat.le_of_ble_eq_true rfl) (by decide) dX12_pairs_22 h (fun _ _ hf => m_X12_laysPairs l w A x1 S3 _ hf) (fun z4 S5 h => ?_)
    refine cj_aload_n C (i := 0) dX12_pairs_25 rfl rfl ?_
    refine cj_getR C (d := 166) o_150 rfl gfX12_64 dX12_pairs_26 ?_
    refine cj_aload_n C (i := 0) dX12_pairs_29 rfl rfl ?_
    refine cj_callVi C (As := []) (rest := [.ref (w.2.1 166)]) qX12_everybody mw_56_7 o_150 rfl rfl rfl (Nat.le_of_ble_eq_true rfl) (by decide) dX12_pairs_30 h (fun _ _ hf => m_X12_everybody l w A S5 _ hf) (fun z6 S7 h => ?_)
    refine cj_iaload C o_166 h dX12_pairs_33 (fun h => ?_)
    exact cj_ireturn C hr h dX12_pairs_34
/-! X12_partnerIn -/
def fX12_partnerIn_19 (x1 : Int32) (x2 : Int32) (x3 : Int32) (x4 : Int32) : Nat → Int32 → cpS → Option (Int32 × cpS)
  | 0, _, _ => none
  | n + 1, x5, S =>
    if (S.1 151 3) ≤ x5 then (
    some ((-1 : Int32), S)) else (
    cpB (fX12_isIn (Int32.toInt64 x4) x5 S) fun z1 S2 =>
    if z1 = 0 then (
    fX12_partnerIn_19 x1 x2 x3 x4 n (x5 + 1) S2) else (
    cpB (fX12_canPair x3 x5 x2 S2) fun z3 S4 =>
    if z3 = 0 then (
    fX12_partnerIn_19 x1 x2 x3 x4 n (x5 + 1) S4) else (
    if cpIn (x4 &&& ((cpShl (1 : Int32) x5) ^^^ (-1 : Int32))) 256 then (
    if cpIn x1 256 then (
    if ((1 : Int32) + (S4.1 166 (x4 &&& ((cpShl (1 : Int32) x5) ^^^ (-1 : Int32))).toNatClampNeg)) = (S4.1 166 x1.toNatClampNeg) then (
    some (x5, S4)) else (
    fX12_partnerIn_19 x1 x2 x3 x4 n (x5 + 1) S4)) else none) else none)))
set_option maxRecDepth 100000 in
set_option maxHeartbeats 4000000 in
theorem wX12_partnerIn_19 (C : cpCx p s m args meth c w A cX12_partnerIn RX12 6) (hr : meth.sig.returnType = (some .int)) {r : Int32 × cpS} (x1 : Int32) (x2 : Int32) (x3 : Int32) (x4 : Int32) : ∀ (n : Nat) (x5 : Int32) (S : cpS), fX12_partnerIn_19 x1 x2 x3 x4 n x5 S = some r → cpJ p l e (cpRm 3) s m args below meth c (MQ below (va_Qi (fun x S' => (x, S') = r) (cpWorld w A) A) args s 0 0 A) w A 6 19 [some (.ref (w.2.1 150)), some (.int x1), some (.int x2), some (.int x3), some (.int x4), some (.int x5)] [] S := by
  intro n
  induction n with
  | zero => intro x5 S h; rw [fX12_partnerIn_19] at h; cases h
  | succ n ih =>
    intro x5 S h
    rw [fX12_partnerIn_19] at h
    refine cj_iload C dX12_partnerIn_19 rfl ?_
    refine cj_aload_n C (i := 0) dX12_partnerIn_21 rfl rfl ?_
    refine cj_getR C (d := 151) o_150 rfl gfX12_13 dX12_partnerIn_22 ?_
    refine cj_iconst C (v := (3 : Int32)) dX12_partnerIn_25 rfl ?_
    refine cj_ialoadC C (j := 3) o_151 (by decide) (by decide) dX12_partnerIn_26 ?_
    refine cj_icmp_ge C (tgt := 86) dX12_partnerIn_27 rfl h (fun _ h => ?_) (fun _ h => ?_)
    · refine cj_iconst C (v := (-1 : Int32)) dX12_partnerIn_86 rfl ?_
      exact cj_ireturn C hr h dX12_partnerIn_87
    · refine cj_iload C dX12_partnerIn_30 rfl ?_
      refine cj_i2l C dX12_partnerIn_32 ?_
      refine cj_iload C dX12_partnerIn_33 rfl ?_
      refine cj_callSi C (As := [.long (Int32.toInt64 x4), .int x5]) (rest := []) qX12_isIn mw_36_4 rfl rfl (Nat.le_of_ble_eq_true rfl) (by decide) dX12_partnerIn_35 h (fun _ _ hf => m_X12_isIn l w A (Int32.toInt64 x4) x5 S _ hf) (fun z1 S2 h => ?_)
      refine cj_if_eq C (tgt := 80) dX12_partnerIn_38 rfl h (fun _ h => ?_) (fun _ h => ?_)
      · refine cj_iinc C (v := (x5 + 1)) (lv' := [some (.ref (w.2.1 150)), some (.int x1), some (.int x2), some (.int x3), some (.int x4), some (.int (x5 + 1))]) dX12_partnerIn_80 rfl rfl (by decide) rfl rfl ?_
        refine cj_goto C (tgt := 19) dX12_partnerIn_83 rfl ?_
        exact ih (x5 + 1) S2 h
      · refine cj_aload_n C (i := 0) dX12_partnerIn_41 rfl rfl ?_
        refine cj_iload_n C (i := 3) dX12_partnerIn_42 rfl rfl ?_
        refine cj_iload C dX12_partnerIn_43 rfl ?_
        refine cj_iload_n C (i := 2) dX12_partnerIn_45 rfl rfl ?_
        refine cj_callVi C (As := [.int x3, .int x5, .int x2]) (rest := []) qX12_canPair mw_56_3 o_150 rfl rfl rfl (Nat.le_of_ble_eq_true rfl) (by decide) dX12_partnerIn_46 h (fun _ _ hf => m_X12_canPair l w A x3 x5 x2 S2 _ hf) (fun z3 S4 h => ?_)
        refine cj_if_eq C (tgt := 80) dX12_partnerIn_49 rfl h (fun _ h => ?_) (fun _ h => ?_)
        · refine cj_iinc C (v := (x5 + 1)) (lv' := [some (.ref (w.2.1 150)), some (.int x1), some (.int x2), some (.int x3), some (.int x4), some (.int (x5 + 1))]) dX12_partnerIn_80 rfl rfl (by decide) rfl rfl ?_
          refine cj_goto C (tgt := 19) dX12_partnerIn_83 rfl ?_
          exact ih (x5 + 1) S4 h
        · refine cj_iconst C (v := (1 : Int32)) dX12_partnerIn_52 rfl ?_
          refine cj_aload_n C (i := 0) dX12_partnerIn_53 rfl rfl ?_
          refine cj_getR C (d := 166) o_150 rfl gfX12_64 dX12_partnerIn_54 ?_
          refine cj_iload C dX12_partnerIn_57 rfl ?_
          refine cj_iconst C (v := (1 : Int32)) dX12_partnerIn_59 rfl ?_
          refine cj_iload C dX12_partnerIn_60 rfl ?_
          refine ck_ishl C dX12_partnerIn_62 ?_
          refine cj_iconst C (v := (-1 : Int32)) dX12_partnerIn_63 rfl ?_
          refine cj_ixor C dX12_partnerIn_64 ?_
          refine cj_iand C dX12_partnerIn_65 ?_
          refine cj_iaload C o_166 h dX12_partnerIn_66 (fun h => ?_)
          refine cj_iadd C dX12_partnerIn_67 ?_
          refine cj_aload_n C (i := 0) dX12_partnerIn_68 rfl rfl ?_
          refine cj_getR C (d := 166) o_150 rfl gfX12_64 dX12_partnerIn_69 ?_
          refine cj_iload_n C (i := 1) dX12_partnerIn_72 rfl rfl ?_
          refine cj_iaload C o_166 h dX12_partnerIn_73 (fun h => ?_)
          refine cj_icmp_ne C (tgt := 80) dX12_partnerIn_74 rfl h (fun _ h => ?_) (fun _ h => ?_)
          · refine cj_iload C dX12_partnerIn_77 rfl ?_
            exact cj_ireturn C hr h dX12_partnerIn_79
          · refine cj_iinc C (v := (x5 + 1)) (lv' := [some (.ref (w.2.1 150)), some (.int x1), some (.int x2), some (.int x3), some (.int x4), some (.int (x5 + 1))]) dX12_partnerIn_80 rfl rfl (by decide) rfl rfl ?_
            refine cj_goto C (tgt := 19) dX12_partnerIn_83 rfl ?_
            exact ih (x5 + 1) S4 h
def fX12_partnerIn (x1 : Int32) (x2 : Int32) (S : cpS) : Option (Int32 × cpS) :=
    cpB (fX12_leastOf x1 S) fun z1 S2 =>
    cpLt (x1 &&& ((cpShl (1 : Int32) z1) ^^^ (-1 : Int32))) fun y3 =>
    cpLt (z1 + (1 : Int32)) fun y4 =>
    fX12_partnerIn_19 x1 x2 z1 y3 cpFu y4 S2
set_option maxRecDepth 100000 in
set_option maxHeartbeats 4000000 in
theorem m_X12_partnerIn (l : Launch) (w : cpW) (A : Nat → Prop) (x1 : Int32) (x2 : Int32) (S : cpS) (r : Int32 × cpS) (h : fX12_partnerIn x1 x2 S = some r) : cpMi l yX12_partnerIn cX12_partnerIn 6 ((some .int)) 3 w A [.ref (w.2.1 150), .int x1, .int x2] S r := by
  refine cpMi.of (lv := [some (.ref (w.2.1 150)), some (.int x1), some (.int x2), none, none, none]) (by decide) (Nat.le_of_ble_eq_true rfl) rfl (fun p e s m args below meth c C hr => ?_)
  replace C : cpCx p s m args meth c w A cX12_partnerIn RX12 6 := C
  rw [fX12_partnerIn] at h
  refine cj_iload_n C (i := 1) dX12_partnerIn_0 rfl rfl ?_
  refine cj_callSi C (As := [.int x1]) (rest := []) qX12_leastOf mw_56_0 rfl rfl (Nat.le_of_ble_eq_true rfl) (by decide) dX12_partnerIn_1 h (fun _ _ hf => m_X12_leastOf l w A x1 S _ hf) (fun z1 S2 h => ?_)
  refine cj_istore_n C (i := 3) (lv' := [some (.ref (w.2.1 150)), some (.int x1), some (.int x2), some (.int z1), none, none]) dX12_partnerIn_4 rfl (by decide) rfl rfl ?_
  refine cj_iload_n C (i := 1) dX12_partnerIn_5 rfl rfl ?_
  refine cj_iconst C (v := (1 : Int32)) dX12_partnerIn_6 rfl ?_
  refine cj_iload_n C (i := 3) dX12_partnerIn_7 rfl rfl ?_
  refine ck_ishl C dX12_partnerIn_8 ?_
  refine cj_iconst C (v := (-1 : Int32)) dX12_partnerIn_9 rfl ?_
  refine cj_ixor C dX12_partnerIn_10 ?_
  refine cj_iand C dX12_partnerIn_11 ?_
  refine cj_let h (fun y3 h => ?_)
  refine cj_istore C (lv' := [some (.ref (w.2.1 150)), some (.int x1), some (.int x2), some (.int z1), some (.int y3), none]) dX12_partnerIn_12 (by decide) rfl rfl ?_
  refine cj_iload_n C (i := 3) dX12_partnerIn_14 rfl rfl ?_
  refine cj_iconst C (v := (1 : Int32)) dX12_partnerIn_15 rfl ?_
  refine cj_iadd C dX12_partnerIn_16 ?_
  refine cj_let h (fun y4 h => ?_)
  refine cj_istore C (lv' := [some (.ref (w.2.1 150)), some (.int x1), some (.int x2), some (.int z1), some (.int y3), some (.int y4)]) dX12_partnerIn_17 (by decide) rfl rfl ?_
  exact wX12_partnerIn_19 C hr x1 x2 z1 y3 cpFu y4 S2 h
/-! X12_with -/
def fX12_with_42 (x1 : Int32) (x2 : Int32) : Nat → Int32 → cpS → Option (Int32 × cpS)
  | 0, _, _ => none
  | n + 1, x3, S =>
    if x3 = 0 then (
    some ((-1 : Int32), S)) else (
    cpB (fX12_leastOf x3 S) fun z1 S2 =>
    cpB (fX12_partnerIn x3 x1 S2) fun z3 S4 =>
    if z1 = x2 then (
    some (z3, S4)) else (
    if z3 = x2 then (
    some (z1, S4)) else (
    cpLt (x3 &&& ((cpShl (1 : Int32) z1) ^^^ (-1 : Int32))) fun y5 =>
    if z3 = (-1 : Int32) then (
    fX12_with_42 x1 x2 n y5 S4) else (
    cpLt (y5 &&& ((cpShl (1 : Int32) z3) ^^^ (-1 : Int32))) fun y6 =>
    fX12_with_42 x1 x2 n y6 S4))))
set_option maxRecDepth 100000 in
set_option maxHeartbeats 4000000 in
theorem wX12_with_42 (C : cpCx p s m args meth c w A cX12_with RX12 6) (hr : meth.sig.returnType = (some .int)) {r : Int32 × cpS} (x1 : Int32) (x2 : Int32) : ∀ (n : Nat) (x3 : Int32) (S : cpS), fX12_with_42 x1 x2 n x3 S = some r → cpJ p l e (cpRm 4) s m args below meth c (MQ below (va_Qi (fun x S' => (x, S') = r) (cpWorld w A) A) args s 0 0 A) w A 6 42 [some (.ref (w.2.1 150)), some (.int x1), some (.int x2), some (.int x3), none, none] [] S := by
  intro n
  induction n with
  | zero => intro x3 S h; rw [fX12_with_42] at h; cases h
  | succ n ih =>
    intro x3 S h
    rw [fX12_with_42] at h
    refine cj_iload_n C (i := 3) dX12_with_42 rfl rfl ?_
    refine cj_if_eq C (tgt := 105) dX12_with_43 rfl h (fun _ h => ?_) (fun _ h => ?_)
    · refine cj_iconst C (v := (-1 : Int32)) dX12_with_105 rfl ?_
      exact cj_ireturn C hr h dX12_with_106
    · refine cj_iload_n C (i := 3) dX12_with_46 rfl rfl ?_
      refine cj_callSi C (As := [.int x3]) (rest := []) qX12_leastOf mw_56_0 rfl rfl (Nat.le_of_ble_eq_true rfl) (by decide) dX12_with_47 h (fun _ _ hf => m_X12_leastOf l w A x3 S _ hf) (fun z1 S2 h => ?_)
      refine cj_istore C (lv' := [some (.ref (w.2.1 150)), some (.int x1), some (.int x2), some (.int x3), some (.int z1), none]) dX12_with_50 (by decide) rfl rfl ?_
      refine cj_aload_n C (i := 0) dX12_with_52 rfl rfl ?_
      refine cj_iload_n C (i := 3) dX12_with_53 rfl rfl ?_
      refine cj_iload_n C (i := 1) dX12_with_54 rfl rfl ?_
      refine cj_callVi C (As := [.int x3, .int x1]) (rest := []) qX12_partnerIn mw_56_20 o_150 rfl rfl rfl (Nat.le_of_ble_eq_true rfl) (by decide) dX12_with_55 h (fun _ _ hf => m_X12_partnerIn l w A x3 x1 S2 _ hf) (fun z3 S4 h => ?_)
      refine cj_istore C (lv' := [some (.ref (w.2.1 150)), some (.int x1), some (.int x2), some (.int x3), some (.int z1), some (.int z3)]) dX12_with_58 (by decide) rfl rfl ?_
      refine cj_iload C dX12_with_60 rfl ?_
      refine cj_iload_n C (i := 2) dX12_with_62 rfl rfl ?_
      refine cj_icmp_ne C (tgt := 69) dX12_with_63 rfl h (fun _ h => ?_) (fun _ h => ?_)
      · refine cj_iload C dX12_with_66 rfl ?_
        exact cj_ireturn C hr h dX12_with_68
      · refine cj_iload C dX12_with_69 rfl ?_
        refine cj_iload_n C (i := 2) dX12_with_71 rfl rfl ?_
        refine cj_icmp_ne C (tgt := 78) dX12_with_72 rfl h (fun _ h => ?_) (fun _ h => ?_)
        · refine cj_iload C dX12_with_75 rfl ?_
          exact cj_ireturn C hr h dX12_with_77
        · refine cj_iload_n C (i := 3) dX12_with_78 rfl rfl ?_
          refine cj_iconst C (v := (1 : Int32)) dX12_with_79 rfl ?_
          refine cj_iload C dX12_with_80 rfl ?_
          refine ck_ishl C dX12_with_82 ?_
          refine cj_iconst C (v := (-1 : Int32)) dX12_with_83 rfl ?_
          refine cj_ixor C dX12_with_84 ?_
          refine cj_iand C dX12_with_85 ?_
          refine cj_let h (fun y5 h => ?_)
          refine cj_istore_n C (i := 3) (lv' := [some (.ref (w.2.1 150)), some (.int x1), some (.int x2), some (.int y5), some (.int z1), some (.int z3)]) dX12_with_86 rfl (by decide) rfl rfl ?_
          refine cj_iload C dX12_with_87 rfl ?_
          refine cj_iconst C (v := (-1 : Int32)) dX12_with_89 rfl ?_
          refine cj_icmp_eq C (tgt := 102) dX12_with_90 rfl h (fun _ h => ?_) (fun _ h => ?_)
          · refine cj_goto C (tgt := 42) dX12_with_102 rfl ?_
            refine cj_weak C (lv' := [some (.ref (w.2.1 150)), some (.int x1), some (.int x2), some (.int y5), none, none]) (cpSub_s (cpSub_s (cpSub_s (cpSub_s (cpSub_n (cpSub_n cpSub_nil)))))) ?_
            exact ih y5 S4 h
          · refine cj_iload_n C (i := 3) dX12_with_93 rfl rfl ?_
            refine cj_iconst C (v := (1 : Int32)) dX12_with_94 rfl ?_
            refine cj_iload C dX12_with_95 rfl ?_
            refine ck_ishl C dX12_with_97 ?_
            refine cj_iconst C (v := (-1 : Int32)) dX12_with_98 rfl ?_
            refine cj_ixor C dX12_with_99 ?_
            refine cj_iand C dX12_with_100 ?_
            refine cj_let h (fun y6 h => ?_)
            refine cj_istore_n C (i := 3) (lv' := [some (.ref (w.2.1 150)), some (.int x1), some (.int x2), some (.int y6), some (.int z1), some (.int z3)]) dX12_with_101 rfl (by decide) rfl rfl ?_
            refine cj_goto C (tgt := 42) dX12_with_102 rfl ?_
            refine cj_weak C (lv' := [some (.ref (w.2.1 150)), some (.int x1), some (.int x2), some (.int y6), none, none]) (cpSub_s (cpSub_s (cpSub_s (cpSub_s (cpSub_n (cpSub_n cpSub_nil)))))) ?_
            exact ih y6 S4 h
def fX12_with (x1 : Int32) (x2 : Int32) (S : cpS) : Option (Int32 × cpS) :=
    cpLt (cpI S 150 0 (0 : Int32)) fun S1 =>
    cpB (fX12_isPerson (Int32.toInt64 x2) S1) fun z2 S3 =>
    if z2 = 0 then (
    some ((-2 : Int32), S3)) else (
    cpB (fX12_within (Int32.toInt64 x1) (0 : Int64) (99 : Int64) S3) fun z4 S5 =>
    if z4 = 0 then (
    some ((-3 : Int32), S5)) else (
    cpB (fX12_laysPairs x1 S5) fun _ S7 =>
    cpB (fX12_everybody S7) fun z8 S9 =>
    fX12_with_42 x1 x2 cpFu z8 S9))
set_option maxRecDepth 100000 in
set_option maxHeartbeats 4000000 in
theorem m_X12_with (l : Launch) (w : cpW) (A : Nat → Prop) (x1 : Int32) (x2 : Int32) (S : cpS) (r : Int32 × cpS) (h : fX12_with x1 x2 S = some r) : cpMi l yX12_with cX12_with 6 ((some .int)) 4 w A [.ref (w.2.1 150), .int x1, .int x2] S r := by
  refine cpMi.of (lv := [some (.ref (w.2.1 150)), some (.int x1), some (.int x2), none, none, none]) (by decide) (Nat.le_of_ble_eq_true rfl) rfl (fun p e s m args below meth c C hr => ?_)
  replace C : cpCx p s m args meth c w A cX12_with RX12 6 := C
  rw [fX12_with] at h
  refine cj_aload_n C (i := 0) dX12_with_0 rfl rfl ?_
  refine cj_iconst C (v := (0 : Int32)) dX12_with_1 rfl ?_
  refine cj_put C (j := 0) o_150 rfl pfX12_1 rfl rfl dX12_with_2 ?_
  refine cj_lets h (fun S1 h => ?_)
  refine cj_aload_n C (i := 0) dX12_with_5 rfl rfl ?_
  refine cj_iload_n C (i := 2) dX12_with_6 rfl rfl ?_
  refine cj_i2l C dX12_with_7 ?_
  refine cj_callVi C (As := [.long (Int32.toInt64 x2)]) (rest := []) qX12_isPerson mw_29_13 o_150 rfl rfl rfl (Nat.le_of_ble_eq_true rfl) (by decide) dX12_with_8 h (fun _ _ hf => m_X12_isPerson l w A (Int32.toInt64 x2) S1 _ hf) (fun z2 S3 h => ?_)
  refine cj_if_ne C (tgt := 17) dX12_with_11 rfl h (fun _ h => ?_) (fun _ h => ?_)
  · refine cj_bipush C (v := (-2 : Int32)) dX12_with_14 rfl ?_
    exact cj_ireturn C hr h dX12_with_16
  · refine cj_iload_n C (i := 1) dX12_with_17 rfl rfl ?_
    refine cj_i2l C dX12_with_18 ?_
    refine cj_lconst C (v := (0 : Int64)) dX12_with_19 rfl ?_
    refine cj_ldc2 C (v := (99 : Int64)) mw_55_19 dX12_with_20 ?_
    refine cj_callSi C (As := [.long (Int32.toInt64 x1), .long (0 : Int64), .long (99 : Int64)]) (rest := []) qX12_within mw_23_15 rfl rfl (Nat.le_of_ble_eq_true rfl) (by decide) dX12_with_23 h (fun _ _ hf => m_X12_within l w A (Int32.toInt64 x1) (0 : Int64) (99 : Int64) S3 _ hf) (fun z4 S5 h => ?_)
    refine cj_if_ne C (tgt := 32) dX12_with_26 rfl h (fun _ h => ?_) (fun _ h => ?_)
    · refine cj_bipush C (v := (-3 : Int32)) dX12_with_29 rfl ?_
      exact cj_ireturn C hr h dX12_with_31
    · refine cj_aload_n C (i := 0) dX12_with_32 rfl rfl ?_
      refine cj_iload_n C (i := 1) dX12_with_33 rfl rfl ?_
      refine cj_callVv C (As := [.int x1]) (rest := []) qX12_laysPairs mw_55_20 o_150 rfl rfl rfl (Nat.le_of_ble_eq_true rfl) (by decide) dX12_with_34 h (fun _ _ hf => m_X12_laysPairs l w A x1 S5 _ hf) (fun z6 S7 h => ?_)
      refine cj_aload_n C (i := 0) dX12_with_37 rfl rfl ?_
      refine cj_callVi C (As := []) (rest := []) qX12_everybody mw_56_7 o_150 rfl rfl rfl (Nat.le_of_ble_eq_true rfl) (by decide) dX12_with_38 h (fun _ _ hf => m_X12_everybody l w A S7 _ hf) (fun z8 S9 h => ?_)
      refine cj_istore_n C (i := 3) (lv' := [some (.ref (w.2.1 150)), some (.int x1), some (.int x2), some (.int z8), none, none]) dX12_with_41 rfl (by decide) rfl rfl ?_
      exact wX12_with_42 C hr x1 x2 cpFu z8 S9 h
/-! X12_lifters -/
def fX12_lifters_53 (x1 : Int32) (x2 : Int32) (x3 : Int32) (x4 : Int32) (k38 : Int32 → Int32 → cpS → Option (Int32 × cpS)) : Nat → Int32 → Int32 → cpS → Option (Int32 × cpS)
  | 0, _, _, _ => none
  | n + 1, x5, x6, S =>
    if (S.1 151 3) ≤ x6 then (
    if x5 < x1 then (
    k38 x3 (x4 + 1) S) else (
    if x3 = (-1 : Int32) then (
    k38 x4 (x4 + 1) S) else (
    cpB (fX12_bitsOf x4 S) fun z1 S2 =>
    cpB (fX12_bitsOf x3 S2) fun z3 S4 =>
    if z3 ≤ z1 then (
    k38 x3 (x4 + 1) S4) else (
    k38 x4 (x4 + 1) S4)))) else (
    cpB (fX12_isIn (Int32.toInt64 x4) x6 S) fun z5 S6 =>
    if z5 = 0 then (
    cpLt (x5 + (0 : Int32)) fun y7 =>
    fX12_lifters_53 x1 x2 x3 x4 k38 n y7 (x6 + 1) S6) else (
    if cpIn ((46 : Int32) + x6) 3486 then (
    cpLt (x5 + (S6.1 151 ((46 : Int32) + x6).toNatClampNeg)) fun y8 =>
    fX12_lifters_53 x1 x2 x3 x4 k38 n y8 (x6 + 1) S6) else none))
set_option maxRecDepth 100000 in
set_option maxHeartbeats 4000000 in
theorem wX12_lifters_53 (C : cpCx p s m args meth c w A cX12_lifters RX12 7) (hr : meth.sig.returnType = (some .int)) {r : Int32 × cpS} (x1 : Int32) (x2 : Int32) (x3 : Int32) (x4 : Int32) {k38 : Int32 → Int32 → cpS → Option (Int32 × cpS)} (hk38 : ∀ (x3 : Int32) (x4 : Int32) (S : cpS), k38 x3 x4 S = some r → cpJ p l e (cpRm 1) s m args below meth c (MQ below (va_Qi (fun x S' => (x, S') = r) (cpWorld w A) A) args s 0 0 A) w A 7 38 [some (.ref (w.2.1 150)), some (.int x1), some (.int x2), some (.int x3), some (.int x4), none, none] [] S) : ∀ (n : Nat) (x5 : Int32) (x6 : Int32) (S : cpS), fX12_lifters_53 x1 x2 x3 x4 k38 n x5 x6 S = some r → cpJ p l e (cpRm 1) s m args below meth c (MQ below (va_Qi (fun x S' => (x, S') = r) (cpWorld w A) A) args s 0 0 A) w A 7 53 [some (.ref (w.2.1 150)), some (.int x1), some (.int x2), some (.int x3), some (.int x4), some (.int x5), some (.int x6)] [] S := by
  intro n
  induction n with
  | zero => intro x5 x6 S h; rw [fX12_lifters_53] at h; cases h
  | succ n ih =>
    intro x5 x6 S h
    rw [fX12_lifters_53] at h
    refine cj_iload C dX12_lifters_53 rfl ?_
    refine cj_aload_n C (i := 0) dX12_lifters_55 rfl rfl ?_
    refine cj_getR C (d := 151) o_150 rfl gfX12_13 dX12_lifters_56 ?_
    refine cj_iconst C (v := (3 : Int32)) dX12_lifters_59 rfl ?_
    refine cj_ialoadC C (j := 3) o_151 (by decide) (by decide) dX12_lifters_60 ?_
    refine cj_icmp_ge C (tgt := 100) dX12_lifters_61 rfl h (fun _ h => ?_) (fun _ h => ?_)
    · refine cj_iload C dX12_lifters_100 rfl ?_
      refine cj_iload_n C (i := 1) dX12_lifters_102 rfl rfl ?_
      refine cj_icmp_lt C (tgt := 126) dX12_lifters_103 rfl h (fun _ h => ?_) (fun _ h => ?_)
      · refine cj_iinc C (v := (x4 + 1)) (lv' := [some (.ref (w.2.1 150)), some (.int x1), some (.int x2), some (.int x3), some (.int (x4 + 1)), some (.int x5), some (.int x6)]) dX12_lifters_126 rfl rfl (by decide) rfl rfl ?_
        refine cj_goto C (tgt := 38) dX12_lifters_129 rfl ?_
        refine cj_weak C (lv' := [some (.ref (w.2.1 150)), some (.int x1), some (.int x2), some (.int x3), some (.int (x4 + 1)), none, none]) (cpSub_s (cpSub_s (cpSub_s (cpSub_s (cpSub_s (cpSub_n (cpSub_n cpSub_nil))))))) ?_
        exact hk38 x3 (x4 + 1) S h
      · refine cj_iload_n C (i := 3) dX12_lifters_106 rfl rfl ?_
        refine cj_iconst C (v := (-1 : Int32)) dX12_lifters_107 rfl ?_
        refine cj_icmp_eq C (tgt := 123) dX12_lifters_108 rfl h (fun _ h => ?_) (fun _ h => ?_)
        · refine cj_iload C dX12_lifters_123 rfl ?_
          refine cj_istore_n C (i := 3) (lv' := [some (.ref (w.2.1 150)), some (.int x1), some (.int x2), some (.int x4), some (.int x4), some (.int x5), some (.int x6)]) dX12_lifters_125 rfl (by decide) rfl rfl ?_
          refine cj_iinc C (v := (x4 + 1)) (lv' := [some (.ref (w.2.1 150)), some (.int x1), some (.int x2), some (.int x4), some (.int (x4 + 1)), some (.int x5), some (.int x6)]) dX12_lifters_126 rfl rfl (by decide) rfl rfl ?_
          refine cj_goto C (tgt := 38) dX12_lifters_129 rfl ?_
          refine cj_weak C (lv' := [some (.ref (w.2.1 150)), some (.int x1), some (.int x2), some (.int x4), some (.int (x4 + 1)), none, none]) (cpSub_s (cpSub_s (cpSub_s (cpSub_s (cpSub_s (cpSub_n (cpSub_n cpSub_nil))))))) ?_
          exact hk38 x4 (x4 + 1) S h
        · refine cj_iload C dX12_lifters_111 rfl ?_
          refine cj_callSi C (As := [.int x4]) (rest := []) qX12_bitsOf mw_58_3 rfl rfl (Nat.le_of_ble_eq_true rfl) (by decide) dX12_lifters_113 h (fun _ _ hf => m_X12_bitsOf l w A x4 S _ hf) (fun z1 S2 h => ?_)
          refine cj_iload_n C (i := 3) dX12_lifters_116 rfl rfl ?_
          refine cj_callSi C (As := [.int x3]) (rest := [.int z1]) qX12_bitsOf mw_58_3 rfl rfl (Nat.le_of_ble_eq_true rfl) (by decide) dX12_lifters_117 h (fun _ _ hf => m_X12_bitsOf l w A x3 S2 _ hf) (fun z3 S4 h => ?_)
          refine cj_icmp_ge C (tgt := 126) dX12_lifters_120 rfl h (fun _ h => ?_) (fun _ h => ?_)
          · refine cj_iinc C (v := (x4 + 1)) (lv' := [some (.ref (w.2.1 150)), some (.int x1), some (.int x2), some (.int x3), some (.int (x4 + 1)), some (.int x5), some (.int x6)]) dX12_lifters_126 rfl rfl (by decide) rfl rfl ?_
            refine cj_goto C (tgt := 38) dX12_lifters_129 rfl ?_
            refine cj_weak C (lv' := [some (.ref (w.2.1 150)), some (.int x1), some (.int x2), some (.int x3), some (.int (x4 + 1)), none, none]) (cpSub_s (cpSub_s (cpSub_s (cpSub_s (cpSub_s (cpSub_n (cpSub_n cpSub_nil))))))) ?_
            exact hk38 x3 (x4 + 1) S4 h
          · refine cj_iload C dX12_lifters_123 rfl ?_
            refine cj_istore_n C (i := 3) (lv' := [some (.ref (w.2.1 150)), some (.int x1), some (.int x2), some (.int x4), some (.int x4), some (.int x5), some (.int x6)]) dX12_lifters_125 rfl (by decide) rfl rfl ?_
            refine cj_iinc C (v := (x4 + 1)) (lv' := [some (.ref (w.2.1 150)), some (.int x1), some (.int x2), some (.int x4), some (.int (x4 + 1)), some (.int x5), some (.int x6)]) dX12_lifters_126 rfl rfl (by decide) rfl rfl ?_
            refine cj_goto C (tgt := 38) dX12_lifters_129 rfl ?_
            refine cj_weak C (lv' := [some (.ref (w.2.1 150)), some (.int x1), some (.int x2), some (.int x4), some (.int (x4 + 1)), none, none]) (cpSub_s (cpSub_s (cpSub_s (cpSub_s (cpSub_s (cpSub_n (cpSub_n cpSub_nil))))))) ?_
            exact hk38 x4 (x4 + 1) S4 h
    · refine cj_iload C dX12_lifters_64 rfl ?_
      refine cj_iload C dX12_lifters_66 rfl ?_
      refine cj_i2l C dX12_lifters_68 ?_
      refine cj_iload C dX12_lifters_69 rfl ?_
      refine cj_callSi C (As := [.long (Int32.toInt64 x4), .int x6]) (rest := [.int x5]) qX12_isIn mw_36_4 rfl rfl (Nat.le_of_ble_eq_true rfl) (by decide) dX12_lifters_71 h (fun _ _ hf => m_X12_isIn l w A (Int32.toInt64 x4) x6 S _ hf) (fun z5 S6 h => ?_)
      refine cj_if_eq C (tgt := 90) dX12_lifters_74 rfl h (fun _ h => ?_) (fun _ h => ?_)
      · refine cj_iconst C (v := (0 : Int32)) dX12_lifters_90 rfl ?_
        refine cj_iadd C dX12_lifters_91 ?_
        refine cj_let h (fun y7 h => ?_)
        refine cj_istore C (lv' := [some (.ref (w.2.1 150)), some (.int x1), some (.int x2), some (.int x3), some (.int x4), some (.int y7), some (.int x6)]) dX12_lifters_92 (by decide) rfl rfl ?_
        refine cj_iinc C (v := (x6 + 1)) (lv' := [some (.ref (w.2.1 150)), some (.int x1), some (.int x2), some (.int x3), some (.int x4), some (.int y7), some (.int (x6 + 1))]) dX12_lifters_94 rfl rfl (by decide) rfl rfl ?_
        refine cj_goto C (tgt := 53) dX12_lifters_97 rfl ?_
        exact ih y7 (x6 + 1) S6 h
      · refine cj_aload_n C (i := 0) dX12_lifters_77 rfl rfl ?_
        refine cj_getR C (d := 151) o_150 rfl gfX12_13 dX12_lifters_78 ?_
        refine cj_bipush C (v := (46 : Int32)) dX12_lifters_81 rfl ?_
        refine cj_iload C dX12_lifters_83 rfl ?_
        refine cj_iadd C dX12_lifters_85 ?_
        refine cj_iaload C o_151 h dX12_lifters_86 (fun h => ?_)
        refine cj_goto C (tgt := 91) dX12_lifters_87 rfl ?_
        refine cj_iadd C dX12_lifters_91 ?_
        refine cj_let h (fun y8 h => ?_)
        refine cj_istore C (lv' := [some (.ref (w.2.1 150)), some (.int x1), some (.int x2), some (.int x3), some (.int x4), some (.int y8), some (.int x6)]) dX12_lifters_92 (by decide) rfl rfl ?_
        refine cj_iinc C (v := (x6 + 1)) (lv' := [some (.ref (w.2.1 150)), some (.int x1), some (.int x2), some (.int x3), some (.int x4), some (.int y8), some (.int (x6 + 1))]) dX12_lifters_94 rfl rfl (by decide) rfl rfl ?_
        refine cj_goto C (tgt := 53) dX12_lifters_97 rfl ?_
        exact ih y8 (x6 + 1) S6 h
def fX12_lifters_38 (x1 : Int32) (x2 : Int32) : Nat → Int32 → Int32 → cpS → Option (Int32 × cpS)
  | 0, _, _, _ => none
  | n + 1, x3, x4, S =>
    cpB (fX12_everybody S) fun z1 S2 =>
    if z1 < x4 then (
    if x3 = (-1 : Int32) then (
    some (x3, S2)) else (
    if x2 = (1 : Int32) then (
    some (x3, S2)) else (
    cpB (fX12_bitsOf x3 S2) fun z3 S4 =>
    some (z3, S4)))) else (
    fX12_lifters_53 x1 x2 x3 x4 (fX12_lifters_38 x1 x2 n) cpFu (0 : Int32) (0 : Int32) S2)
set_option maxRecDepth 100000 in
set_option maxHeartbeats 4000000 in
theorem wX12_lifters_38 (C : cpCx p s m args meth c w A cX12_lifters RX12 7) (hr : meth.sig.returnType = (some .int)) {r : Int32 × cpS} (x1 : Int32) (x2 : Int32) : ∀ (n : Nat) (x3 : Int32) (x4 : Int32) (S : cpS), fX12_lifters_38 x1 x2 n x3 x4 S = some r → cpJ p l e (cpRm 1) s m args below meth c (MQ below (va_Qi (fun x S' => (x, S') = r) (cpWorld w A) A) args s 0 0 A) w A 7 38 [some (.ref (w.2.1 150)), some (.int x1), some (.int x2), some (.int x3), some (.int x4), none, none] [] S := by
  intro n
  induction n with
  | zero => intro x3 x4 S h; rw [fX12_lifters_38] at h; cases h
  | succ n ih =>
    intro x3 x4 S h
    rw [fX12_lifters_38] at h
    refine cj_iload C dX12_lifters_38 rfl ?_
    refine cj_aload_n C (i := 0) dX12_lifters_40 rfl rfl ?_
    refine cj_callVi C (As := []) (rest := [.int x4]) qX12_everybody mw_56_7 o_150 rfl rfl rfl (Nat.le_of_ble_eq_true rfl) (by decide) dX12_lifters_41 h (fun _ _ hf => m_X12_everybody l w A S _ hf) (fun z1 S2 h => ?_)
    refine cj_icmp_gt C (tgt := 132) dX12_lifters_44 rfl h (fun _ h => ?_) (fun _ h => ?_)
    · refine cj_iload_n C (i := 3) dX12_lifters_132 rfl rfl ?_
      refine cj_iconst C (v := (-1 : Int32)) dX12_lifters_133 rfl ?_
      refine cj_icmp_eq C (tgt := 142) dX12_lifters_134 rfl h (fun _ h => ?_) (fun _ h => ?_)
      · refine cj_iload_n C (i := 3) dX12_lifters_142 rfl rfl ?_
        refine cj_goto C (tgt := 150) dX12_lifters_143 rfl ?_
        exact cj_ireturn C hr h dX12_lifters_150
      · refine cj_iload_n C (i := 2) dX12_lifters_137 rfl rfl ?_
        refine cj_iconst C (v := (1 : Int32)) dX12_lifters_138 rfl ?_
        refine cj_icmp_ne C (tgt := 146) dX12_lifters_139 rfl h (fun _ h => ?_) (fun _ h => ?_)
        · refine cj_iload_n C (i := 3) dX12_lifters_142 rfl rfl ?_
          refine cj_goto C (tgt := 150) dX12_lifters_143 rfl ?_
          exact cj_ireturn C hr h dX12_lifters_150
        · refine cj_iload_n C (i := 3) dX12_lifters_146 rfl rfl ?_
          refine cj_callSi C (As := [.int x3]) (rest := []) qX12_bitsOf mw_58_3 rfl rfl (Nat.le_of_ble_eq_true rfl) (by decide) dX12_lifters_147 h (fun _ _ hf => m_X12_bitsOf l w A x3 S2 _ hf) (fun z3 S4 h => ?_)
          exact cj_ireturn C hr h dX12_lifters_150
    · refine cj_iconst C (v := (0 : Int32)) dX12_lifters_47 rfl ?_
      refine cj_istore C (lv' := [some (.ref (w.2.1 150)), some (.int x1), some (.int x2), some (.int x3), some (.int x4), some (.int (0 : Int32)), none]) dX12_lifters_48 (by decide) rfl rfl ?_
      refine cj_iconst C (v := (0 : Int32)) dX12_lifters_50 rfl ?_
      refine cj_istore C (lv' := [some (.ref (w.2.1 150)), some (.int x1), some (.int x2), some (.int x3), some (.int x4), some (.int (0 : Int32)), some (.int (0 : Int32))]) dX12_lifters_51 (by decide) rfl rfl ?_
      exact wX12_lifters_53 C hr x1 x2 x3 x4 ih cpFu (0 : Int32) (0 : Int32) S2 h
def fX12_lifters (x1 : Int32) (x2 : Int32) (S : cpS) : Option (Int32 × cpS) :=
    cpLt (cpI S 150 0 (0 : Int32)) fun S1 =>
    cpB (fX12_within (Int32.toInt64 x2) (0 : Int64) (1 : Int64) S1) fun z2 S3 =>
    if z2 = 0 then (
    some ((-2 : Int32), S3)) else (
    cpB (fX12_within (Int32.toInt64 x1) (0 : Int64) (99 : Int64) S3) fun z4 S5 =>
    if z4 = 0 then (
    some ((-3 : Int32), S5)) else (
    fX12_lifters_38 x1 x2 cpFu (-1 : Int32) (0 : Int32) S5))
set_option maxRecDepth 100000 in
set_option maxHeartbeats 4000000 in
theorem m_X12_lifters (l : Launch) (w : cpW) (A : Nat → Prop) (x1 : Int32) (x2 : Int32) (S : cpS) (r : Int32 × cpS) (h : fX12_lifters x1 x2 S = some r) : cpMi l yX12_lifters cX12_lifters 7 ((some .int)) 1 w A [.ref (w.2.1 150), .int x1, .int x2] S r := by
  refine cpMi.of (lv := [some (.ref (w.2.1 150)), some (.int x1), some (.int x2), none, none, none, none]) (by decide) (Nat.le_of_ble_eq_true rfl) rfl (fun p e s m args below meth c C hr => ?_)
  replace C : cpCx p s m args meth c w A cX12_lifters RX12 7 := C
  rw [fX12_lifters] at h
  refine cj_aload_n C (i := 0) dX12_lifters_0 rfl rfl ?_
  refine cj_iconst C (v := (0 : Int32)) dX12_lifters_1 rfl ?_
  refine cj_put C (j := 0) o_150 rfl pfX12_1 rfl rfl dX12_lifters_2 ?_
  refine cj_lets h (fun S1 h => ?_)
  refine cj_iload_n C (i := 2) dX12_lifters_5 rfl rfl ?_
  refine cj_i2l C dX12_lifters_6 ?_
  refine cj_lconst C (v := (0 : Int64)) dX12_lifters_7 rfl ?_
  refine cj_lconst C (v := (1 : Int64)) dX12_lifters_8 rfl ?_
  refine cj_callSi C (As := [.long (Int32.toInt64 x2), .long (0 : Int64), .long (1 : Int64)]) (rest := []) qX12_within mw_23_15 rfl rfl (Nat.le_of_ble_eq_true rfl) (by decide) dX12_lifters_9 h (fun _ _ hf => m_X12_within l w A (Int32.toInt64 x2) (0 : Int64) (1 : Int64) S1 _ hf) (fun z2 S3 h => ?_)
  refine cj_if_ne C (tgt := 18) dX12_lifters_12 rfl h (fun _ h => ?_) (fun _ h => ?_)
  · refine cj_bipush C (v := (-2 : Int32)) dX12_lifters_15 rfl ?_
    exact cj_ireturn C hr h dX12_lifters_17
  · refine cj_iload_n C (i := 1) dX12_lifters_18 rfl rfl ?_
    refine cj_i2l C dX12_lifters_19 ?_
    refine cj_lconst C (v := (0 : Int64)) dX12_lifters_20 rfl ?_
    refine cj_ldc2 C (v := (99 : Int64)) mw_55_19 dX12_lifters_21 ?_
    refine cj_callSi C (As := [.long (Int32.toInt64 x1), .long (0 : Int64), .long (99 : Int64)]) (rest := []) qX12_within mw_23_15 rfl rfl (Nat.le_of_ble_eq_true rfl) (by decide) dX12_lifters_24 h (fun _ _ hf => m_X12_within l w A (Int32.toInt64 x1) (0 : Int64) (99 : Int64) S3 _ hf) (fun z4 S5 h => ?_)
    refine cj_if_ne C (tgt := 33) dX12_lifters_27 rfl h (fun _ h => ?_) (fun _ h => ?_)
    · refine cj_bipush C (v := (-3 : Int32)) dX12_lifters_30 rfl ?_
      exact cj_ireturn C hr h dX12_lifters_32
    · refine cj_iconst C (v := (-1 : Int32)) dX12_lifters_33 rfl ?_
      refine cj_istore_n C (i := 3) (lv' := [some (.ref (w.2.1 150)), some (.int x1), some (.int x2), some (.int (-1 : Int32)), none, none, none]) dX12_lifters_34 rfl (by decide) rfl rfl ?_
      refine cj_iconst C (v := (0 : Int32)) dX12_lifters_35 rfl ?_
      refine cj_istore C (lv' := [some (.ref (w.2.1 150)), some (.int x1), some (.int x2), some (.int (-1 : Int32)), some (.int (0 : Int32)), none, none]) dX12_lifters_36 (by decide) rfl rfl ?_
      exact wX12_lifters_38 C hr x1 x2 cpFu (-1 : Int32) (0 : Int32) S5 h
end CPV
