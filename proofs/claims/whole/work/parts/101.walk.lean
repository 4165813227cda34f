section CPV
variable {p : Program} {l : Launch} {e : Env} {s : State} {m : MethodId} {args : Array Value} {below : List Frame} {meth : Method} {c : Code} {w : cpW} {A : Nat → Prop}
/-! X0_tryDeed -/
def fX0_tryDeed_142 (x3 : Int32) (x6 : Int32) (s0 : Int32) (S : cpS) : Option (Int32 × cpS) :=
    if 0 ≤ s0 then (
    cpB (fX5_move 57 x6 (cpRem x3 (10 : Int32)) s0 S) fun _ S2 =>
    some ((0 : Int32), S2)) else (
    some ((-s0), S))
set_option maxRecDepth 100000 in
set_option maxHeartbeats 4000000 in
theorem wX0_tryDeed_142 (C : cpCx p s m args meth c w A cX0_tryDeed RX0 8) (hr : meth.sig.returnType = (some .int)) {r : Int32 × cpS} (x3 : Int32) (x6 : Int32) (s0 : Int32) (S : cpS) (h : fX0_tryDeed_142 x3 x6 s0 S = some r) : cpJ p l e (cpRm 5) s m args below meth c (MQ below (va_Qi (fun x S' => (x, S') = r) (cpWorld w A) A) args s 0 0 A) w A 8 142 [some (.ref (w.2.1 117)), none, none, some (.int x3), none, none, some (.int x6), none] [.int s0] S := by
  rw [fX0_tryDeed_142] at h
  refine cj_istore C (lv' := [some (.ref (w.2.1 117)), none, none, some (.int x3), none, none, some (.int x6), some (.int s0)]) dX0_tryDeed_142 (by decide) rfl rfl ?_
  refine cj_iload C dX0_tryDeed_144 rfl ?_
  refine cj_if_ge C (tgt := 153) dX0_tryDeed_146 rfl h (fun _ h => ?_) (fun _ h => ?_)
  · refine cj_aload_n C (i := 0) dX0_tryDeed_153 rfl rfl ?_
    refine cj_getR C (d := 57) o_117 rfl gfX0_21 dX0_tryDeed_154 ?_
    refine cj_iload C dX0_tryDeed_157 rfl ?_
    refine cj_iload_n C (i := 3) dX0_tryDeed_159 rfl rfl ?_
    refine cj_bipush C (v := (10 : Int32)) dX0_tryDeed_160 rfl ?_
    refine ck_irem C dX0_tryDeed_162 (by decide) ?_
    refine cj_iload C dX0_tryDeed_163 rfl ?_
    refine cj_callVv C (As := [.int x6, .int (cpRem x3 (10 : Int32)), .int s0]) (rest := []) qX5_move mw_43_19 o_57 rfl rfl rfl (Nat.le_of_ble_eq_true rfl) (by decide) dX0_tryDeed_165 h (fun _ _ hf => m_X5_move l w A kNw_57 x6 (cpRem x3 (10 : Int32)) s0 S _ hf) (fun z1 S2 h => ?_)
    refine cj_iconst C (v := (0 : Int32)) dX0_tryDeed_168 rfl ?_
    exact cj_ireturn C hr h dX0_tryDeed_169
  · refine cj_iload C dX0_tryDeed_149 rfl ?_
    refine cj_ineg C dX0_tryDeed_151 ?_
    exact cj_ireturn C hr h dX0_tryDeed_152
def fX0_tryDeed_60 (x1 : Int64) (S : cpS) : Option (Int32 × cpS) :=
    if (lg_cmp x1 (10000 : Int64)) < 0 then (
    some ((1 : Int32), S)) else (
    if (lg_cmp x1 (19999 : Int64)) ≤ 0 then (
    cpLt ((Int64.toInt32 x1) - (10000 : Int32)) fun y1 =>
    cpLt (y1 / (1000 : Int32)) fun y2 =>
    cpLt (cpRem (y1 / (100 : Int32)) (10 : Int32)) fun y3 =>
    cpLt (cpRem (y1 / (10 : Int32)) (10 : Int32)) fun y4 =>
    if y3 ≤ y2 then (
    fX0_tryDeed_142 y1 y4 (-1 : Int32) S) else (
    cpB (fX0_wearAt y2 y3 y4 (cpRem y1 (10 : Int32)) (S.1 57 3) S) fun z5 S6 =>
    fX0_tryDeed_142 y1 y4 z5 S6)) else (
    some ((1 : Int32), S)))
set_option maxRecDepth 100000 in
set_option maxHeartbeats 4000000 in
theorem wX0_tryDeed_60 (C : cpCx p s m args meth c w A cX0_tryDeed RX0 8) (hr : meth.sig.returnType = (some .int)) {r : Int32 × cpS} (x1 : Int64) (S : cpS) (h : fX0_tryDeed_60 x1 S = some r) : cpJ p l e (cpRm 5) s m args below meth c (MQ below (va_Qi (fun x S' => (x, S') = r) (cpWorld w A) A) args s 0 0 A) w A 8 60 [some (.ref (w.2.1 117)), some (.long x1), none, none, none, none, none, none] [] S := by
  rw [fX0_tryDeed_60] at h
  refine cj_lload_n C (i := 1) dX0_tryDeed_60 rfl rfl ?_
  refine cj_ldc2 C (v := (10000 : Int64)) mw_43_14 dX0_tryDeed_61 ?_
  refine cj_lcmp C dX0_tryDeed_64 ?_
  refine cj_if_lt C (tgt := 76) dX0_tryDeed_65 rfl h (fun _ h => ?_) (fun _ h => ?_)
  · refine cj_iconst C (v := (1 : Int32)) dX0_tryDeed_76 rfl ?_
    exact cj_ireturn C hr h dX0_tryDeed_77
  · refine cj_lload_n C (i := 1) dX0_tryDeed_68 rfl rfl ?_
    refine cj_ldc2 C (v := (19999 : Int64)) mw_43_15 dX0_tryDeed_69 ?_
    refine cj_lcmp C dX0_tryDeed_72 ?_
    refine cj_if_le C (tgt := 78) dX0_tryDeed_73 rfl h (fun _ h => ?_) (fun _ h => ?_)
    · refine cj_lload_n C (i := 1) dX0_tryDeed_78 rfl rfl ?_
      refine cj_l2i C dX0_tryDeed_79 ?_
      refine cj_sipush C (v := (10000 : Int32)) dX0_tryDeed_80 rfl ?_
      refine cj_isub C dX0_tryDeed_83 ?_
      refine cj_let h (fun y1 h => ?_)
      refine cj_istore_n C (i := 3) (lv' := [some (.ref (w.2.1 117)), some (.long x1), none, some (.int y1), none, none, none, none]) dX0_tryDeed_84 rfl (by decide) rfl rfl ?_
      refine cj_iload_n C (i := 3) dX0_tryDeed_85 rfl rfl ?_
      refine cj_sipush C (v := (1000 : Int32)) dX0_tryDeed_86 rfl ?_
      refine cj_idiv C dX0_tryDeed_89 (by decide) ?_
      refine cj_let h (fun y2 h => ?_)
      refine cj_istore C (lv' := [some (.ref (w.2.1 117)), some (.long x1), none, some (.int y1), some (.int y2), none, none, none]) dX0_tryDeed_90 (by decide) rfl rfl ?_
      refine cj_iload_n C (i := 3) dX0_tryDeed_92 rfl rfl ?_
      refine cj_bipush C (v := (100 : Int32)) dX0_tryDeed_93 rfl ?_
      refine cj_idiv C dX0_tryDeed_95 (by decide) ?_
      refine cj_bipush C (v := (10 : Int32)) dX0_tryDeed_96 rfl ?_
      refine ck_irem C dX0_tryDeed_98 (by decide) ?_
      refine cj_let h (fun y3 h => ?_)
      refine cj_istore C (lv' := [some (.ref (w.2.1 117)), some (.long x1), none, some (.int y1), some (.int y2), some (.int y3), none, none]) dX0_tryDeed_99 (by decide) rfl rfl ?_
      refine cj_iload_n C (i := 3) dX0_tryDeed_101 rfl rfl ?_
      refine cj_bipush C (v := (10 : Int32)) dX0_tryDeed_102 rfl ?_
      refine cj_idiv C dX0_tryDeed_104 (by decide) ?_
      refine cj_bipush C (v := (10 : Int32)) dX0_tryDeed_105 rfl ?_
      refine ck_irem C dX0_tryDeed_107 (by decide) ?_
      refine cj_let h (fun y4 h => ?_)
      refine cj_istore C (lv' := [some (.ref (w.2.1 117)), some (.long x1), none, some (.int y1), some (.int y2), some (.int y3), some (.int y4), none]) dX0_tryDeed_108 (by decide) rfl rfl ?_
      refine cj_iload C dX0_tryDeed_110 rfl ?_
      refine cj_iload C dX0_tryDeed_112 rfl ?_
      refine cj_icmp_ge C (tgt := 141) dX0_tryDeed_114 rfl h (fun _ h => ?_) (fun _ h => ?_)
      · refine cj_iconst C (v := (-1 : Int32)) dX0_tryDeed_141 rfl ?_
        refine cj_weak C (lv' := [some (.ref (w.2.1 117)), none, none, some (.int y1), none, none, some (.int y4), none]) (cpSub_s (cpSub_n (cpSub_n (cpSub_s (cpSub_n (cpSub_n (cpSub_s (cpSub_n cpSub_nil)))))))) ?_
        exact wX0_tryDeed_142 C hr y1 y4 (-1 : Int32) S h
      · refine cj_aload_n C (i := 0) dX0_tryDeed_117 rfl rfl ?_
        refine cj_iload C dX0_tryDeed_118 rfl ?_
        refine cj_iload C dX0_tryDeed_120 rfl ?_
        refine cj_iload C dX0_tryDeed_122 rfl ?_
        refine cj_iload_n C (i := 3) dX0_tryDeed_124 rfl rfl ?_
        refine cj_bipush C (v := (10 : Int32)) dX0_tryDeed_125 rfl ?_
        refine ck_irem C dX0_tryDeed_127 (by decide) ?_
        refine cj_aload_n C (i := 0) dX0_tryDeed_128 rfl rfl ?_
        refine cj_getR C (d := 57) o_117 rfl gfX0_21 dX0_tryDeed_129 ?_
        refine cj_getI C (j := 3) o_57 rfl gfX0_97 dX0_tryDeed_132 ?_
        refine cj_callVi C (As := [.int y2, .int y3, .int y4, .int (cpRem y1 (10 : Int32)), .int (S.1 57 3)]) (rest := []) qX0_wearAt mw_43_18 o_117 rfl rfl rfl (Nat.le_of_ble_eq_true rfl) (by decide) dX0_tryDeed_135 h (fun _ _ hf => m_X0_wearAt l w A y2 y3 y4 (cpRem y1 (10 : Int32)) (S.1 57 3) S _ hf) (fun z5 S6 h => ?_)
        refine cj_goto C (tgt := 142) dX0_tryDeed_138 rfl ?_
        refine cj_weak C (lv' := [some (.ref (w.2.1 117)), none, none, some (.int y1), none, none, some (.int y4), none]) (cpSub_s (cpSub_n (cpSub_n (cpSub_s (cpSub_n (cpSub_n (cpSub_s (cpSub_n cpSub_nil)))))))) ?_
        exact wX0_tryDeed_142 C hr y1 y4 z5 S6 h
    · refine cj_iconst C (v := (1 : Int32)) dX0_tryDeed_76 rfl ?_
      exact cj_ireturn C hr h dX0_tryDeed_77
def fX0_tryDeed_26 (x1 : Int64) (S : cpS) : Option (Int32 × cpS) :=
    if (lg_cmp x1 (100 : Int64)) < 0 then (
    fX0_tryDeed_60 x1 S) else (
    if 0 < (lg_cmp x1 (199 : Int64)) then (
    fX0_tryDeed_60 x1 S) else (
    cpB (fX0_quarrelNow (((Int64.toInt32 x1) - (100 : Int32)) / (10 : Int32)) (cpRem (Int64.toInt32 x1) (10 : Int32)) S) fun z1 S2 =>
    some (z1, S2)))
set_option maxRecDepth 100000 in
set_option maxHeartbeats 4000000 in
theorem wX0_tryDeed_26 (C : cpCx p s m args meth c w A cX0_tryDeed RX0 8) (hr : meth.sig.returnType = (some .int)) {r : Int32 × cpS} (x1 : Int64) (S : cpS) (h : fX0_tryDeed_26 x1 S = some r) : cpJ p l e (cpRm 5) s m args below meth c (MQ below (va_Qi (fun x S' => (x, S') = r) (cpWorld w A) A) args s 0 0 A) w A 8 26 [some (.ref (w.2.1 117)), some (.long x1), none, none, none, none, none, none] [] S := by
  rw [fX0_tryDeed_26] at h
  refine cj_lload_n C (i := 1) dX0_tryDeed_26 rfl rfl ?_
  refine cj_ldc2 C (v := (100 : Int64)) mw_43_12 dX0_tryDeed_27 ?_
  refine cj_lcmp C dX0_tryDeed_30 ?_
  refine cj_if_lt C (tgt := 60) dX0_tryDeed_31 rfl h (fun _ h => ?_) (fun _ h => ?_)
  · exact wX0_tryDeed_60 C hr x1 S h
  · refine cj_lload_n C (i := 1) dX0_tryDeed_34 rfl rfl ?_
    refine cj_ldc2 C (v := (199 : Int64)) mw_43_13 dX0_tryDeed_35 ?_
    refine cj_lcmp C dX0_tryDeed_38 ?_
    refine cj_if_gt C (tgt := 60) dX0_tryDeed_39 rfl h (fun _ h => ?_) (fun _ h => ?_)
    · exact wX0_tryDeed_60 C hr x1 S h
    · refine cj_aload_n C (i := 0) dX0_tryDeed_42 rfl rfl ?_
      refine cj_lload_n C (i := 1) dX0_tryDeed_43 rfl rfl ?_
      refine cj_l2i C dX0_tryDeed_44 ?_
      refine cj_bipush C (v := (100 : Int32)) dX0_tryDeed_45 rfl ?_
      refine cj_isub C dX0_tryDeed_47 ?_
      refine cj_bipush C (v := (10 : Int32)) dX0_tryDeed_48 rfl ?_
      refine cj_idiv C dX0_tryDeed_50 (by decide) ?_
      refine cj_lload_n C (i := 1) dX0_tryDeed_51 rfl rfl ?_
      refine cj_l2i C dX0_tryDeed_52 ?_
      refine cj_bipush C (v := (10 : Int32)) dX0_tryDeed_53 rfl ?_
      refine ck_irem C dX0_tryDeed_55 (by decide) ?_
      refine cj_callVi C (As := [.int (((Int64.toInt32 x1) - (100 : Int32)) / (10 : Int32)), .int (cpRem (Int64.toInt32 x1) (10 : Int32))]) (rest := []) qX0_quarrelNow mw_43_17 o_117 rfl rfl rfl (Nat.le_of_ble_eq_true rfl) (by decide) dX0_tryDeed_56 h (fun _ _ hf => m_X0_quarrelNow l w A (((Int64.toInt32 x1) - (100 : Int32)) / (10 : Int32)) (cpRem (Int64.toInt32 x1) (10 : Int32)) S _ hf) (fun z1 S2 h => ?_)
      exact cj_ireturn C hr h dX0_tryDeed_59
def fX0_tryDeed (x1 : Int64) (S : cpS) : Option (Int32 × cpS) :=
    if (lg_cmp x1 (10 : Int64)) < 0 then (
    fX0_tryDeed_26 x1 S) else (
    if 0 < (lg_cmp x1 (19 : Int64)) then (
    fX0_tryDeed_26 x1 S) else (
    cpB (fX0_hourNow ((Int64.toInt32 x1) - (10 : Int32)) S) fun z1 S2 =>
    some (z1, S2)))
set_option maxRecDepth 100000 in
set_option maxHeartbeats 4000000 in
theorem m_X0_tryDeed (l : Launch) (w : cpW) (A : Nat → Prop) (x1 : Int64) (S : cpS) (r : Int32 × cpS) (h : fX0_tryDeed x1 S = some r) : cpMi l yX0_tryDeed cX0_tryDeed 8 ((some .int)) 5 w A [.ref (w.2.1 117), .long x1] S r := by
  refine cpMi.of (lv := [some (.ref (w.2.1 117)), some (.long x1), none, none, none, none, none, none]) (by decide) (Nat.le_of_ble_eq_true rfl) rfl (fun p e s m args below meth c C hr => ?_)
  replace C : cpCx p s m args meth c w A cX0_tryDeed RX0 8 := C
  rw [fX0_tryDeed] at h
  refine cj_lload_n C (i := 1) dX0_tryDeed_0 rfl rfl ?_
  refine cj_ldc2 C (v := (10 : Int64)) mw_43_10 dX0_tryDeed_1 ?_
  refine cj_lcmp C dX0_tryDeed_4 ?_
  refine cj_if_lt C (tgt := 26) dX0_tryDeed_5 rfl h (fun _ h => ?_) (fun _ h => ?_)
  · exact wX0_tryDeed_26 C hr x1 S h
  · refine cj_lload_n C (i := 1) dX0_tryDeed_8 rfl rfl ?_
    refine cj_ldc2 C (v := (19 : Int64)) mw_43_11 dX0_tryDeed_9 ?_
    refine cj_lcmp C dX0_tryDeed_12 ?_
    refine cj_if_gt C (tgt := 26) dX0_tryDeed_13 rfl h (fun _ h => ?_) (fun _ h => ?_)
    · exact wX0_tryDeed_26 C hr x1 S h
    · refine cj_aload_n C (i := 0) dX0_tryDeed_16 rfl rfl ?_
      refine cj_lload_n C (i := 1) dX0_tryDeed_17 rfl rfl ?_
      refine cj_l2i C dX0_tryDeed_18 ?_
      refine cj_bipush C (v := (10 : Int32)) dX0_tryDeed_19 rfl ?_
      refine cj_isub C dX0_tryDeed_21 ?_
      refine cj_callVi C (As := [.int ((Int64.toInt32 x1) - (10 : Int32))]) (rest := []) qX0_hourNow mw_43_16 o_117 rfl rfl rfl (Nat.le_of_ble_eq_true rfl) (by decide) dX0_tryDeed_22 h (fun _ _ hf => m_X0_hourNow l w A ((Int64.toInt32 x1) - (10 : Int32)) S _ hf) (fun z1 S2 h => ?_)
      exact cj_ireturn C hr h dX0_tryDeed_25
/-! X0_allSoAt -/
def fX0_allSoAt_2 (k1 : Nat) (x2 : Int32) : Nat → Int32 → cpS → Option (Int32 × cpS)
  | 0, _, _ => none
  | n + 1, x3, S =>
    if (S.1 k1 1) ≤ x3 then (
    some ((1 : Int32), S)) else (
    if cpIn x3 40 then (
    cpLt (Int64.toInt32 (S.2 (k1 + 1) x3.toNatClampNeg)) fun y1 =>
    cpLt (y1 / (10 : Int32)) fun y2 =>
    cpLt (y2 / (1000 : Int32)) fun y3 =>
    cpLt (cpRem (y2 / (100 : Int32)) (10 : Int32)) fun y4 =>
    if y4 ≤ y3 then (
    some ((0 : Int32), S)) else (
    cpB (fX0_wearAt y3 y4 (cpRem (y2 / (10 : Int32)) (10 : Int32)) (cpRem y2 (10 : Int32)) x2 S) fun z5 S6 =>
    if z5 = (cpRem y1 (10 : Int32)) then (
    fX0_allSoAt_2 k1 x2 n (x3 + 1) S6) else (
    some ((0 : Int32), S6)))) else none)
set_option maxRecDepth 100000 in
set_option maxHeartbeats 4000000 in
theorem wX0_allSoAt_2 (C : cpCx p s m args meth c w A cX0_allSoAt RX0 8) (hr : meth.sig.returnType = (some .boolean)) {r : Int32 × cpS} {k1 : Nat} (hk1 : cpTy k1) (x2 : Int32) : ∀ (n : Nat) (x3 : Int32) (S : cpS), fX0_allSoAt_2 k1 x2 n x3 S = some r → cpJ p l e (cpRm 5) s m args below meth c (MQ below (va_Qi (fun x S' => (x, S') = r) (cpWorld w A) A) args s 0 0 A) w A 8 2 [some (.ref (w.2.1 117)), some (.ref (w.2.1 k1)), some (.int x2), some (.int x3), none, none, none, none] [] S := by
  intro n
  induction n with
  | zero => intro x3 S h; rw [fX0_allSoAt_2] at h; cases h
  | succ n ih =>
    intro x3 S h
    rw [fX0_allSoAt_2] at h
    refine cj_iload_n C (i := 3) dX0_allSoAt_2 rfl rfl ?_
    refine cj_aload_n C (i := 1) dX0_allSoAt_3 rfl rfl ?_
    refine cj_getI C (j := 1) (cpTy_o0 hk1) rfl gfX0_146 dX0_allSoAt_4 ?_
    refine cj_icmp_ge C (tgt := 89) dX0_allSoAt_7 rfl h (fun _ h => ?_) (fun _ h => ?_)
    · refine cj_iconst C (v := (1 : Int32)) dX0_allSoAt_89 rfl ?_
      exact cj_zreturn C hr rfl h dX0_allSoAt_90
    · refine cj_aload_n C (i := 1) dX0_allSoAt_10 rfl rfl ?_
      refine cj_getR C (d := (k1 + 1)) (cpTy_o0 hk1) rfl gfX0_151 dX0_allSoAt_11 ?_
      refine cj_iload_n C (i := 3) dX0_allSoAt_14 rfl rfl ?_
      refine cj_laload C (cpTy_o1 hk1) h dX0_allSoAt_15 (fun h => ?_)
      refine cj_l2i C dX0_allSoAt_16 ?_
      refine cj_let h (fun y1 h => ?_)
      refine cj_istore C (lv' := [some (.ref (w.2.1 117)), some (.ref (w.2.1 k1)), some (.int x2), some (.int x3), some (.int y1), none, none, none]) dX0_allSoAt_17 (by decide) rfl rfl ?_
      refine cj_iload C dX0_allSoAt_19 rfl ?_
      refine cj_bipush C (v := (10 : Int32)) dX0_allSoAt_21 rfl ?_
      refine cj_idiv C dX0_allSoAt_23 (by decide) ?_
      refine cj_let h (fun y2 h => ?_)
      refine cj_istore C (lv' := [some (.ref (w.2.1 117)), some (.ref (w.2.1 k1)), some (.int x2), some (.int x3), some (.int y1), some (.int y2), none, none]) dX0_allSoAt_24 (by decide) rfl rfl ?_
      refine cj_iload C dX0_allSoAt_26 rfl ?_
      refine cj_sipush C (v := (1000 : Int32)) dX0_allSoAt_28 rfl ?_
      refine cj_idiv C dX0_allSoAt_31 (by decide) ?_
      refine cj_let h (fun y3 h => ?_)
      refine cj_istore C (lv' := [some (.ref (w.2.1 117)), some (.ref (w.2.1 k1)), some (.int x2), some (.int x3), some (.int y1), some (.int y2), some (.int y3), none]) dX0_allSoAt_32 (by decide) rfl rfl ?_
      refine cj_iload C dX0_allSoAt_34 rfl ?_
      refine cj_bipush C (v := (100 : Int32)) dX0_allSoAt_36 rfl ?_
      refine cj_idiv C dX0_allSoAt_38 (by decide) ?_
      refine cj_bipush C (v := (10 : Int32)) dX0_allSoAt_39 rfl ?_
      refine ck_irem C dX0_allSoAt_41 (by decide) ?_
      refine cj_let h (fun y4 h => ?_)
      refine cj_istore C (lv' := [some (.ref (w.2.1 117)), some (.ref (w.2.1 k1)), some (.int x2), some (.int x3), some (.int y1), some (.int y2), some (.int y3), some (.int y4)]) dX0_allSoAt_42 (by decide) rfl rfl ?_
      refine cj_iload C dX0_allSoAt_44 rfl ?_
      refine cj_iload C dX0_allSoAt_46 rfl ?_
      refine cj_icmp_ge C (tgt := 81) dX0_allSoAt_48 rfl h (fun _ h => ?_) (fun _ h => ?_)
      · refine cj_iconst C (v := (0 : Int32)) dX0_allSoAt_81 rfl ?_
        exact cj_zreturn C hr rfl h dX0_allSoAt_82
      · refine cj_aload_n C (i := 0) dX0_allSoAt_51 rfl rfl ?_
        refine cj_iload C dX0_allSoAt_52 rfl ?_
        refine cj_iload C dX0_allSoAt_54 rfl ?_
        refine cj_iload C dX0_allSoAt_56 rfl ?_
        refine cj_bipush C (v := (10 : Int32)) dX0_allSoAt_58 rfl ?_
        refine cj_idiv C dX0_allSoAt_60 (by decide) ?_
        refine cj_bipush C (v := (10 : Int32)) dX0_allSoAt_61 rfl ?_
        refine ck_irem C dX0_allSoAt_63 (by decide) ?_
        refine cj_iload C dX0_allSoAt_64 rfl ?_
        refine cj_bipush C (v := (10 : Int32)) dX0_allSoAt_66 rfl ?_
        refine ck_irem C dX0_allSoAt_68 (by decide) ?_
        refine cj_iload_n C (i := 2) dX0_allSoAt_69 rfl rfl ?_
        refine cj_callVi C (As := [.int y3, .int y4, .int (cpRem (y2 / (10 : Int32)) (10 : Int32)), .int (cpRem y2 (10 : Int32)), .int x2]) (rest := []) qX0_wearAt mw_43_18 o_117 rfl rfl rfl (Nat.le_of_ble_eq_true rfl) (by decide) dX0_allSoAt_70 h (fun _ _ hf => m_X0_wearAt l w A y3 y4 (cpRem (y2 / (10 : Int32)) (10 : Int32)) (cpRem y2 (10 : Int32)) x2 S _ hf) (fun z5 S6 h => ?_)
        refine cj_iload C dX0_allSoAt_73 rfl ?_
        refine cj_bipush C (v := (10 : Int32)) dX0_allSoAt_75 rfl ?_
        refine ck_irem C dX0_allSoAt_77 (by decide) ?_
        refine cj_icmp_eq C (tgt := 83) dX0_allSoAt_78 rfl h (fun _ h => ?_) (fun _ h => ?_)
        · refine cj_iinc C (v := (x3 + 1)) (lv' := [some (.ref (w.2.1 117)), some (.ref (w.2.1 k1)), some (.int x2), some (.int (x3 + 1)), some (.int y1), some (.int y2), some (.int y3), some (.int y4)]) dX0_allSoAt_83 rfl rfl (by decide) rfl rfl ?_
          refine cj_goto C (tgt := 2) dX0_allSoAt_86 rfl ?_
          refine cj_weak C (lv' := [some (.ref (w.2.1 117)), some (.ref (w.2.1 k1)), some (.int x2), some (.int (x3 + 1)), none, none, none, none]) (cpSub_s (cpSub_s (cpSub_s (cpSub_s (cpSub_n (cpSub_n (cpSub_n (cpSub_n cpSub_nil)))))))) ?_
          exact ih (x3 + 1) S6 h
        · refine cj_iconst C (v := (0 : Int32)) dX0_allSoAt_81 rfl ?_
          exact cj_zreturn C hr rfl h dX0_allSoAt_82
def fX0_allSoAt (k1 : Nat) (x2 : Int32) (S : cpS) : Option (Int32 × cpS) :=
    fX0_allSoAt_2 k1 x2 cpFu (0 : Int32) S
set_option maxRecDepth 100000 in
set_option maxHeartbeats 4000000 in
theorem m_X0_allSoAt (l : Launch) (w : cpW) (A : Nat → Prop) {k1 : Nat} (hk1 : cpTy k1) (x2 : Int32) (S : cpS) (r : Int32 × cpS) (h : fX0_allSoAt k1 x2 S = some r) : cpMi l yX0_allSoAt cX0_allSoAt 8 ((some .boolean)) 5 w A [.ref (w.2.1 117), .ref (w.2.1 k1), .int x2] S r := by
  refine cpMi.of (lv := [some (.ref (w.2.1 117)), some (.ref (w.2.1 k1)), some (.int x2), none, none, none, none, none]) (by decide) (Nat.le_of_ble_eq_true rfl) rfl (fun p e s m args below meth c C hr => ?_)
  replace C : cpCx p s m args meth c w A cX0_allSoAt RX0 8 := C
  rw [fX0_allSoAt] at h
  refine cj_iconst C (v := (0 : Int32)) dX0_allSoAt_0 rfl ?_
  refine cj_istore_n C (i := 3) (lv' := [some (.ref (w.2.1 117)), some (.ref (w.2.1 k1)), some (.int x2), some (.int (0 : Int32)), none, none, none, none]) dX0_allSoAt_1 rfl (by decide) rfl rfl ?_
  exact wX0_allSoAt_2 C hr hk1 x2 cpFu (0 : Int32) S h
/-! X0_hoursOf -/
def fX0_hoursOf_4 (k1 : Nat) : Nat → Int32 → Int32 → cpS → Option (Int32 × cpS)
  | 0, _, _, _ => none
  | n + 1, x2, x3, S =>
    if (10 : Int32) ≤ x3 then (
    some (x2, S)) else (
    cpB (fX0_allSoAt k1 x3 S) fun z1 S2 =>
    if z1 = 0 then (
    fX0_hoursOf_4 k1 n x2 (x3 + 1) S2) else (
    cpLt (x2 ||| (cpShl (1 : Int32) x3)) fun y3 =>
    fX0_hoursOf_4 k1 n y3 (x3 + 1) S2))
set_option maxRecDepth 100000 in
set_option maxHeartbeats 4000000 in
theorem wX0_hoursOf_4 (C : cpCx p s m args meth c w A cX0_hoursOf RX0 4) (hr : meth.sig.returnType = (some .int)) {r : Int32 × cpS} {k1 : Nat} (hk1 : cpTy k1) : ∀ (n : Nat) (x2 : Int32) (x3 : Int32) (S : cpS), fX0_hoursOf_4 k1 n x2 x3 S = some r → cpJ p l e (cpRm 6) s m args below meth c (MQ below (va_Qi (fun x S' => (x, S') = r) (cpWorld w A) A) args s 0 0 A) w A 4 4 [some (.ref (w.2.1 117)), some (.ref (w.2.1 k1)), some (.int x2), some (.int x3)] [] S := by
  intro n
  induction n with
  | zero => intro x2 x3 S h; rw [fX0_hoursOf_4] at h; cases h
  | succ n ih =>
    intro x2 x3 S h
    rw [fX0_hoursOf_4] at h
    refine cj_iload_n C (i := 3) dX0_hoursOf_4 rfl rfl ?_
    refine cj_bipush C (v := (10 : Int32)) dX0_hoursOf_5 rfl ?_
    refine cj_icmp_ge C (tgt := 31) dX0_hoursOf_7 rfl h (fun _ h => ?_) (fun _ h => ?_)
    · refine cj_iload_n C (i := 2) dX0_hoursOf_31 rfl rfl ?_
      exact cj_ireturn C hr h dX0_hoursOf_32
    · refine cj_aload_n C (i := 0) dX0_hoursOf_10 rfl rfl ?_
      refine cj_aload_n C (i := 1) dX0_hoursOf_11 rfl rfl ?_
      refine cj_iload_n C (i := 3) dX0_hoursOf_12 rfl rfl ?_
      refine cj_callVi C (As := [.ref (w.2.1 k1), .int x3]) (rest := []) qX0_allSoAt mw_68_16 o_117 rfl rfl rfl (Nat.le_of_ble_eq_true rfl) (by decide) dX0_hoursOf_13 h (fun _ _ hf => m_X0_allSoAt l w A hk1 x3 S _ hf) (fun z1 S2 h => ?_)
      refine cj_if_eq C (tgt := 25) dX0_hoursOf_16 rfl h (fun _ h => ?_) (fun _ h => ?_)
      · refine cj_iinc C (v := (x3 + 1)) (lv' := [some (.ref (w.2.1 117)), some (.ref (w.2.1 k1)), some (.int x2), some (.int (x3 + 1))]) dX0_hoursOf_25 rfl rfl (by decide) rfl rfl ?_
        refine cj_goto C (tgt := 4) dX0_hoursOf_28 rfl ?_
        exact ih x2 (x3 + 1) S2 h
      · refine cj_iload_n C (i := 2) dX0_hoursOf_19 rfl rfl ?_
        refine cj_iconst C (v := (1 : Int32)) dX0_hoursOf_20 rfl ?_
        refine cj_iload_n C (i := 3) dX0_hoursOf_21 rfl rfl ?_
        refine ck_ishl C dX0_hoursOf_22 ?_
        refine cj_ior C dX0_hoursOf_23 ?_
        refine cj_let h (fun y3 h => ?_)
        refine cj_istore_n C (i := 2) (lv' := [some (.ref (w.2.1 117)), some (.ref (w.2.1 k1)), some (.int y3), some (.int x3)]) dX0_hoursOf_24 rfl (by decide) rfl rfl ?_
        refine cj_iinc C (v := (x3 + 1)) (lv' := [some (.ref (w.2.1 117)), some (.ref (w.2.1 k1)), some (.int y3), some (.int (x3 + 1))]) dX0_hoursOf_25 rfl rfl (by decide) rfl rfl ?_
        refine cj_goto C (tgt := 4) dX0_hoursOf_28 rfl ?_
        exact ih y3 (x3 + 1) S2 h
def fX0_hoursOf (k1 : Nat) (S : cpS) : Option (Int32 × cpS) :=
    fX0_hoursOf_4 k1 cpFu (0 : Int32) (0 : Int32) S
set_option maxRecDepth 100000 in
set_option maxHeartbeats 4000000 in
theorem m_X0_hoursOf (l : Launch) (w : cpW) (A : Nat → Prop) {k1 : Nat} (hk1 : cpTy k1) (S : cpS) (r : Int32 × cpS) (h : fX0_hoursOf k1 S = some r) : cpMi l yX0_hoursOf cX0_hoursOf 4 ((some .int)) 6 w A [.ref (w.2.1 117), .ref (w.2.1 k1)] S r := by
  refine cpMi.of (lv := [some (.ref (w.2.1 117)), some (.ref (w.2.1 k1)), none, none]) (by decide) (Nat.le_of_ble_eq_true rfl) rfl (fun p e s m args below meth c C hr => ?_)
  replace C : cpCx p s m args meth c w A cX0_hoursOf RX0 4 := C
  rw [fX0_hoursOf] at h
  refine cj_iconst C (v := (0 : Int32)) dX0_hoursOf_0 rfl ?_
  refine cj_istore_n C (i := 2) (lv' := [some (.ref (w.2.1 117)), some (.ref (w.2.1 k1)), some (.int (0 : Int32)), none]) dX0_hoursOf_1 rfl (by decide) rfl rfl ?_
  refine cj_iconst C (v := (0 : Int32)) dX0_hoursOf_2 rfl ?_
  refine cj_istore_n C (i := 3) (lv' := [some (.ref (w.2.1 117)), some (.ref (w.2.1 k1)), some (.int (0 : Int32)), some (.int (0 : Int32))]) dX0_hoursOf_3 rfl (by decide) rfl rfl ?_
  exact wX0_hoursOf_4 C hr hk1 cpFu (0 : Int32) (0 : Int32) S h
/-! X1_everybody -/
def fX1_everybody (S : cpS) : Option (Int32 × cpS) :=
    some (((cpShl (1 : Int32) (S.1 1 7)) - (1 : Int32)), S)
set_option maxRecDepth 100000 in
set_option maxHeartbeats 4000000 in
theorem m_X1_everybody (l : Launch) (w : cpW) (A : Nat → Prop) (S : cpS) (r : Int32 × cpS) (h : fX1_everybody S = some r) : cpMi l yX1_everybody cX1_everybody 1 ((some .int)) 0 w A [.ref (w.2.1 127)] S r := by
  refine cpMi.of (lv := [some (.ref (w.2.1 127))]) (by decide) (Nat.le_of_ble_eq_true rfl) rfl (fun p e s m args below meth c C hr => ?_)
  replace C : cpCx p s m args meth c w A cX1_everybody RX1 1 := C
  rw [fX1_everybody] at h
  refine cj_iconst C (v := (1 : Int32)) dX1_everybody_0 rfl ?_
  refine cj_aload_n C (i := 0) dX1_everybody_1 rfl rfl ?_
  refine cj_getR C (d := 1) o_127 rfl gfX1_18 dX1_everybody_2 ?_
  refine cj_getI C (j := 7) o_1 rfl gfX1_26 dX1_everybody_5 ?_
  refine ck_ishl C dX1_everybody_8 ?_
  refine cj_iconst C (v := (1 : Int32)) dX1_everybody_9 rfl ?_
  refine cj_isub C dX1_everybody_10 ?_
  exact cj_ireturn C hr h dX1_everybody_11
/-! X1_friendsOf -/
def fX1_friendsOf (x1 : Int32) (S : cpS) : Option (Int32 × cpS) :=
    cpB (fX1_everybody S) fun z1 S2 =>
    if cpIn x1 8 then (
    some (((z1 &&& ((S2.1 60 x1.toNatClampNeg) ^^^ (-1 : Int32))) &&& ((cpShl (1 : Int32) x1) ^^^ (-1 : Int32))), S2)) else none
set_option maxRecDepth 100000 in
set_option maxHeartbeats 4000000 in
theorem m_X1_friendsOf (l : Launch) (w : cpW) (A : Nat → Prop) (x1 : Int32) (S : cpS) (r : Int32 × cpS) (h : fX1_friendsOf x1 S = some r) : cpMi l yX1_friendsOf cX1_friendsOf 2 ((some .int)) 1 w A [.ref (w.2.1 127), .int x1] S r := by
  refine cpMi.of (lv := [some (.ref (w.2.1 127)), some (.int x1)]) (by decide) (Nat.le_of_ble_eq_true rfl) rfl (fun p e s m args below meth c C hr => ?_)
  replace C : cpCx p s m args meth c w A cX1_friendsOf RX1 2 := C
  rw [fX1_friendsOf] at h
  refine cj_aload_n C (i := 0) dX1_friendsOf_0 rfl rfl ?_
  refine cj_callVi C (As := []) (rest := []) qX1_everybody mw_54_14 o_127 rfl rfl rfl (Nat.le_of_ble_eq_true rfl) (by decide) dX1_friendsOf_1 h (fun _ _ hf => m_X1_everybody l w A S _ hf) (fun z1 S2 h => ?_)
  refine cj_aload_n C (i := 0) dX1_friendsOf_4 rfl rfl ?_
  refine cj_getR C (d := 57) o_127 rfl gfX1_22 dX1_friendsOf_5 ?_
  refine cj_getR C (d := 60) o_57 rfl gfX1_36 dX1_friendsOf_8 ?_
  refine cj_iload_n C (i := 1) dX1_friendsOf_11 rfl rfl ?_
  refine cj_iaload C o_60 h dX1_friendsOf_12 (fun h => ?_)
  refine cj_iconst C (v := (-1 : Int32)) dX1_friendsOf_13 rfl ?_
  refine cj_ixor C dX1_friendsOf_14 ?_
  refine cj_iand C dX1_friendsOf_15 ?_
  refine cj_iconst C (v := (1 : Int32)) dX1_friendsOf_16 rfl ?_
  refine cj_iload_n C (i := 1) dX1_friendsOf_17 rfl rfl ?_
  refine ck_ishl C dX1_friendsOf_18 ?_
  refine cj_iconst C (v := (-1 : Int32)) dX1_friendsOf_19 rfl ?_
  refine cj_ixor C dX1_friendsOf_20 ?_
  refine cj_iand C dX1_friendsOf_21 ?_
  exact cj_ireturn C hr h dX1_friendsOf_22
/-! X1_leastIn -/
def fX1_leastIn_2 (x1 : Int32) : Nat → Int32 → cpS → Option (Int32 × cpS)
  | 0, _, _ => none
  | n + 1, x2, S =>
    if ((S.1 1 7) - (1 : Int32)) ≤ x2 then (
    some (x2, S)) else (
    cpB (fX11_isIn x1 x2 S) fun z1 S2 =>
    if z1 = 0 then (
    fX1_leastIn_2 x1 n (x2 + 1) S2) else (
    some (x2, S2)))
set_option maxRecDepth 100000 in
set_option maxHeartbeats 4000000 in
theorem wX1_leastIn_2 (C : cpCx p s m args meth c w A cX1_leastIn RX1 3) (hr : meth.sig.returnType = (some .int)) {r : Int32 × cpS} (x1 : Int32) : ∀ (n : Nat) (x2 : Int32) (S : cpS), fX1_leastIn_2 x1 n x2 S = some r → cpJ p l e (cpRm 1) s m args below meth c (MQ below (va_Qi (fun x S' => (x, S') = r) (cpWorld w A) A) args s 0 0 A) w A 3 2 [some (.ref (w.2.1 127)), some (.int x1), some (.int x2)] [] S := by
  intro n
  induction n with
  | zero => intro x2 S h; rw [fX1_leastIn_2] at h; cases h
  | succ n ih =>
    intro x2 S h
    rw [fX1_leastIn_2] at h
    refine cj_iload_n C (i := 2) dX1_leastIn_2 rfl rfl ?_
    refine cj_aload_n C (i := 0) dX1_leastIn_3 rfl rfl ?_
    refine cj_getR C (d := 1) o_127 rfl gfX1_18 dX1_leastIn_4 ?_
    refine cj_getI C (j := 7) o_1 rfl gfX1_26 dX1_leastIn_7 ?_
    refine cj_iconst C (v := (1 : Int32)) dX1_leastIn_10 rfl ?_
    refine cj_isub C dX1_leastIn_11 ?_
    refine cj_icmp_ge C (tgt := 29) dX1_leastIn_12 rfl h (fun _ h => ?_) (fun _ h => ?_)
    · refine cj_iload_n C (i := 2) dX1_leastIn_29 rfl rfl ?_
      exact cj_ireturn C hr h dX1_leastIn_30
    · refine cj_iload_n C (i := 1) dX1_leastIn_15 rfl rfl ?_
      refine cj_iload_n C (i := 2) dX1_leastIn_16 rfl rfl ?_
      refine cj_callNi C (As := [.int x1, .int x2]) (rest := []) qX11_isIn (List.mem_of_getElem? (i := 6) rfl) rfl rfl (Nat.le_of_ble_eq_true rfl) (by decide) dX1_leastIn_17 h (fun _ _ hf => m_X11_isIn l w A x1 x2 S _ hf) (fun z1 S2 h => ?_)
      refine cj_if_ne C (tgt := 29) dX1_leastIn_20 rfl h (fun _ h => ?_) (fun _ h => ?_)
      · refine cj_iinc C (v := (x2 + 1)) (lv' := [some (.ref (w.2.1 127)), some (.int x1), some (.int (x2 + 1))]) dX1_leastIn_23 rfl rfl (by decide) rfl rfl ?_
        refine cj_goto C (tgt := 2) dX1_leastIn_26 rfl ?_
        exact ih (x2 + 1) S2 h
      · refine cj_iload_n C (i := 2) dX1_leastIn_29 rfl rfl ?_
        exact cj_ireturn C hr h dX1_leastIn_30
def fX1_leastIn (x1 : Int32) (S : cpS) : Option (Int32 × cpS) :=
    fX1_leastIn_2 x1 cpFu (0 : Int32) S
set_option maxRecDepth 100000 in
set_option maxHeartbeats 4000000 in
theorem m_X1_leastIn (l : Launch) (w : cpW) (A : Nat → Prop) (x1 : Int32) (S : cpS) (r : Int32 × cpS) (h : fX1_leastIn x1 S = some r) : cpMi l yX1_leastIn cX1_leastIn 3 ((some .int)) 1 w A [.ref (w.2.1 127), .int x1] S r := by
  refine cpMi.of (lv := [some (.ref (w.2.1 127)), some (.int x1), none]) (by decide) (Nat.le_of_ble_eq_true rfl) rfl (fun p e s m args below meth c C hr => ?_)
  replace C : cpCx p s m args meth c w A cX1_leastIn RX1 3 := C
  rw [fX1_leastIn] at h
  refine cj_iconst C (v := (0 : Int32)) dX1_leastIn_0 rfl ?_
  refine cj_istore_n C (i := 2) (lv' := [some (.ref (w.2.1 127)), some (.int x1), some (.int (0 : Int32))]) dX1_leastIn_1 rfl (by decide) rfl rfl ?_
  exact wX1_leastIn_2 C hr x1 cpFu (0 : Int32) S h
/-! X1_canPair -/
def fX1_canPair (x1 : Int32) (x2 : Int32) (x3 : Int32) (S : cpS) : Option (Int32 × cpS) :=
    cpB (fX5_feuding 57 x1 x2 S) fun z1 S2 =>
    if z1 = 0 then (
    if cpIn x1 8 then (
    if cpIn x2 8 then (
    if ((S2.1 6 x1.toNatClampNeg) + (S2.1 6 x2.toNatClampNeg)) < x3 then (
    some ((0 : Int32), S2)) else (
    some ((1 : Int32), S2))) else none) else none) else (
    some ((0 : Int32), S2))
set_option maxRecDepth 100000 in
set_option maxHeartbeats 4000000 in
theorem m_X1_canPair (l : Launch) (w : cpW) (A : Nat → Prop) (x1 : Int32) (x2 : Int32) (x3 : Int32) (S : cpS) (r : Int32 × cpS) (h : fX1_canPair x1 x2 x3 S = some r) : cpMi l yX1_canPair cX1_canPair 4 ((some .boolean)) 2 w A [.ref (w.2.1 127), .int x1, .int x2, .int x3] S r := by
  refine cpMi.of (lv := [some (.ref (w.2.1 127)), some (.int x1), some (.int x2), some (.int x3)]) (by decide) (Nat.le_of_ble_eq_true rfl) rfl (fun p e s m args below meth c C hr => ?_)
  replace C : cpCx p s m args meth c w A cX1_canPair RX1 4 := C
  rw [fX1_canPair] at h
  refine cj_aload_n C (i := 0) dX1_canPair_0 rfl rfl ?_
  refine cj_getR C (d := 57) o_127 rfl gfX1_22 dX1_canPair_1 ?_
  refine cj_iload_n C (i := 1) dX1_canPair_4 rfl rfl ?_
  refine cj_iload_n C (i := 2) dX1_canPair_5 rfl rfl ?_
  refine cj_callVi C (As := [.int x1, .int x2]) (rest := []) qX5_feuding mw_55_8 o_57 rfl rfl rfl (Nat.le_of_ble_eq_true rfl) (by decide) dX1_canPair_6 h (fun _ _ hf => m_X5_feuding l w A kNw_57 x1 x2 S _ hf) (fun z1 S2 h => ?_)
  refine cj_if_ne C (tgt := 39) dX1_canPair_9 rfl h (fun _ h => ?_) (fun _ h => ?_)
  · refine cj_aload_n C (i := 0) dX1_canPair_12 rfl rfl ?_
    refine cj_getR C (d := 1) o_127 rfl gfX1_18 dX1_canPair_13 ?_
    refine cj_getR C (d := 6) o_1 rfl gfX1_75 dX1_canPair_16 ?_
    refine cj_iload_n C (i := 1) dX1_canPair_19 rfl rfl ?_
    refine cj_iaload C o_6 h dX1_canPair_20 (fun h => ?_)
    refine cj_aload_n C (i := 0) dX1_canPair_21 rfl rfl ?_
    refine cj_getR C (d := 1) o_127 rfl gfX1_18 dX1_canPair_22 ?_
    refine cj_getR C (d := 6) o_1 rfl gfX1_75 dX1_canPair_25 ?_
    refine cj_iload_n C (i := 2) dX1_canPair_28 rfl rfl ?_
    refine cj_iaload C o_6 h dX1_canPair_29 (fun h => ?_)
    refine cj_iadd C dX1_canPair_30 ?_
    refine cj_iload_n C (i := 3) dX1_canPair_31 rfl rfl ?_
    refine cj_icmp_lt C (tgt := 39) dX1_canPair_32 rfl h (fun _ h => ?_) (fun _ h => ?_)
    · refine cj_iconst C (v := (0 : Int32)) dX1_canPair_39 rfl ?_
      exact cj_zreturn C hr rfl h dX1_canPair_40
    · refine cj_iconst C (v := (1 : Int32)) dX1_canPair_35 rfl ?_
      refine cj_goto C (tgt := 40) dX1_canPair_36 rfl ?_
      exact cj_zreturn C hr rfl h dX1_canPair_40
  · refine cj_iconst C (v := (0 : Int32)) dX1_canPair_39 rfl ?_
    exact cj_zreturn C hr rfl h dX1_canPair_40
/-! X1_mostPairsIn -/
def fX1_mostPairsIn_35 (x2 : Int32) (x3 : Int32) (x4 : Int32) : Nat → Int32 → Int32 → cpS → Option (Int32 × cpS)
  | 0, _, _, _ => none
  | n + 1, x5, x6, S =>
    if (S.1 1 7) ≤ x6 then (
    some (x5, S)) else (
    cpB (fX11_isIn x4 x6 S) fun z1 S2 =>
    if z1 = 0 then (
    fX1_mostPairsIn_35 x2 x3 x4 n x5 (x6 + 1) S2) else (
    cpB (fX1_canPair x3 x6 x2 S2) fun z3 S4 =>
    if z3 = 0 then (
    fX1_mostPairsIn_35 x2 x3 x4 n x5 (x6 + 1) S4) else (
    if cpIn (x4 &&& ((cpShl (1 : Int32) x6) ^^^ (-1 : Int32))) 256 then (
    cpLt (cpMax x5 ((1 : Int32) + (S4.1 128 (x4 &&& ((cpShl (1 : Int32) x6) ^^^ (-1 : Int32))).toNatClampNeg))) fun y5 =>
    fX1_mostPairsIn_35 x2 x3 x4 n y5 (x6 + 1) S4) else none)))
set_option maxRecDepth 100000 in
set_option maxHeartbeats 4000000 in
theorem wX1_mostPairsIn_35 (C : cpCx p s m args meth c w A cX1_mostPairsIn RX1 7) (hr : meth.sig.returnType = (some .int)) {r : Int32 × cpS} (x2 : Int32) (x3 : Int32) (x4 : Int32) : ∀ (n : Nat) (x5 : Int32) (x6 : Int32) (S : cpS), fX1_mostPairsIn_35 x2 x3 x4 n x5 x6 S = some r → cpJ p l e (cpRm 3) s m args below meth c (MQ below (va_Qi (fun x S' => (x, S') = r) (cpWorld w A) A) args s 0 0 A) w A 7 35 [some (.ref (w.2.1 127)), none, some (.int x2), some (.int x3), some (.int x4), some (.int x5), some (.int x6)] [] S := by
  intro n
  induction n with
  | zero => intro x5 x6 S h; rw [fX1_mostPairsIn_35] at h; cases h
  | succ n ih =>
    intro x5 x6 S h
    rw [fX1_mostPairsIn_35] at h
    refine cj_iload C dX1_mostPairsIn_35 rfl ?_
    refine cj_aload_n C (i := 0) dX1_mostPairsIn_37 rfl rfl ?_
    refine cj_getR C (d := 1) o_127 rfl gfX1_18 dX1_mostPairsIn_38 ?_
    refine cj_getI C (j := 7) o_1 rfl gfX1_26 dX1_mostPairsIn_41 ?_
    refine cj_icmp_ge C (tgt := 97) dX1_mostPairsIn_44 rfl h (fun _ h => ?_) (fun _ h => ?_)
    · refine cj_iload C dX1_mostPairsIn_97 rfl ?_
      exact cj_ireturn C hr h dX1_mostPairsIn_99
    · refine cj_iload C dX1_mostPairsIn_47 rfl ?_
      refine cj_iload C dX1_mostPairsIn_49 rfl ?_
      refine cj_callNi C (As := [.int x4, .int x6]) (rest := []) qX11_isIn (List.mem_of_getElem? (i := 6) rfl) rfl rfl (Nat.le_of_ble_eq_true rfl) (by decide) dX1_mostPairsIn_51 h (fun _ _ hf => m_X11_isIn l w A x4 x6 S _ hf) (fun z1 S2 h => ?_)
      refine cj_if_eq C (tgt := 91) dX1_mostPairsIn_54 rfl h (fun _ h => ?_) (fun _ h => ?_)
      · refine cj_iinc C (v := (x6 + 1)) (lv' := [some (.ref (w.2.1 127)), none, some (.int x2), some (.int x3), some (.int x4), some (.int x5), some (.int (x6 + 1))]) dX1_mostPairsIn_91 rfl rfl (by decide) rfl rfl ?_
        refine cj_goto C (tgt := 35) dX1_mostPairsIn_94 rfl ?_
        exact ih x5 (x6 + 1) S2 h
      · refine cj_aload_n C (i := 0) dX1_mostPairsIn_57 rfl rfl ?_
        refine cj_iload_n C (i := 3) dX1_mostPairsIn_58 rfl rfl ?_
        refine cj_iload C dX1_mostPairsIn_59 rfl ?_
        refine cj_iload_n C (i := 2) dX1_mostPairsIn_61 rfl rfl ?_
        refine cj_callVi C (As := [.int x3, .int x6, .int x2]) (rest := []) qX1_canPair mw_55_3 o_127 rfl rfl rfl (Nat.le_of_ble_eq_true rfl) (by decide) dX1_mostPairsIn_62 h (fun _ _ hf => m_X1_canPair l w A x3 x6 x2 S2 _ hf) (fun z3 S4 h => ?_)
        refine cj_if_eq C (tgt := 91) dX1_mostPairsIn_65 rfl h (fun _ h => ?_) (fun _ h => ?_)
        · refine cj_iinc C (v := (x6 + 1)) (lv' := [some (.ref (w.2.1 127)), none, some (.int x2), some (.int x3), some (.int x4), some (.int x5), some (.int (x6 + 1))]) dX1_mostPairsIn_91 rfl rfl (by decide) rfl rfl ?_
          refine cj_goto C (tgt := 35) dX1_mostPairsIn_94 rfl ?_
          exact ih x5 (x6 + 1) S4 h
        · refine cj_iload C dX1_mostPairsIn_68 rfl ?_
          refine cj_iconst C (v := (1 : Int32)) dX1_mostPairsIn_70 rfl ?_
          refine cj_aload_n C (i := 0) dX1_mostPairsIn_71 rfl rfl ?_
          refine cj_getR C (d := 128) o_127 rfl gfX1_9 dX1_mostPairsIn_72 ?_
          refine cj_iload C dX1_mostPairsIn_75 rfl ?_
          refine cj_iconst C (v := (1 : Int32)) dX1_mostPairsIn_77 rfl ?_
          refine cj_iload C dX1_mostPairsIn_78 rfl ?_
          refine ck_ishl C dX1_mostPairsIn_80 ?_
          refine cj_iconst C (v := (-1 : Int32)) dX1_mostPairsIn_81 rfl ?_
          refine cj_ixor C dX1_mostPairsIn_82 ?_
          refine cj_iand C dX1_mostPairsIn_83 ?_
          refine cj_iaload C o_128 h dX1_mostPairsIn_84 (fun h => ?_)
          refine cj_iadd C dX1_mostPairsIn_85 ?_
          refine ck_mmax C mw_54_22 mw_12_13 mw_12_14 mw_12_15 (by decide) (Nat.le_of_ble_eq_true rfl) dX1_mostPairsIn_86 ?_
          refine cj_let h (fun y5 h => ?_)
          refine cj_istore C (lv' := [some (.ref (w.2.1 127)), none, some (.int x2), some (.int x3), some (.int x4), some (.int y5), some (.int x6)]) dX1_mostPairsIn_89 (by decide) rfl rfl ?_
          refine cj_iinc C (v := (x6 + 1)) (lv' := [some (.ref (w.2.1 127)), none, some (.int x2), some (.int x3), some (.int x4), some (.int y5), some (.int (x6 + 1))]) dX1_mostPairsIn_91 rfl rfl (by decide) rfl rfl ?_
          refine cj_goto C (tgt := 35) dX1_mostPairsIn_94 rfl ?_
          exact ih y5 (x6 + 1) S4 h
def fX1_mostPairsIn (x1 : Int32) (x2 : Int32) (S : cpS) : Option (Int32 × cpS) :=
    if x1 = 0 then (
    some ((0 : Int32), S)) else (
    cpB (fX1_leastIn x1 S) fun z1 S2 =>
    cpLt (x1 &&& ((cpShl (1 : Int32) z1) ^^^ (-1 : Int32))) fun y3 =>
    if cpIn y3 256 then (
    cpLt (S2.1 128 y3.toNatClampNeg) fun y4 =>
    cpLt (z1 + (1 : Int32)) fun y5 =>
    fX1_mostPairsIn_35 x2 z1 y3 cpFu y4 y5 S2) else none)
set_option maxRecDepth 100000 in
set_option maxHeartbeats 4000000 in
theorem m_X1_mostPairsIn (l : Launch) (w : cpW) (A : Nat → Prop) (x1 : Int32) (x2 : Int32) (S : cpS) (r : Int32 × cpS) (h : fX1_mostPairsIn x1 x2 S = some r) : cpMi l yX1_mostPairsIn cX1_mostPairsIn 7 ((some .int)) 3 w A [.ref (w.2.1 127), .int x1, .int x2] S r := by
  refine cpMi.of (lv := [some (.ref (w.2.1 127)), some (.int x1), some (.int x2), none, none, none, none]) (by decide) (Nat.le_of_ble_eq_true rfl) rfl (fun p e s m args below meth c C hr => ?_)
  replace C : cpCx p s m args meth c w A cX1_mostPairsIn RX1 7 := C
  rw [fX1_mostPairsIn] at h
  refine cj_iload_n C (i := 1) dX1_mostPairsIn_0 rfl rfl ?_
  refine cj_if_ne C (tgt := 6) dX1_mostPairsIn_1 rfl h (fun _ h => ?_) (fun _ h => ?_)
  · refine cj_iconst C (v := (0 : Int32)) dX1_mostPairsIn_4 rfl ?_
    exact cj_ireturn C hr h dX1_mostPairsIn_5
  · refine cj_aload_n C (i := 0) dX1_mostPairsIn_6 rfl rfl ?_
    refine cj_iload_n C (i := 1) dX1_mostPairsIn_7 rfl rfl ?_
    refine cj_callVi C (As := [.int x1]) (rest := []) qX1_leastIn mw_54_23 o_127 rfl rfl rfl (Nat.le_of_ble_eq_true rfl) (by decide) dX1_mostPairsIn_8 h (fun _ _ hf => m_X1_leastIn l w A x1 S _ hf) (fun z1 S2 h => ?_)
    refine cj_istore_n C (i := 3) (lv' := [some (.ref (w.2.1 127)), some (.int x1), some (.int x2), some (.int z1), none, none, none]) dX1_mostPairsIn_11 rfl (by decide) rfl rfl ?_
    refine cj_iload_n C (i := 1) dX1_mostPairsIn_12 rfl rfl ?_
    refine cj_iconst C (v := (1 : Int32)) dX1_mostPairsIn_13 rfl ?_
    refine cj_iload_n C (i := 3) dX1_mostPairsIn_14 rfl rfl ?_
    refine ck_ishl C dX1_mostPairsIn_15 ?_
    refine cj_iconst C (v := (-1 : Int32)) dX1_mostPairsIn_16 rfl ?_
    refine cj_ixor C dX1_mostPairsIn_17 ?_
    refine cj_iand C dX1_mostPairsIn_18 ?_
    refine cj_let h (fun y3 h => ?_)
    refine cj_istore C (lv' := [some (.ref (w.2.1 127)), some (.int x1), some (.int x2), some (.int z1), some (.int y3), none, none]) dX1_mostPairsIn_19 (by decide) rfl rfl ?_
    refine cj_aload_n C (i := 0) dX1_mostPairsIn_21 rfl rfl ?_
    refine cj_getR C (d := 128) o_127 rfl gfX1_9 dX1_mostPairsIn_22 ?_
    refine cj_iload C dX1_mostPairsIn_25 rfl ?_
    refine cj_iaload C o_128 h dX1_mostPairsIn_27 (fun h => ?_)
    refine cj_let h (fun y4 h => ?_)
    refine cj_istore C (lv' := [some (.ref (w.2.1 127)), some (.int x1), some (.int x2), some (.int z1), some (.int y3), some (.int y4), none]) dX1_mostPairsIn_28 (by decide) rfl rfl ?_
    refine cj_iload_n C (i := 3) dX1_mostPairsIn_30 rfl rfl ?_
    refine cj_iconst C (v := (1 : Int32)) dX1_mostPairsIn_31 rfl ?_
    refine cj_iadd C dX1_mostPairsIn_32 ?_
    refine cj_let h (fun y5 h => ?_)
    refine cj_istore C (lv' := [some (.ref (w.2.1 127)), some (.int x1), some (.int x2), some (.int z1), some (.int y3), some (.int y4), some (.int y5)]) dX1_mostPairsIn_33 (by decide) rfl rfl ?_
    refine cj_weak C (lv' := [some (.ref (w.2.1 127)), none, some (.int x2), some (.int z1), some (.int y3), some (.int y4), some (.int y5)]) (cpSub_s (cpSub_n (cpSub_s (cpSub_s (cpSub_s (cpSub_s (cpSub_s cpSub_nil))))))) ?_
    exact wX1_mostPairsIn_35 C hr x2 z1 y3 cpFu y4 y5 S2 h
/-! J7_fill_53178 -/
def fJ7_fill_53178_5 (k0 nk0 : Nat) (x1 : Int32) (x3 : Int32) : Nat → Int32 → cpS → Option (Unit × cpS)
  | 0, _, _ => none
  | n + 1, x2, S =>
    if x3 ≤ x2 then (
    some ((), S)) else (
    if cpIn x2 nk0 then (
    cpLt (cpI S k0 x2.toNatClampNeg x1) fun S1 =>
    fJ7_fill_53178_5 k0 nk0 x1 x3 n (x2 + 1) S1) else none)
set_option maxRecDepth 100000 in
set_option maxHeartbeats 4000000 in
theorem wJ7_fill_53178_5 (C : cpCx p s m args meth c w A cJ7_fill_53178 RJ7 4) (hr : meth.sig.returnType = none) {r : Unit × cpS} {k0 nk0 : Nat} (hk0 : cpO k0 1 nk0 []) (x1 : Int32) (x3 : Int32) : ∀ (n : Nat) (x2 : Int32) (S : cpS), fJ7_fill_53178_5 k0 nk0 x1 x3 n x2 S = some r → cpJ p l e (cpRm 0) s m args below meth c (MQ below (va_Qv (fun S' => ((), S') = r) (cpWorld w A) A) args s 0 0 A) w A 4 5 [some (.ref (w.2.1 k0)), some (.int x1), some (.int x2), some (.int x3)] [] S := by
  intro n
  induction n with
  | zero => intro x2 S h; rw [fJ7_fill_53178_5] at h; cases h
  | succ n ih =>
    intro x2 S h
    rw [fJ7_fill_53178_5] at h
    refine cj_iload_n C (i := 2) dJ7_fill_53178_5 rfl rfl ?_
    refine cj_iload_n C (i := 3) dJ7_fill_53178_6 rfl rfl ?_
    refine cj_icmp_ge C (tgt := 20) dJ7_fill_53178_7 rfl h (fun _ h => ?_) (fun _ h => ?_)
    · exact cj_vreturn C hr h dJ7_fill_53178_20
    · refine cj_aload_n C (i := 0) dJ7_fill_53178_10 rfl rfl ?_
      refine cj_iload_n C (i := 2) dJ7_fill_53178_11 rfl rfl ?_
      refine cj_iload_n C (i := 1) dJ7_fill_53178_12 rfl rfl ?_
      refine cj_iastore C hk0 h dJ7_fill_53178_13 (fun h => ?_)
      refine cj_lets h (fun S1 h => ?_)
      refine cj_iinc C (v := (x2 + 1)) (lv' := [some (.ref (w.2.1 k0)), some (.int x1), some (.int (x2 + 1)), some (.int x3)]) dJ7_fill_53178_14 rfl rfl (by decide) rfl rfl ?_
      refine cj_goto C (tgt := 5) dJ7_fill_53178_17 rfl ?_
      exact ih (x2 + 1) S1 h
def fJ7_fill_53178 (k0 nk0 : Nat) (x1 : Int32) (S : cpS) : Option (Unit × cpS) :=
    cpLt (nI nk0) fun y1 =>
    fJ7_fill_53178_5 k0 nk0 x1 y1 cpFu (0 : Int32) S
set_option maxRecDepth 100000 in
set_option maxHeartbeats 4000000 in
theorem m_J7_fill_53178 (l : Launch) (w : cpW) (A : Nat → Prop) {k0 nk0 : Nat} (hk0 : cpO k0 1 nk0 []) (x1 : Int32) (S : cpS) (r : Unit × cpS) (h : fJ7_fill_53178 k0 nk0 x1 S = some r) : cpMv l yJ7_fill_53178 cJ7_fill_53178 4 (none) 0 w A [.ref (w.2.1 k0), .int x1] S r := by
  refine cpMv.of (lv := [some (.ref (w.2.1 k0)), some (.int x1), none, none]) (by decide) (Nat.le_of_ble_eq_true rfl) rfl (fun p e s m args below meth c C hr => ?_)
  replace C : cpCx p s m args meth c w A cJ7_fill_53178 RJ7 4 := C
  rw [fJ7_fill_53178] at h
  refine cj_iconst C (v := (0 : Int32)) dJ7_fill_53178_0 rfl ?_
  refine cj_istore_n C (i := 2) (lv' := [some (.ref (w.2.1 k0)), some (.int x1), some (.int (0 : Int32)), none]) dJ7_fill_53178_1 rfl (by decide) rfl rfl ?_
  refine cj_aload_n C (i := 0) dJ7_fill_53178_2 rfl rfl ?_
  refine cj_alen1 C hk0 dJ7_fill_53178_3 ?_
  refine cj_let h (fun y1 h => ?_)
  refine cj_istore_n C (i := 3) (lv' := [some (.ref (w.2.1 k0)), some (.int x1), some (.int (0 : Int32)), some (.int y1)]) dJ7_fill_53178_4 rfl (by decide) rfl rfl ?_
  exact wJ7_fill_53178_5 C hr hk0 x1 y1 cpFu (0 : Int32) S h
/-! X1_firstPartner -/
def fX1_firstPartner_14 (x1 : Int32) (x2 : Int32) (x3 : Int32) (x4 : Int32) : Nat → Int32 → cpS → Option (Int32 × cpS)
  | 0, _, _ => none
  | n + 1, x5, S =>
    if (S.1 1 7) ≤ x5 then (
    some ((-1 : Int32), S)) else (
    cpB (fX11_isIn x4 x5 S) fun z1 S2 =>
    if z1 = 0 then (
    fX1_firstPartner_14 x1 x2 x3 x4 n (x5 + 1) S2) else (
    cpB (fX1_canPair x2 x5 x3 S2) fun z3 S4 =>
    if z3 = 0 then (
    fX1_firstPartner_14 x1 x2 x3 x4 n (x5 + 1) S4) else (
    if cpIn (x4 &&& ((cpShl (1 : Int32) x5) ^^^ (-1 : Int32))) 256 then (
    if cpIn x1 256 then (
    if ((1 : Int32) + (S4.1 128 (x4 &&& ((cpShl (1 : Int32) x5) ^^^ (-1 : Int32))).toNatClampNeg)) = (S4.1 128 x1.toNatClampNeg) then (
    some (x5, S4)) else (
    fX1_firstPartner_14 x1 x2 x3 x4 n (x5 + 1) S4)) else none) else none)))
set_option maxRecDepth 100000 in
set_option maxHeartbeats 4000000 in
theorem wX1_firstPartner_14 (C : cpCx p s m args meth c w A cX1_firstPartner RX1 6) (hr : meth.sig.returnType = (some .int)) {r : Int32 × cpS} (x1 : Int32) (x2 : Int32) (x3 : Int32) (x4 : Int32) : ∀ (n : Nat) (x5 : Int32) (S : cpS), fX1_firstPartner_14 x1 x2 x3 x4 n x5 S = some r → cpJ p l e (cpRm 3) s m args below meth c (MQ below (va_Qi (fun x S' => (x, S') = r) (cpWorld w A) A) args s 0 0 A) w A 6 14 [some (.ref (w.2.1 127)), some (.int x1), some (.int x2), some (.int x3), some (.int x4), some (.int x5)] [] S := by
  intro n
  induction n with
  | zero => intro x5 S h; rw [fX1_firstPartner_14] at h; cases h
  | succ n ih =>
    intro x5 S h
    rw [fX1_firstPartner_14] at h
    refine cj_iload C dX1_firstPartner_14 rfl ?_
    refine cj_aload_n C (i := 0) dX1_firstPartner_16 rfl rfl ?_
    refine cj_getR C (d := 1) o_127 rfl gfX1_18 dX1_firstPartner_17 ?_
    refine cj_getI C (j := 7) o_1 rfl gfX1_26 dX1_firstPartner_20 ?_
    refine cj_icmp_ge C (tgt := 81) dX1_firstPartner_23 rfl h (fun _ h => ?_) (fun _ h => ?_)
    · refine cj_iconst C (v := (-1 : Int32)) dX1_firstPartner_81 rfl ?_
      exact cj_ireturn C hr h dX1_firstPartner_82
    · refine cj_iload C dX1_firstPartner_26 rfl ?_
      refine cj_iload C dX1_firstPartner_28 rfl ?_
      refine cj_callNi C (As := [.int x4, .int x5]) (rest := []) qX11_isIn (List.mem_of_getElem? (i := 6) rfl) rfl rfl (Nat.le_of_ble_eq_true rfl) (by decide) dX1_firstPartner_30 h (fun _ _ hf => m_X11_isIn l w A x4 x5 S _ hf) (fun z1 S2 h => ?_)
      refine cj_if_eq C (tgt := 75) dX1_firstPartner_33 rfl h (fun _ h => ?_) (fun _ h => ?_)
      · refine cj_iinc C (v := (x5 + 1)) (lv' := [some (.ref (w.2.1 127)), some (.int x1), some (.int x2), some (.int x3), some (.int x4), some (.int (x5 + 1))]) dX1_firstPartner_75 rfl rfl (by decide) rfl rfl ?_
        refine cj_goto C (tgt := 14) dX1_firstPartner_78 rfl ?_
        exact ih (x5 + 1) S2 h
      · refine cj_aload_n C (i := 0) dX1_firstPartner_36 rfl rfl ?_
        refine cj_iload_n C (i := 2) dX1_firstPartner_37 rfl rfl ?_
        refine cj_iload C dX1_firstPartner_38 rfl ?_
        refine cj_iload_n C (i := 3) dX1_firstPartner_40 rfl rfl ?_
        refine cj_callVi C (As := [.int x2, .int x5, .int x3]) (rest := []) qX1_canPair mw_55_3 o_127 rfl rfl rfl (Nat.le_of_ble_eq_true rfl) (by decide) dX1_firstPartner_41 h (fun _ _ hf => m_X1_canPair l w A x2 x5 x3 S2 _ hf) (fun z3 S4 h => ?_)
        refine cj_if_eq C (tgt := 75) dX1_firstPartner_44 rfl h (fun _ h => ?_) (fun _ h => ?_)
        · refine cj_iinc C (v := (x5 + 1)) (lv' := [some (.ref (w.2.1 127)), some (.int x1), some (.int x2), some (.int x3), some (.int x4), some (.int (x5 + 1))]) dX1_firstPartner_75 rfl rfl (by decide) rfl rfl ?_
          refine cj_goto C (tgt := 14) dX1_firstPartner_78 rfl ?_
          exact ih (x5 + 1) S4 h
        · refine cj_iconst C (v := (1 : Int32)) dX1_firstPartner_47 rfl ?_
          refine cj_aload_n C (i := 0) dX1_firstPartner_48 rfl rfl ?_
          refine cj_getR C (d := 128) o_127 rfl gfX1_9 dX1_firstPartner_49 ?_
          refine cj_iload C dX1_firstPartner_52 rfl ?_
          refine cj_iconst C (v := (1 : Int32)) dX1_firstPartner_54 rfl ?_
          refine cj_iload C dX1_firstPartner_55 rfl ?_
          refine ck_ishl C dX1_firstPartner_57 ?_
          refine cj_iconst C (v := (-1 : Int32)) dX1_firstPartner_58 rfl ?_
          refine cj_ixor C dX1_firstPartner_59 ?_
          refine cj_iand C dX1_firstPartner_60 ?_
          refine cj_iaload C o_128 h dX1_firstPartner_61 (fun h => ?_)
          refine cj_iadd C dX1_firstPartner_62 ?_
          refine cj_aload_n C (i := 0) dX1_firstPartner_63 rfl rfl ?_
          refine cj_getR C (d := 128) o_127 rfl gfX1_9 dX1_firstPartner_64 ?_
          refine cj_iload_n C (i := 1) dX1_firstPartner_67 rfl rfl ?_
          refine cj_iaload C o_128 h dX1_firstPartner_68 (fun h => ?_)
          refine cj_icmp_ne C (tgt := 75) dX1_firstPartner_69 rfl h (fun _ h => ?_) (fun _ h => ?_)
          · refine cj_iload C dX1_firstPartner_72 rfl ?_
            exact cj_ireturn C hr h dX1_firstPartner_74
          · refine cj_iinc C (v := (x5 + 1)) (lv' := [some (.ref (w.2.1 127)), some (.int x1), some (.int x2), some (.int x3), some (.int x4), some (.int (x5 + 1))]) dX1_firstPartner_75 rfl rfl (by decide) rfl rfl ?_
            refine cj_goto C (tgt := 14) dX1_firstPartner_78 rfl ?_
            exact ih (x5 + 1) S4 h
def fX1_firstPartner (x1 : Int32) (x2 : Int32) (x3 : Int32) (S : cpS) : Option (Int32 × cpS) :=
    cpLt (x1 &&& ((cpShl (1 : Int32) x2) ^^^ (-1 : Int32))) fun y1 =>
    cpLt (x2 + (1 : Int32)) fun y2 =>
    fX1_firstPartner_14 x1 x2 x3 y1 cpFu y2 S
set_option maxRecDepth 100000 in
set_option maxHeartbeats 4000000 in
theorem m_X1_firstPartner (l : Launch) (w : cpW) (A : Nat → Prop) (x1 : Int32) (x2 : Int32) (x3 : Int32) (S : cpS) (r : Int32 × cpS) (h : fX1_firstPartner x1 x2 x3 S = some r) : cpMi l yX1_firstPartner cX1_firstPartner 6 ((some .int)) 3 w A [.ref (w.2.1 127), .int x1, .int x2, .int x3] S r := by
  refine cpMi.of (lv := [some (.ref (w.2.1 127)), some (.int x1), some (.int x2), some (.int x3), none, none]) (by decide) (Nat.le_of_ble_eq_true rfl) rfl (fun p e s m args below meth c C hr => ?_)
  replace C : cpCx p s m args meth c w A cX1_firstPartner RX1 6 := C
  rw [fX1_firstPartner] at h
  refine cj_iload_n C (i := 1) dX1_firstPartner_0 rfl rfl ?_
  refine cj_iconst C (v := (1 : Int32)) dX1_firstPartner_1 rfl ?_
  refine cj_iload_n C (i := 2) dX1_firstPartner_2 rfl rfl ?_
  refine ck_ishl C dX1_firstPartner_3 ?_
  refine cj_iconst C (v := (-1 : Int32)) dX1_firstPartner_4 rfl ?_
  refine cj_ixor C dX1_firstPartner_5 ?_
  refine cj_iand C dX1_firstPartner_6 ?_
  refine cj_let h (fun y1 h => ?_)
  refine cj_istore C (lv' := [some (.ref (w.2.1 127)), some (.int x1), some (.int x2), some (.int x3), some (.int y1), none]) dX1_firstPartner_7 (by decide) rfl rfl ?_
  refine cj_iload_n C (i := 2) dX1_firstPartner_9 rfl rfl ?_
  refine cj_iconst C (v := (1 : Int32)) dX1_firstPartner_10 rfl ?_
  refine cj_iadd C dX1_firstPartner_11 ?_
  refine cj_let h (fun y2 h => ?_)
  refine cj_istore C (lv' := [some (.ref (w.2.1 127)), some (.int x1), some (.int x2), some (.int x3), some (.int y1), some (.int y2)]) dX1_firstPartner_12 (by decide) rfl rfl ?_
  exact wX1_firstPartner_14 C hr x1 x2 x3 y1 cpFu y2 S h
/-! X1_part -/
def fX1_part_43 (x1 : Int32) : Nat → Int32 → Int32 → cpS → Option (Unit × cpS)
  | 0, _, _, _ => none
  | n + 1, x2, x3, S =>
    if (S.1 1 7) ≤ x3 then (
    some ((), S)) else (
    cpB (fX11_isIn x2 x3 S) fun z1 S2 =>
    if z1 = 0 then (
    fX1_part_43 x1 n x2 (x3 + 1) S2) else (
    cpB (fX1_firstPartner x2 x3 x1 S2) fun z3 S4 =>
    cpLt (x2 &&& ((cpShl (1 : Int32) x3) ^^^ (-1 : Int32))) fun y5 =>
    if z3 = (-1 : Int32) then (
    fX1_part_43 x1 n y5 (x3 + 1) S4) else (
    cpLt (y5 &&& ((cpShl (1 : Int32) z3) ^^^ (-1 : Int32))) fun y6 =>
    if cpIn x3 8 then (
    cpLt (cpI S4 129 x3.toNatClampNeg z3) fun S7 =>
    if cpIn z3 8 then (
    cpLt (cpI S7 129 z3.toNatClampNeg x3) fun S8 =>
    fX1_part_43 x1 n y6 (x3 + 1) S8) else none) else none)))
set_option maxRecDepth 100000 in
set_option maxHeartbeats 4000000 in
theorem wX1_part_43 (C : cpCx p s m args meth c w A cX1_part RX1 5) (hr : meth.sig.returnType = none) {r : Unit × cpS} (x1 : Int32) : ∀ (n : Nat) (x2 : Int32) (x3 : Int32) (S : cpS), fX1_part_43 x1 n x2 x3 S = some r → cpJ p l e (cpRm 4) s m args below meth c (MQ below (va_Qv (fun S' => ((), S') = r) (cpWorld w A) A) args s 0 0 A) w A 5 43 [some (.ref (w.2.1 127)), some (.int x1), some (.int x2), some (.int x3), none] [] S := by
  intro n
  induction n with
  | zero => intro x2 x3 S h; rw [fX1_part_43] at h; cases h
  | succ n ih =>
    intro x2 x3 S h
    rw [fX1_part_43] at h
    refine cj_iload_n C (i := 3) dX1_part_43 rfl rfl ?_
    refine cj_aload_n C (i := 0) dX1_part_44 rfl rfl ?_
    refine cj_getR C (d := 1) o_127 rfl gfX1_18 dX1_part_45 ?_
    refine cj_getI C (j := 7) o_1 rfl gfX1_26 dX1_part_48 ?_
    refine cj_icmp_ge C (tgt := 116) dX1_part_51 rfl h (fun _ h => ?_) (fun _ h => ?_)
    · exact cj_vreturn C hr h dX1_part_116
    · refine cj_iload_n C (i := 2) dX1_part_54 rfl rfl ?_
      refine cj_iload_n C (i := 3) dX1_part_55 rfl rfl ?_
      refine cj_callNi C (As := [.int x2, .int x3]) (rest := []) qX11_isIn (List.mem_of_getElem? (i := 6) rfl) rfl rfl (Nat.le_of_ble_eq_true rfl) (by decide) dX1_part_56 h (fun _ _ hf => m_X11_isIn l w A x2 x3 S _ hf) (fun z1 S2 h => ?_)
      refine cj_if_eq C (tgt := 110) dX1_part_59 rfl h (fun _ h => ?_) (fun _ h => ?_)
      · refine cj_iinc C (v := (x3 + 1)) (lv' := [some (.ref (w.2.1 127)), some (.int x1), some (.int x2), some (.int (x3 + 1)), none]) dX1_part_110 rfl rfl (by decide) rfl rfl ?_
        refine cj_goto C (tgt := 43) dX1_part_113 rfl ?_
        exact ih x2 (x3 + 1) S2 h
      · refine cj_aload_n C (i := 0) dX1_part_62 rfl rfl ?_
        refine cj_iload_n C (i := 2) dX1_part_63 rfl rfl ?_
        refine cj_iload_n C (i := 3) dX1_part_64 rfl rfl ?_
        refine cj_iload_n C (i := 1) dX1_part_65 rfl rfl ?_
        refine cj_callVi C (As := [.int x2, .int x3, .int x1]) (rest := []) qX1_firstPartner mw_55_10 o_127 rfl rfl rfl (Nat.le_of_ble_eq_true rfl) (by decide) dX1_part_66 h (fun _ _ hf => m_X1_firstPartner l w A x2 x3 x1 S2 _ hf) (fun z3 S4 h => ?_)
        refine cj_istore C (lv' := [some (.ref (w.2.1 127)), some (.int x1), some (.int x2), some (.int x3), some (.int z3)]) dX1_part_69 (by decide) rfl rfl ?_
        refine cj_iload_n C (i := 2) dX1_part_71 rfl rfl ?_
        refine cj_iconst C (v := (1 : Int32)) dX1_part_72 rfl ?_
        refine cj_iload_n C (i := 3) dX1_part_73 rfl rfl ?_
        refine ck_ishl C dX1_part_74 ?_
        refine cj_iconst C (v := (-1 : Int32)) dX1_part_75 rfl ?_
        refine cj_ixor C dX1_part_76 ?_
        refine cj_iand C dX1_part_77 ?_
        refine cj_let h (fun y5 h => ?_)
        refine cj_istore_n C (i := 2) (lv' := [some (.ref (w.2.1 127)), some (.int x1), some (.int y5), some (.int x3), some (.int z3)]) dX1_part_78 rfl (by decide) rfl rfl ?_
        refine cj_iload C dX1_part_79 rfl ?_
        refine cj_iconst C (v := (-1 : Int32)) dX1_part_81 rfl ?_
        refine cj_icmp_eq C (tgt := 110) dX1_part_82 rfl h (fun _ h => ?_) (fun _ h => ?_)
        · refine cj_iinc C (v := (x3 + 1)) (lv' := [some (.ref (w.2.1 127)), some (.int x1), some (.int y5), some (.int (x3 + 1)), some (.int z3)]) dX1_part_110 rfl rfl (by decide) rfl rfl ?_
          refine cj_goto C (tgt := 43) dX1_part_113 rfl ?_
          refine cj_weak C (lv' := [some (.ref (w.2.1 127)), some (.int x1), some (.int y5), some (.int (x3 + 1)), none]) (cpSub_s (cpSub_s (cpSub_s (cpSub_s (cpSub_n cpSub_nil))))) ?_
          exact ih y5 (x3 + 1) S4 h
        · refine cj_iload_n C (i := 2) dX1_part_85 rfl rfl ?_
          refine cj_iconst C (v := (1 : Int32)) dX1_part_86 rfl ?_
          refine cj_iload C dX1_part_87 rfl ?_
          refine ck_ishl C dX1_part_89 ?_
          refine cj_iconst C (v := (-1 : Int32)) dX1_part_90 rfl ?_
          refine cj_ixor C dX1_part_91 ?_
          refine cj_iand C dX1_part_92 ?_
          refine cj_let h (fun y6 h => ?_)
          refine cj_istore_n C (i := 2) (lv' := [some (.ref (w.2.1 127)), some (.int x1), some (.int y6), some (.int x3), some (.int z3)]) dX1_part_93 rfl (by decide) rfl rfl ?_
          refine cj_aload_n C (i := 0) dX1_part_94 rfl rfl ?_
          refine cj_getR C (d := 129) o_127 rfl gfX1_15 dX1_part_95 ?_
          refine cj_iload_n C (i := 3) dX1_part_98 rfl rfl ?_
          refine cj_iload C dX1_part_99 rfl ?_
          refine cj_iastore C o_129 h dX1_part_101 (fun h => ?_)
          refine cj_lets h (fun S7 h => ?_)
          refine cj_aload_n C (i := 0) dX1_part_102 rfl rfl ?_
          refine cj_getR C (d := 129) o_127 rfl gfX1_15 dX1_part_103 ?_
          refine cj_iload C dX1_part_106 rfl ?_
          refine cj_iload_n C (i := 3) dX1_part_108 rfl rfl ?_
          refine cj_iastore C o_129 h dX1_part_109 (fun h => ?_)
          refine cj_lets h (fun S8 h => ?_)
          refine cj_iinc C (v := (x3 + 1)) (lv' := [some (.ref (w.2.1 127)), some (.int x1), some (.int y6), some (.int (x3 + 1)), some (.int z3)]) dX1_part_110 rfl rfl (by decide) rfl rfl ?_
          refine cj_goto C (tgt := 43) dX1_part_113 rfl ?_
          refine cj_weak C (lv' := [some (.ref (w.2.1 127)), some (.int x1), some (.int y6), some (.int (x3 + 1)), none]) (cpSub_s (cpSub_s (cpSub_s (cpSub_s (cpSub_n cpSub_nil))))) ?_
          exact ih y6 (x3 + 1) S8 h
def fX1_part_2 (x1 : Int32) : Nat → Int32 → cpS → Option (Unit × cpS)
  | 0, _, _ => none
  | n + 1, x2, S =>
    cpB (fX1_everybody S) fun z1 S2 =>
    if z1 < x2 then (
    cpB (fJ7_fill_53178 129 8 (-1 : Int32) S2) fun _ S4 =>
    cpB (fX1_everybody S4) fun z5 S6 =>
    fX1_part_43 x1 cpFu z5 (0 : Int32) S6) else (
    cpB (fX1_mostPairsIn x2 x1 S2) fun z7 S8 =>
    if cpIn x2 256 then (
    cpLt (cpI S8 128 x2.toNatClampNeg z7) fun S9 =>
    fX1_part_2 x1 n (x2 + 1) S9) else none)
set_option maxRecDepth 100000 in
set_option maxHeartbeats 4000000 in
theorem wX1_part_2 (C : cpCx p s m args meth c w A cX1_part RX1 5) (hr : meth.sig.returnType = none) {r : Unit × cpS} (x1 : Int32) : ∀ (n : Nat) (x2 : Int32) (S : cpS), fX1_part_2 x1 n x2 S = some r → cpJ p l e (cpRm 4) s m args below meth c (MQ below (va_Qv (fun S' => ((), S') = r) (cpWorld w A) A) args s 0 0 A) w A 5 2 [some (.ref (w.2.1 127)), some (.int x1), some (.int x2), none, none] [] S := by
  intro n
  induction n with
  | zero => intro x2 S h; rw [fX1_part_2] at h; cases h
  | succ n ih =>
    intro x2 S h
    rw [fX1_part_2] at h
    refine cj_iload_n C (i := 2) dX1_part_2 rfl rfl ?_
    refine cj_aload_n C (i := 0) dX1_part_3 rfl rfl ?_
    refine cj_callVi C (As := []) (rest := [.int x2]) qX1_everybody mw_54_14 o_127 rfl rfl rfl (Nat.le_of_ble_eq_true rfl) (by decide) dX1_part_4 h (fun _ _ hf => m_X1_everybody l w A S _ hf) (fun z1 S2 h => ?_)
    refine cj_icmp_gt C (tgt := 28) dX1_part_7 rfl h (fun _ h => ?_) (fun _ h => ?_)
    · refine cj_aload_n C (i := 0) dX1_part_28 rfl rfl ?_
      refine cj_getR C (d := 129) o_127 rfl gfX1_15 dX1_part_29 ?_
      refine cj_iconst C (v := (-1 : Int32)) dX1_part_32 rfl ?_
      refine cj_callSv C (As := [.ref (w.2.1 129), .int (-1 : Int32)]) (rest := []) qJ7_fill_53178 mw_55_9 rfl rfl (Nat.le_of_ble_eq_true rfl) (by decide) dX1_part_33 h (fun _ _ hf => m_J7_fill_53178 l w A o_129 (-1 : Int32) S2 _ hf) (fun z3 S4 h => ?_)
      refine cj_aload_n C (i := 0) dX1_part_36 rfl rfl ?_
      refine cj_callVi C (As := []) (rest := []) qX1_everybody mw_54_14 o_127 rfl rfl rfl (Nat.le_of_ble_eq_true rfl) (by decide) dX1_part_37 h (fun _ _ hf => m_X1_everybody l w A S4 _ hf) (fun z5 S6 h => ?_)
      refine cj_istore_n C (i := 2) (lv' := [some (.ref (w.2.1 127)), some (.int x1), some (.int z5), none, none]) dX1_part_40 rfl (by decide) rfl rfl ?_
      refine cj_iconst C (v := (0 : Int32)) dX1_part_41 rfl ?_
      refine cj_istore_n C (i := 3) (lv' := [some (.ref (w.2.1 127)), some (.int x1), some (.int z5), some (.int (0 : Int32)), none]) dX1_part_42 rfl (by decide) rfl rfl ?_
      exact wX1_part_43 C hr x1 cpFu z5 (0 : Int32) S6 h
    · refine cj_aload_n C (i := 0) dX1_part_10 rfl rfl ?_
      refine cj_getR C (d := 128) o_127 rfl gfX1_9 dX1_part_11 ?_
      refine cj_iload_n C (i := 2) dX1_part_14 rfl rfl ?_
      refine cj_aload_n C (i := 0) dX1_part_15 rfl rfl ?_
      refine cj_iload_n C (i := 2) dX1_part_16 rfl rfl ?_
      refine cj_iload_n C (i := 1) dX1_part_17 rfl rfl ?_
      refine cj_callVi C (As := [.int x2, .int x1]) (rest := [.int x2, .ref (w.2.1 128)]) qX1_mostPairsIn mw_54_18 o_127 rfl rfl rfl (Nat.le_of_ble_eq_true rfl) (by decide) dX1_part_18 h (fun _ _ hf => m_X1_mostPairsIn l w A x2 x1 S2 _ hf) (fun z7 S8 h => ?_)
      refine cj_iastore C o_128 h dX1_part_21 (fun h => ?_)
      refine cj_lets h (fun S9 h => ?_)
      refine cj_iinc C (v := (x2 + 1)) (lv' := [some (.ref (w.2.1 127)), some (.int x1), some (.int (x2 + 1)), none, none]) dX1_part_22 rfl rfl (by decide) rfl rfl ?_
      refine cj_goto C (tgt := 2) dX1_part_25 rfl ?_
      exact ih (x2 + 1) S9 h
def fX1_part (x1 : Int32) (S : cpS) : Option (Unit × cpS) :=
    fX1_part_2 x1 cpFu (0 : Int32) S
set_option maxRecDepth 100000 in
set_option maxHeartbeats 4000000 in
theorem m_X1_part (l : Launch) (w : cpW) (A : Nat → Prop) (x1 : Int32) (S : cpS) (r : Unit × cpS) (h : fX1_part x1 S = some r) : cpMv l yX1_part cX1_part 5 (none) 4 w A [.ref (w.2.1 127), .int x1] S r := by
  refine cpMv.of (lv := [some (.ref (w.2.1 127)), some (.int x1), none, none, none]) (by decide) (Nat.le_of_ble_eq_true rfl) rfl (fun p e s m args below meth c C hr => ?_)
  replace C : cpCx p s m args meth c w A cX1_part RX1 5 := C
  rw [fX1_part] at h
  refine cj_iconst C (v := (0 : Int32)) dX1_part_0 rfl ?_
  refine cj_istore_n C (i := 2) (lv' := [some (.ref (w.2.1 127)), some (.int x1), some (.int (0 : Int32)), none, none]) dX1_part_1 rfl (by decide) rfl rfl ?_
  exact wX1_part_2 C hr x1 cpFu (0 : Int32) S h
/-! J6_bitCount_0f7a4 -/
def fJ6_bitCount_0f7a4 (x0 : Int32) (S : cpS) : Option (Int32 × cpS) :=
    cpLt (x0 - ((cpUsh x0 (1 : Int32)) &&& (1431655765 : Int32))) fun y1 =>
    cpLt ((y1 &&& (858993459 : Int32)) + ((cpUsh y1 (2 : Int32)) &&& (858993459 : Int32))) fun y2 =>
    cpLt ((y2 + (cpUsh y2 (4 : Int32))) &&& (252645135 : Int32)) fun y3 =>
    cpLt (y3 + (cpUsh y3 (8 : Int32))) fun y4 =>
    cpLt (y4 + (cpUsh y4 (16 : Int32))) fun y5 =>
    some ((y5 &&& (63 : Int32)), S)
set_option maxRecDepth 100000 in
set_option maxHeartbeats 4000000 in
theorem m_J6_bitCount_0f7a4 (l : Launch) (w : cpW) (A : Nat → Prop) (x0 : Int32) (S : cpS) (r : Int32 × cpS) (h : fJ6_bitCount_0f7a4 x0 S = some r) : cpMi l yJ6_bitCount_0f7a4 cJ6_bitCount_0f7a4 1 ((some .int)) 0 w A [.int x0] S r := by
  refine cpMi.of (lv := [some (.int x0)]) (by decide) (Nat.le_of_ble_eq_true rfl) rfl (fun p e s m args below meth c C hr => ?_)
  replace C : cpCx p s m args meth c w A cJ6_bitCount_0f7a4 RJ6 1 := C
  rw [fJ6_bitCount_0f7a4] at h
  refine cj_iload_n C (i := 0) dJ6_bitCount_0f7a4_0 rfl rfl ?_
  refine cj_iload_n C (i := 0) dJ6_bitCount_0f7a4_1 rfl rfl ?_
  refine cj_iconst C (v := (1 : Int32)) dJ6_bitCount_0f7a4_2 rfl ?_
  refine ck_iushr C dJ6_bitCount_0f7a4_3 ?_
  refine cj_ldcw C (v := (1431655765 : Int32)) mw_57_12 dJ6_bitCount_0f7a4_4 ?_
  refine cj_iand C dJ6_bitCount_0f7a4_7 ?_
  refine cj_isub C dJ6_bitCount_0f7a4_8 ?_
  refine cj_let h (fun y1 h => ?_)
  refine cj_istore_n C (i := 0) (lv' := [some (.int y1)]) dJ6_bitCount_0f7a4_9 rfl (by decide) rfl rfl ?_
  refine cj_iload_n C (i := 0) dJ6_bitCount_0f7a4_10 rfl rfl ?_
  refine cj_ldcw C (v := (858993459 : Int32)) mw_57_13 dJ6_bitCount_0f7a4_11 ?_
  refine cj_iand C dJ6_bitCount_0f7a4_14 ?_
  refine cj_iload_n C (i := 0) dJ6_bitCount_0f7a4_15 rfl rfl ?_
  refine cj_iconst C (v := (2 : Int32)) dJ6_bitCount_0f7a4_16 rfl ?_
  refine ck_iushr C dJ6_bitCount_0f7a4_17 ?_
  refine cj_ldcw C (v := (858993459 : Int32)) mw_57_13 dJ6_bitCount_0f7a4_18 ?_
  refine cj_iand C dJ6_bitCount_0f7a4_21 ?_
  refine cj_iadd C dJ6_bitCount_0f7a4_22 ?_
  refine cj_let h (fun y2 h => ?_)
  refine cj_istore_n C (i := 0) (lv' := [some (.int y2)]) dJ6_bitCount_0f7a4_23 rfl (by decide) rfl rfl ?_
  refine cj_iload_n C (i := 0) dJ6_bitCount_0f7a4_24 rfl rfl ?_
  refine cj_iload_n C (i := 0) dJ6_bitCount_0f7a4_25 rfl rfl ?_
  refine cj_iconst C (v := (4 : Int32)) dJ6_bitCount_0f7a4_26 rfl ?_
  refine ck_iushr C dJ6_bitCount_0f7a4_27 ?_
  refine cj_iadd C dJ6_bitCount_0f7a4_28 ?_
  refine cj_ldcw C (v := (252645135 : Int32)) mw_57_14 dJ6_bitCount_0f7a4_29 ?_
  refine cj_iand C dJ6_bitCount_0f7a4_32 ?_
  refine cj_let h (fun y3 h => ?_)
  refine cj_istore_n C (i := 0) (lv' := [some (.int y3)]) dJ6_bitCount_0f7a4_33 rfl (by decide) rfl rfl ?_
  refine cj_iload_n C (i := 0) dJ6_bitCount_0f7a4_34 rfl rfl ?_
  refine cj_iload_n C (i := 0) dJ6_bitCount_0f7a4_35 rfl rfl ?_
  refine cj_bipush C (v := (8 : Int32)) dJ6_bitCount_0f7a4_36 rfl ?_
  refine ck_iushr C dJ6_bitCount_0f7a4_38 ?_
  refine cj_iadd C dJ6_bitCount_0f7a4_39 ?_
  refine cj_let h (fun y4 h => ?_)
  refine cj_istore_n C (i := 0) (lv' := [some (.int y4)]) dJ6_bitCount_0f7a4_40 rfl (by decide) rfl rfl ?_
  refine cj_iload_n C (i := 0) dJ6_bitCount_0f7a4_41 rfl rfl ?_
  refine cj_iload_n C (i := 0) dJ6_bitCount_0f7a4_42 rfl rfl ?_
  refine cj_bipush C (v := (16 : Int32)) dJ6_bitCount_0f7a4_43 rfl ?_
  refine ck_iushr C dJ6_bitCount_0f7a4_45 ?_
  refine cj_iadd C dJ6_bitCount_0f7a4_46 ?_
  refine cj_let h (fun y5 h => ?_)
  refine cj_istore_n C (i := 0) (lv' := [some (.int y5)]) dJ6_bitCount_0f7a4_47 rfl (by decide) rfl rfl ?_
  refine cj_iload_n C (i := 0) dJ6_bitCount_0f7a4_48 rfl rfl ?_
  refine cj_bipush C (v := (63 : Int32)) dJ6_bitCount_0f7a4_49 rfl ?_
  refine cj_iand C dJ6_bitCount_0f7a4_51 ?_
  exact cj_ireturn C hr h dJ6_bitCount_0f7a4_52
/-! X1_strengthOf -/
def fX1_strengthOf_4 (x1 : Int32) : Nat → Int32 → Int32 → cpS → Option (Int32 × cpS)
  | 0, _, _, _ => none
  | n + 1, x2, x3, S =>
    if (S.1 1 7) ≤ x3 then (
    some (x2, S)) else (
    cpB (fX11_isIn x1 x3 S) fun z1 S2 =>
    if z1 = 0 then (
    fX1_strengthOf_4 x1 n x2 (x3 + 1) S2) else (
    if cpIn x3 8 then (
    cpLt (x2 + (S2.1 6 x3.toNatClampNeg)) fun y3 =>
    fX1_strengthOf_4 x1 n y3 (x3 + 1) S2) else none))
set_option maxRecDepth 100000 in
set_option maxHeartbeats 4000000 in
theorem wX1_strengthOf_4 (C : cpCx p s m args meth c w A cX1_strengthOf RX1 4) (hr : meth.sig.returnType = (some .int)) {r : Int32 × cpS} (x1 : Int32) : ∀ (n : Nat) (x2 : Int32) (x3 : Int32) (S : cpS), fX1_strengthOf_4 x1 n x2 x3 S = some r → cpJ p l e (cpRm 1) s m args below meth c (MQ below (va_Qi (fun x S' => (x, S') = r) (cpWorld w A) A) args s 0 0 A) w A 4 4 [some (.ref (w.2.1 127)), some (.int x1), some (.int x2), some (.int x3)] [] S := by
  intro n
  induction n with
  | zero => intro x2 x3 S h; rw [fX1_strengthOf_4] at h; cases h
  | succ n ih =>
    intro x2 x3 S h
    rw [fX1_strengthOf_4] at h
    refine cj_iload_n C (i := 3) dX1_strengthOf_4 rfl rfl ?_
    refine cj_aload_n C (i := 0) dX1_strengthOf_5 rfl rfl ?_
    refine cj_getR C (d := 1) o_127 rfl gfX1_18 dX1_strengthOf_6 ?_
    refine cj_getI C (j := 7) o_1 rfl gfX1_26 dX1_strengthOf_9 ?_
    refine cj_icmp_ge C (tgt := 41) dX1_strengthOf_12 rfl h (fun _ h => ?_) (fun _ h => ?_)
    · refine cj_iload_n C (i := 2) dX1_strengthOf_41 rfl rfl ?_
      exact cj_ireturn C hr h dX1_strengthOf_42
    · refine cj_iload_n C (i := 1) dX1_strengthOf_15 rfl rfl ?_
      refine cj_iload_n C (i := 3) dX1_strengthOf_16 rfl rfl ?_
      refine cj_callNi C (As := [.int x1, .int x3]) (rest := []) qX11_isIn (List.mem_of_getElem? (i := 6) rfl) rfl rfl (Nat.le_of_ble_eq_true rfl) (by decide) dX1_strengthOf_17 h (fun _ _ hf => m_X11_isIn l w A x1 x3 S _ hf) (fun z1 S2 h => ?_)
      refine cj_if_eq C (tgt := 35) dX1_strengthOf_20 rfl h (fun _ h => ?_) (fun _ h => ?_)
      · refine cj_iinc C (v := (x3 + 1)) (lv' := [some (.ref (w.2.1 127)), some (.int x1), some (.int x2), some (.int (x3 + 1))]) dX1_strengthOf_35 rfl rfl (by decide) rfl rfl ?_
        refine cj_goto C (tgt := 4) dX1_strengthOf_38 rfl ?_
        exact ih x2 (x3 + 1) S2 h
      · refine cj_iload_n C (i := 2) dX1_strengthOf_23 rfl rfl ?_
        refine cj_aload_n C (i := 0) dX1_strengthOf_24 rfl rfl ?_
        refine cj_getR C (d := 1) o_127 rfl gfX1_18 dX1_strengthOf_25 ?_
        refine cj_getR C (d := 6) o_1 rfl gfX1_75 dX1_strengthOf_28 ?_
        refine cj_iload_n C (i := 3) dX1_strengthOf_31 rfl rfl ?_
        refine cj_iaload C o_6 h dX1_strengthOf_32 (fun h => ?_)
        refine cj_iadd C dX1_strengthOf_33 ?_
        refine cj_let h (fun y3 h => ?_)
        refine cj_istore_n C (i := 2) (lv' := [some (.ref (w.2.1 127)), some (.int x1), some (.int y3), some (.int x3)]) dX1_strengthOf_34 rfl (by decide) rfl rfl ?_
        refine cj_iinc C (v := (x3 + 1)) (lv' := [some (.ref (w.2.1 127)), some (.int x1), some (.int y3), some (.int (x3 + 1))]) dX1_strengthOf_35 rfl rfl (by decide) rfl rfl ?_
        refine cj_goto C (tgt := 4) dX1_strengthOf_38 rfl ?_
        exact ih y3 (x3 + 1) S2 h
def fX1_strengthOf (x1 : Int32) (S : cpS) : Option (Int32 × cpS) :=
    fX1_strengthOf_4 x1 cpFu (0 : Int32) (0 : Int32) S
set_option maxRecDepth 100000 in
set_option maxHeartbeats 4000000 in
theorem m_X1_strengthOf (l : Launch) (w : cpW) (A : Nat → Prop) (x1 : Int32) (S : cpS) (r : Int32 × cpS) (h : fX1_strengthOf x1 S = some r) : cpMi l yX1_strengthOf cX1_strengthOf 4 ((some .int)) 1 w A [.ref (w.2.1 127), .int x1] S r := by
  refine cpMi.of (lv := [some (.ref (w.2.1 127)), some (.int x1), none, none]) (by decide) (Nat.le_of_ble_eq_true rfl) rfl (fun p e s m args below meth c C hr => ?_)
  replace C : cpCx p s m args meth c w A cX1_strengthOf RX1 4 := C
  rw [fX1_strengthOf] at h
  refine cj_iconst C (v := (0 : Int32)) dX1_strengthOf_0 rfl ?_
  refine cj_istore_n C (i := 2) (lv' := [some (.ref (w.2.1 127)), some (.int x1), some (.int (0 : Int32)), none]) dX1_strengthOf_1 rfl (by decide) rfl rfl ?_
  refine cj_iconst C (v := (0 : Int32)) dX1_strengthOf_2 rfl ?_
  refine cj_istore_n C (i := 3) (lv' := [some (.ref (w.2.1 127)), some (.int x1), some (.int (0 : Int32)), some (.int (0 : Int32))]) dX1_strengthOf_3 rfl (by decide) rfl rfl ?_
  exact wX1_strengthOf_4 C hr x1 cpFu (0 : Int32) (0 : Int32) S h
/-! X1_fewestLifters -/
def fX1_fewestLifters_33 (x1 : Int32) (x2 : Int32) (x3 : Int32) (s0 : Int32) (k4 : Int32 → Int32 → cpS → Option (Int32 × cpS)) (S : cpS) : Option (Int32 × cpS) :=
    if s0 = 0 then (
    k4 x2 (x3 + 1) S) else (
    cpB (fX1_strengthOf x3 S) fun z1 S2 =>
    if z1 < x1 then (
    k4 x2 (x3 + 1) S2) else (
    k4 x3 (x3 + 1) S2))
set_option maxRecDepth 100000 in
set_option maxHeartbeats 4000000 in
theorem wX1_fewestLifters_33 (C : cpCx p s m args meth c w A cX1_fewestLifters RX1 5) (hr : meth.sig.returnType = (some .int)) {r : Int32 × cpS} (x1 : Int32) (x2 : Int32) (x3 : Int32) (s0 : Int32) {k4 : Int32 → Int32 → cpS → Option (Int32 × cpS)} (hk4 : ∀ (x2 : Int32) (x3 : Int32) (S : cpS), k4 x2 x3 S = some r → cpJ p l e (cpRm 2) s m args below meth c (MQ below (va_Qi (fun x S' => (x, S') = r) (cpWorld w A) A) args s 0 0 A) w A 5 4 [some (.ref (w.2.1 127)), some (.int x1), some (.int x2), some (.int x3), none] [] S) (S : cpS) (h : fX1_fewestLifters_33 x1 x2 x3 s0 k4 S = some r) : cpJ p l e (cpRm 2) s m args below meth c (MQ below (va_Qi (fun x S' => (x, S') = r) (cpWorld w A) A) args s 0 0 A) w A 5 33 [some (.ref (w.2.1 127)), some (.int x1), some (.int x2), some (.int x3), none] [.int s0] S := by
  rw [fX1_fewestLifters_33] at h
  refine cj_istore C (lv' := [some (.ref (w.2.1 127)), some (.int x1), some (.int x2), some (.int x3), some (.int s0)]) dX1_fewestLifters_33 (by decide) rfl rfl ?_
  refine cj_iload C dX1_fewestLifters_35 rfl ?_
  refine cj_if_eq C (tgt := 51) dX1_fewestLifters_37 rfl h (fun _ h => ?_) (fun _ h => ?_)
  · refine cj_iinc C (v := (x3 + 1)) (lv' := [some (.ref (w.2.1 127)), some (.int x1), some (.int x2), some (.int (x3 + 1)), some (.int s0)]) dX1_fewestLifters_51 rfl rfl (by decide) rfl rfl ?_
    refine cj_goto C (tgt := 4) dX1_fewestLifters_54 rfl ?_
    refine cj_weak C (lv' := [some (.ref (w.2.1 127)), some (.int x1), some (.int x2), some (.int (x3 + 1)), none]) (cpSub_s (cpSub_s (cpSub_s (cpSub_s (cpSub_n cpSub_nil))))) ?_
    exact hk4 x2 (x3 + 1) S h
  · refine cj_aload_n C (i := 0) dX1_fewestLifters_40 rfl rfl ?_
    refine cj_iload_n C (i := 3) dX1_fewestLifters_41 rfl rfl ?_
    refine cj_callVi C (As := [.int x3]) (rest := []) qX1_strengthOf mw_57_15 o_127 rfl rfl rfl (Nat.le_of_ble_eq_true rfl) (by decide) dX1_fewestLifters_42 h (fun _ _ hf => m_X1_strengthOf l w A x3 S _ hf) (fun z1 S2 h => ?_)
    refine cj_iload_n C (i := 1) dX1_fewestLifters_45 rfl rfl ?_
    refine cj_icmp_lt C (tgt := 51) dX1_fewestLifters_46 rfl h (fun _ h => ?_) (fun _ h => ?_)
    · refine cj_iinc C (v := (x3 + 1)) (lv' := [some (.ref (w.2.1 127)), some (.int x1), some (.int x2), some (.int (x3 + 1)), some (.int s0)]) dX1_fewestLifters_51 rfl rfl (by decide) rfl rfl ?_
      refine cj_goto C (tgt := 4) dX1_fewestLifters_54 rfl ?_
      refine cj_weak C (lv' := [some (.ref (w.2.1 127)), some (.int x1), some (.int x2), some (.int (x3 + 1)), none]) (cpSub_s (cpSub_s (cpSub_s (cpSub_s (cpSub_n cpSub_nil))))) ?_
      exact hk4 x2 (x3 + 1) S2 h
    · refine cj_iload_n C (i := 3) dX1_fewestLifters_49 rfl rfl ?_
      refine cj_istore_n C (i := 2) (lv' := [some (.ref (w.2.1 127)), some (.int x1), some (.int x3), some (.int x3), some (.int s0)]) dX1_fewestLifters_50 rfl (by decide) rfl rfl ?_
      refine cj_iinc C (v := (x3 + 1)) (lv' := [some (.ref (w.2.1 127)), some (.int x1), some (.int x3), some (.int (x3 + 1)), some (.int s0)]) dX1_fewestLifters_51 rfl rfl (by decide) rfl rfl ?_
      refine cj_goto C (tgt := 4) dX1_fewestLifters_54 rfl ?_
      refine cj_weak C (lv' := [some (.ref (w.2.1 127)), some (.int x1), some (.int x3), some (.int (x3 + 1)), none]) (cpSub_s (cpSub_s (cpSub_s (cpSub_s (cpSub_n cpSub_nil))))) ?_
      exact hk4 x3 (x3 + 1) S2 h
def fX1_fewestLifters_4 (x1 : Int32) : Nat → Int32 → Int32 → cpS → Option (Int32 × cpS)
  | 0, _, _, _ => none
  | n + 1, x2, x3, S =>
    cpB (fX1_everybody S) fun z1 S2 =>
    if z1 < x3 then (
    some (x2, S2)) else (
    if x2 = (-1 : Int32) then (
    fX1_fewestLifters_33 x1 x2 x3 (1 : Int32) (fX1_fewestLifters_4 x1 n) S2) else (
    cpB (fJ6_bitCount_0f7a4 x3 S2) fun z3 S4 =>
    cpB (fJ6_bitCount_0f7a4 x2 S4) fun z5 S6 =>
    if z5 ≤ z3 then (
    fX1_fewestLifters_33 x1 x2 x3 (0 : Int32) (fX1_fewestLifters_4 x1 n) S6) else (
    fX1_fewestLifters_33 x1 x2 x3 (1 : Int32) (fX1_fewestLifters_4 x1 n) S6)))
set_option maxRecDepth 100000 in
set_option maxHeartbeats 4000000 in
theorem wX1_fewestLifters_4 (C : cpCx p s m args meth c w A cX1_fewestLifters RX1 5) (hr : meth.sig.returnType = (some .int)) {r : Int32 × cpS} (x1 : Int32) : ∀ (n : Nat) (x2 : Int32) (x3 : Int32) (S : cpS), fX1_fewestLifters_4 x1 n x2 x3 S = some r → cpJ p l e (cpRm 2) s m args below meth c (MQ below (va_Qi (fun x S' => (x, S') = r) (cpWorld w A) A) args s 0 0 A) w A 5 4 [some (.ref (w.2.1 127)), some (.int x1), some (.int x2), some (.int x3), none] [] S := by
  intro n
  induction n with
  | zero => intro x2 x3 S h; rw [fX1_fewestLifters_4] at h; cases h
  | succ n ih =>
    intro x2 x3 S h
    rw [fX1_fewestLifters_4] at h
    refine cj_iload_n C (i := 3) dX1_fewestLifters_4 rfl rfl ?_
    refine cj_aload_n C (i := 0) dX1_fewestLifters_5 rfl rfl ?_
    refine cj_callVi C (As := []) (rest := [.int x3]) qX1_everybody mw_54_14 o_127 rfl rfl rfl (Nat.le_of_ble_eq_true rfl) (by decide) dX1_fewestLifters_6 h (fun _ _ hf => m_X1_everybody l w A S _ hf) (fun z1 S2 h => ?_)
    refine cj_icmp_gt C (tgt := 57) dX1_fewestLifters_9 rfl h (fun _ h => ?_) (fun _ h => ?_)
    · refine cj_iload_n C (i := 2) dX1_fewestLifters_57 rfl rfl ?_
      exact cj_ireturn C hr h dX1_fewestLifters_58
    · refine cj_iload_n C (i := 2) dX1_fewestLifters_12 rfl rfl ?_
      refine cj_iconst C (v := (-1 : Int32)) dX1_fewestLifters_13 rfl ?_
      refine cj_icmp_eq C (tgt := 28) dX1_fewestLifters_14 rfl h (fun _ h => ?_) (fun _ h => ?_)
      · refine cj_iconst C (v := (1 : Int32)) dX1_fewestLifters_28 rfl ?_
        refine cj_goto C (tgt := 33) dX1_fewestLifters_29 rfl ?_
        exact wX1_fewestLifters_33 C hr x1 x2 x3 (1 : Int32) ih S2 h
      · refine cj_iload_n C (i := 3) dX1_fewestLifters_17 rfl rfl ?_
        refine cj_callSi C (As := [.int x3]) (rest := []) qJ6_bitCount_0f7a4 mw_57_8 rfl rfl (Nat.le_of_ble_eq_true rfl) (by decide) dX1_fewestLifters_18 h (fun _ _ hf => m_J6_bitCount_0f7a4 l w A x3 S2 _ hf) (fun z3 S4 h => ?_)
        refine cj_iload_n C (i := 2) dX1_fewestLifters_21 rfl rfl ?_
        refine cj_callSi C (As := [.int x2]) (rest := [.int z3]) qJ6_bitCount_0f7a4 mw_57_8 rfl rfl (Nat.le_of_ble_eq_true rfl) (by decide) dX1_fewestLifters_22 h (fun _ _ hf => m_J6_bitCount_0f7a4 l w A x2 S4 _ hf) (fun z5 S6 h => ?_)
        refine cj_icmp_ge C (tgt := 32) dX1_fewestLifters_25 rfl h (fun _ h => ?_) (fun _ h => ?_)
        · refine cj_iconst C (v := (0 : Int32)) dX1_fewestLifters_32 rfl ?_
          exact wX1_fewestLifters_33 C hr x1 x2 x3 (0 : Int32) ih S6 h
        · refine cj_iconst C (v := (1 : Int32)) dX1_fewestLifters_28 rfl ?_
          refine cj_goto C (tgt := 33) dX1_fewestLifters_29 rfl ?_
          exact wX1_fewestLifters_33 C hr x1 x2 x3 (1 : Int32) ih S6 h
def fX1_fewestLifters (x1 : Int32) (S : cpS) : Option (Int32 × cpS) :=
    fX1_fewestLifters_4 x1 cpFu (-1 : Int32) (0 : Int32) S
set_option maxRecDepth 100000 in
set_option maxHeartbeats 4000000 in
theorem m_X1_fewestLifters (l : Launch) (w : cpW) (A : Nat → Prop) (x1 : Int32) (S : cpS) (r : Int32 × cpS) (h : fX1_fewestLifters x1 S = some r) : cpMi l yX1_fewestLifters cX1_fewestLifters 5 ((some .int)) 2 w A [.ref (w.2.1 127), .int x1] S r := by
  refine cpMi.of (lv := [some (.ref (w.2.1 127)), some (.int x1), none, none, none]) (by decide) (Nat.le_of_ble_eq_true rfl) rfl (fun p e s m args below meth c C hr => ?_)
  replace C : cpCx p s m args meth c w A cX1_fewestLifters RX1 5 := C
  rw [fX1_fewestLifters] at h
  refine cj_iconst C (v := (-1 : Int32)) dX1_fewestLifters_0 rfl ?_
  refine cj_istore_n C (i := 2) (lv' := [some (.ref (w.2.1 127)), some (.int x1), some (.int (-1 : Int32)), none, none]) dX1_fewestLifters_1 rfl (by decide) rfl rfl ?_
  refine cj_iconst C (v := (0 : Int32)) dX1_fewestLifters_2 rfl ?_
  refine cj_istore_n C (i := 3) (lv' := [some (.ref (w.2.1 127)), some (.int x1), some (.int (-1 : Int32)), some (.int (0 : Int32)), none]) dX1_fewestLifters_3 rfl (by decide) rfl rfl ?_
  exact wX1_fewestLifters_4 C hr x1 cpFu (-1 : Int32) (0 : Int32) S h
/-! X1_passedFrom -/
def fX1_passedFrom_22 (x2 : Int32) (x4 : Int32) (k7 : Int32 → Int32 → cpS → Option (Int32 × cpS)) : Nat → Int32 → Int32 → cpS → Option (Int32 × cpS)
  | 0, _, _, _ => none
  | n + 1, x3, x5, S =>
    if (S.1 1 3) ≤ x5 then (
    k7 x3 (x4 + 1) S) else (
    if cpIn x5 9 then (
    if cpIn x5 9 then (
    cpLt ((cpShl (1 : Int32) (S.1 2 x5.toNatClampNeg)) ||| (cpShl (1 : Int32) (S.1 3 x5.toNatClampNeg))) fun y1 =>
    if (y1 &&& x3) = 0 then (
    fX1_passedFrom_22 x2 x4 k7 n x3 (x5 + 1) S) else (
    if (y1 &&& x2) = 0 then (
    cpLt (x3 ||| y1) fun y2 =>
    fX1_passedFrom_22 x2 x4 k7 n y2 (x5 + 1) S) else (
    fX1_passedFrom_22 x2 x4 k7 n x3 (x5 + 1) S))) else none) else none)
set_option maxRecDepth 100000 in
set_option maxHeartbeats 4000000 in
theorem wX1_passedFrom_22 (C : cpCx p s m args meth c w A cX1_passedFrom RX1 7) (hr : meth.sig.returnType = (some .int)) {r : Int32 × cpS} (x2 : Int32) (x4 : Int32) {k7 : Int32 → Int32 → cpS → Option (Int32 × cpS)} (hk7 : ∀ (x3 : Int32) (x4 : Int32) (S : cpS), k7 x3 x4 S = some r → cpJ p l e (cpRm 0) s m args below meth c (MQ below (va_Qi (fun x S' => (x, S') = r) (cpWorld w A) A) args s 0 0 A) w A 7 7 [some (.ref (w.2.1 127)), none, some (.int x2), some (.int x3), some (.int x4), none, none] [] S) : ∀ (n : Nat) (x3 : Int32) (x5 : Int32) (S : cpS), fX1_passedFrom_22 x2 x4 k7 n x3 x5 S = some r → cpJ p l e (cpRm 0) s m args below meth c (MQ below (va_Qi (fun x S' => (x, S') = r) (cpWorld w A) A) args s 0 0 A) w A 7 22 [some (.ref (w.2.1 127)), none, some (.int x2), some (.int x3), some (.int x4), some (.int x5), none] [] S := by
  intro n
  induction n with
  | zero => intro x3 x5 S h; rw [fX1_passedFrom_22] at h; cases h
  | succ n ih =>
    intro x3 x5 S h
    rw [fX1_passedFrom_22] at h
    refine cj_iload C dX1_passedFrom_22 rfl ?_
    refine cj_aload_n C (i := 0) dX1_passedFrom_24 rfl rfl ?_
    refine cj_getR C (d := 1) o_127 rfl gfX1_18 dX1_passedFrom_25 ?_
    refine cj_getI C (j := 3) o_1 rfl gfX1_95 dX1_passedFrom_28 ?_
    refine cj_icmp_ge C (tgt := 86) dX1_passedFrom_31 rfl h (fun _ h => ?_) (fun _ h => ?_)
    · refine cj_iinc C (v := (x4 + 1)) (lv' := [some (.ref (w.2.1 127)), none, some (.int x2), some (.int x3), some (.int (x4 + 1)), some (.int x5), none]) dX1_passedFrom_86 rfl rfl (by decide) rfl rfl ?_
      refine cj_goto C (tgt := 7) dX1_passedFrom_89 rfl ?_
      refine cj_weak C (lv' := [some (.ref (w.2.1 127)), none, some (.int x2), some (.int x3), some (.int (x4 + 1)), none, none]) (cpSub_s (cpSub_n (cpSub_s (cpSub_s (cpSub_s (cpSub_n (cpSub_n cpSub_nil))))))) ?_
      exact hk7 x3 (x4 + 1) S h
    · refine cj_iconst C (v := (1 : Int32)) dX1_passedFrom_34 rfl ?_
      refine cj_aload_n C (i := 0) dX1_passedFrom_35 rfl rfl ?_
      refine cj_getR C (d := 1) o_127 rfl gfX1_18 dX1_passedFrom_36 ?_
      refine cj_getR C (d := 2) o_1 rfl gfX1_98 dX1_passedFrom_39 ?_
      refine cj_iload C dX1_passedFrom_42 rfl ?_
      refine cj_iaload C o_2 h dX1_passedFrom_44 (fun h => ?_)
      refine ck_ishl C dX1_passedFrom_45 ?_
      refine cj_iconst C (v := (1 : Int32)) dX1_passedFrom_46 rfl ?_
      refine cj_aload_n C (i := 0) dX1_passedFrom_47 rfl rfl ?_
      refine cj_getR C (d := 1) o_127 rfl gfX1_18 dX1_passedFrom_48 ?_
      refine cj_getR C (d := 3) o_1 rfl gfX1_101 dX1_passedFrom_51 ?_
      refine cj_iload C dX1_passedFrom_54 rfl ?_
      refine cj_iaload C o_3 h dX1_passedFrom_56 (fun h => ?_)
      refine ck_ishl C dX1_passedFrom_57 ?_
      refine cj_ior C dX1_passedFrom_58 ?_
      refine cj_let h (fun y1 h => ?_)
      refine cj_istore C (lv' := [some (.ref (w.2.1 127)), none, some (.int x2), some (.int x3), some (.int x4), some (.int x5), some (.int y1)]) dX1_passedFrom_59 (by decide) rfl rfl ?_
      refine cj_iload C dX1_passedFrom_61 rfl ?_
      refine cj_iload_n C (i := 3) dX1_passedFrom_63 rfl rfl ?_
      refine cj_iand C dX1_passedFrom_64 ?_
      refine cj_if_eq C (tgt := 80) dX1_passedFrom_65 rfl h (fun _ h => ?_) (fun _ h => ?_)
      · refine cj_iinc C (v := (x5 + 1)) (lv' := [some (.ref (w.2.1 127)), none, some (.int x2), some (.int x3), some (.int x4), some (.int (x5 + 1)), some (.int y1)]) dX1_passedFrom_80 rfl rfl (by decide) rfl rfl ?_
        refine cj_goto C (tgt := 22) dX1_passedFrom_83 rfl ?_
        refine cj_weak C (lv' := [some (.ref (w.2.1 127)), none, some (.int x2), some (.int x3), some (.int x4), some (.int (x5 + 1)), none]) (cpSub_s (cpSub_n (cpSub_s (cpSub_s (cpSub_s (cpSub_s (cpSub_n cpSub_nil))))))) ?_
        exact ih x3 (x5 + 1) S h
      · refine cj_iload C dX1_passedFrom_68 rfl ?_
        refine cj_iload_n C (i := 2) dX1_passedFrom_70 rfl rfl ?_
        refine cj_iand C dX1_passedFrom_71 ?_
        refine cj_if_ne C (tgt := 80) dX1_passedFrom_72 rfl h (fun _ h => ?_) (fun _ h => ?_)
        · refine cj_iload_n C (i := 3) dX1_passedFrom_75 rfl rfl ?_
          refine cj_iload C dX1_passedFrom_76 rfl ?_
          refine cj_ior C dX1_passedFrom_78 ?_
          refine cj_let h (fun y2 h => ?_)
          refine cj_istore_n C (i := 3) (lv' := [some (.ref (w.2.1 127)), none, some (.int x2), some (.int y2), some (.int x4), some (.int x5), some (.int y1)]) dX1_passedFrom_79 rfl (by decide) rfl rfl ?_
          refine cj_iinc C (v := (x5 + 1)) (lv' := [some (.ref (w.2.1 127)), none, some (.int x2), some (.int y2), some (.int x4), some (.int (x5 + 1)), some (.int y1)]) dX1_passedFrom_80 rfl rfl (by decide) rfl rfl ?_
          refine cj_goto C (tgt := 22) dX1_passedFrom_83 rfl ?_
          refine cj_weak C (lv' := [some (.ref (w.2.1 127)), none, some (.int x2), some (.int y2), some (.int x4), some (.int (x5 + 1)), none]) (cpSub_s (cpSub_n (cpSub_s (cpSub_s (cpSub_s (cpSub_s (cpSub_n cpSub_nil))))))) ?_
          exact ih y2 (x5 + 1) S h
        · refine cj_iinc C (v := (x5 + 1)) (lv' := [some (.ref (w.2.1 127)), none, some (.int x2), some (.int x3), some (.int x4), some (.int (x5 + 1)), some (.int y1)]) dX1_passedFrom_80 rfl rfl (by decide) rfl rfl ?_
          refine cj_goto C (tgt := 22) dX1_passedFrom_83 rfl ?_
          refine cj_weak C (lv' := [some (.ref (w.2.1 127)), none, some (.int x2), some (.int x3), some (.int x4), some (.int (x5 + 1)), none]) (cpSub_s (cpSub_n (cpSub_s (cpSub_s (cpSub_s (cpSub_s (cpSub_n cpSub_nil))))))) ?_
          exact ih x3 (x5 + 1) S h
def fX1_passedFrom_7 (x2 : Int32) : Nat → Int32 → Int32 → cpS → Option (Int32 × cpS)
  | 0, _, _, _ => none
  | n + 1, x3, x4, S =>
    if (S.1 1 0) ≤ x4 then (
    some (x3, S)) else (
    fX1_passedFrom_22 x2 x4 (fX1_passedFrom_7 x2 n) cpFu x3 (0 : Int32) S)
set_option maxRecDepth 100000 in
set_option maxHeartbeats 4000000 in
theorem wX1_passedFrom_7 (C : cpCx p s m args meth c w A cX1_passedFrom RX1 7) (hr : meth.sig.returnType = (some .int)) {r : Int32 × cpS} (x2 : Int32) : ∀ (n : Nat) (x3 : Int32) (x4 : Int32) (S : cpS), fX1_passedFrom_7 x2 n x3 x4 S = some r → cpJ p l e (cpRm 0) s m args below meth c (MQ below (va_Qi (fun x S' => (x, S') = r) (cpWorld w A) A) args s 0 0 A) w A 7 7 [some (.ref (w.2.1 127)), none, some (.int x2), some (.int x3), some (.int x4), none, none] [] S := by
  intro n
  induction n with
  | zero => intro x3 x4 S h; rw [fX1_passedFrom_7] at h; cases h
  | succ n ih =>
    intro x3 x4 S h
    rw [fX1_passedFrom_7] at h
    refine cj_iload C dX1_passedFrom_7 rfl ?_
    refine cj_aload_n C (i := 0) dX1_passedFrom_9 rfl rfl ?_
    refine cj_getR C (d := 1) o_127 rfl gfX1_18 dX1_passedFrom_10 ?_
    refine cj_getI C (j := 0) o_1 rfl gfX1_89 dX1_passedFrom_13 ?_
    refine cj_icmp_ge C (tgt := 92) dX1_passedFrom_16 rfl h (fun _ h => ?_) (fun _ h => ?_)
    · refine cj_iload_n C (i := 3) dX1_passedFrom_92 rfl rfl ?_
      exact cj_ireturn C hr h dX1_passedFrom_93
    · refine cj_iconst C (v := (0 : Int32)) dX1_passedFrom_19 rfl ?_
      refine cj_istore C (lv' := [some (.ref (w.2.1 127)), none, some (.int x2), some (.int x3), some (.int x4), some (.int (0 : Int32)), none]) dX1_passedFrom_20 (by decide) rfl rfl ?_
      exact wX1_passedFrom_22 C hr x2 x4 ih cpFu x3 (0 : Int32) S h
def fX1_passedFrom (x1 : Int32) (x2 : Int32) (S : cpS) : Option (Int32 × cpS) :=
    cpLt (cpShl (1 : Int32) x1) fun y1 =>
    fX1_passedFrom_7 x2 cpFu y1 (1 : Int32) S
set_option maxRecDepth 100000 in
set_option maxHeartbeats 4000000 in
theorem m_X1_passedFrom (l : Launch) (w : cpW) (A : Nat → Prop) (x1 : Int32) (x2 : Int32) (S : cpS) (r : Int32 × cpS) (h : fX1_passedFrom x1 x2 S = some r) : cpMi l yX1_passedFrom cX1_passedFrom 7 ((some .int)) 0 w A [.ref (w.2.1 127), .int x1, .int x2] S r := by
  refine cpMi.of (lv := [some (.ref (w.2.1 127)), some (.int x1), some (.int x2), none, none, none, none]) (by decide) (Nat.le_of_ble_eq_true rfl) rfl (fun p e s m args below meth c C hr => ?_)
  replace C : cpCx p s m args meth c w A cX1_passedFrom RX1 7 := C
  rw [fX1_passedFrom] at h
  refine cj_iconst C (v := (1 : Int32)) dX1_passedFrom_0 rfl ?_
  refine cj_iload_n C (i := 1) dX1_passedFrom_1 rfl rfl ?_
  refine ck_ishl C dX1_passedFrom_2 ?_
  refine cj_let h (fun y1 h => ?_)
  refine cj_istore_n C (i := 3) (lv' := [some (.ref (w.2.1 127)), some (.int x1), some (.int x2), some (.int y1), none, none, none]) dX1_passedFrom_3 rfl (by decide) rfl rfl ?_
  refine cj_iconst C (v := (1 : Int32)) dX1_passedFrom_4 rfl ?_
  refine cj_istore C (lv' := [some (.ref (w.2.1 127)), some (.int x1), some (.int x2), some (.int y1), some (.int (1 : Int32)), none, none]) dX1_passedFrom_5 (by decide) rfl rfl ?_
  refine cj_weak C (lv' := [some (.ref (w.2.1 127)), none, some (.int x2), some (.int y1), some (.int (1 : Int32)), none, none]) (cpSub_s (cpSub_n (cpSub_s (cpSub_s (cpSub_s (cpSub_n (cpSub_n cpSub_nil))))))) ?_
  exact wX1_passedFrom_7 C hr x2 cpFu y1 (1 : Int32) S h
/-! X1_fewestGuards -/
def fX1_fewestGuards_60 (x1 : Int32) (x2 : Int32) (x3 : Int32) (x4 : Int32) (s0 : Int32) (k24 : Int32 → Int32 → cpS → Option (Int32 × cpS)) (S : cpS) : Option (Int32 × cpS) :=
    if s0 = 0 then (
    k24 x3 (x4 + 1) S) else (
    cpB (fX11_isIn x4 x1 S) fun z1 S2 =>
    if z1 = 0 then (
    cpB (fX11_isIn x4 x2 S2) fun z3 S4 =>
    if z3 = 0 then (
    cpB (fX1_passedFrom x1 x4 S4) fun z5 S6 =>
    cpB (fX11_isIn z5 x2 S6) fun z7 S8 =>
    if z7 = 0 then (
    k24 x4 (x4 + 1) S8) else (
    k24 x3 (x4 + 1) S8)) else (
    k24 x3 (x4 + 1) S4)) else (
    k24 x3 (x4 + 1) S2))
set_option maxRecDepth 100000 in
set_option maxHeartbeats 4000000 in
theorem wX1_fewestGuards_60 (C : cpCx p s m args meth c w A cX1_fewestGuards RX1 6) (hr : meth.sig.returnType = (some .int)) {r : Int32 × cpS} (x1 : Int32) (x2 : Int32) (x3 : Int32) (x4 : Int32) (s0 : Int32) {k24 : Int32 → Int32 → cpS → Option (Int32 × cpS)} (hk24 : ∀ (x3 : Int32) (x4 : Int32) (S : cpS), k24 x3 x4 S = some r → cpJ p l e (cpRm 2) s m args below meth c (MQ below (va_Qi (fun x S' => (x, S') = r) (cpWorld w A) A) args s 0 0 A) w A 6 24 [some (.ref (w.2.1 127)), some (.int x1), some (.int x2), some (.int x3), some (.int x4), none] [] S) (S : cpS) (h : fX1_fewestGuards_60 x1 x2 x3 x4 s0 k24 S = some r) : cpJ p l e (cpRm 2) s m args below meth c (MQ below (va_Qi (fun x S' => (x, S') = r) (cpWorld w A) A) args s 0 0 A) w A 6 60 [some (.ref (w.2.1 127)), some (.int x1), some (.int x2), some (.int x3), some (.int x4), none] [.int s0] S := by
  rw [fX1_fewestGuards_60] at h
  refine cj_istore C (lv' := [some (.ref (w.2.1 127)), some (.int x1), some (.int x2), some (.int x3), some (.int x4), some (.int s0)]) dX1_fewestGuards_60 (by decide) rfl rfl ?_
  refine cj_iload C dX1_fewestGuards_62 rfl ?_
  refine cj_if_eq C (tgt := 102) dX1_fewestGuards_64 rfl h (fun _ h => ?_) (fun _ h => ?_)
  · refine cj_iinc C (v := (x4 + 1)) (lv' := [some (.ref (w.2.1 127)), some (.int x1), some (.int x2), some (.int x3), some (.int (x4 + 1)), some (.int s0)]) dX1_fewestGuards_102 rfl rfl (by decide) rfl rfl ?_
    refine cj_goto C (tgt := 24) dX1_fewestGuards_105 rfl ?_
    refine cj_weak C (lv' := [some (.ref (w.2.1 127)), some (.int x1), some (.int x2), some (.int x3), some (.int (x4 + 1)), none]) (cpSub_s (cpSub_s (cpSub_s (cpSub_s (cpSub_s (cpSub_n cpSub_nil)))))) ?_
    exact hk24 x3 (x4 + 1) S h
  · refine cj_iload C dX1_fewestGuards_67 rfl ?_
    refine cj_iload_n C (i := 1) dX1_fewestGuards_69 rfl rfl ?_
    refine cj_callNi C (As := [.int x4, .int x1]) (rest := []) qX11_isIn (List.mem_of_getElem? (i := 6) rfl) rfl rfl (Nat.le_of_ble_eq_true rfl) (by decide) dX1_fewestGuards_70 h (fun _ _ hf => m_X11_isIn l w A x4 x1 S _ hf) (fun z1 S2 h => ?_)
    refine cj_if_ne C (tgt := 102) dX1_fewestGuards_73 rfl h (fun _ h => ?_) (fun _ h => ?_)
    · refine cj_iload C dX1_fewestGuards_76 rfl ?_
      refine cj_iload_n C (i := 2) dX1_fewestGuards_78 rfl rfl ?_
      refine cj_callNi C (As := [.int x4, .int x2]) (rest := []) qX11_isIn (List.mem_of_getElem? (i := 6) rfl) rfl rfl (Nat.le_of_ble_eq_true rfl) (by decide) dX1_fewestGuards_79 h (fun _ _ hf => m_X11_isIn l w A x4 x2 S2 _ hf) (fun z3 S4 h => ?_)
      refine cj_if_ne C (tgt := 102) dX1_fewestGuards_82 rfl h (fun _ h => ?_) (fun _ h => ?_)
      · refine cj_aload_n C (i := 0) dX1_fewestGuards_85 rfl rfl ?_
        refine cj_iload_n C (i := 1) dX1_fewestGuards_86 rfl rfl ?_
        refine cj_iload C dX1_fewestGuards_87 rfl ?_
        refine cj_callVi C (As := [.int x1, .int x4]) (rest := []) qX1_passedFrom mw_58_16 o_127 rfl rfl rfl (Nat.le_of_ble_eq_true rfl) (by decide) dX1_fewestGuards_89 h (fun _ _ hf => m_X1_passedFrom l w A x1 x4 S4 _ hf) (fun z5 S6 h => ?_)
        refine cj_iload_n C (i := 2) dX1_fewestGuards_92 rfl rfl ?_
        refine cj_callNi C (As := [.int z5, .int x2]) (rest := []) qX11_isIn (List.mem_of_getElem? (i := 6) rfl) rfl rfl (Nat.le_of_ble_eq_true rfl) (by decide) dX1_fewestGuards_93 h (fun _ _ hf => m_X11_isIn l w A z5 x2 S6 _ hf) (fun z7 S8 h => ?_)
        refine cj_if_ne C (tgt := 102) dX1_fewestGuards_96 rfl h (fun _ h => ?_) (fun _ h => ?_)
        · refine cj_iload C dX1_fewestGuards_99 rfl ?_
          refine cj_istore_n C (i := 3) (lv' := [some (.ref (w.2.1 127)), some (.int x1), some (.int x2), some (.int x4), some (.int x4), some (.int s0)]) dX1_fewestGuards_101 rfl (by decide) rfl rfl ?_
          refine cj_iinc C (v := (x4 + 1)) (lv' := [some (.ref (w.2.1 127)), some (.int x1), some (.int x2), some (.int x4), some (.int (x4 + 1)), some (.int s0)]) dX1_fewestGuards_102 rfl rfl (by decide) rfl rfl ?_
          refine cj_goto C (tgt := 24) dX1_fewestGuards_105 rfl ?_
          refine cj_weak C (lv' := [some (.ref (w.2.1 127)), some (.int x1), some (.int x2), some (.int x4), some (.int (x4 + 1)), none]) (cpSub_s (cpSub_s (cpSub_s (cpSub_s (cpSub_s (cpSub_n cpSub_nil)))))) ?_
          exact hk24 x4 (x4 + 1) S8 h
        · refine cj_iinc C (v := (x4 + 1)) (lv' := [some (.ref (w.2.1 127)), some (.int x1), some (.int x2), some (.int x3), some (.int (x4 + 1)), some (.int s0)]) dX1_fewestGuards_102 rfl rfl (by decide) rfl rfl ?_
          refine cj_goto C (tgt := 24) dX1_fewestGuards_105 rfl ?_
          refine cj_weak C (lv' := [some (.ref (w.2.1 127)), some (.int x1), some (.int x2), some (.int x3), some (.int (x4 + 1)), none]) (cpSub_s (cpSub_s (cpSub_s (cpSub_s (cpSub_s (cpSub_n cpSub_nil)))))) ?_
          exact hk24 x3 (x4 + 1) S8 h
      · refine cj_iinc C (v := (x4 + 1)) (lv' := [some (.ref (w.2.1 127)), some (.int x1), some (.int x2), some (.int x3), some (.int (x4 + 1)), some (.int s0)]) dX1_fewestGuards_102 rfl rfl (by decide) rfl rfl ?_
        refine cj_goto C (tgt := 24) dX1_fewestGuards_105 rfl ?_
        refine cj_weak C (lv' := [some (.ref (w.2.1 127)), some (.int x1), some (.int x2), some (.int x3), some (.int (x4 + 1)), none]) (cpSub_s (cpSub_s (cpSub_s (cpSub_s (cpSub_s (cpSub_n cpSub_nil)))))) ?_
        exact hk24 x3 (x4 + 1) S4 h
    · refine cj_iinc C (v := (x4 + 1)) (lv' := [some (.ref (w.2.1 127)), some (.int x1), some (.int x2), some (.int x3), some (.int (x4 + 1)), some (.int s0)]) dX1_fewestGuards_102 rfl rfl (by decide) rfl rfl ?_
      refine cj_goto C (tgt := 24) dX1_fewestGuards_105 rfl ?_
      refine cj_weak C (lv' := [some (.ref (w.2.1 127)), some (.int x1), some (.int x2), some (.int x3), some (.int (x4 + 1)), none]) (cpSub_s (cpSub_s (cpSub_s (cpSub_s (cpSub_s (cpSub_n cpSub_nil)))))) ?_
      exact hk24 x3 (x4 + 1) S2 h
def fX1_fewestGuards_24 (x1 : Int32) (x2 : Int32) : Nat → Int32 → Int32 → cpS → Option (Int32 × cpS)
  | 0, _, _, _ => none
  | n + 1, x3, x4, S =>
    if (cpShl (1 : Int32) (S.1 1 0)) ≤ x4 then (
    some (x3, S)) else (
    if x3 = (-1 : Int32) then (
    fX1_fewestGuards_60 x1 x2 x3 x4 (1 : Int32) (fX1_fewestGuards_24 x1 x2 n) S) else (
    cpB (fJ6_bitCount_0f7a4 x4 S) fun z1 S2 =>
    cpB (fJ6_bitCount_0f7a4 x3 S2) fun z3 S4 =>
    if z3 ≤ z1 then (
    fX1_fewestGuards_60 x1 x2 x3 x4 (0 : Int32) (fX1_fewestGuards_24 x1 x2 n) S4) else (
    fX1_fewestGuards_60 x1 x2 x3 x4 (1 : Int32) (fX1_fewestGuards_24 x1 x2 n) S4)))
set_option maxRecDepth 100000 in
set_option maxHeartbeats 4000000 in
theorem wX1_fewestGuards_24 (C : cpCx p s m args meth c w A cX1_fewestGuards RX1 6) (hr : meth.sig.returnType = (some .int)) {r : Int32 × cpS} (x1 : Int32) (x2 : Int32) : ∀ (n : Nat) (x3 : Int32) (x4 : Int32) (S : cpS), fX1_fewestGuards_24 x1 x2 n x3 x4 S = some r → cpJ p l e (cpRm 2) s m args below meth c (MQ below (va_Qi (fun x S' => (x, S') = r) (cpWorld w A) A) args s 0 0 A) w A 6 24 [some (.ref (w.2.1 127)), some (.int x1), some (.int x2), some (.int x3), some (.int x4), none] [] S := by
  intro n
  induction n with
  | zero => intro x3 x4 S h; rw [fX1_fewestGuards_24] at h; cases h
  | succ n ih =>
    intro x3 x4 S h
    rw [fX1_fewestGuards_24] at h
    refine cj_iload C dX1_fewestGuards_24 rfl ?_
    refine cj_iconst C (v := (1 : Int32)) dX1_fewestGuards_26 rfl ?_
    refine cj_aload_n C (i := 0) dX1_fewestGuards_27 rfl rfl ?_
    refine cj_getR C (d := 1) o_127 rfl gfX1_18 dX1_fewestGuards_28 ?_
    refine cj_getI C (j := 0) o_1 rfl gfX1_89 dX1_fewestGuards_31 ?_
    refine ck_ishl C dX1_fewestGuards_34 ?_
    refine cj_icmp_ge C (tgt := 108) dX1_fewestGuards_35 rfl h (fun _ h => ?_) (fun _ h => ?_)
    · refine cj_iload_n C (i := 3) dX1_fewestGuards_108 rfl rfl ?_
      exact cj_ireturn C hr h dX1_fewestGuards_109
    · refine cj_iload_n C (i := 3) dX1_fewestGuards_38 rfl rfl ?_
      refine cj_iconst C (v := (-1 : Int32)) dX1_fewestGuards_39 rfl ?_
      refine cj_icmp_eq C (tgt := 55) dX1_fewestGuards_40 rfl h (fun _ h => ?_) (fun _ h => ?_)
      · refine cj_iconst C (v := (1 : Int32)) dX1_fewestGuards_55 rfl ?_
        refine cj_goto C (tgt := 60) dX1_fewestGuards_56 rfl ?_
        exact wX1_fewestGuards_60 C hr x1 x2 x3 x4 (1 : Int32) ih S h
      · refine cj_iload C dX1_fewestGuards_43 rfl ?_
        refine cj_callSi C (As := [.int x4]) (rest := []) qJ6_bitCount_0f7a4 mw_57_8 rfl rfl (Nat.le_of_ble_eq_true rfl) (by decide) dX1_fewestGuards_45 h (fun _ _ hf => m_J6_bitCount_0f7a4 l w A x4 S _ hf) (fun z1 S2 h => ?_)
        refine cj_iload_n C (i := 3) dX1_fewestGuards_48 rfl rfl ?_
        refine cj_callSi C (As := [.int x3]) (rest := [.int z1]) qJ6_bitCount_0f7a4 mw_57_8 rfl rfl (Nat.le_of_ble_eq_true rfl) (by decide) dX1_fewestGuards_49 h (fun _ _ hf => m_J6_bitCount_0f7a4 l w A x3 S2 _ hf) (fun z3 S4 h => ?_)
        refine cj_icmp_ge C (tgt := 59) dX1_fewestGuards_52 rfl h (fun _ h => ?_) (fun _ h => ?_)
        · refine cj_iconst C (v := (0 : Int32)) dX1_fewestGuards_59 rfl ?_
          exact wX1_fewestGuards_60 C hr x1 x2 x3 x4 (0 : Int32) ih S4 h
        · refine cj_iconst C (v := (1 : Int32)) dX1_fewestGuards_55 rfl ?_
          refine cj_goto C (tgt := 60) dX1_fewestGuards_56 rfl ?_
          exact wX1_fewestGuards_60 C hr x1 x2 x3 x4 (1 : Int32) ih S4 h
def fX1_fewestGuards (x1 : Int32) (x2 : Int32) (S : cpS) : Option (Int32 × cpS) :=
    if x1 = x2 then (
    some ((-1 : Int32), S)) else (
    cpB (fX10_joined 1 x1 x2 S) fun z1 S2 =>
    if z1 = 0 then (
    fX1_fewestGuards_24 x1 x2 cpFu (-1 : Int32) (0 : Int32) S2) else (
    some ((-1 : Int32), S2)))
set_option maxRecDepth 100000 in
set_option maxHeartbeats 4000000 in
theorem m_X1_fewestGuards (l : Launch) (w : cpW) (A : Nat → Prop) (x1 : Int32) (x2 : Int32) (S : cpS) (r : Int32 × cpS) (h : fX1_fewestGuards x1 x2 S = some r) : cpMi l yX1_fewestGuards cX1_fewestGuards 6 ((some .int)) 2 w A [.ref (w.2.1 127), .int x1, .int x2] S r := by
  refine cpMi.of (lv := [some (.ref (w.2.1 127)), some (.int x1), some (.int x2), none, none, none]) (by decide) (Nat.le_of_ble_eq_true rfl) rfl (fun p e s m args below meth c C hr => ?_)
  replace C : cpCx p s m args meth c w A cX1_fewestGuards RX1 6 := C
  rw [fX1_fewestGuards] at h
  refine cj_iconst C (v := (-1 : Int32)) dX1_fewestGuards_0 rfl ?_
  refine cj_istore_n C (i := 3) (lv' := [some (.ref (w.2.1 127)), some (.int x1), some (.int x2), some (.int (-1 : Int32)), none, none]) dX1_fewestGuards_1 rfl (by decide) rfl rfl ?_
  refine cj_iload_n C (i := 1) dX1_fewestGuards_2 rfl rfl ?_
  refine cj_iload_n C (i := 2) dX1_fewestGuards_3 rfl rfl ?_
  refine cj_icmp_eq C (tgt := 19) dX1_fewestGuards_4 rfl h (fun _ h => ?_) (fun _ h => ?_)
  · refine cj_iload_n C (i := 3) dX1_fewestGuards_19 rfl rfl ?_
    exact cj_ireturn C hr h dX1_fewestGuards_20
  · refine cj_aload_n C (i := 0) dX1_fewestGuards_7 rfl rfl ?_
    refine cj_getR C (d := 1) o_127 rfl gfX1_18 dX1_fewestGuards_8 ?_
    refine cj_iload_n C (i := 1) dX1_fewestGuards_11 rfl rfl ?_
    refine cj_iload_n C (i := 2) dX1_fewestGuards_12 rfl rfl ?_
    refine cj_callVi C (As := [.int x1, .int x2]) (rest := []) qX10_joined mw_58_15 o_1 rfl rfl rfl (Nat.le_of_ble_eq_true rfl) (by decide) dX1_fewestGuards_13 h (fun _ _ hf => m_X10_joined l w A kVy_1 x1 x2 S _ hf) (fun z1 S2 h => ?_)
    refine cj_if_eq C (tgt := 21) dX1_fewestGuards_16 rfl h (fun _ h => ?_) (fun _ h => ?_)
    · refine cj_iconst C (v := (0 : Int32)) dX1_fewestGuards_21 rfl ?_
      refine cj_istore C (lv' := [some (.ref (w.2.1 127)), some (.int x1), some (.int x2), some (.int (-1 : Int32)), some (.int (0 : Int32)), none]) dX1_fewestGuards_22 (by decide) rfl rfl ?_
      exact wX1_fewestGuards_24 C hr x1 x2 cpFu (-1 : Int32) (0 : Int32) S2 h
    · refine cj_iload_n C (i := 3) dX1_fewestGuards_19 rfl rfl ?_
      exact cj_ireturn C hr h dX1_fewestGuards_20
end CPV
