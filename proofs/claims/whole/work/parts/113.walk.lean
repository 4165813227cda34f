section CPV
variable {p : Program} {l : Launch} {e : Env} {s : State} {m : MethodId} {args : Array Value} {below : List Frame} {meth : Method} {c : Code} {w : cpW} {A : Nat → Prop}
/-! X12_between -/
def fX12_between_116 (s0 : Int64) (S : cpS) : Option (Int32 × cpS) :=
    if (lg_cmp s0 (1000000 : Int64)) ≤ 0 then (
    if 0 ≤ (lg_cmp s0 (-1000000 : Int64)) then (
    some ((Int64.toInt32 s0), S)) else (
    some ((Int64.toInt32 (-1000000 : Int64)), S))) else (
    some ((Int64.toInt32 (1000000 : Int64)), S))
set_option maxRecDepth 100000 in
set_option maxHeartbeats 4000000 in
theorem wX12_between_116 (C : cpCx p s m args meth c w A cX12_between RX12 5) (hr : meth.sig.returnType = (some .int)) {r : Int32 × cpS} (s0 : Int64) (S : cpS) (h : fX12_between_116 s0 S = some r) : cpJ p l e (cpRm 0) s m args below meth c (MQ below (va_Qi (fun x S' => (x, S') = r) (cpWorld w A) A) args s 0 0 A) w A 5 116 [none, none, none, none, none] [.long s0] S := by
  rw [fX12_between_116] at h
  refine cj_lstore_n C (i := 3) (lv' := [none, none, none, some (.long s0), none]) dX12_between_116 rfl (by decide) rfl rfl ?_
  refine cj_lload_n C (i := 3) dX12_between_117 rfl rfl ?_
  refine cj_ldc2 C (v := (1000000 : Int64)) mw_37_7 dX12_between_118 ?_
  refine cj_lcmp C dX12_between_121 ?_
  refine cj_if_le C (tgt := 131) dX12_between_122 rfl h (fun _ h => ?_) (fun _ h => ?_)
  · refine cj_lload_n C (i := 3) dX12_between_131 rfl rfl ?_
    refine cj_ldc2 C (v := (-1000000 : Int64)) mw_37_8 dX12_between_132 ?_
    refine cj_lcmp C dX12_between_135 ?_
    refine cj_if_ge C (tgt := 145) dX12_between_136 rfl h (fun _ h => ?_) (fun _ h => ?_)
    · refine cj_lload_n C (i := 3) dX12_between_145 rfl rfl ?_
      refine cj_l2i C dX12_between_146 ?_
      exact cj_ireturn C hr h dX12_between_147
    · refine cj_ldc2 C (v := (-1000000 : Int64)) mw_37_8 dX12_between_139 ?_
      refine cj_goto C (tgt := 146) dX12_between_142 rfl ?_
      refine cj_l2i C dX12_between_146 ?_
      exact cj_ireturn C hr h dX12_between_147
  · refine cj_ldc2 C (v := (1000000 : Int64)) mw_37_7 dX12_between_125 ?_
    refine cj_goto C (tgt := 146) dX12_between_128 rfl ?_
    refine cj_l2i C dX12_between_146 ?_
    exact cj_ireturn C hr h dX12_between_147
def fX12_between (x0 : Int32) (x1 : Int32) (x2 : Int32) (S : cpS) : Option (Int32 × cpS) :=
    if x0 = (3003 : Int32) then (
    if x1 = x2 then (
    some ((1 : Int32), S)) else (
    some ((0 : Int32), S))) else (if x0 = (3004 : Int32) then (
    if x2 ≤ x1 then (
    some ((0 : Int32), S)) else (
    some ((1 : Int32), S))) else (if x0 = (3005 : Int32) then (
    if x1 ≤ x2 then (
    some ((0 : Int32), S)) else (
    some ((1 : Int32), S))) else (if x0 = (3006 : Int32) then (
    if x0 = (3000 : Int32) then (
    fX12_between_116 ((Int32.toInt64 x1) + (Int32.toInt64 x2)) S) else (
    if x0 = (3001 : Int32) then (
    fX12_between_116 ((Int32.toInt64 x1) - (Int32.toInt64 x2)) S) else (
    fX12_between_116 ((Int32.toInt64 x1) * (Int32.toInt64 x2)) S))) else (if x0 = (3007 : Int32) then (
    some ((x1 &&& x2), S)) else (if x0 = (3008 : Int32) then (
    some ((x1 ||| x2), S)) else (
    if x0 = (3000 : Int32) then (
    fX12_between_116 ((Int32.toInt64 x1) + (Int32.toInt64 x2)) S) else (
    if x0 = (3001 : Int32) then (
    fX12_between_116 ((Int32.toInt64 x1) - (Int32.toInt64 x2)) S) else (
    fX12_between_116 ((Int32.toInt64 x1) * (Int32.toInt64 x2)) S))))))))
set_option maxRecDepth 100000 in
set_option maxHeartbeats 4000000 in
theorem m_X12_between (l : Launch) (w : cpW) (A : Nat → Prop) (x0 : Int32) (x1 : Int32) (x2 : Int32) (S : cpS) (r : Int32 × cpS) (h : fX12_between x0 x1 x2 S = some r) : cpMi l yX12_between cX12_between 5 ((some .int)) 0 w A [.int x0, .int x1, .int x2] S r := by
  refine cpMi.of (lv := [some (.int x0), some (.int x1), some (.int x2), none, none]) (by decide) (Nat.le_of_ble_eq_true rfl) rfl (fun p e s m args below meth c C hr => ?_)
  replace C : cpCx p s m args meth c w A cX12_between RX12 5 := C
  rw [fX12_between] at h
  refine cj_iload_n C (i := 0) dX12_between_0 rfl rfl ?_
  by_cases hs0 : x0 = (3003 : Int32)
  · rw [if_pos hs0] at h
    refine cj_tableIn C (tgt := 40) dX12_between_1 (by rw [hs0]; decide) (by rw [hs0]; decide) (by rw [hs0]; rfl) rfl ?_
    refine cj_iload_n C (i := 1) dX12_between_40 rfl rfl ?_
    refine cj_iload_n C (i := 2) dX12_between_41 rfl rfl ?_
    refine cj_icmp_ne C (tgt := 49) dX12_between_42 rfl h (fun _ h => ?_) (fun _ h => ?_)
    · refine cj_iconst C (v := (1 : Int32)) dX12_between_45 rfl ?_
      refine cj_goto C (tgt := 50) dX12_between_46 rfl ?_
      exact cj_ireturn C hr h dX12_between_50
    · refine cj_iconst C (v := (0 : Int32)) dX12_between_49 rfl ?_
      exact cj_ireturn C hr h dX12_between_50
  rw [if_neg hs0] at h
  by_cases hs1 : x0 = (3004 : Int32)
  · rw [if_pos hs1] at h
    refine cj_tableIn C (tgt := 51) dX12_between_1 (by rw [hs1]; decide) (by rw [hs1]; decide) (by rw [hs1]; rfl) rfl ?_
    refine cj_iload_n C (i := 1) dX12_between_51 rfl rfl ?_
    refine cj_iload_n C (i := 2) dX12_between_52 rfl rfl ?_
    refine cj_icmp_ge C (tgt := 60) dX12_between_53 rfl h (fun _ h => ?_) (fun _ h => ?_)
    · refine cj_iconst C (v := (0 : Int32)) dX12_between_60 rfl ?_
      exact cj_ireturn C hr h dX12_between_61
    · refine cj_iconst C (v := (1 : Int32)) dX12_between_56 rfl ?_
      refine cj_goto C (tgt := 61) dX12_between_57 rfl ?_
      exact cj_ireturn C hr h dX12_between_61
  rw [if_neg hs1] at h
  by_cases hs2 : x0 = (3005 : Int32)
  · rw [if_pos hs2] at h
    refine cj_tableIn C (tgt := 62) dX12_between_1 (by rw [hs2]; decide) (by rw [hs2]; decide) (by rw [hs2]; rfl) rfl ?_
    refine cj_iload_n C (i := 1) dX12_between_62 rfl rfl ?_
    refine cj_iload_n C (i := 2) dX12_between_63 rfl rfl ?_
    refine cj_icmp_le C (tgt := 71) dX12_between_64 rfl h (fun _ h => ?_) (fun _ h => ?_)
    · refine cj_iconst C (v := (0 : Int32)) dX12_between_71 rfl ?_
      exact cj_ireturn C hr h dX12_between_72
    · refine cj_iconst C (v := (1 : Int32)) dX12_between_67 rfl ?_
      refine cj_goto C (tgt := 72) dX12_between_68 rfl ?_
      exact cj_ireturn C hr h dX12_between_72
  rw [if_neg hs2] at h
  by_cases hs3 : x0 = (3006 : Int32)
  · rw [if_pos hs3] at h
    refine cj_tableIn C (tgt := 81) dX12_between_1 (by rw [hs3]; decide) (by rw [hs3]; decide) (by rw [hs3]; rfl) rfl ?_
    refine cj_iload_n C (i := 0) dX12_between_81 rfl rfl ?_
    refine cj_sipush C (v := (3000 : Int32)) dX12_between_82 rfl ?_
    refine cj_icmp_ne C (tgt := 96) dX12_between_85 rfl h (fun _ h => ?_) (fun _ h => ?_)
    · refine cj_iload_n C (i := 1) dX12_between_88 rfl rfl ?_
      refine cj_i2l C dX12_between_89 ?_
      refine cj_iload_n C (i := 2) dX12_between_90 rfl rfl ?_
      refine cj_i2l C dX12_between_91 ?_
      refine cj_ladd C dX12_between_92 ?_
      refine cj_goto C (tgt := 116) dX12_between_93 rfl ?_
      refine cj_weak C (lv' := [none, none, none, none, none]) (cpSub_n (cpSub_n (cpSub_n (cpSub_n (cpSub_n cpSub_nil))))) ?_
      exact wX12_between_116 C hr ((Int32.toInt64 x1) + (Int32.toInt64 x2)) S h
    · refine cj_iload_n C (i := 0) dX12_between_96 rfl rfl ?_
      refine cj_sipush C (v := (3001 : Int32)) dX12_between_97 rfl ?_
      refine cj_icmp_ne C (tgt := 111) dX12_between_100 rfl h (fun _ h => ?_) (fun _ h => ?_)
      · refine cj_iload_n C (i := 1) dX12_between_103 rfl rfl ?_
        refine cj_i2l C dX12_between_104 ?_
        refine cj_iload_n C (i := 2) dX12_between_105 rfl rfl ?_
        refine cj_i2l C dX12_between_106 ?_
        refine cj_lsub C dX12_between_107 ?_
        refine cj_goto C (tgt := 116) dX12_between_108 rfl ?_
        refine cj_weak C (lv' := [none, none, none, none, none]) (cpSub_n (cpSub_n (cpSub_n (cpSub_n (cpSub_n cpSub_nil))))) ?_
        exact wX12_between_116 C hr ((Int32.toInt64 x1) - (Int32.toInt64 x2)) S h
      · refine cj_iload_n C (i := 1) dX12_between_111 rfl rfl ?_
        refine cj_i2l C dX12_between_112 ?_
        refine cj_iload_n C (i := 2) dX12_between_113 rfl rfl ?_
        refine cj_i2l C dX12_between_114 ?_
        refine cj_lmul C dX12_between_115 ?_
        refine cj_weak C (lv' := [none, none, none, none, none]) (cpSub_n (cpSub_n (cpSub_n (cpSub_n (cpSub_n cpSub_nil))))) ?_
        exact wX12_between_116 C hr ((Int32.toInt64 x1) * (Int32.toInt64 x2)) S h
  rw [if_neg hs3] at h
  by_cases hs4 : x0 = (3007 : Int32)
  · rw [if_pos hs4] at h
    refine cj_tableIn C (tgt := 73) dX12_between_1 (by rw [hs4]; decide) (by rw [hs4]; decide) (by rw [hs4]; rfl) rfl ?_
    refine cj_iload_n C (i := 1) dX12_between_73 rfl rfl ?_
    refine cj_iload_n C (i := 2) dX12_between_74 rfl rfl ?_
    refine cj_iand C dX12_between_75 ?_
    exact cj_ireturn C hr h dX12_between_76
  rw [if_neg hs4] at h
  by_cases hs5 : x0 = (3008 : Int32)
  · rw [if_pos hs5] at h
    refine cj_tableIn C (tgt := 77) dX12_between_1 (by rw [hs5]; decide) (by rw [hs5]; decide) (by rw [hs5]; rfl) rfl ?_
    refine cj_iload_n C (i := 1) dX12_between_77 rfl rfl ?_
    refine cj_iload_n C (i := 2) dX12_between_78 rfl rfl ?_
    refine cj_ior C dX12_between_79 ?_
    exact cj_ireturn C hr h dX12_between_80
  rw [if_neg hs5] at h
  refine cj_tableOut C (tgt := 81) dX12_between_1 (cpOut (by decide) (by decide) (fun k h1 h2 => ?_)) rfl ?_
  · rcases (show k = 3003 ∨ k = 3004 ∨ k = 3005 ∨ k = 3006 ∨ k = 3007 ∨ k = 3008 by omega) with rfl | rfl | rfl | rfl | rfl | rfl
    · exact hs0
    · exact hs1
    · exact hs2
    · exact hs3
    · exact hs4
    · exact hs5
  · refine cj_iload_n C (i := 0) dX12_between_81 rfl rfl ?_
    refine cj_sipush C (v := (3000 : Int32)) dX12_between_82 rfl ?_
    refine cj_icmp_ne C (tgt := 96) dX12_between_85 rfl h (fun _ h => ?_) (fun _ h => ?_)
    · refine cj_iload_n C (i := 1) dX12_between_88 rfl rfl ?_
      refine cj_i2l C dX12_between_89 ?_
      refine cj_iload_n C (i := 2) dX12_between_90 rfl rfl ?_
      refine cj_i2l C dX12_between_91 ?_
      refine cj_ladd C dX12_between_92 ?_
      refine cj_goto C (tgt := 116) dX12_between_93 rfl ?_
      refine cj_weak C (lv' := [none, none, none, none, none]) (cpSub_n (cpSub_n (cpSub_n (cpSub_n (cpSub_n cpSub_nil))))) ?_
      exact wX12_between_116 C hr ((Int32.toInt64 x1) + (Int32.toInt64 x2)) S h
    · refine cj_iload_n C (i := 0) dX12_between_96 rfl rfl ?_
      refine cj_sipush C (v := (3001 : Int32)) dX12_between_97 rfl ?_
      refine cj_icmp_ne C (tgt := 111) dX12_between_100 rfl h (fun _ h => ?_) (fun _ h => ?_)
      · refine cj_iload_n C (i := 1) dX12_between_103 rfl rfl ?_
        refine cj_i2l C dX12_between_104 ?_
        refine cj_iload_n C (i := 2) dX12_between_105 rfl rfl ?_
        refine cj_i2l C dX12_between_106 ?_
        refine cj_lsub C dX12_between_107 ?_
        refine cj_goto C (tgt := 116) dX12_between_108 rfl ?_
        refine cj_weak C (lv' := [none, none, none, none, none]) (cpSub_n (cpSub_n (cpSub_n (cpSub_n (cpSub_n cpSub_nil))))) ?_
        exact wX12_between_116 C hr ((Int32.toInt64 x1) - (Int32.toInt64 x2)) S h
      · refine cj_iload_n C (i := 1) dX12_between_111 rfl rfl ?_
        refine cj_i2l C dX12_between_112 ?_
        refine cj_iload_n C (i := 2) dX12_between_113 rfl rfl ?_
        refine cj_i2l C dX12_between_114 ?_
        refine cj_lmul C dX12_between_115 ?_
        refine cj_weak C (lv' := [none, none, none, none, none]) (cpSub_n (cpSub_n (cpSub_n (cpSub_n (cpSub_n cpSub_nil))))) ?_
        exact wX12_between_116 C hr ((Int32.toInt64 x1) * (Int32.toInt64 x2)) S h
/-! X12_reckons -/
def fX12_reckons_4 (x1 : Int32) : Nat → Int32 → Int32 → cpS → Option (Int32 × cpS)
  | 0, _, _, _ => none
  | n + 1, x2, x3, S =>
    if cpIn ((9 : Int32) + x1) 3486 then (
    if (S.1 151 ((9 : Int32) + x1).toNatClampNeg) ≤ x3 then (
    some ((S.1 156 0), S)) else (
    if cpIn ((7 : Int32) + x1) 3486 then (
    if cpIn (((262 : Int32) + (S.1 151 ((7 : Int32) + x1).toNatClampNeg)) + x3) 3486 then (
    cpLt (S.1 151 (((262 : Int32) + (S.1 151 ((7 : Int32) + x1).toNatClampNeg)) + x3).toNatClampNeg) fun y1 =>
    if (3000 : Int32) ≤ y1 then (
    if y1 = (3006 : Int32) then (
    if cpIn (x2 - (1 : Int32)) 900 then (
    if cpIn (x2 - (1 : Int32)) 900 then (
    cpLt (cpI S 156 (x2 - (1 : Int32)).toNatClampNeg ((1 : Int32) - (S.1 156 (x2 - (1 : Int32)).toNatClampNeg))) fun S2 =>
    fX12_reckons_4 x1 n x2 (x3 + 1) S2) else none) else none) else (
    if y1 = (3009 : Int32) then (
    if cpIn ((x2 + (-2)) - (1 : Int32)) 900 then (
    if (S.1 156 ((x2 + (-2)) - (1 : Int32)).toNatClampNeg) = (1 : Int32) then (
    if cpIn (x2 + (-2)) 900 then (
    if cpIn ((x2 + (-2)) - (1 : Int32)) 900 then (
    cpLt (cpI S 156 ((x2 + (-2)) - (1 : Int32)).toNatClampNeg (S.1 156 (x2 + (-2)).toNatClampNeg)) fun S3 =>
    fX12_reckons_4 x1 n (x2 + (-2)) (x3 + 1) S3) else none) else none) else (
    if cpIn ((x2 + (-2)) + (1 : Int32)) 900 then (
    if cpIn ((x2 + (-2)) - (1 : Int32)) 900 then (
    cpLt (cpI S 156 ((x2 + (-2)) - (1 : Int32)).toNatClampNeg (S.1 156 ((x2 + (-2)) + (1 : Int32)).toNatClampNeg)) fun S4 =>
    fX12_reckons_4 x1 n (x2 + (-2)) (x3 + 1) S4) else none) else none)) else none) else (
    if cpIn ((x2 + (-1)) - (1 : Int32)) 900 then (
    if cpIn (x2 + (-1)) 900 then (
    cpB (fX12_between y1 (S.1 156 ((x2 + (-1)) - (1 : Int32)).toNatClampNeg) (S.1 156 (x2 + (-1)).toNatClampNeg) S) fun z5 S6 =>
    if cpIn ((x2 + (-1)) - (1 : Int32)) 900 then (
    cpLt (cpI S6 156 ((x2 + (-1)) - (1 : Int32)).toNatClampNeg z5) fun S7 =>
    fX12_reckons_4 x1 n (x2 + (-1)) (x3 + 1) S7) else none) else none) else none))) else (
    if (1000 : Int32) ≤ y1 then (
    if cpIn (y1 - (1000 : Int32)) 6 then (
    if cpIn x2 900 then (
    cpLt (cpI S 156 x2.toNatClampNeg (S.1 157 (y1 - (1000 : Int32)).toNatClampNeg)) fun S8 =>
    fX12_reckons_4 x1 n (x2 + 1) (x3 + 1) S8) else none) else none) else (
    if cpIn x2 900 then (
    cpLt (cpI S 156 x2.toNatClampNeg y1) fun S9 =>
    fX12_reckons_4 x1 n (x2 + 1) (x3 + 1) S9) else none))) else none) else none)) else none
set_option maxRecDepth 100000 in
set_option maxHeartbeats 4000000 in
theorem wX12_reckons_4 (C : cpCx p s m args meth c w A cX12_reckons RX12 5) (hr : meth.sig.returnType = (some .int)) {r : Int32 × cpS} (x1 : Int32) : ∀ (n : Nat) (x2 : Int32) (x3 : Int32) (S : cpS), fX12_reckons_4 x1 n x2 x3 S = some r → cpJ p l e (cpRm 1) s m args below meth c (MQ below (va_Qi (fun x S' => (x, S') = r) (cpWorld w A) A) args s 0 0 A) w A 5 4 [some (.ref (w.2.1 150)), some (.int x1), some (.int x2), some (.int x3), none] [] S := by
  intro n
  induction n with
  | zero => intro x2 x3 S h; rw [fX12_reckons_4] at h; cases h
  | succ n ih =>
    intro x2 x3 S h
    rw [fX12_reckons_4] at h
    refine cj_iload_n C (i := 3) dX12_reckons_4 rfl rfl ?_
    refine cj_aload_n C (i := 0) dX12_reckons_5 rfl rfl ?_
    refine cj_getR C (d := 151) o_150 rfl gfX12_13 dX12_reckons_6 ?_
    refine cj_bipush C (v := (9 : Int32)) dX12_reckons_9 rfl ?_
    refine cj_iload_n C (i := 1) dX12_reckons_11 rfl rfl ?_
    refine cj_iadd C dX12_reckons_12 ?_
    refine cj_iaload C o_151 h dX12_reckons_13 (fun h => ?_)
    refine cj_icmp_ge C (tgt := 199) dX12_reckons_14 rfl h (fun _ h => ?_) (fun _ h => ?_)
    · refine cj_aload_n C (i := 0) dX12_reckons_199 rfl rfl ?_
      refine cj_getR C (d := 156) o_150 rfl gfX12_33 dX12_reckons_200 ?_
      refine cj_iconst C (v := (0 : Int32)) dX12_reckons_203 rfl ?_
      refine cj_ialoadC C (j := 0) o_156 (by decide) (by decide) dX12_reckons_204 ?_
      exact cj_ireturn C hr h dX12_reckons_205
    · refine cj_aload_n C (i := 0) dX12_reckons_17 rfl rfl ?_
      refine cj_getR C (d := 151) o_150 rfl gfX12_13 dX12_reckons_18 ?_
      refine cj_sipush C (v := (262 : Int32)) dX12_reckons_21 rfl ?_
      refine cj_aload_n C (i := 0) dX12_reckons_24 rfl rfl ?_
      refine cj_getR C (d := 151) o_150 rfl gfX12_13 dX12_reckons_25 ?_
      refine cj_bipush C (v := (7 : Int32)) dX12_reckons_28 rfl ?_
      refine cj_iload_n C (i := 1) dX12_reckons_30 rfl rfl ?_
      refine cj_iadd C dX12_reckons_31 ?_
      refine cj_iaload C o_151 h dX12_reckons_32 (fun h => ?_)
      refine cj_iadd C dX12_reckons_33 ?_
      refine cj_iload_n C (i := 3) dX12_reckons_34 rfl rfl ?_
      refine cj_iadd C dX12_reckons_35 ?_
      refine cj_iaload C o_151 h dX12_reckons_36 (fun h => ?_)
      refine cj_let h (fun y1 h => ?_)
      refine cj_istore C (lv' := [some (.ref (w.2.1 150)), some (.int x1), some (.int x2), some (.int x3), some (.int y1)]) dX12_reckons_37 (by decide) rfl rfl ?_
      refine cj_iload C dX12_reckons_39 rfl ?_
      refine cj_sipush C (v := (3000 : Int32)) dX12_reckons_41 rfl ?_
      refine cj_icmp_ge C (tgt := 83) dX12_reckons_44 rfl h (fun _ h => ?_) (fun _ h => ?_)
      · refine cj_iload C dX12_reckons_83 rfl ?_
        refine cj_sipush C (v := (3006 : Int32)) dX12_reckons_85 rfl ?_
        refine cj_icmp_ne C (tgt := 112) dX12_reckons_88 rfl h (fun _ h => ?_) (fun _ h => ?_)
        · refine cj_aload_n C (i := 0) dX12_reckons_91 rfl rfl ?_
          refine cj_getR C (d := 156) o_150 rfl gfX12_33 dX12_reckons_92 ?_
          refine cj_iload_n C (i := 2) dX12_reckons_95 rfl rfl ?_
          refine cj_iconst C (v := (1 : Int32)) dX12_reckons_96 rfl ?_
          refine cj_isub C dX12_reckons_97 ?_
          refine cj_iconst C (v := (1 : Int32)) dX12_reckons_98 rfl ?_
          refine cj_aload_n C (i := 0) dX12_reckons_99 rfl rfl ?_
          refine cj_getR C (d := 156) o_150 rfl gfX12_33 dX12_reckons_100 ?_
          refine cj_iload_n C (i := 2) dX12_reckons_103 rfl rfl ?_
          refine cj_iconst C (v := (1 : Int32)) dX12_reckons_104 rfl ?_
          refine cj_isub C dX12_reckons_105 ?_
          refine cj_iaload C o_156 h dX12_reckons_106 (fun h => ?_)
          refine cj_isub C dX12_reckons_107 ?_
          refine cj_iastore C o_156 h dX12_reckons_108 (fun h => ?_)
          refine cj_lets h (fun S2 h => ?_)
          refine cj_goto C (tgt := 193) dX12_reckons_109 rfl ?_
          refine cj_iinc C (v := (x3 + 1)) (lv' := [some (.ref (w.2.1 150)), some (.int x1), some (.int x2), some (.int (x3 + 1)), some (.int y1)]) dX12_reckons_193 rfl rfl (by decide) rfl rfl ?_
          refine cj_goto C (tgt := 4) dX12_reckons_196 rfl ?_
          refine cj_weak C (lv' := [some (.ref (w.2.1 150)), some (.int x1), some (.int x2), some (.int (x3 + 1)), none]) (cpSub_s (cpSub_s (cpSub_s (cpSub_s (cpSub_n cpSub_nil))))) ?_
          exact ih x2 (x3 + 1) S2 h
        · refine cj_iload C dX12_reckons_112 rfl ?_
          refine cj_sipush C (v := (3009 : Int32)) dX12_reckons_114 rfl ?_
          refine cj_icmp_ne C (tgt := 163) dX12_reckons_117 rfl h (fun _ h => ?_) (fun _ h => ?_)
          · refine cj_iinc C (v := (x2 + (-2))) (lv' := [some (.ref (w.2.1 150)), some (.int x1), some (.int (x2 + (-2))), some (.int x3), some (.int y1)]) dX12_reckons_120 rfl rfl (by decide) rfl rfl ?_
            refine cj_aload_n C (i := 0) dX12_reckons_123 rfl rfl ?_
            refine cj_getR C (d := 156) o_150 rfl gfX12_33 dX12_reckons_124 ?_
            refine cj_iload_n C (i := 2) dX12_reckons_127 rfl rfl ?_
            refine cj_iconst C (v := (1 : Int32)) dX12_reckons_128 rfl ?_
            refine cj_isub C dX12_reckons_129 ?_
            refine cj_aload_n C (i := 0) dX12_reckons_130 rfl rfl ?_
            refine cj_getR C (d := 156) o_150 rfl gfX12_33 dX12_reckons_131 ?_
            refine cj_iload_n C (i := 2) dX12_reckons_134 rfl rfl ?_
            refine cj_iconst C (v := (1 : Int32)) dX12_reckons_135 rfl ?_
            refine cj_isub C dX12_reckons_136 ?_
            refine cj_iaload C o_156 h dX12_reckons_137 (fun h => ?_)
            refine cj_iconst C (v := (1 : Int32)) dX12_reckons_138 rfl ?_
            refine cj_icmp_ne C (tgt := 151) dX12_reckons_139 rfl h (fun _ h => ?_) (fun _ h => ?_)
            · refine cj_aload_n C (i := 0) dX12_reckons_142 rfl rfl ?_
              refine cj_getR C (d := 156) o_150 rfl gfX12_33 dX12_reckons_143 ?_
              refine cj_iload_n C (i := 2) dX12_reckons_146 rfl rfl ?_
              refine cj_iaload C o_156 h dX12_reckons_147 (fun h => ?_)
              refine cj_goto C (tgt := 159) dX12_reckons_148 rfl ?_
              refine cj_iastore C o_156 h dX12_reckons_159 (fun h => ?_)
              refine cj_lets h (fun S3 h => ?_)
              refine cj_goto C (tgt := 193) dX12_reckons_160 rfl ?_
              refine cj_iinc C (v := (x3 + 1)) (lv' := [some (.ref (w.2.1 150)), some (.int x1), some (.int (x2 + (-2))), some (.int (x3 + 1)), some (.int y1)]) dX12_reckons_193 rfl rfl (by decide) rfl rfl ?_
              refine cj_goto C (tgt := 4) dX12_reckons_196 rfl ?_
              refine cj_weak C (lv' := [some (.ref (w.2.1 150)), some (.int x1), some (.int (x2 + (-2))), some (.int (x3 + 1)), none]) (cpSub_s (cpSub_s (cpSub_s (cpSub_s (cpSub_n cpSub_nil))))) ?_
              exact ih (x2 + (-2)) (x3 + 1) S3 h
            · refine cj_aload_n C (i := 0) dX12_reckons_151 rfl rfl ?_
              refine cj_getR C (d := 156) o_150 rfl gfX12_33 dX12_reckons_152 ?_
              refine cj_iload_n C (i := 2) dX12_reckons_155 rfl rfl ?_
              refine cj_iconst C (v := (1 : Int32)) dX12_reckons_156 rfl ?_
              refine cj_iadd C dX12_reckons_157 ?_
              refine cj_iaload C o_156 h dX12_reckons_158 (fun h => ?_)
              refine cj_iastore C o_156 h dX12_reckons_159 (fun h => ?_)
              refine cj_lets h (fun S4 h => ?_)
              refine cj_goto C (tgt := 193) dX12_reckons_160 rfl ?_
              refine cj_iinc C (v := (x3 + 1)) (lv' := [some (.ref (w.2.1 150)), some (.int x1), some (.int (x2 + (-2))), some (.int (x3 + 1)), some (.int y1)]) dX12_reckons_193 rfl rfl (by decide) rfl rfl ?_
              refine cj_goto C (tgt := 4) dX12_reckons_196 rfl ?_
              refine cj_weak C (lv' := [some (.ref (w.2.1 150)), some (.int x1), some (.int (x2 + (-2))), some (.int (x3 + 1)), none]) (cpSub_s (cpSub_s (cpSub_s (cpSub_s (cpSub_n cpSub_nil))))) ?_
              exact ih (x2 + (-2)) (x3 + 1) S4 h
          · refine cj_iinc C (v := (x2 + (-1))) (lv' := [some (.ref (w.2.1 150)), some (.int x1), some (.int (x2 + (-1))), some (.int x3), some (.int y1)]) dX12_reckons_163 rfl rfl (by decide) rfl rfl ?_
            refine cj_aload_n C (i := 0) dX12_reckons_166 rfl rfl ?_
            refine cj_getR C (d := 156) o_150 rfl gfX12_33 dX12_reckons_167 ?_
            refine cj_iload_n C (i := 2) dX12_reckons_170 rfl rfl ?_
            refine cj_iconst C (v := (1 : Int32)) dX12_reckons_171 rfl ?_
            refine cj_isub C dX12_reckons_172 ?_
            refine cj_iload C dX12_reckons_173 rfl ?_
            refine cj_aload_n C (i := 0) dX12_reckons_175 rfl rfl ?_
            refine cj_getR C (d := 156) o_150 rfl gfX12_33 dX12_reckons_176 ?_
            refine cj_iload_n C (i := 2) dX12_reckons_179 rfl rfl ?_
            refine cj_iconst C (v := (1 : Int32)) dX12_reckons_180 rfl ?_
            refine cj_isub C dX12_reckons_181 ?_
            refine cj_iaload C o_156 h dX12_reckons_182 (fun h => ?_)
            refine cj_aload_n C (i := 0) dX12_reckons_183 rfl rfl ?_
            refine cj_getR C (d := 156) o_150 rfl gfX12_33 dX12_reckons_184 ?_
            refine cj_iload_n C (i := 2) dX12_reckons_187 rfl rfl ?_
            refine cj_iaload C o_156 h dX12_reckons_188 (fun h => ?_)
            refine cj_callSi C (As := [.int y1, .int (S.1 156 ((x2 + (-1)) - (1 : Int32)).toNatClampNeg), .int (S.1 156 (x2 + (-1)).toNatClampNeg)]) (rest := [.int ((x2 + (-1)) - (1 : Int32)), .ref (w.2.1 156)]) qX12_between mw_37_4 rfl rfl (Nat.le_of_ble_eq_true rfl) (by decide) dX12_reckons_189 h (fun _ _ hf => m_X12_between l w A y1 (S.1 156 ((x2 + (-1)) - (1 : Int32)).toNatClampNeg) (S.1 156 (x2 + (-1)).toNatClampNeg) S _ hf) (fun z5 S6 h => ?_)
            refine cj_iastore C o_156 h dX12_reckons_192 (fun h => ?_)
            refine cj_lets h (fun S7 h => ?_)
            refine cj_iinc C (v := (x3 + 1)) (lv' := [some (.ref (w.2.1 150)), some (.int x1), some (.int (x2 + (-1))), some (.int (x3 + 1)), some (.int y1)]) dX12_reckons_193 rfl rfl (by decide) rfl rfl ?_
            refine cj_goto C (tgt := 4) dX12_reckons_196 rfl ?_
            refine cj_weak C (lv' := [some (.ref (w.2.1 150)), some (.int x1), some (.int (x2 + (-1))), some (.int (x3 + 1)), none]) (cpSub_s (cpSub_s (cpSub_s (cpSub_s (cpSub_n cpSub_nil))))) ?_
            exact ih (x2 + (-1)) (x3 + 1) S7 h
      · refine cj_aload_n C (i := 0) dX12_reckons_47 rfl rfl ?_
        refine cj_getR C (d := 156) o_150 rfl gfX12_33 dX12_reckons_48 ?_
        refine cj_iload_n C (i := 2) dX12_reckons_51 rfl rfl ?_
        refine cj_iload C dX12_reckons_52 rfl ?_
        refine cj_sipush C (v := (1000 : Int32)) dX12_reckons_54 rfl ?_
        refine cj_icmp_ge C (tgt := 65) dX12_reckons_57 rfl h (fun _ h => ?_) (fun _ h => ?_)
        · refine cj_aload_n C (i := 0) dX12_reckons_65 rfl rfl ?_
          refine cj_getR C (d := 157) o_150 rfl gfX12_36 dX12_reckons_66 ?_
          refine cj_iload C dX12_reckons_69 rfl ?_
          refine cj_sipush C (v := (1000 : Int32)) dX12_reckons_71 rfl ?_
          refine cj_isub C dX12_reckons_74 ?_
          refine cj_iaload C o_157 h dX12_reckons_75 (fun h => ?_)
          refine cj_iastore C o_156 h dX12_reckons_76 (fun h => ?_)
          refine cj_lets h (fun S8 h => ?_)
          refine cj_iinc C (v := (x2 + 1)) (lv' := [some (.ref (w.2.1 150)), some (.int x1), some (.int (x2 + 1)), some (.int x3), some (.int y1)]) dX12_reckons_77 rfl rfl (by decide) rfl rfl ?_
          refine cj_goto C (tgt := 193) dX12_reckons_80 rfl ?_
          refine cj_iinc C (v := (x3 + 1)) (lv' := [some (.ref (w.2.1 150)), some (.int x1), some (.int (x2 + 1)), some (.int (x3 + 1)), some (.int y1)]) dX12_reckons_193 rfl rfl (by decide) rfl rfl ?_
          refine cj_goto C (tgt := 4) dX12_reckons_196 rfl ?_
          refine cj_weak C (lv' := [some (.ref (w.2.1 150)), some (.int x1), some (.int (x2 + 1)), some (.int (x3 + 1)), none]) (cpSub_s (cpSub_s (cpSub_s (cpSub_s (cpSub_n cpSub_nil))))) ?_
          exact ih (x2 + 1) (x3 + 1) S8 h
        · refine cj_iload C dX12_reckons_60 rfl ?_
          refine cj_goto C (tgt := 76) dX12_reckons_62 rfl ?_
          refine cj_iastore C o_156 h dX12_reckons_76 (fun h => ?_)
          refine cj_lets h (fun S9 h => ?_)
          refine cj_iinc C (v := (x2 + 1)) (lv' := [some (.ref (w.2.1 150)), some (.int x1), some (.int (x2 + 1)), some (.int x3), some (.int y1)]) dX12_reckons_77 rfl rfl (by decide) rfl rfl ?_
          refine cj_goto C (tgt := 193) dX12_reckons_80 rfl ?_
          refine cj_iinc C (v := (x3 + 1)) (lv' := [some (.ref (w.2.1 150)), some (.int x1), some (.int (x2 + 1)), some (.int (x3 + 1)), some (.int y1)]) dX12_reckons_193 rfl rfl (by decide) rfl rfl ?_
          refine cj_goto C (tgt := 4) dX12_reckons_196 rfl ?_
          refine cj_weak C (lv' := [some (.ref (w.2.1 150)), some (.int x1), some (.int (x2 + 1)), some (.int (x3 + 1)), none]) (cpSub_s (cpSub_s (cpSub_s (cpSub_s (cpSub_n cpSub_nil))))) ?_
          exact ih (x2 + 1) (x3 + 1) S9 h
def fX12_reckons (x1 : Int32) (S : cpS) : Option (Int32 × cpS) :=
    fX12_reckons_4 x1 cpFu (0 : Int32) (0 : Int32) S
set_option maxRecDepth 100000 in
set_option maxHeartbeats 4000000 in
theorem m_X12_reckons (l : Launch) (w : cpW) (A : Nat → Prop) (x1 : Int32) (S : cpS) (r : Int32 × cpS) (h : fX12_reckons x1 S = some r) : cpMi l yX12_reckons cX12_reckons 5 ((some .int)) 1 w A [.ref (w.2.1 150), .int x1] S r := by
  refine cpMi.of (lv := [some (.ref (w.2.1 150)), some (.int x1), none, none, none]) (by decide) (Nat.le_of_ble_eq_true rfl) rfl (fun p e s m args below meth c C hr => ?_)
  replace C : cpCx p s m args meth c w A cX12_reckons RX12 5 := C
  rw [fX12_reckons] at h
  refine cj_iconst C (v := (0 : Int32)) dX12_reckons_0 rfl ?_
  refine cj_istore_n C (i := 2) (lv' := [some (.ref (w.2.1 150)), some (.int x1), some (.int (0 : Int32)), none, none]) dX12_reckons_1 rfl (by decide) rfl rfl ?_
  refine cj_iconst C (v := (0 : Int32)) dX12_reckons_2 rfl ?_
  refine cj_istore_n C (i := 3) (lv' := [some (.ref (w.2.1 150)), some (.int x1), some (.int (0 : Int32)), some (.int (0 : Int32)), none]) dX12_reckons_3 rfl (by decide) rfl rfl ?_
  exact wX12_reckons_4 C hr x1 cpFu (0 : Int32) (0 : Int32) S h
/-! X12_laysNow -/
def fX12_laysNow (x1 : Int32) (S : cpS) : Option (Unit × cpS) :=
    cpB (fX12_laysFar S) fun _ S2 =>
    cpLt (cpI S2 150 19 x1) fun S3 =>
    some ((), S3)
set_option maxRecDepth 100000 in
set_option maxHeartbeats 4000000 in
theorem m_X12_laysNow (l : Launch) (w : cpW) (A : Nat → Prop) (x1 : Int32) (S : cpS) (r : Unit × cpS) (h : fX12_laysNow x1 S = some r) : cpMv l yX12_laysNow cX12_laysNow 2 (none) 2 w A [.ref (w.2.1 150), .int x1] S r := by
  refine cpMv.of (lv := [some (.ref (w.2.1 150)), some (.int x1)]) (by decide) (Nat.le_of_ble_eq_true rfl) rfl (fun p e s m args below meth c C hr => ?_)
  replace C : cpCx p s m args meth c w A cX12_laysNow RX12 2 := C
  rw [fX12_laysNow] at h
  refine cj_aload_n C (i := 0) dX12_laysNow_0 rfl rfl ?_
  refine cj_callVv C (As := []) (rest := []) qX12_laysFar mw_31_23 o_150 rfl rfl rfl (Nat.le_of_ble_eq_true rfl) (by decide) dX12_laysNow_1 h (fun _ _ hf => m_X12_laysFar l w A S _ hf) (fun z1 S2 h => ?_)
  refine cj_aload_n C (i := 0) dX12_laysNow_4 rfl rfl ?_
  refine cj_iload_n C (i := 1) dX12_laysNow_5 rfl rfl ?_
  refine cj_put C (j := 19) o_150 rfl pfX12_254 rfl rfl dX12_laysNow_6 ?_
  refine cj_lets h (fun S3 h => ?_)
  exact cj_vreturn C hr h dX12_laysNow_9
/-! X12_laysWords -/
def fX12_laysWords (x1 : Int32) (x2 : Int32) (x3 : Int32) (x4 : Int32) (x5 : Int32) (S : cpS) : Option (Unit × cpS) :=
    if cpIn ((46 : Int32) + x1) 3486 then (
    cpLt (S.1 151 ((46 : Int32) + x1).toNatClampNeg) fun y1 =>
    if cpIn ((46 : Int32) + x2) 3486 then (
    cpLt (S.1 151 ((46 : Int32) + x2).toNatClampNeg) fun y2 =>
    cpLt (cpI S 157 0 (y1 + y2)) fun S3 =>
    if cpIn ((54 : Int32) + x3) 3486 then (
    cpLt (cpI S3 157 1 (S3.1 151 ((54 : Int32) + x3).toNatClampNeg)) fun S4 =>
    if cpIn ((38 : Int32) + x1) 3486 then (
    if cpIn (((6 : Int32) * x4) + (S4.1 151 ((38 : Int32) + x1).toNatClampNeg)) 36 then (
    if cpIn ((38 : Int32) + x2) 3486 then (
    if cpIn (((6 : Int32) * x4) + (S4.1 151 ((38 : Int32) + x2).toNatClampNeg)) 36 then (
    cpLt (cpI S4 157 2 ((S4.1 155 (((6 : Int32) * x4) + (S4.1 151 ((38 : Int32) + x1).toNatClampNeg)).toNatClampNeg) + (S4.1 155 (((6 : Int32) * x4) + (S4.1 151 ((38 : Int32) + x2).toNatClampNeg)).toNatClampNeg))) fun S5 =>
    cpB (fX12_longOf x5 S5) fun z6 S7 =>
    cpLt (cpI S7 157 3 z6) fun S8 =>
    cpLt (cpI S8 157 4 (S8.1 150 19)) fun S9 =>
    if y2 ≤ y1 then (
    cpLt (cpI S9 157 5 y2) fun S10 =>
    some ((), S10)) else (
    cpLt (cpI S9 157 5 y1) fun S11 =>
    some ((), S11))) else none) else none) else none) else none) else none) else none) else none
set_option maxRecDepth 100000 in
set_option maxHeartbeats 4000000 in
theorem m_X12_laysWords (l : Launch) (w : cpW) (A : Nat → Prop) (x1 : Int32) (x2 : Int32) (x3 : Int32) (x4 : Int32) (x5 : Int32) (S : cpS) (r : Unit × cpS) (h : fX12_laysWords x1 x2 x3 x4 x5 S = some r) : cpMv l yX12_laysWords cX12_laysWords 8 (none) 1 w A [.ref (w.2.1 150), .int x1, .int x2, .int x3, .int x4, .int x5] S r := by
  refine cpMv.of (lv := [some (.ref (w.2.1 150)), some (.int x1), some (.int x2), some (.int x3), some (.int x4), some (.int x5), none, none]) (by decide) (Nat.le_of_ble_eq_true rfl) rfl (fun p e s m args below meth c C hr => ?_)
  replace C : cpCx p s m args meth c w A cX12_laysWords RX12 8 := C
  rw [fX12_laysWords] at h
  refine cj_aload_n C (i := 0) dX12_laysWords_0 rfl rfl ?_
  refine cj_getR C (d := 151) o_150 rfl gfX12_13 dX12_laysWords_1 ?_
  refine cj_bipush C (v := (46 : Int32)) dX12_laysWords_4 rfl ?_
  refine cj_iload_n C (i := 1) dX12_laysWords_6 rfl rfl ?_
  refine cj_iadd C dX12_laysWords_7 ?_
  refine cj_iaload C o_151 h dX12_laysWords_8 (fun h => ?_)
  refine cj_let h (fun y1 h => ?_)
  refine cj_istore C (lv' := [some (.ref (w.2.1 150)), some (.int x1), some (.int x2), some (.int x3), some (.int x4), some (.int x5), some (.int y1), none]) dX12_laysWords_9 (by decide) rfl rfl ?_
  refine cj_aload_n C (i := 0) dX12_laysWords_11 rfl rfl ?_
  refine cj_getR C (d := 151) o_150 rfl gfX12_13 dX12_laysWords_12 ?_
  refine cj_bipush C (v := (46 : Int32)) dX12_laysWords_15 rfl ?_
  refine cj_iload_n C (i := 2) dX12_laysWords_17 rfl rfl ?_
  refine cj_iadd C dX12_laysWords_18 ?_
  refine cj_iaload C o_151 h dX12_laysWords_19 (fun h => ?_)
  refine cj_let h (fun y2 h => ?_)
  refine cj_istore C (lv' := [some (.ref (w.2.1 150)), some (.int x1), some (.int x2), some (.int x3), some (.int x4), some (.int x5), some (.int y1), some (.int y2)]) dX12_laysWords_20 (by decide) rfl rfl ?_
  refine cj_aload_n C (i := 0) dX12_laysWords_22 rfl rfl ?_
  refine cj_getR C (d := 157) o_150 rfl gfX12_36 dX12_laysWords_23 ?_
  refine cj_iconst C (v := (0 : Int32)) dX12_laysWords_26 rfl ?_
  refine cj_iload C dX12_laysWords_27 rfl ?_
  refine cj_iload C dX12_laysWords_29 rfl ?_
  refine cj_iadd C dX12_laysWords_31 ?_
  refine cj_iastoreC C (j := 0) o_157 (by decide) (by decide) dX12_laysWords_32 ?_
  refine cj_lets h (fun S3 h => ?_)
  refine cj_aload_n C (i := 0) dX12_laysWords_33 rfl rfl ?_
  refine cj_getR C (d := 157) o_150 rfl gfX12_36 dX12_laysWords_34 ?_
  refine cj_iconst C (v := (1 : Int32)) dX12_laysWords_37 rfl ?_
  refine cj_aload_n C (i := 0) dX12_laysWords_38 rfl rfl ?_
  refine cj_getR C (d := 151) o_150 rfl gfX12_13 dX12_laysWords_39 ?_
  refine cj_bipush C (v := (54 : Int32)) dX12_laysWords_42 rfl ?_
  refine cj_iload_n C (i := 3) dX12_laysWords_44 rfl rfl ?_
  refine cj_iadd C dX12_laysWords_45 ?_
  refine cj_iaload C o_151 h dX12_laysWords_46 (fun h => ?_)
  refine cj_iastoreC C (j := 1) o_157 (by decide) (by decide) dX12_laysWords_47 ?_
  refine cj_lets h (fun S4 h => ?_)
  refine cj_aload_n C (i := 0) dX12_laysWords_48 rfl rfl ?_
  refine cj_getR C (d := 157) o_150 rfl gfX12_36 dX12_laysWords_49 ?_
  refine cj_iconst C (v := (2 : Int32)) dX12_laysWords_52 rfl ?_
  refine cj_aload_n C (i := 0) dX12_laysWords_53 rfl rfl ?_
  refine cj_getR C (d := 155) o_150 rfl gfX12_30 dX12_laysWords_54 ?_
  refine cj_bipush C (v := (6 : Int32)) dX12_laysWords_57 rfl ?_
  refine cj_iload C dX12_laysWords_59 rfl ?_
  refine cj_imul C dX12_laysWords_61 ?_
  refine cj_aload_n C (i := 0) dX12_laysWords_62 rfl rfl ?_
  refine cj_getR C (d := 151) o_150 rfl gfX12_13 dX12_laysWords_63 ?_
  refine cj_bipush C (v := (38 : Int32)) dX12_laysWords_66 rfl ?_
  refine cj_iload_n C (i := 1) dX12_laysWords_68 rfl rfl ?_
  refine cj_iadd C dX12_laysWords_69 ?_
  refine cj_iaload C o_151 h dX12_laysWords_70 (fun h => ?_)
  refine cj_iadd C dX12_laysWords_71 ?_
  refine cj_iaload C o_155 h dX12_laysWords_72 (fun h => ?_)
  refine cj_aload_n C (i := 0) dX12_laysWords_73 rfl rfl ?_
  refine cj_getR C (d := 155) o_150 rfl gfX12_30 dX12_laysWords_74 ?_
  refine cj_bipush C (v := (6 : Int32)) dX12_laysWords_77 rfl ?_
  refine cj_iload C dX12_laysWords_79 rfl ?_
  refine cj_imul C dX12_laysWords_81 ?_
  refine cj_aload_n C (i := 0) dX12_laysWords_82 rfl rfl ?_
  refine cj_getR C (d := 151) o_150 rfl gfX12_13 dX12_laysWords_83 ?_
  refine cj_bipush C (v := (38 : Int32)) dX12_laysWords_86 rfl ?_
  refine cj_iload_n C (i := 2) dX12_laysWords_88 rfl rfl ?_
  refine cj_iadd C dX12_laysWords_89 ?_
  refine cj_iaload C o_151 h dX12_laysWords_90 (fun h => ?_)
  refine cj_iadd C dX12_laysWords_91 ?_
  refine cj_iaload C o_155 h dX12_laysWords_92 (fun h => ?_)
  refine cj_iadd C dX12_laysWords_93 ?_
  refine cj_iastoreC C (j := 2) o_157 (by decide) (by decide) dX12_laysWords_94 ?_
  refine cj_lets h (fun S5 h => ?_)
  refine cj_aload_n C (i := 0) dX12_laysWords_95 rfl rfl ?_
  refine cj_getR C (d := 157) o_150 rfl gfX12_36 dX12_laysWords_96 ?_
  refine cj_iconst C (v := (3 : Int32)) dX12_laysWords_99 rfl ?_
  refine cj_aload_n C (i := 0) dX12_laysWords_100 rfl rfl ?_
  refine cj_iload C dX12_laysWords_101 rfl ?_
  refine cj_callVi C (As := [.int x5]) (rest := [.int (3 : Int32), .ref (w.2.1 157)]) qX12_longOf mw_32_3 o_150 rfl rfl rfl (Nat.le_of_ble_eq_true rfl) (by decide) dX12_laysWords_103 h (fun _ _ hf => m_X12_longOf l w A x5 S5 _ hf) (fun z6 S7 h => ?_)
  refine cj_iastoreC C (j := 3) o_157 (by decide) (by decide) dX12_laysWords_106 ?_
  refine cj_lets h (fun S8 h => ?_)
  refine cj_aload_n C (i := 0) dX12_laysWords_107 rfl rfl ?_
  refine cj_getR C (d := 157) o_150 rfl gfX12_36 dX12_laysWords_108 ?_
  refine cj_iconst C (v := (4 : Int32)) dX12_laysWords_111 rfl ?_
  refine cj_aload_n C (i := 0) dX12_laysWords_112 rfl rfl ?_
  refine cj_getI C (j := 19) o_150 rfl gfX12_254 dX12_laysWords_113 ?_
  refine cj_iastoreC C (j := 4) o_157 (by decide) (by decide) dX12_laysWords_116 ?_
  refine cj_lets h (fun S9 h => ?_)
  refine cj_aload_n C (i := 0) dX12_laysWords_117 rfl rfl ?_
  refine cj_getR C (d := 157) o_150 rfl gfX12_36 dX12_laysWords_118 ?_
  refine cj_iconst C (v := (5 : Int32)) dX12_laysWords_121 rfl ?_
  refine cj_iload C dX12_laysWords_122 rfl ?_
  refine cj_iload C dX12_laysWords_124 rfl ?_
  refine cj_icmp_ge C (tgt := 134) dX12_laysWords_126 rfl h (fun _ h => ?_) (fun _ h => ?_)
  · refine cj_iload C dX12_laysWords_134 rfl ?_
    refine cj_iastoreC C (j := 5) o_157 (by decide) (by decide) dX12_laysWords_136 ?_
    refine cj_lets h (fun S10 h => ?_)
    exact cj_vreturn C hr h dX12_laysWords_137
  · refine cj_iload C dX12_laysWords_129 rfl ?_
    refine cj_goto C (tgt := 136) dX12_laysWords_131 rfl ?_
    refine cj_iastoreC C (j := 5) o_157 (by decide) (by decide) dX12_laysWords_136 ?_
    refine cj_lets h (fun S11 h => ?_)
    exact cj_vreturn C hr h dX12_laysWords_137
/-! X12_mayBy -/
def fX12_mayBy (x1 : Int32) (x2 : Int32) (x3 : Int32) (x4 : Int32) (x5 : Int32) (S : cpS) : Option (Int32 × cpS) :=
    cpB (fX12_laysWords x1 x2 x3 x4 x5 S) fun _ S2 =>
    if (S2.1 151 5) = (1 : Int32) then (
    cpB (fX12_reckons (0 : Int32) S2) fun z3 S4 =>
    if z3 = (1 : Int32) then (
    some ((1 : Int32), S4)) else (
    some ((0 : Int32), S4))) else (
    if (S2.1 157 0) < (S2.1 157 1) then (
    some ((0 : Int32), S2)) else (
    some ((1 : Int32), S2)))
set_option maxRecDepth 100000 in
set_option maxHeartbeats 4000000 in
theorem m_X12_mayBy (l : Launch) (w : cpW) (A : Nat → Prop) (x1 : Int32) (x2 : Int32) (x3 : Int32) (x4 : Int32) (x5 : Int32) (S : cpS) (r : Int32 × cpS) (h : fX12_mayBy x1 x2 x3 x4 x5 S = some r) : cpMi l yX12_mayBy cX12_mayBy 6 ((some .boolean)) 2 w A [.ref (w.2.1 150), .int x1, .int x2, .int x3, .int x4, .int x5] S r := by
  refine cpMi.of (lv := [some (.ref (w.2.1 150)), some (.int x1), some (.int x2), some (.int x3), some (.int x4), some (.int x5)]) (by decide) (Nat.le_of_ble_eq_true rfl) rfl (fun p e s m args below meth c C hr => ?_)
  replace C : cpCx p s m args meth c w A cX12_mayBy RX12 6 := C
  rw [fX12_mayBy] at h
  refine cj_aload_n C (i := 0) dX12_mayBy_0 rfl rfl ?_
  refine cj_iload_n C (i := 1) dX12_mayBy_1 rfl rfl ?_
  refine cj_iload_n C (i := 2) dX12_mayBy_2 rfl rfl ?_
  refine cj_iload_n C (i := 3) dX12_mayBy_3 rfl rfl ?_
  refine cj_iload C dX12_mayBy_4 rfl ?_
  refine cj_iload C dX12_mayBy_6 rfl ?_
  refine cj_callVv C (As := [.int x1, .int x2, .int x3, .int x4, .int x5]) (rest := []) qX12_laysWords mw_36_20 o_150 rfl rfl rfl (Nat.le_of_ble_eq_true rfl) (by decide) dX12_mayBy_8 h (fun _ _ hf => m_X12_laysWords l w A x1 x2 x3 x4 x5 S _ hf) (fun z1 S2 h => ?_)
  refine cj_aload_n C (i := 0) dX12_mayBy_11 rfl rfl ?_
  refine cj_getR C (d := 151) o_150 rfl gfX12_13 dX12_mayBy_12 ?_
  refine cj_iconst C (v := (5 : Int32)) dX12_mayBy_15 rfl ?_
  refine cj_ialoadC C (j := 5) o_151 (by decide) (by decide) dX12_mayBy_16 ?_
  refine cj_iconst C (v := (1 : Int32)) dX12_mayBy_17 rfl ?_
  refine cj_icmp_ne C (tgt := 38) dX12_mayBy_18 rfl h (fun _ h => ?_) (fun _ h => ?_)
  · refine cj_aload_n C (i := 0) dX12_mayBy_21 rfl rfl ?_
    refine cj_iconst C (v := (0 : Int32)) dX12_mayBy_22 rfl ?_
    refine cj_callVi C (As := [.int (0 : Int32)]) (rest := []) qX12_reckons mw_37_0 o_150 rfl rfl rfl (Nat.le_of_ble_eq_true rfl) (by decide) dX12_mayBy_23 h (fun _ _ hf => m_X12_reckons l w A (0 : Int32) S2 _ hf) (fun z3 S4 h => ?_)
    refine cj_iconst C (v := (1 : Int32)) dX12_mayBy_26 rfl ?_
    refine cj_icmp_ne C (tgt := 34) dX12_mayBy_27 rfl h (fun _ h => ?_) (fun _ h => ?_)
    · refine cj_iconst C (v := (1 : Int32)) dX12_mayBy_30 rfl ?_
      refine cj_goto C (tgt := 58) dX12_mayBy_31 rfl ?_
      exact cj_zreturn C hr rfl h dX12_mayBy_58
    · refine cj_iconst C (v := (0 : Int32)) dX12_mayBy_34 rfl ?_
      refine cj_goto C (tgt := 58) dX12_mayBy_35 rfl ?_
      exact cj_zreturn C hr rfl h dX12_mayBy_58
  · refine cj_aload_n C (i := 0) dX12_mayBy_38 rfl rfl ?_
    refine cj_getR C (d := 157) o_150 rfl gfX12_36 dX12_mayBy_39 ?_
    refine cj_iconst C (v := (0 : Int32)) dX12_mayBy_42 rfl ?_
    refine cj_ialoadC C (j := 0) o_157 (by decide) (by decide) dX12_mayBy_43 ?_
    refine cj_aload_n C (i := 0) dX12_mayBy_44 rfl rfl ?_
    refine cj_getR C (d := 157) o_150 rfl gfX12_36 dX12_mayBy_45 ?_
    refine cj_iconst C (v := (1 : Int32)) dX12_mayBy_48 rfl ?_
    refine cj_ialoadC C (j := 1) o_157 (by decide) (by decide) dX12_mayBy_49 ?_
    refine cj_icmp_lt C (tgt := 57) dX12_mayBy_50 rfl h (fun _ h => ?_) (fun _ h => ?_)
    · refine cj_iconst C (v := (0 : Int32)) dX12_mayBy_57 rfl ?_
      exact cj_zreturn C hr rfl h dX12_mayBy_58
    · refine cj_iconst C (v := (1 : Int32)) dX12_mayBy_53 rfl ?_
      refine cj_goto C (tgt := 58) dX12_mayBy_54 rfl ?_
      exact cj_zreturn C hr rfl h dX12_mayBy_58
/-! X12_roadFor -/
def fX12_roadFor_14 (x1 : Int32) (x2 : Int32) (x3 : Int32) (x4 : Int32) (x5 : Int32) : Nat → Int32 → cpS → Option (Int32 × cpS)
  | 0, _, _ => none
  | n + 1, x6, S =>
    if (S.1 151 2) ≤ x6 then (
    some ((-1 : Int32), S)) else (
    cpB (fX12_joins x6 x4 x5 S) fun z1 S2 =>
    if z1 = 0 then (
    fX12_roadFor_14 x1 x2 x3 x4 x5 n (x6 + 1) S2) else (
    cpB (fX12_mayBy x1 x2 x3 x4 x6 S2) fun z3 S4 =>
    if z3 = 0 then (
    fX12_roadFor_14 x1 x2 x3 x4 x5 n (x6 + 1) S4) else (
    some (x6, S4))))
set_option maxRecDepth 100000 in
set_option maxHeartbeats 4000000 in
theorem wX12_roadFor_14 (C : cpCx p s m args meth c w A cX12_roadFor RX12 7) (hr : meth.sig.returnType = (some .int)) {r : Int32 × cpS} (x1 : Int32) (x2 : Int32) (x3 : Int32) (x4 : Int32) (x5 : Int32) : ∀ (n : Nat) (x6 : Int32) (S : cpS), fX12_roadFor_14 x1 x2 x3 x4 x5 n x6 S = some r → cpJ p l e (cpRm 3) s m args below meth c (MQ below (va_Qi (fun x S' => (x, S') = r) (cpWorld w A) A) args s 0 0 A) w A 7 14 [some (.ref (w.2.1 150)), some (.int x1), some (.int x2), some (.int x3), some (.int x4), some (.int x5), some (.int x6)] [] S := by
  intro n
  induction n with
  | zero => intro x6 S h; rw [fX12_roadFor_14] at h; cases h
  | succ n ih =>
    intro x6 S h
    rw [fX12_roadFor_14] at h
    refine cj_iload C dX12_roadFor_14 rfl ?_
    refine cj_aload_n C (i := 0) dX12_roadFor_16 rfl rfl ?_
    refine cj_getR C (d := 151) o_150 rfl gfX12_13 dX12_roadFor_17 ?_
    refine cj_iconst C (v := (2 : Int32)) dX12_roadFor_20 rfl ?_
    refine cj_ialoadC C (j := 2) o_151 (by decide) (by decide) dX12_roadFor_21 ?_
    refine cj_icmp_ge C (tgt := 61) dX12_roadFor_22 rfl h (fun _ h => ?_) (fun _ h => ?_)
    · refine cj_iconst C (v := (-1 : Int32)) dX12_roadFor_61 rfl ?_
      exact cj_ireturn C hr h dX12_roadFor_62
    · refine cj_aload_n C (i := 0) dX12_roadFor_25 rfl rfl ?_
      refine cj_iload C dX12_roadFor_26 rfl ?_
      refine cj_iload C dX12_roadFor_28 rfl ?_
      refine cj_iload C dX12_roadFor_30 rfl ?_
      refine cj_callVi C (As := [.int x6, .int x4, .int x5]) (rest := []) qX12_joins mw_35_20 o_150 rfl rfl rfl (Nat.le_of_ble_eq_true rfl) (by decide) dX12_roadFor_32 h (fun _ _ hf => m_X12_joins l w A x6 x4 x5 S _ hf) (fun z1 S2 h => ?_)
      refine cj_if_eq C (tgt := 55) dX12_roadFor_35 rfl h (fun _ h => ?_) (fun _ h => ?_)
      · refine cj_iinc C (v := (x6 + 1)) (lv' := [some (.ref (w.2.1 150)), some (.int x1), some (.int x2), some (.int x3), some (.int x4), some (.int x5), some (.int (x6 + 1))]) dX12_roadFor_55 rfl rfl (by decide) rfl rfl ?_
        refine cj_goto C (tgt := 14) dX12_roadFor_58 rfl ?_
        exact ih (x6 + 1) S2 h
      · refine cj_aload_n C (i := 0) dX12_roadFor_38 rfl rfl ?_
        refine cj_iload_n C (i := 1) dX12_roadFor_39 rfl rfl ?_
        refine cj_iload_n C (i := 2) dX12_roadFor_40 rfl rfl ?_
        refine cj_iload_n C (i := 3) dX12_roadFor_41 rfl rfl ?_
        refine cj_iload C dX12_roadFor_42 rfl ?_
        refine cj_iload C dX12_roadFor_44 rfl ?_
        refine cj_callVi C (As := [.int x1, .int x2, .int x3, .int x4, .int x6]) (rest := []) qX12_mayBy mw_36_16 o_150 rfl rfl rfl (Nat.le_of_ble_eq_true rfl) (by decide) dX12_roadFor_46 h (fun _ _ hf => m_X12_mayBy l w A x1 x2 x3 x4 x6 S2 _ hf) (fun z3 S4 h => ?_)
        refine cj_if_eq C (tgt := 55) dX12_roadFor_49 rfl h (fun _ h => ?_) (fun _ h => ?_)
        · refine cj_iinc C (v := (x6 + 1)) (lv' := [some (.ref (w.2.1 150)), some (.int x1), some (.int x2), some (.int x3), some (.int x4), some (.int x5), some (.int (x6 + 1))]) dX12_roadFor_55 rfl rfl (by decide) rfl rfl ?_
          refine cj_goto C (tgt := 14) dX12_roadFor_58 rfl ?_
          exact ih (x6 + 1) S4 h
        · refine cj_iload C dX12_roadFor_52 rfl ?_
          exact cj_ireturn C hr h dX12_roadFor_54
def fX12_roadFor (x1 : Int32) (x2 : Int32) (x3 : Int32) (x4 : Int32) (x5 : Int32) (S : cpS) : Option (Int32 × cpS) :=
    cpB (fX12_haveQuarrelled x1 x2 S) fun z1 S2 =>
    if z1 = 0 then (
    fX12_roadFor_14 x1 x2 x3 x4 x5 cpFu (0 : Int32) S2) else (
    some ((-1 : Int32), S2))
set_option maxRecDepth 100000 in
set_option maxHeartbeats 4000000 in
theorem m_X12_roadFor (l : Launch) (w : cpW) (A : Nat → Prop) (x1 : Int32) (x2 : Int32) (x3 : Int32) (x4 : Int32) (x5 : Int32) (S : cpS) (r : Int32 × cpS) (h : fX12_roadFor x1 x2 x3 x4 x5 S = some r) : cpMi l yX12_roadFor cX12_roadFor 7 ((some .int)) 3 w A [.ref (w.2.1 150), .int x1, .int x2, .int x3, .int x4, .int x5] S r := by
  refine cpMi.of (lv := [some (.ref (w.2.1 150)), some (.int x1), some (.int x2), some (.int x3), some (.int x4), some (.int x5), none]) (by decide) (Nat.le_of_ble_eq_true rfl) rfl (fun p e s m args below meth c C hr => ?_)
  replace C : cpCx p s m args meth c w A cX12_roadFor RX12 7 := C
  rw [fX12_roadFor] at h
  refine cj_aload_n C (i := 0) dX12_roadFor_0 rfl rfl ?_
  refine cj_iload_n C (i := 1) dX12_roadFor_1 rfl rfl ?_
  refine cj_iload_n C (i := 2) dX12_roadFor_2 rfl rfl ?_
  refine cj_callVi C (As := [.int x1, .int x2]) (rest := []) qX12_haveQuarrelled mw_36_0 o_150 rfl rfl rfl (Nat.le_of_ble_eq_true rfl) (by decide) dX12_roadFor_3 h (fun _ _ hf => m_X12_haveQuarrelled l w A x1 x2 S _ hf) (fun z1 S2 h => ?_)
  refine cj_if_eq C (tgt := 11) dX12_roadFor_6 rfl h (fun _ h => ?_) (fun _ h => ?_)
  · refine cj_iconst C (v := (0 : Int32)) dX12_roadFor_11 rfl ?_
    refine cj_istore C (lv' := [some (.ref (w.2.1 150)), some (.int x1), some (.int x2), some (.int x3), some (.int x4), some (.int x5), some (.int (0 : Int32))]) dX12_roadFor_12 (by decide) rfl rfl ?_
    exact wX12_roadFor_14 C hr x1 x2 x3 x4 x5 cpFu (0 : Int32) S2 h
  · refine cj_iconst C (v := (-1 : Int32)) dX12_roadFor_9 rfl ?_
    exact cj_ireturn C hr h dX12_roadFor_10
/-! X12_wearsBy -/
def fX12_wearsBy_36 (s0 : Int32) (S : cpS) : Option (Int32 × cpS) :=
    if 0 ≤ s0 then (
    if s0 ≤ (9 : Int32) then (
    some (s0, S)) else (
    some ((9 : Int32), S))) else (
    some ((0 : Int32), S))
set_option maxRecDepth 100000 in
set_option maxHeartbeats 4000000 in
theorem wX12_wearsBy_36 (C : cpCx p s m args meth c w A cX12_wearsBy RX12 7) (hr : meth.sig.returnType = (some .int)) {r : Int32 × cpS} (s0 : Int32) (S : cpS) (h : fX12_wearsBy_36 s0 S = some r) : cpJ p l e (cpRm 2) s m args below meth c (MQ below (va_Qi (fun x S' => (x, S') = r) (cpWorld w A) A) args s 0 0 A) w A 7 36 [none, none, none, none, none, none, none] [.int s0] S := by
  rw [fX12_wearsBy_36] at h
  refine cj_istore C (lv' := [none, none, none, none, none, none, some (.int s0)]) dX12_wearsBy_36 (by decide) rfl rfl ?_
  refine cj_iload C dX12_wearsBy_38 rfl ?_
  refine cj_if_ge C (tgt := 47) dX12_wearsBy_40 rfl h (fun _ h => ?_) (fun _ h => ?_)
  · refine cj_iload C dX12_wearsBy_47 rfl ?_
    refine cj_bipush C (v := (9 : Int32)) dX12_wearsBy_49 rfl ?_
    refine cj_icmp_le C (tgt := 59) dX12_wearsBy_51 rfl h (fun _ h => ?_) (fun _ h => ?_)
    · refine cj_iload C dX12_wearsBy_59 rfl ?_
      exact cj_ireturn C hr h dX12_wearsBy_61
    · refine cj_bipush C (v := (9 : Int32)) dX12_wearsBy_54 rfl ?_
      refine cj_goto C (tgt := 61) dX12_wearsBy_56 rfl ?_
      exact cj_ireturn C hr h dX12_wearsBy_61
  · refine cj_iconst C (v := (0 : Int32)) dX12_wearsBy_43 rfl ?_
    refine cj_goto C (tgt := 61) dX12_wearsBy_44 rfl ?_
    exact cj_ireturn C hr h dX12_wearsBy_61
def fX12_wearsBy (x1 : Int32) (x2 : Int32) (x3 : Int32) (x4 : Int32) (x5 : Int32) (S : cpS) : Option (Int32 × cpS) :=
    cpB (fX12_laysWords x1 x2 x3 x4 x5 S) fun _ S2 =>
    if (S2.1 151 6) = (1 : Int32) then (
    cpB (fX12_reckons (1 : Int32) S2) fun z3 S4 =>
    fX12_wearsBy_36 z3 S4) else (
    fX12_wearsBy_36 (S2.1 157 3) S2)
set_option maxRecDepth 100000 in
set_option maxHeartbeats 4000000 in
theorem m_X12_wearsBy (l : Launch) (w : cpW) (A : Nat → Prop) (x1 : Int32) (x2 : Int32) (x3 : Int32) (x4 : Int32) (x5 : Int32) (S : cpS) (r : Int32 × cpS) (h : fX12_wearsBy x1 x2 x3 x4 x5 S = some r) : cpMi l yX12_wearsBy cX12_wearsBy 7 ((some .int)) 2 w A [.ref (w.2.1 150), .int x1, .int x2, .int x3, .int x4, .int x5] S r := by
  refine cpMi.of (lv := [some (.ref (w.2.1 150)), some (.int x1), some (.int x2), some (.int x3), some (.int x4), some (.int x5), none]) (by decide) (Nat.le_of_ble_eq_true rfl) rfl (fun p e s m args below meth c C hr => ?_)
  replace C : cpCx p s m args meth c w A cX12_wearsBy RX12 7 := C
  rw [fX12_wearsBy] at h
  refine cj_aload_n C (i := 0) dX12_wearsBy_0 rfl rfl ?_
  refine cj_iload_n C (i := 1) dX12_wearsBy_1 rfl rfl ?_
  refine cj_iload_n C (i := 2) dX12_wearsBy_2 rfl rfl ?_
  refine cj_iload_n C (i := 3) dX12_wearsBy_3 rfl rfl ?_
  refine cj_iload C dX12_wearsBy_4 rfl ?_
  refine cj_iload C dX12_wearsBy_6 rfl ?_
  refine cj_callVv C (As := [.int x1, .int x2, .int x3, .int x4, .int x5]) (rest := []) qX12_laysWords mw_36_20 o_150 rfl rfl rfl (Nat.le_of_ble_eq_true rfl) (by decide) dX12_wearsBy_8 h (fun _ _ hf => m_X12_laysWords l w A x1 x2 x3 x4 x5 S _ hf) (fun z1 S2 h => ?_)
  refine cj_aload_n C (i := 0) dX12_wearsBy_11 rfl rfl ?_
  refine cj_getR C (d := 151) o_150 rfl gfX12_13 dX12_wearsBy_12 ?_
  refine cj_bipush C (v := (6 : Int32)) dX12_wearsBy_15 rfl ?_
  refine cj_ialoadC C (j := 6) o_151 (by decide) (by decide) dX12_wearsBy_17 ?_
  refine cj_iconst C (v := (1 : Int32)) dX12_wearsBy_18 rfl ?_
  refine cj_icmp_ne C (tgt := 30) dX12_wearsBy_19 rfl h (fun _ h => ?_) (fun _ h => ?_)
  · refine cj_aload_n C (i := 0) dX12_wearsBy_22 rfl rfl ?_
    refine cj_iconst C (v := (1 : Int32)) dX12_wearsBy_23 rfl ?_
    refine cj_callVi C (As := [.int (1 : Int32)]) (rest := []) qX12_reckons mw_37_0 o_150 rfl rfl rfl (Nat.le_of_ble_eq_true rfl) (by decide) dX12_wearsBy_24 h (fun _ _ hf => m_X12_reckons l w A (1 : Int32) S2 _ hf) (fun z3 S4 h => ?_)
    refine cj_goto C (tgt := 36) dX12_wearsBy_27 rfl ?_
    refine cj_weak C (lv' := [none, none, none, none, none, none, none]) (cpSub_n (cpSub_n (cpSub_n (cpSub_n (cpSub_n (cpSub_n (cpSub_n cpSub_nil))))))) ?_
    exact wX12_wearsBy_36 C hr z3 S4 h
  · refine cj_aload_n C (i := 0) dX12_wearsBy_30 rfl rfl ?_
    refine cj_getR C (d := 157) o_150 rfl gfX12_36 dX12_wearsBy_31 ?_
    refine cj_iconst C (v := (3 : Int32)) dX12_wearsBy_34 rfl ?_
    refine cj_ialoadC C (j := 3) o_157 (by decide) (by decide) dX12_wearsBy_35 ?_
    refine cj_weak C (lv' := [none, none, none, none, none, none, none]) (cpSub_n (cpSub_n (cpSub_n (cpSub_n (cpSub_n (cpSub_n (cpSub_n cpSub_nil))))))) ?_
    exact wX12_wearsBy_36 C hr (S2.1 157 3) S2 h
/-! X12_whyCarry -/
def fX12_whyCarry (x1 : Int32) (x2 : Int32) (x3 : Int32) (x4 : Int32) (x5 : Int32) (S : cpS) : Option (Int32 × cpS) :=
    cpB (fX12_isPerson (Int32.toInt64 x1) S) fun z1 S2 =>
    if z1 = 0 then (
    some ((1 : Int32), S2)) else (
    cpB (fX12_isPerson (Int32.toInt64 x2) S2) fun z3 S4 =>
    if z3 = 0 then (
    some ((1 : Int32), S4)) else (
    if x1 = x2 then (
    some ((1 : Int32), S4)) else (
    cpB (fX12_isCoin (Int32.toInt64 x3) S4) fun z5 S6 =>
    if z5 = 0 then (
    some ((1 : Int32), S6)) else (
    cpB (fX12_isPlace (Int32.toInt64 x4) S6) fun z7 S8 =>
    if z7 = 0 then (
    some ((1 : Int32), S8)) else (
    if cpIn ((62 : Int32) + x3) 3486 then (
    cpB (fX12_areJoined (S8.1 151 ((62 : Int32) + x3).toNatClampNeg) x4 S8) fun z9 S10 =>
    if z9 = 0 then (
    some ((2 : Int32), S10)) else (
    cpB (fX12_haveQuarrelled x1 x2 S10) fun z11 S12 =>
    if z11 = 0 then (
    cpB (fX12_laysNow x5 S12) fun _ S14 =>
    if cpIn ((62 : Int32) + x3) 3486 then (
    cpB (fX12_roadFor x1 x2 x3 (S14.1 151 ((62 : Int32) + x3).toNatClampNeg) x4 S14) fun z15 S16 =>
    if z15 = (-1 : Int32) then (
    some ((4 : Int32), S16)) else (
    some ((0 : Int32), S16))) else none) else (
    some ((3 : Int32), S12)))) else none)))))
set_option maxRecDepth 100000 in
set_option maxHeartbeats 4000000 in
theorem m_X12_whyCarry (l : Launch) (w : cpW) (A : Nat → Prop) (x1 : Int32) (x2 : Int32) (x3 : Int32) (x4 : Int32) (x5 : Int32) (S : cpS) (r : Int32 × cpS) (h : fX12_whyCarry x1 x2 x3 x4 x5 S = some r) : cpMi l yX12_whyCarry cX12_whyCarry 6 ((some .int)) 4 w A [.ref (w.2.1 150), .int x1, .int x2, .int x3, .int x4, .int x5] S r := by
  refine cpMi.of (lv := [some (.ref (w.2.1 150)), some (.int x1), some (.int x2), some (.int x3), some (.int x4), some (.int x5)]) (by decide) (Nat.le_of_ble_eq_true rfl) rfl (fun p e s m args below meth c C hr => ?_)
  replace C : cpCx p s m args meth c w A cX12_whyCarry RX12 6 := C
  rw [fX12_whyCarry] at h
  refine cj_aload_n C (i := 0) dX12_whyCarry_0 rfl rfl ?_
  refine cj_iload_n C (i := 1) dX12_whyCarry_1 rfl rfl ?_
  refine cj_i2l C dX12_whyCarry_2 ?_
  refine cj_callVi C (As := [.long (Int32.toInt64 x1)]) (rest := []) qX12_isPerson mw_29_13 o_150 rfl rfl rfl (Nat.le_of_ble_eq_true rfl) (by decide) dX12_whyCarry_3 h (fun _ _ hf => m_X12_isPerson l w A (Int32.toInt64 x1) S _ hf) (fun z1 S2 h => ?_)
  refine cj_if_eq C (tgt := 42) dX12_whyCarry_6 rfl h (fun _ h => ?_) (fun _ h => ?_)
  · refine cj_iconst C (v := (1 : Int32)) dX12_whyCarry_42 rfl ?_
    exact cj_ireturn C hr h dX12_whyCarry_43
  · refine cj_aload_n C (i := 0) dX12_whyCarry_9 rfl rfl ?_
    refine cj_iload_n C (i := 2) dX12_whyCarry_10 rfl rfl ?_
    refine cj_i2l C dX12_whyCarry_11 ?_
    refine cj_callVi C (As := [.long (Int32.toInt64 x2)]) (rest := []) qX12_isPerson mw_29_13 o_150 rfl rfl rfl (Nat.le_of_ble_eq_true rfl) (by decide) dX12_whyCarry_12 h (fun _ _ hf => m_X12_isPerson l w A (Int32.toInt64 x2) S2 _ hf) (fun z3 S4 h => ?_)
    refine cj_if_eq C (tgt := 42) dX12_whyCarry_15 rfl h (fun _ h => ?_) (fun _ h => ?_)
    · refine cj_iconst C (v := (1 : Int32)) dX12_whyCarry_42 rfl ?_
      exact cj_ireturn C hr h dX12_whyCarry_43
    · refine cj_iload_n C (i := 1) dX12_whyCarry_18 rfl rfl ?_
      refine cj_iload_n C (i := 2) dX12_whyCarry_19 rfl rfl ?_
      refine cj_icmp_eq C (tgt := 42) dX12_whyCarry_20 rfl h (fun _ h => ?_) (fun _ h => ?_)
      · refine cj_iconst C (v := (1 : Int32)) dX12_whyCarry_42 rfl ?_
        exact cj_ireturn C hr h dX12_whyCarry_43
      · refine cj_aload_n C (i := 0) dX12_whyCarry_23 rfl rfl ?_
        refine cj_iload_n C (i := 3) dX12_whyCarry_24 rfl rfl ?_
        refine cj_i2l C dX12_whyCarry_25 ?_
        refine cj_callVi C (As := [.long (Int32.toInt64 x3)]) (rest := []) qX12_isCoin mw_30_9 o_150 rfl rfl rfl (Nat.le_of_ble_eq_true rfl) (by decide) dX12_whyCarry_26 h (fun _ _ hf => m_X12_isCoin l w A (Int32.toInt64 x3) S4 _ hf) (fun z5 S6 h => ?_)
        refine cj_if_eq C (tgt := 42) dX12_whyCarry_29 rfl h (fun _ h => ?_) (fun _ h => ?_)
        · refine cj_iconst C (v := (1 : Int32)) dX12_whyCarry_42 rfl ?_
          exact cj_ireturn C hr h dX12_whyCarry_43
        · refine cj_aload_n C (i := 0) dX12_whyCarry_32 rfl rfl ?_
          refine cj_iload C dX12_whyCarry_33 rfl ?_
          refine cj_i2l C dX12_whyCarry_35 ?_
          refine cj_callVi C (As := [.long (Int32.toInt64 x4)]) (rest := []) qX12_isPlace mw_31_19 o_150 rfl rfl rfl (Nat.le_of_ble_eq_true rfl) (by decide) dX12_whyCarry_36 h (fun _ _ hf => m_X12_isPlace l w A (Int32.toInt64 x4) S6 _ hf) (fun z7 S8 h => ?_)
          refine cj_if_ne C (tgt := 44) dX12_whyCarry_39 rfl h (fun _ h => ?_) (fun _ h => ?_)
          · refine cj_iconst C (v := (1 : Int32)) dX12_whyCarry_42 rfl ?_
            exact cj_ireturn C hr h dX12_whyCarry_43
          · refine cj_aload_n C (i := 0) dX12_whyCarry_44 rfl rfl ?_
            refine cj_aload_n C (i := 0) dX12_whyCarry_45 rfl rfl ?_
            refine cj_getR C (d := 151) o_150 rfl gfX12_13 dX12_whyCarry_46 ?_
            refine cj_bipush C (v := (62 : Int32)) dX12_whyCarry_49 rfl ?_
            refine cj_iload_n C (i := 3) dX12_whyCarry_51 rfl rfl ?_
            refine cj_iadd C dX12_whyCarry_52 ?_
            refine cj_iaload C o_151 h dX12_whyCarry_53 (fun h => ?_)
            refine cj_iload C dX12_whyCarry_54 rfl ?_
            refine cj_callVi C (As := [.int (S8.1 151 ((62 : Int32) + x3).toNatClampNeg), .int x4]) (rest := []) qX12_areJoined mw_35_16 o_150 rfl rfl rfl (Nat.le_of_ble_eq_true rfl) (by decide) dX12_whyCarry_56 h (fun _ _ hf => m_X12_areJoined l w A (S8.1 151 ((62 : Int32) + x3).toNatClampNeg) x4 S8 _ hf) (fun z9 S10 h => ?_)
            refine cj_if_ne C (tgt := 64) dX12_whyCarry_59 rfl h (fun _ h => ?_) (fun _ h => ?_)
            · refine cj_iconst C (v := (2 : Int32)) dX12_whyCarry_62 rfl ?_
              exact cj_ireturn C hr h dX12_whyCarry_63
            · refine cj_aload_n C (i := 0) dX12_whyCarry_64 rfl rfl ?_
              refine cj_iload_n C (i := 1) dX12_whyCarry_65 rfl rfl ?_
              refine cj_iload_n C (i := 2) dX12_whyCarry_66 rfl rfl ?_
              refine cj_callVi C (As := [.int x1, .int x2]) (rest := []) qX12_haveQuarrelled mw_36_0 o_150 rfl rfl rfl (Nat.le_of_ble_eq_true rfl) (by decide) dX12_whyCarry_67 h (fun _ _ hf => m_X12_haveQuarrelled l w A x1 x2 S10 _ hf) (fun z11 S12 h => ?_)
              refine cj_if_eq C (tgt := 75) dX12_whyCarry_70 rfl h (fun _ h => ?_) (fun _ h => ?_)
              · refine cj_aload_n C (i := 0) dX12_whyCarry_75 rfl rfl ?_
                refine cj_iload C dX12_whyCarry_76 rfl ?_
                refine cj_callVv C (As := [.int x5]) (rest := []) qX12_laysNow mw_36_7 o_150 rfl rfl rfl (Nat.le_of_ble_eq_true rfl) (by decide) dX12_whyCarry_78 h (fun _ _ hf => m_X12_laysNow l w A x5 S12 _ hf) (fun z13 S14 h => ?_)
                refine cj_aload_n C (i := 0) dX12_whyCarry_81 rfl rfl ?_
                refine cj_iload_n C (i := 1) dX12_whyCarry_82 rfl rfl ?_
                refine cj_iload_n C (i := 2) dX12_whyCarry_83 rfl rfl ?_
                refine cj_iload_n C (i := 3) dX12_whyCarry_84 rfl rfl ?_
                refine cj_aload_n C (i := 0) dX12_whyCarry_85 rfl rfl ?_
                refine cj_getR C (d := 151) o_150 rfl gfX12_13 dX12_whyCarry_86 ?_
                refine cj_bipush C (v := (62 : Int32)) dX12_whyCarry_89 rfl ?_
                refine cj_iload_n C (i := 3) dX12_whyCarry_91 rfl rfl ?_
                refine cj_iadd C dX12_whyCarry_92 ?_
                refine cj_iaload C o_151 h dX12_whyCarry_93 (fun h => ?_)
                refine cj_iload C dX12_whyCarry_94 rfl ?_
                refine cj_callVi C (As := [.int x1, .int x2, .int x3, .int (S14.1 151 ((62 : Int32) + x3).toNatClampNeg), .int x4]) (rest := []) qX12_roadFor mw_36_12 o_150 rfl rfl rfl (Nat.le_of_ble_eq_true rfl) (by decide) dX12_whyCarry_96 h (fun _ _ hf => m_X12_roadFor l w A x1 x2 x3 (S14.1 151 ((62 : Int32) + x3).toNatClampNeg) x4 S14 _ hf) (fun z15 S16 h => ?_)
                refine cj_iconst C (v := (-1 : Int32)) dX12_whyCarry_99 rfl ?_
                refine cj_icmp_ne C (tgt := 107) dX12_whyCarry_100 rfl h (fun _ h => ?_) (fun _ h => ?_)
                · refine cj_iconst C (v := (4 : Int32)) dX12_whyCarry_103 rfl ?_
                  refine cj_goto C (tgt := 108) dX12_whyCarry_104 rfl ?_
                  exact cj_ireturn C hr h dX12_whyCarry_108
                · refine cj_iconst C (v := (0 : Int32)) dX12_whyCarry_107 rfl ?_
                  exact cj_ireturn C hr h dX12_whyCarry_108
              · refine cj_iconst C (v := (3 : Int32)) dX12_whyCarry_73 rfl ?_
                exact cj_ireturn C hr h dX12_whyCarry_74
/-! X12_wornTo -/
def fX12_wornTo (x1 : Int32) (x2 : Int32) (x3 : Int32) (x4 : Int32) (x5 : Int32) (S : cpS) : Option (Int32 × cpS) :=
    cpB (fX12_laysNow x5 S) fun _ S2 =>
    if cpIn ((62 : Int32) + x3) 3486 then (
    cpLt (S2.1 151 ((62 : Int32) + x3).toNatClampNeg) fun y3 =>
    cpB (fX12_roadFor x1 x2 x3 y3 x4 S2) fun z4 S5 =>
    cpB (fX12_wearsBy x1 x2 x3 y3 z4 S5) fun z6 S7 =>
    some (z6, S7)) else none
set_option maxRecDepth 100000 in
set_option maxHeartbeats 4000000 in
theorem m_X12_wornTo (l : Launch) (w : cpW) (A : Nat → Prop) (x1 : Int32) (x2 : Int32) (x3 : Int32) (x4 : Int32) (x5 : Int32) (S : cpS) (r : Int32 × cpS) (h : fX12_wornTo x1 x2 x3 x4 x5 S = some r) : cpMi l yX12_wornTo cX12_wornTo 7 ((some .int)) 4 w A [.ref (w.2.1 150), .int x1, .int x2, .int x3, .int x4, .int x5] S r := by
  refine cpMi.of (lv := [some (.ref (w.2.1 150)), some (.int x1), some (.int x2), some (.int x3), some (.int x4), some (.int x5), none]) (by decide) (Nat.le_of_ble_eq_true rfl) rfl (fun p e s m args below meth c C hr => ?_)
  replace C : cpCx p s m args meth c w A cX12_wornTo RX12 7 := C
  rw [fX12_wornTo] at h
  refine cj_aload_n C (i := 0) dX12_wornTo_0 rfl rfl ?_
  refine cj_iload C dX12_wornTo_1 rfl ?_
  refine cj_callVv C (As := [.int x5]) (rest := []) qX12_laysNow mw_36_7 o_150 rfl rfl rfl (Nat.le_of_ble_eq_true rfl) (by decide) dX12_wornTo_3 h (fun _ _ hf => m_X12_laysNow l w A x5 S _ hf) (fun z1 S2 h => ?_)
  refine cj_aload_n C (i := 0) dX12_wornTo_6 rfl rfl ?_
  refine cj_getR C (d := 151) o_150 rfl gfX12_13 dX12_wornTo_7 ?_
  refine cj_bipush C (v := (62 : Int32)) dX12_wornTo_10 rfl ?_
  refine cj_iload_n C (i := 3) dX12_wornTo_12 rfl rfl ?_
  refine cj_iadd C dX12_wornTo_13 ?_
  refine cj_iaload C o_151 h dX12_wornTo_14 (fun h => ?_)
  refine cj_let h (fun y3 h => ?_)
  refine cj_istore C (lv' := [some (.ref (w.2.1 150)), some (.int x1), some (.int x2), some (.int x3), some (.int x4), some (.int x5), some (.int y3)]) dX12_wornTo_15 (by decide) rfl rfl ?_
  refine cj_aload_n C (i := 0) dX12_wornTo_17 rfl rfl ?_
  refine cj_iload_n C (i := 1) dX12_wornTo_18 rfl rfl ?_
  refine cj_iload_n C (i := 2) dX12_wornTo_19 rfl rfl ?_
  refine cj_iload_n C (i := 3) dX12_wornTo_20 rfl rfl ?_
  refine cj_iload C dX12_wornTo_21 rfl ?_
  refine cj_aload_n C (i := 0) dX12_wornTo_23 rfl rfl ?_
  refine cj_iload_n C (i := 1) dX12_wornTo_24 rfl rfl ?_
  refine cj_iload_n C (i := 2) dX12_wornTo_25 rfl rfl ?_
  refine cj_iload_n C (i := 3) dX12_wornTo_26 rfl rfl ?_
  refine cj_iload C dX12_wornTo_27 rfl ?_
  refine cj_iload C dX12_wornTo_29 rfl ?_
  refine cj_callVi C (As := [.int x1, .int x2, .int x3, .int y3, .int x4]) (rest := [.int y3, .int x3, .int x2, .int x1, .ref (w.2.1 150)]) qX12_roadFor mw_36_12 o_150 rfl rfl rfl (Nat.le_of_ble_eq_true rfl) (by decide) dX12_wornTo_31 h (fun _ _ hf => m_X12_roadFor l w A x1 x2 x3 y3 x4 S2 _ hf) (fun z4 S5 h => ?_)
  refine cj_callVi C (As := [.int x1, .int x2, .int x3, .int y3, .int z4]) (rest := []) qX12_wearsBy mw_37_21 o_150 rfl rfl rfl (Nat.le_of_ble_eq_true rfl) (by decide) dX12_wornTo_34 h (fun _ _ hf => m_X12_wearsBy l w A x1 x2 x3 y3 z4 S5 _ hf) (fun z6 S7 h => ?_)
  exact cj_ireturn C hr h dX12_wornTo_37
/-! X12_person -/
def fX12_person (x1 : Int32) (x2 : Int32) (S : cpS) : Option (Int32 × cpS) :=
    cpLt (cpI S 150 0 (0 : Int32)) fun S1 =>
    cpB (fX12_isPerson (Int32.toInt64 x1) S1) fun z2 S3 =>
    if z2 = 0 then (
    some ((-2 : Int32), S3)) else (
    if x2 = 0 then (
    if cpIn ((38 : Int32) + x1) 3486 then (
    some ((S3.1 151 ((38 : Int32) + x1).toNatClampNeg), S3)) else none) else (
    if x2 = (1 : Int32) then (
    if cpIn ((46 : Int32) + x1) 3486 then (
    some ((S3.1 151 ((46 : Int32) + x1).toNatClampNeg), S3)) else none) else (
    if x2 = (2 : Int32) then (
    if cpIn ((70 : Int32) + x1) 3486 then (
    some ((S3.1 151 ((70 : Int32) + x1).toNatClampNeg), S3)) else none) else (
    some ((-2 : Int32), S3)))))
set_option maxRecDepth 100000 in
set_option maxHeartbeats 4000000 in
theorem m_X12_person (l : Launch) (w : cpW) (A : Nat → Prop) (x1 : Int32) (x2 : Int32) (S : cpS) (r : Int32 × cpS) (h : fX12_person x1 x2 S = some r) : cpMi l yX12_person cX12_person 3 ((some .int)) 2 w A [.ref (w.2.1 150), .int x1, .int x2] S r := by
  refine cpMi.of (lv := [some (.ref (w.2.1 150)), some (.int x1), some (.int x2)]) (by decide) (Nat.le_of_ble_eq_true rfl) rfl (fun p e s m args below meth c C hr => ?_)
  replace C : cpCx p s m args meth c w A cX12_person RX12 3 := C
  rw [fX12_person] at h
  refine cj_aload_n C (i := 0) dX12_person_0 rfl rfl ?_
  refine cj_iconst C (v := (0 : Int32)) dX12_person_1 rfl ?_
  refine cj_put C (j := 0) o_150 rfl pfX12_1 rfl rfl dX12_person_2 ?_
  refine cj_lets h (fun S1 h => ?_)
  refine cj_aload_n C (i := 0) dX12_person_5 rfl rfl ?_
  refine cj_iload_n C (i := 1) dX12_person_6 rfl rfl ?_
  refine cj_i2l C dX12_person_7 ?_
  refine cj_callVi C (As := [.long (Int32.toInt64 x1)]) (rest := []) qX12_isPerson mw_29_13 o_150 rfl rfl rfl (Nat.le_of_ble_eq_true rfl) (by decide) dX12_person_8 h (fun _ _ hf => m_X12_isPerson l w A (Int32.toInt64 x1) S1 _ hf) (fun z2 S3 h => ?_)
  refine cj_if_ne C (tgt := 17) dX12_person_11 rfl h (fun _ h => ?_) (fun _ h => ?_)
  · refine cj_bipush C (v := (-2 : Int32)) dX12_person_14 rfl ?_
    exact cj_ireturn C hr h dX12_person_16
  · refine cj_iload_n C (i := 2) dX12_person_17 rfl rfl ?_
    refine cj_if_ne C (tgt := 33) dX12_person_18 rfl h (fun _ h => ?_) (fun _ h => ?_)
    · refine cj_aload_n C (i := 0) dX12_person_21 rfl rfl ?_
      refine cj_getR C (d := 151) o_150 rfl gfX12_13 dX12_person_22 ?_
      refine cj_bipush C (v := (38 : Int32)) dX12_person_25 rfl ?_
      refine cj_iload_n C (i := 1) dX12_person_27 rfl rfl ?_
      refine cj_iadd C dX12_person_28 ?_
      refine cj_iaload C o_151 h dX12_person_29 (fun h => ?_)
      refine cj_goto C (tgt := 69) dX12_person_30 rfl ?_
      exact cj_ireturn C hr h dX12_person_69
    · refine cj_iload_n C (i := 2) dX12_person_33 rfl rfl ?_
      refine cj_iconst C (v := (1 : Int32)) dX12_person_34 rfl ?_
      refine cj_icmp_ne C (tgt := 50) dX12_person_35 rfl h (fun _ h => ?_) (fun _ h => ?_)
      · refine cj_aload_n C (i := 0) dX12_person_38 rfl rfl ?_
        refine cj_getR C (d := 151) o_150 rfl gfX12_13 dX12_person_39 ?_
        refine cj_bipush C (v := (46 : Int32)) dX12_person_42 rfl ?_
        refine cj_iload_n C (i := 1) dX12_person_44 rfl rfl ?_
        refine cj_iadd C dX12_person_45 ?_
        refine cj_iaload C o_151 h dX12_person_46 (fun h => ?_)
        refine cj_goto C (tgt := 69) dX12_person_47 rfl ?_
        exact cj_ireturn C hr h dX12_person_69
      · refine cj_iload_n C (i := 2) dX12_person_50 rfl rfl ?_
        refine cj_iconst C (v := (2 : Int32)) dX12_person_51 rfl ?_
        refine cj_icmp_ne C (tgt := 67) dX12_person_52 rfl h (fun _ h => ?_) (fun _ h => ?_)
        · refine cj_aload_n C (i := 0) dX12_person_55 rfl rfl ?_
          refine cj_getR C (d := 151) o_150 rfl gfX12_13 dX12_person_56 ?_
          refine cj_bipush C (v := (70 : Int32)) dX12_person_59 rfl ?_
          refine cj_iload_n C (i := 1) dX12_person_61 rfl rfl ?_
          refine cj_iadd C dX12_person_62 ?_
          refine cj_iaload C o_151 h dX12_person_63 (fun h => ?_)
          refine cj_goto C (tgt := 69) dX12_person_64 rfl ?_
          exact cj_ireturn C hr h dX12_person_69
        · refine cj_bipush C (v := (-2 : Int32)) dX12_person_67 rfl ?_
          exact cj_ireturn C hr h dX12_person_69
/-! X12_coin -/
def fX12_coin (x1 : Int32) (x2 : Int32) (S : cpS) : Option (Int32 × cpS) :=
    cpLt (cpI S 150 0 (0 : Int32)) fun S1 =>
    cpB (fX12_isCoin (Int32.toInt64 x1) S1) fun z2 S3 =>
    if z2 = 0 then (
    some ((-2 : Int32), S3)) else (
    if x2 = (0 : Int32) then (
    if cpIn ((62 : Int32) + x1) 3486 then (
    some ((S3.1 151 ((62 : Int32) + x1).toNatClampNeg), S3)) else none) else (if x2 = (1 : Int32) then (
    if cpIn ((54 : Int32) + x1) 3486 then (
    some ((S3.1 151 ((54 : Int32) + x1).toNatClampNeg), S3)) else none) else (if x2 = (2 : Int32) then (
    if cpIn ((58 : Int32) + x1) 3486 then (
    some ((S3.1 151 ((58 : Int32) + x1).toNatClampNeg), S3)) else none) else (if x2 = (3 : Int32) then (
    if cpIn ((66 : Int32) + x1) 3486 then (
    some ((S3.1 151 ((66 : Int32) + x1).toNatClampNeg), S3)) else none) else (
    some ((-2 : Int32), S3))))))
set_option maxRecDepth 100000 in
set_option maxHeartbeats 4000000 in
theorem m_X12_coin (l : Launch) (w : cpW) (A : Nat → Prop) (x1 : Int32) (x2 : Int32) (S : cpS) (r : Int32 × cpS) (h : fX12_coin x1 x2 S = some r) : cpMi l yX12_coin cX12_coin 3 ((some .int)) 2 w A [.ref (w.2.1 150), .int x1, .int x2] S r := by
  refine cpMi.of (lv := [some (.ref (w.2.1 150)), some (.int x1), some (.int x2)]) (by decide) (Nat.le_of_ble_eq_true rfl) rfl (fun p e s m args below meth c C hr => ?_)
  replace C : cpCx p s m args meth c w A cX12_coin RX12 3 := C
  rw [fX12_coin] at h
  refine cj_aload_n C (i := 0) dX12_coin_0 rfl rfl ?_
  refine cj_iconst C (v := (0 : Int32)) dX12_coin_1 rfl ?_
  refine cj_put C (j := 0) o_150 rfl pfX12_1 rfl rfl dX12_coin_2 ?_
  refine cj_lets h (fun S1 h => ?_)
  refine cj_aload_n C (i := 0) dX12_coin_5 rfl rfl ?_
  refine cj_iload_n C (i := 1) dX12_coin_6 rfl rfl ?_
  refine cj_i2l C dX12_coin_7 ?_
  refine cj_callVi C (As := [.long (Int32.toInt64 x1)]) (rest := []) qX12_isCoin mw_30_9 o_150 rfl rfl rfl (Nat.le_of_ble_eq_true rfl) (by decide) dX12_coin_8 h (fun _ _ hf => m_X12_isCoin l w A (Int32.toInt64 x1) S1 _ hf) (fun z2 S3 h => ?_)
  refine cj_if_ne C (tgt := 17) dX12_coin_11 rfl h (fun _ h => ?_) (fun _ h => ?_)
  · refine cj_bipush C (v := (-2 : Int32)) dX12_coin_14 rfl ?_
    exact cj_ireturn C hr h dX12_coin_16
  · refine cj_iload_n C (i := 2) dX12_coin_17 rfl rfl ?_
    by_cases hs0 : x2 = (0 : Int32)
    · rw [if_pos hs0] at h
      refine cj_tableIn C (tgt := 48) dX12_coin_18 (by rw [hs0]; decide) (by rw [hs0]; decide) (by rw [hs0]; rfl) rfl ?_
      refine cj_aload_n C (i := 0) dX12_coin_48 rfl rfl ?_
      refine cj_getR C (d := 151) o_150 rfl gfX12_13 dX12_coin_49 ?_
      refine cj_bipush C (v := (62 : Int32)) dX12_coin_52 rfl ?_
      refine cj_iload_n C (i := 1) dX12_coin_54 rfl rfl ?_
      refine cj_iadd C dX12_coin_55 ?_
      refine cj_iaload C o_151 h dX12_coin_56 (fun h => ?_)
      exact cj_ireturn C hr h dX12_coin_57
    rw [if_neg hs0] at h
    by_cases hs1 : x2 = (1 : Int32)
    · rw [if_pos hs1] at h
      refine cj_tableIn C (tgt := 58) dX12_coin_18 (by rw [hs1]; decide) (by rw [hs1]; decide) (by rw [hs1]; rfl) rfl ?_
      refine cj_aload_n C (i := 0) dX12_coin_58 rfl rfl ?_
      refine cj_getR C (d := 151) o_150 rfl gfX12_13 dX12_coin_59 ?_
      refine cj_bipush C (v := (54 : Int32)) dX12_coin_62 rfl ?_
      refine cj_iload_n C (i := 1) dX12_coin_64 rfl rfl ?_
      refine cj_iadd C dX12_coin_65 ?_
      refine cj_iaload C o_151 h dX12_coin_66 (fun h => ?_)
      exact cj_ireturn C hr h dX12_coin_67
    rw [if_neg hs1] at h
    by_cases hs2 : x2 = (2 : Int32)
    · rw [if_pos hs2] at h
      refine cj_tableIn C (tgt := 68) dX12_coin_18 (by rw [hs2]; decide) (by rw [hs2]; decide) (by rw [hs2]; rfl) rfl ?_
      refine cj_aload_n C (i := 0) dX12_coin_68 rfl rfl ?_
      refine cj_getR C (d := 151) o_150 rfl gfX12_13 dX12_coin_69 ?_
      refine cj_bipush C (v := (58 : Int32)) dX12_coin_72 rfl ?_
      refine cj_iload_n C (i := 1) dX12_coin_74 rfl rfl ?_
      refine cj_iadd C dX12_coin_75 ?_
      refine cj_iaload C o_151 h dX12_coin_76 (fun h => ?_)
      exact cj_ireturn C hr h dX12_coin_77
    rw [if_neg hs2] at h
    by_cases hs3 : x2 = (3 : Int32)
    · rw [if_pos hs3] at h
      refine cj_tableIn C (tgt := 78) dX12_coin_18 (by rw [hs3]; decide) (by rw [hs3]; decide) (by rw [hs3]; rfl) rfl ?_
      refine cj_aload_n C (i := 0) dX12_coin_78 rfl rfl ?_
      refine cj_getR C (d := 151) o_150 rfl gfX12_13 dX12_coin_79 ?_
      refine cj_bipush C (v := (66 : Int32)) dX12_coin_82 rfl ?_
      refine cj_iload_n C (i := 1) dX12_coin_84 rfl rfl ?_
      refine cj_iadd C dX12_coin_85 ?_
      refine cj_iaload C o_151 h dX12_coin_86 (fun h => ?_)
      exact cj_ireturn C hr h dX12_coin_87
    rw [if_neg hs3] at h
    refine cj_tableOut C (tgt := 88) dX12_coin_18 (cpOut (by decide) (by decide) (fun k h1 h2 => ?_)) rfl ?_
    · rcases (show k = 0 ∨ k = 1 ∨ k = 2 ∨ k = 3 by omega) with rfl | rfl | rfl | rfl
      · exact hs0
      · exact hs1
      · exact hs2
      · exact hs3
    · refine cj_bipush C (v := (-2 : Int32)) dX12_coin_88 rfl ?_
      exact cj_ireturn C hr h dX12_coin_90
/-! X12_road -/
def fX12_road (x1 : Int32) (x2 : Int32) (S : cpS) : Option (Int32 × cpS) :=
    cpLt (cpI S 150 0 (0 : Int32)) fun S1 =>
    cpB (fX12_isRoad x1 S1) fun z2 S3 =>
    if z2 = 0 then (
    some ((-2 : Int32), S3)) else (
    cpB (fX12_within (Int32.toInt64 x2) (0 : Int64) (2 : Int64) S3) fun z4 S5 =>
    if z4 = 0 then (
    some ((-2 : Int32), S5)) else (
    if cpIn (((11 : Int32) + ((3 : Int32) * x1)) + x2) 3486 then (
    some ((S5.1 151 (((11 : Int32) + ((3 : Int32) * x1)) + x2).toNatClampNeg), S5)) else none))
set_option maxRecDepth 100000 in
set_option maxHeartbeats 4000000 in
theorem m_X12_road (l : Launch) (w : cpW) (A : Nat → Prop) (x1 : Int32) (x2 : Int32) (S : cpS) (r : Int32 × cpS) (h : fX12_road x1 x2 S = some r) : cpMi l yX12_road cX12_road 3 ((some .int)) 2 w A [.ref (w.2.1 150), .int x1, .int x2] S r := by
  refine cpMi.of (lv := [some (.ref (w.2.1 150)), some (.int x1), some (.int x2)]) (by decide) (Nat.le_of_ble_eq_true rfl) rfl (fun p e s m args below meth c C hr => ?_)
  replace C : cpCx p s m args meth c w A cX12_road RX12 3 := C
  rw [fX12_road] at h
  refine cj_aload_n C (i := 0) dX12_road_0 rfl rfl ?_
  refine cj_iconst C (v := (0 : Int32)) dX12_road_1 rfl ?_
  refine cj_put C (j := 0) o_150 rfl pfX12_1 rfl rfl dX12_road_2 ?_
  refine cj_lets h (fun S1 h => ?_)
  refine cj_aload_n C (i := 0) dX12_road_5 rfl rfl ?_
  refine cj_iload_n C (i := 1) dX12_road_6 rfl rfl ?_
  refine cj_callVi C (As := [.int x1]) (rest := []) qX12_isRoad mw_31_2 o_150 rfl rfl rfl (Nat.le_of_ble_eq_true rfl) (by decide) dX12_road_7 h (fun _ _ hf => m_X12_isRoad l w A x1 S1 _ hf) (fun z2 S3 h => ?_)
  refine cj_if_eq C (tgt := 41) dX12_road_10 rfl h (fun _ h => ?_) (fun _ h => ?_)
  · refine cj_bipush C (v := (-2 : Int32)) dX12_road_41 rfl ?_
    exact cj_ireturn C hr h dX12_road_43
  · refine cj_iload_n C (i := 2) dX12_road_13 rfl rfl ?_
    refine cj_i2l C dX12_road_14 ?_
    refine cj_lconst C (v := (0 : Int64)) dX12_road_15 rfl ?_
    refine cj_ldc2 C (v := (2 : Int64)) mw_31_1 dX12_road_16 ?_
    refine cj_callSi C (As := [.long (Int32.toInt64 x2), .long (0 : Int64), .long (2 : Int64)]) (rest := []) qX12_within mw_23_15 rfl rfl (Nat.le_of_ble_eq_true rfl) (by decide) dX12_road_19 h (fun _ _ hf => m_X12_within l w A (Int32.toInt64 x2) (0 : Int64) (2 : Int64) S3 _ hf) (fun z4 S5 h => ?_)
    refine cj_if_eq C (tgt := 41) dX12_road_22 rfl h (fun _ h => ?_) (fun _ h => ?_)
    · refine cj_bipush C (v := (-2 : Int32)) dX12_road_41 rfl ?_
      exact cj_ireturn C hr h dX12_road_43
    · refine cj_aload_n C (i := 0) dX12_road_25 rfl rfl ?_
      refine cj_getR C (d := 151) o_150 rfl gfX12_13 dX12_road_26 ?_
      refine cj_bipush C (v := (11 : Int32)) dX12_road_29 rfl ?_
      refine cj_iconst C (v := (3 : Int32)) dX12_road_31 rfl ?_
      refine cj_iload_n C (i := 1) dX12_road_32 rfl rfl ?_
      refine cj_imul C dX12_road_33 ?_
      refine cj_iadd C dX12_road_34 ?_
      refine cj_iload_n C (i := 2) dX12_road_35 rfl rfl ?_
      refine cj_iadd C dX12_road_36 ?_
      refine cj_iaload C o_151 h dX12_road_37 (fun h => ?_)
      refine cj_goto C (tgt := 43) dX12_road_38 rfl ?_
      exact cj_ireturn C hr h dX12_road_43
/-! X12_far -/
def fX12_far (x1 : Int32) (x2 : Int32) (S : cpS) : Option (Int32 × cpS) :=
    cpLt (cpI S 150 0 (0 : Int32)) fun S1 =>
    cpB (fX12_isPlace (Int32.toInt64 x1) S1) fun z2 S3 =>
    if z2 = 0 then (
    some ((-2 : Int32), S3)) else (
    cpB (fX12_isPlace (Int32.toInt64 x2) S3) fun z4 S5 =>
    if z4 = 0 then (
    some ((-2 : Int32), S5)) else (
    cpB (fX12_laysFar S5) fun _ S7 =>
    if cpIn (((6 : Int32) * x1) + x2) 36 then (
    some ((S7.1 155 (((6 : Int32) * x1) + x2).toNatClampNeg), S7)) else none))
set_option maxRecDepth 100000 in
set_option maxHeartbeats 4000000 in
theorem m_X12_far (l : Launch) (w : cpW) (A : Nat → Prop) (x1 : Int32) (x2 : Int32) (S : cpS) (r : Int32 × cpS) (h : fX12_far x1 x2 S = some r) : cpMi l yX12_far cX12_far 3 ((some .int)) 2 w A [.ref (w.2.1 150), .int x1, .int x2] S r := by
  refine cpMi.of (lv := [some (.ref (w.2.1 150)), some (.int x1), some (.int x2)]) (by decide) (Nat.le_of_ble_eq_true rfl) rfl (fun p e s m args below meth c C hr => ?_)
  replace C : cpCx p s m args meth c w A cX12_far RX12 3 := C
  rw [fX12_far] at h
  refine cj_aload_n C (i := 0) dX12_far_0 rfl rfl ?_
  refine cj_iconst C (v := (0 : Int32)) dX12_far_1 rfl ?_
  refine cj_put C (j := 0) o_150 rfl pfX12_1 rfl rfl dX12_far_2 ?_
  refine cj_lets h (fun S1 h => ?_)
  refine cj_aload_n C (i := 0) dX12_far_5 rfl rfl ?_
  refine cj_iload_n C (i := 1) dX12_far_6 rfl rfl ?_
  refine cj_i2l C dX12_far_7 ?_
  refine cj_callVi C (As := [.long (Int32.toInt64 x1)]) (rest := []) qX12_isPlace mw_31_19 o_150 rfl rfl rfl (Nat.le_of_ble_eq_true rfl) (by decide) dX12_far_8 h (fun _ _ hf => m_X12_isPlace l w A (Int32.toInt64 x1) S1 _ hf) (fun z2 S3 h => ?_)
  refine cj_if_eq C (tgt := 23) dX12_far_11 rfl h (fun _ h => ?_) (fun _ h => ?_)
  · refine cj_bipush C (v := (-2 : Int32)) dX12_far_23 rfl ?_
    exact cj_ireturn C hr h dX12_far_25
  · refine cj_aload_n C (i := 0) dX12_far_14 rfl rfl ?_
    refine cj_iload_n C (i := 2) dX12_far_15 rfl rfl ?_
    refine cj_i2l C dX12_far_16 ?_
    refine cj_callVi C (As := [.long (Int32.toInt64 x2)]) (rest := []) qX12_isPlace mw_31_19 o_150 rfl rfl rfl (Nat.le_of_ble_eq_true rfl) (by decide) dX12_far_17 h (fun _ _ hf => m_X12_isPlace l w A (Int32.toInt64 x2) S3 _ hf) (fun z4 S5 h => ?_)
    refine cj_if_ne C (tgt := 26) dX12_far_20 rfl h (fun _ h => ?_) (fun _ h => ?_)
    · refine cj_bipush C (v := (-2 : Int32)) dX12_far_23 rfl ?_
      exact cj_ireturn C hr h dX12_far_25
    · refine cj_aload_n C (i := 0) dX12_far_26 rfl rfl ?_
      refine cj_callVv C (As := []) (rest := []) qX12_laysFar mw_31_23 o_150 rfl rfl rfl (Nat.le_of_ble_eq_true rfl) (by decide) dX12_far_27 h (fun _ _ hf => m_X12_laysFar l w A S5 _ hf) (fun z6 S7 h => ?_)
      refine cj_aload_n C (i := 0) dX12_far_30 rfl rfl ?_
      refine cj_getR C (d := 155) o_150 rfl gfX12_30 dX12_far_31 ?_
      refine cj_bipush C (v := (6 : Int32)) dX12_far_34 rfl ?_
      refine cj_iload_n C (i := 1) dX12_far_36 rfl rfl ?_
      refine cj_imul C dX12_far_37 ?_
      refine cj_iload_n C (i := 2) dX12_far_38 rfl rfl ?_
      refine cj_iadd C dX12_far_39 ?_
      refine cj_iaload C o_155 h dX12_far_40 (fun h => ?_)
      exact cj_ireturn C hr h dX12_far_41
end CPV
