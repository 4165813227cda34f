section CPV
variable {p : Program} {l : Launch} {e : Env} {s : State} {m : MethodId} {args : Array Value} {below : List Frame} {meth : Method} {c : Code} {w : cpW} {A : Nat → Prop}
/-! X12_leads -/
def fX12_leads_18 (x2 : Int32) (x3 : Int32) (x5 : Int32) (k8 : Int32 → Int32 → cpS → Option (Int32 × cpS)) : Nat → Int32 → Int32 → cpS → Option (Int32 × cpS)
  | 0, _, _, _ => none
  | n + 1, x4, x6, S =>
    if (S.1 151 2) ≤ x6 then (
    k8 x4 (x5 + 1) S) else (
    if cpIn ((11 : Int32) + ((3 : Int32) * x6)) 3486 then (
    if cpIn (((11 : Int32) + ((3 : Int32) * x6)) + (1 : Int32)) 3486 then (
    cpLt ((cpShl (1 : Int32) (S.1 151 ((11 : Int32) + ((3 : Int32) * x6)).toNatClampNeg)) ||| (cpShl (1 : Int32) (S.1 151 (((11 : Int32) + ((3 : Int32) * x6)) + (1 : Int32)).toNatClampNeg))) fun y1 =>
    if (x4 &&& y1) = 0 then (
    fX12_leads_18 x2 x3 x5 k8 n x4 (x6 + 1) S) else (
    cpLt (x4 ||| (y1 &&& (x3 ^^^ (-1 : Int32)))) fun y2 =>
    fX12_leads_18 x2 x3 x5 k8 n y2 (x6 + 1) S)) else none) else none)
set_option maxRecDepth 100000 in
set_option maxHeartbeats 4000000 in
theorem wX12_leads_18 (C : cpCx p s m args meth c w A cX12_leads RX12 8) (hr : meth.sig.returnType = (some .boolean)) {r : Int32 × cpS} (x2 : Int32) (x3 : Int32) (x5 : Int32) {k8 : Int32 → Int32 → cpS → Option (Int32 × cpS)} (hk8 : ∀ (x4 : Int32) (x5 : Int32) (S : cpS), k8 x4 x5 S = some r → cpJ p l e (cpRm 1) s m args below meth c (MQ below (va_Qi (fun x S' => (x, S') = r) (cpWorld w A) A) args s 0 0 A) w A 8 8 [some (.ref (w.2.1 150)), none, some (.int x2), some (.int x3), some (.int x4), some (.int x5), none, none] [] S) : ∀ (n : Nat) (x4 : Int32) (x6 : Int32) (S : cpS), fX12_leads_18 x2 x3 x5 k8 n x4 x6 S = some r → cpJ p l e (cpRm 1) s m args below meth c (MQ below (va_Qi (fun x S' => (x, S') = r) (cpWorld w A) A) args s 0 0 A) w A 8 18 [some (.ref (w.2.1 150)), none, some (.int x2), some (.int x3), some (.int x4), some (.int x5), some (.int x6), none] [] S := by
  intro n
  induction n with
  | zero => intro x4 x6 S h; rw [fX12_leads_18] at h; cases h
  | succ n ih =>
    intro x4 x6 S h
    rw [fX12_leads_18] at h
    refine cj_iload C dX12_leads_18 rfl ?_
    refine cj_aload_n C (i := 0) dX12_leads_20 rfl rfl ?_
    refine cj_getR C (d := 151) o_150 rfl gfX12_13 dX12_leads_21 ?_
    refine cj_iconst C (v := (2 : Int32)) dX12_leads_24 rfl ?_
    refine cj_ialoadC C (j := 2) o_151 (by decide) (by decide) dX12_leads_25 ?_
    refine cj_icmp_ge C (tgt := 87) dX12_leads_26 rfl h (fun _ h => ?_) (fun _ h => ?_)
    · refine cj_iinc C (v := (x5 + 1)) (lv' := [some (.ref (w.2.1 150)), none, some (.int x2), some (.int x3), some (.int x4), some (.int (x5 + 1)), some (.int x6), none]) dX12_leads_87 rfl rfl (by decide) rfl rfl ?_
      refine cj_goto C (tgt := 8) dX12_leads_90 rfl ?_
      refine cj_weak C (lv' := [some (.ref (w.2.1 150)), none, some (.int x2), some (.int x3), some (.int x4), some (.int (x5 + 1)), none, none]) (cpSub_s (cpSub_n (cpSub_s (cpSub_s (cpSub_s (cpSub_s (cpSub_n (cpSub_n cpSub_nil)))))))) ?_
      exact hk8 x4 (x5 + 1) S h
    · refine cj_iconst C (v := (1 : Int32)) dX12_leads_29 rfl ?_
      refine cj_aload_n C (i := 0) dX12_leads_30 rfl rfl ?_
      refine cj_getR C (d := 151) o_150 rfl gfX12_13 dX12_leads_31 ?_
      refine cj_bipush C (v := (11 : Int32)) dX12_leads_34 rfl ?_
      refine cj_iconst C (v := (3 : Int32)) dX12_leads_36 rfl ?_
      refine cj_iload C dX12_leads_37 rfl ?_
      refine cj_imul C dX12_leads_39 ?_
      refine cj_iadd C dX12_leads_40 ?_
      refine cj_iaload C o_151 h dX12_leads_41 (fun h => ?_)
      refine ck_ishl C dX12_leads_42 ?_
      refine cj_iconst C (v := (1 : Int32)) dX12_leads_43 rfl ?_
      refine cj_aload_n C (i := 0) dX12_leads_44 rfl rfl ?_
      refine cj_getR C (d := 151) o_150 rfl gfX12_13 dX12_leads_45 ?_
      refine cj_bipush C (v := (11 : Int32)) dX12_leads_48 rfl ?_
      refine cj_iconst C (v := (3 : Int32)) dX12_leads_50 rfl ?_
      refine cj_iload C dX12_leads_51 rfl ?_
      refine cj_imul C dX12_leads_53 ?_
      refine cj_iadd C dX12_leads_54 ?_
      refine cj_iconst C (v := (1 : Int32)) dX12_leads_55 rfl ?_
      refine cj_iadd C dX12_leads_56 ?_
      refine cj_iaload C o_151 h dX12_leads_57 (fun h => ?_)
      refine ck_ishl C dX12_leads_58 ?_
      refine cj_ior C dX12_leads_59 ?_
      refine cj_let h (fun y1 h => ?_)
      refine cj_istore C (lv' := [some (.ref (w.2.1 150)), none, some (.int x2), some (.int x3), some (.int x4), some (.int x5), some (.int x6), some (.int y1)]) dX12_leads_60 (by decide) rfl rfl ?_
      refine cj_iload C dX12_leads_62 rfl ?_
      refine cj_iload C dX12_leads_64 rfl ?_
      refine cj_iand C dX12_leads_66 ?_
      refine cj_if_eq C (tgt := 81) dX12_leads_67 rfl h (fun _ h => ?_) (fun _ h => ?_)
      · refine cj_iinc C (v := (x6 + 1)) (lv' := [some (.ref (w.2.1 150)), none, some (.int x2), some (.int x3), some (.int x4), some (.int x5), some (.int (x6 + 1)), some (.int y1)]) dX12_leads_81 rfl rfl (by decide) rfl rfl ?_
        refine cj_goto C (tgt := 18) dX12_leads_84 rfl ?_
        refine cj_weak C (lv' := [some (.ref (w.2.1 150)), none, some (.int x2), some (.int x3), some (.int x4), some (.int x5), some (.int (x6 + 1)), none]) (cpSub_s (cpSub_n (cpSub_s (cpSub_s (cpSub_s (cpSub_s (cpSub_s (cpSub_n cpSub_nil)))))))) ?_
        exact ih x4 (x6 + 1) S h
      · refine cj_iload C dX12_leads_70 rfl ?_
        refine cj_iload C dX12_leads_72 rfl ?_
        refine cj_iload_n C (i := 3) dX12_leads_74 rfl rfl ?_
        refine cj_iconst C (v := (-1 : Int32)) dX12_leads_75 rfl ?_
        refine cj_ixor C dX12_leads_76 ?_
        refine cj_iand C dX12_leads_77 ?_
        refine cj_ior C dX12_leads_78 ?_
        refine cj_let h (fun y2 h => ?_)
        refine cj_istore C (lv' := [some (.ref (w.2.1 150)), none, some (.int x2), some (.int x3), some (.int y2), some (.int x5), some (.int x6), some (.int y1)]) dX12_leads_79 (by decide) rfl rfl ?_
        refine cj_iinc C (v := (x6 + 1)) (lv' := [some (.ref (w.2.1 150)), none, some (.int x2), some (.int x3), some (.int y2), some (.int x5), some (.int (x6 + 1)), some (.int y1)]) dX12_leads_81 rfl rfl (by decide) rfl rfl ?_
        refine cj_goto C (tgt := 18) dX12_leads_84 rfl ?_
        refine cj_weak C (lv' := [some (.ref (w.2.1 150)), none, some (.int x2), some (.int x3), some (.int y2), some (.int x5), some (.int (x6 + 1)), none]) (cpSub_s (cpSub_n (cpSub_s (cpSub_s (cpSub_s (cpSub_s (cpSub_s (cpSub_n cpSub_nil)))))))) ?_
        exact ih y2 (x6 + 1) S h
def fX12_leads_8 (x2 : Int32) (x3 : Int32) : Nat → Int32 → Int32 → cpS → Option (Int32 × cpS)
  | 0, _, _, _ => none
  | n + 1, x4, x5, S =>
    if (6 : Int32) ≤ x5 then (
    cpB (fX12_isIn (Int32.toInt64 x4) x2 S) fun z1 S2 =>
    if cpBo z1 then some (z1, S2) else none) else (
    fX12_leads_18 x2 x3 x5 (fX12_leads_8 x2 x3 n) cpFu x4 (0 : Int32) S)
set_option maxRecDepth 100000 in
set_option maxHeartbeats 4000000 in
theorem wX12_leads_8 (C : cpCx p s m args meth c w A cX12_leads RX12 8) (hr : meth.sig.returnType = (some .boolean)) {r : Int32 × cpS} (x2 : Int32) (x3 : Int32) : ∀ (n : Nat) (x4 : Int32) (x5 : Int32) (S : cpS), fX12_leads_8 x2 x3 n x4 x5 S = some r → cpJ p l e (cpRm 1) s m args below meth c (MQ below (va_Qi (fun x S' => (x, S') = r) (cpWorld w A) A) args s 0 0 A) w A 8 8 [some (.ref (w.2.1 150)), none, some (.int x2), some (.int x3), some (.int x4), some (.int x5), none, none] [] S := by
  intro n
  induction n with
  | zero => intro x4 x5 S h; rw [fX12_leads_8] at h; cases h
  | succ n ih =>
    intro x4 x5 S h
    rw [fX12_leads_8] at h
    refine cj_iload C dX12_leads_8 rfl ?_
    refine cj_bipush C (v := (6 : Int32)) dX12_leads_10 rfl ?_
    refine cj_icmp_ge C (tgt := 93) dX12_leads_12 rfl h (fun _ h => ?_) (fun _ h => ?_)
    · refine cj_iload C dX12_leads_93 rfl ?_
      refine cj_i2l C dX12_leads_95 ?_
      refine cj_iload_n C (i := 2) dX12_leads_96 rfl rfl ?_
      refine cj_callSi C (As := [.long (Int32.toInt64 x4), .int x2]) (rest := []) qX12_isIn mw_36_4 rfl rfl (Nat.le_of_ble_eq_true rfl) (by decide) dX12_leads_97 h (fun _ _ hf => m_X12_isIn l w A (Int32.toInt64 x4) x2 S _ hf) (fun z1 S2 h => ?_)
      obtain ⟨hb, h⟩ := cpGuard h
      exact cj_zreturn C hr (cpBo_n hb) h dX12_leads_100
    · refine cj_iconst C (v := (0 : Int32)) dX12_leads_15 rfl ?_
      refine cj_istore C (lv' := [some (.ref (w.2.1 150)), none, some (.int x2), some (.int x3), some (.int x4), some (.int x5), some (.int (0 : Int32)), none]) dX12_leads_16 (by decide) rfl rfl ?_
      exact wX12_leads_18 C hr x2 x3 x5 ih cpFu x4 (0 : Int32) S h
def fX12_leads (x1 : Int32) (x2 : Int32) (x3 : Int32) (S : cpS) : Option (Int32 × cpS) :=
    cpLt (cpShl (1 : Int32) x1) fun y1 =>
    fX12_leads_8 x2 x3 cpFu y1 (0 : Int32) S
set_option maxRecDepth 100000 in
set_option maxHeartbeats 4000000 in
theorem m_X12_leads (l : Launch) (w : cpW) (A : Nat → Prop) (x1 : Int32) (x2 : Int32) (x3 : Int32) (S : cpS) (r : Int32 × cpS) (h : fX12_leads x1 x2 x3 S = some r) : cpMi l yX12_leads cX12_leads 8 ((some .boolean)) 1 w A [.ref (w.2.1 150), .int x1, .int x2, .int x3] S r := by
  refine cpMi.of (lv := [some (.ref (w.2.1 150)), some (.int x1), some (.int x2), some (.int x3), none, none, none, none]) (by decide) (Nat.le_of_ble_eq_true rfl) rfl (fun p e s m args below meth c C hr => ?_)
  replace C : cpCx p s m args meth c w A cX12_leads RX12 8 := C
  rw [fX12_leads] at h
  refine cj_iconst C (v := (1 : Int32)) dX12_leads_0 rfl ?_
  refine cj_iload_n C (i := 1) dX12_leads_1 rfl rfl ?_
  refine ck_ishl C dX12_leads_2 ?_
  refine cj_let h (fun y1 h => ?_)
  refine cj_istore C (lv' := [some (.ref (w.2.1 150)), some (.int x1), some (.int x2), some (.int x3), some (.int y1), none, none, none]) dX12_leads_3 (by decide) rfl rfl ?_
  refine cj_iconst C (v := (0 : Int32)) dX12_leads_5 rfl ?_
  refine cj_istore C (lv' := [some (.ref (w.2.1 150)), some (.int x1), some (.int x2), some (.int x3), some (.int y1), some (.int (0 : Int32)), none, none]) dX12_leads_6 (by decide) rfl rfl ?_
  refine cj_weak C (lv' := [some (.ref (w.2.1 150)), none, some (.int x2), some (.int x3), some (.int y1), some (.int (0 : Int32)), none, none]) (cpSub_s (cpSub_n (cpSub_s (cpSub_s (cpSub_s (cpSub_s (cpSub_n (cpSub_n cpSub_nil)))))))) ?_
  exact wX12_leads_8 C hr x2 x3 cpFu y1 (0 : Int32) S h
/-! X12_guards -/
def fX12_guards_78 (x1 : Int32) (x2 : Int32) (x3 : Int32) : Nat → Int32 → Int32 → cpS → Option (Int32 × cpS)
  | 0, _, _, _ => none
  | n + 1, x4, x5, S =>
    if x5 < 0 then (
    if x3 = 0 then (
    cpB (fX12_bitsOf x4 S) fun z1 S2 =>
    some (z1, S2)) else (
    some (x4, S))) else (
    if (x5 &&& ((cpShl (1 : Int32) x1) ||| (cpShl (1 : Int32) x2))) = 0 then (
    cpB (fX12_bitsOf x5 S) fun z3 S4 =>
    cpB (fX12_bitsOf x4 S4) fun z5 S6 =>
    if z5 < z3 then (
    fX12_guards_78 x1 x2 x3 n x4 (x5 + (-1)) S6) else (
    cpB (fX12_leads x1 x2 x5 S6) fun z7 S8 =>
    if z7 = 0 then (
    fX12_guards_78 x1 x2 x3 n x5 (x5 + (-1)) S8) else (
    fX12_guards_78 x1 x2 x3 n x4 (x5 + (-1)) S8))) else (
    fX12_guards_78 x1 x2 x3 n x4 (x5 + (-1)) S))
set_option maxRecDepth 100000 in
set_option maxHeartbeats 4000000 in
theorem wX12_guards_78 (C : cpCx p s m args meth c w A cX12_guards RX12 6) (hr : meth.sig.returnType = (some .int)) {r : Int32 × cpS} (x1 : Int32) (x2 : Int32) (x3 : Int32) : ∀ (n : Nat) (x4 : Int32) (x5 : Int32) (S : cpS), fX12_guards_78 x1 x2 x3 n x4 x5 S = some r → cpJ p l e (cpRm 2) s m args below meth c (MQ below (va_Qi (fun x S' => (x, S') = r) (cpWorld w A) A) args s 0 0 A) w A 6 78 [some (.ref (w.2.1 150)), some (.int x1), some (.int x2), some (.int x3), some (.int x4), some (.int x5)] [] S := by
  intro n
  induction n with
  | zero => intro x4 x5 S h; rw [fX12_guards_78] at h; cases h
  | succ n ih =>
    intro x4 x5 S h
    rw [fX12_guards_78] at h
    refine cj_iload C dX12_guards_78 rfl ?_
    refine cj_if_lt C (tgt := 130) dX12_guards_80 rfl h (fun _ h => ?_) (fun _ h => ?_)
    · refine cj_iload_n C (i := 3) dX12_guards_130 rfl rfl ?_
      refine cj_if_ne C (tgt := 142) dX12_guards_131 rfl h (fun _ h => ?_) (fun _ h => ?_)
      · refine cj_iload C dX12_guards_134 rfl ?_
        refine cj_callSi C (As := [.int x4]) (rest := []) qX12_bitsOf mw_58_3 rfl rfl (Nat.le_of_ble_eq_true rfl) (by decide) dX12_guards_136 h (fun _ _ hf => m_X12_bitsOf l w A x4 S _ hf) (fun z1 S2 h => ?_)
        refine cj_goto C (tgt := 144) dX12_guards_139 rfl ?_
        exact cj_ireturn C hr h dX12_guards_144
      · refine cj_iload C dX12_guards_142 rfl ?_
        exact cj_ireturn C hr h dX12_guards_144
    · refine cj_iload C dX12_guards_83 rfl ?_
      refine cj_iconst C (v := (1 : Int32)) dX12_guards_85 rfl ?_
      refine cj_iload_n C (i := 1) dX12_guards_86 rfl rfl ?_
      refine ck_ishl C dX12_guards_87 ?_
      refine cj_iconst C (v := (1 : Int32)) dX12_guards_88 rfl ?_
      refine cj_iload_n C (i := 2) dX12_guards_89 rfl rfl ?_
      refine ck_ishl C dX12_guards_90 ?_
      refine cj_ior C dX12_guards_91 ?_
      refine cj_iand C dX12_guards_92 ?_
      refine cj_if_ne C (tgt := 124) dX12_guards_93 rfl h (fun _ h => ?_) (fun _ h => ?_)
      · refine cj_iload C dX12_guards_96 rfl ?_
        refine cj_callSi C (As := [.int x5]) (rest := []) qX12_bitsOf mw_58_3 rfl rfl (Nat.le_of_ble_eq_true rfl) (by decide) dX12_guards_98 h (fun _ _ hf => m_X12_bitsOf l w A x5 S _ hf) (fun z3 S4 h => ?_)
        refine cj_iload C dX12_guards_101 rfl ?_
        refine cj_callSi C (As := [.int x4]) (rest := [.int z3]) qX12_bitsOf mw_58_3 rfl rfl (Nat.le_of_ble_eq_true rfl) (by decide) dX12_guards_103 h (fun _ _ hf => m_X12_bitsOf l w A x4 S4 _ hf) (fun z5 S6 h => ?_)
        refine cj_icmp_gt C (tgt := 124) dX12_guards_106 rfl h (fun _ h => ?_) (fun _ h => ?_)
        · refine cj_iinc C (v := (x5 + (-1))) (lv' := [some (.ref (w.2.1 150)), some (.int x1), some (.int x2), some (.int x3), some (.int x4), some (.int (x5 + (-1)))]) dX12_guards_124 rfl rfl (by decide) rfl rfl ?_
          refine cj_goto C (tgt := 78) dX12_guards_127 rfl ?_
          exact ih x4 (x5 + (-1)) S6 h
        · refine cj_aload_n C (i := 0) dX12_guards_109 rfl rfl ?_
          refine cj_iload_n C (i := 1) dX12_guards_110 rfl rfl ?_
          refine cj_iload_n C (i := 2) dX12_guards_111 rfl rfl ?_
          refine cj_iload C dX12_guards_112 rfl ?_
          refine cj_callVi C (As := [.int x1, .int x2, .int x5]) (rest := []) qX12_leads mw_59_3 o_150 rfl rfl rfl (Nat.le_of_ble_eq_true rfl) (by decide) dX12_guards_114 h (fun _ _ hf => m_X12_leads l w A x1 x2 x5 S6 _ hf) (fun z7 S8 h => ?_)
          refine cj_if_ne C (tgt := 124) dX12_guards_117 rfl h (fun _ h => ?_) (fun _ h => ?_)
          · refine cj_iload C dX12_guards_120 rfl ?_
            refine cj_istore C (lv' := [some (.ref (w.2.1 150)), some (.int x1), some (.int x2), some (.int x3), some (.int x5), some (.int x5)]) dX12_guards_122 (by decide) rfl rfl ?_
            refine cj_iinc C (v := (x5 + (-1))) (lv' := [some (.ref (w.2.1 150)), some (.int x1), some (.int x2), some (.int x3), some (.int x5), some (.int (x5 + (-1)))]) dX12_guards_124 rfl rfl (by decide) rfl rfl ?_
            refine cj_goto C (tgt := 78) dX12_guards_127 rfl ?_
            exact ih x5 (x5 + (-1)) S8 h
          · refine cj_iinc C (v := (x5 + (-1))) (lv' := [some (.ref (w.2.1 150)), some (.int x1), some (.int x2), some (.int x3), some (.int x4), some (.int (x5 + (-1)))]) dX12_guards_124 rfl rfl (by decide) rfl rfl ?_
            refine cj_goto C (tgt := 78) dX12_guards_127 rfl ?_
            exact ih x4 (x5 + (-1)) S8 h
      · refine cj_iinc C (v := (x5 + (-1))) (lv' := [some (.ref (w.2.1 150)), some (.int x1), some (.int x2), some (.int x3), some (.int x4), some (.int (x5 + (-1)))]) dX12_guards_124 rfl rfl (by decide) rfl rfl ?_
        refine cj_goto C (tgt := 78) dX12_guards_127 rfl ?_
        exact ih x4 (x5 + (-1)) S h
def fX12_guards (x1 : Int32) (x2 : Int32) (x3 : Int32) (S : cpS) : Option (Int32 × cpS) :=
    cpLt (cpI S 150 0 (0 : Int32)) fun S1 =>
    cpB (fX12_isPlace (Int32.toInt64 x1) S1) fun z2 S3 =>
    if z2 = 0 then (
    some ((-2 : Int32), S3)) else (
    cpB (fX12_isPlace (Int32.toInt64 x2) S3) fun z4 S5 =>
    if z4 = 0 then (
    some ((-2 : Int32), S5)) else (
    cpB (fX12_within (Int32.toInt64 x3) (0 : Int64) (1 : Int64) S5) fun z6 S7 =>
    if z6 = 0 then (
    some ((-2 : Int32), S7)) else (
    if x1 = x2 then (
    some ((-1 : Int32), S7)) else (
    cpB (fX12_areJoined x1 x2 S7) fun z8 S9 =>
    if z8 = 0 then (
    cpLt (((cpShl (1 : Int32) (S9.1 151 1)) - (1 : Int32)) &&& (((cpShl (1 : Int32) x1) ||| (cpShl (1 : Int32) x2)) ^^^ (-1 : Int32))) fun y10 =>
    fX12_guards_78 x1 x2 x3 cpFu y10 y10 S9) else (
    some ((-1 : Int32), S9))))))
set_option maxRecDepth 100000 in
set_option maxHeartbeats 4000000 in
theorem m_X12_guards (l : Launch) (w : cpW) (A : Nat → Prop) (x1 : Int32) (x2 : Int32) (x3 : Int32) (S : cpS) (r : Int32 × cpS) (h : fX12_guards x1 x2 x3 S = some r) : cpMi l yX12_guards cX12_guards 6 ((some .int)) 2 w A [.ref (w.2.1 150), .int x1, .int x2, .int x3] S r := by
  refine cpMi.of (lv := [some (.ref (w.2.1 150)), some (.int x1), some (.int x2), some (.int x3), none, none]) (by decide) (Nat.le_of_ble_eq_true rfl) rfl (fun p e s m args below meth c C hr => ?_)
  replace C : cpCx p s m args meth c w A cX12_guards RX12 6 := C
  rw [fX12_guards] at h
  refine cj_aload_n C (i := 0) dX12_guards_0 rfl rfl ?_
  refine cj_iconst C (v := (0 : Int32)) dX12_guards_1 rfl ?_
  refine cj_put C (j := 0) o_150 rfl pfX12_1 rfl rfl dX12_guards_2 ?_
  refine cj_lets h (fun S1 h => ?_)
  refine cj_aload_n C (i := 0) dX12_guards_5 rfl rfl ?_
  refine cj_iload_n C (i := 1) dX12_guards_6 rfl rfl ?_
  refine cj_i2l C dX12_guards_7 ?_
  refine cj_callVi C (As := [.long (Int32.toInt64 x1)]) (rest := []) qX12_isPlace mw_31_19 o_150 rfl rfl rfl (Nat.le_of_ble_eq_true rfl) (by decide) dX12_guards_8 h (fun _ _ hf => m_X12_isPlace l w A (Int32.toInt64 x1) S1 _ hf) (fun z2 S3 h => ?_)
  refine cj_if_eq C (tgt := 33) dX12_guards_11 rfl h (fun _ h => ?_) (fun _ h => ?_)
  · refine cj_bipush C (v := (-2 : Int32)) dX12_guards_33 rfl ?_
    exact cj_ireturn C hr h dX12_guards_35
  · refine cj_aload_n C (i := 0) dX12_guards_14 rfl rfl ?_
    refine cj_iload_n C (i := 2) dX12_guards_15 rfl rfl ?_
    refine cj_i2l C dX12_guards_16 ?_
    refine cj_callVi C (As := [.long (Int32.toInt64 x2)]) (rest := []) qX12_isPlace mw_31_19 o_150 rfl rfl rfl (Nat.le_of_ble_eq_true rfl) (by decide) dX12_guards_17 h (fun _ _ hf => m_X12_isPlace l w A (Int32.toInt64 x2) S3 _ hf) (fun z4 S5 h => ?_)
    refine cj_if_eq C (tgt := 33) dX12_guards_20 rfl h (fun _ h => ?_) (fun _ h => ?_)
    · refine cj_bipush C (v := (-2 : Int32)) dX12_guards_33 rfl ?_
      exact cj_ireturn C hr h dX12_guards_35
    · refine cj_iload_n C (i := 3) dX12_guards_23 rfl rfl ?_
      refine cj_i2l C dX12_guards_24 ?_
      refine cj_lconst C (v := (0 : Int64)) dX12_guards_25 rfl ?_
      refine cj_lconst C (v := (1 : Int64)) dX12_guards_26 rfl ?_
      refine cj_callSi C (As := [.long (Int32.toInt64 x3), .long (0 : Int64), .long (1 : Int64)]) (rest := []) qX12_within mw_23_15 rfl rfl (Nat.le_of_ble_eq_true rfl) (by decide) dX12_guards_27 h (fun _ _ hf => m_X12_within l w A (Int32.toInt64 x3) (0 : Int64) (1 : Int64) S5 _ hf) (fun z6 S7 h => ?_)
      refine cj_if_ne C (tgt := 36) dX12_guards_30 rfl h (fun _ h => ?_) (fun _ h => ?_)
      · refine cj_bipush C (v := (-2 : Int32)) dX12_guards_33 rfl ?_
        exact cj_ireturn C hr h dX12_guards_35
      · refine cj_iload_n C (i := 1) dX12_guards_36 rfl rfl ?_
        refine cj_iload_n C (i := 2) dX12_guards_37 rfl rfl ?_
        refine cj_icmp_eq C (tgt := 50) dX12_guards_38 rfl h (fun _ h => ?_) (fun _ h => ?_)
        · refine cj_iconst C (v := (-1 : Int32)) dX12_guards_50 rfl ?_
          exact cj_ireturn C hr h dX12_guards_51
        · refine cj_aload_n C (i := 0) dX12_guards_41 rfl rfl ?_
          refine cj_iload_n C (i := 1) dX12_guards_42 rfl rfl ?_
          refine cj_iload_n C (i := 2) dX12_guards_43 rfl rfl ?_
          refine cj_callVi C (As := [.int x1, .int x2]) (rest := []) qX12_areJoined mw_35_16 o_150 rfl rfl rfl (Nat.le_of_ble_eq_true rfl) (by decide) dX12_guards_44 h (fun _ _ hf => m_X12_areJoined l w A x1 x2 S7 _ hf) (fun z8 S9 h => ?_)
          refine cj_if_eq C (tgt := 52) dX12_guards_47 rfl h (fun _ h => ?_) (fun _ h => ?_)
          · refine cj_iconst C (v := (1 : Int32)) dX12_guards_52 rfl ?_
            refine cj_aload_n C (i := 0) dX12_guards_53 rfl rfl ?_
            refine cj_getR C (d := 151) o_150 rfl gfX12_13 dX12_guards_54 ?_
            refine cj_iconst C (v := (1 : Int32)) dX12_guards_57 rfl ?_
            refine cj_ialoadC C (j := 1) o_151 (by decide) (by decide) dX12_guards_58 ?_
            refine ck_ishl C dX12_guards_59 ?_
            refine cj_iconst C (v := (1 : Int32)) dX12_guards_60 rfl ?_
            refine cj_isub C dX12_guards_61 ?_
            refine cj_iconst C (v := (1 : Int32)) dX12_guards_62 rfl ?_
            refine cj_iload_n C (i := 1) dX12_guards_63 rfl rfl ?_
            refine ck_ishl C dX12_guards_64 ?_
            refine cj_iconst C (v := (1 : Int32)) dX12_guards_65 rfl ?_
            refine cj_iload_n C (i := 2) dX12_guards_66 rfl rfl ?_
            refine ck_ishl C dX12_guards_67 ?_
            refine cj_ior C dX12_guards_68 ?_
            refine cj_iconst C (v := (-1 : Int32)) dX12_guards_69 rfl ?_
            refine cj_ixor C dX12_guards_70 ?_
            refine cj_iand C dX12_guards_71 ?_
            refine cj_let h (fun y10 h => ?_)
            refine cj_istore C (lv' := [some (.ref (w.2.1 150)), some (.int x1), some (.int x2), some (.int x3), some (.int y10), none]) dX12_guards_72 (by decide) rfl rfl ?_
            refine cj_iload C dX12_guards_74 rfl ?_
            refine cj_istore C (lv' := [some (.ref (w.2.1 150)), some (.int x1), some (.int x2), some (.int x3), some (.int y10), some (.int y10)]) dX12_guards_76 (by decide) rfl rfl ?_
            exact wX12_guards_78 C hr x1 x2 x3 cpFu y10 y10 S9 h
          · refine cj_iconst C (v := (-1 : Int32)) dX12_guards_50 rfl ?_
            exact cj_ireturn C hr h dX12_guards_51
/-! X12_liftsTo -/
def fX12_liftsTo_5 (x1 : Int32) (x2 : Int32) : Nat → Int32 → Int32 → cpS → Option (Int32 × cpS)
  | 0, _, _, _ => none
  | n + 1, x3, x4, S =>
    if (S.1 151 3) ≤ x4 then (
    some (x3, S)) else (
    if cpIn ((70 : Int32) + x4) 3486 then (
    cpB (fX12_bitsOf ((x1 &&& ((S.1 151 ((70 : Int32) + x4).toNatClampNeg) ^^^ (-1 : Int32))) &&& ((cpShl (1 : Int32) x4) ^^^ (-1 : Int32))) S) fun z1 S2 =>
    if z1 < x2 then (
    cpLt (x3 ||| (0 : Int32)) fun y3 =>
    fX12_liftsTo_5 x1 x2 n y3 (x4 + 1) S2) else (
    cpLt (x3 ||| (cpShl (1 : Int32) x4)) fun y4 =>
    fX12_liftsTo_5 x1 x2 n y4 (x4 + 1) S2)) else none)
set_option maxRecDepth 100000 in
set_option maxHeartbeats 4000000 in
theorem wX12_liftsTo_5 (C : cpCx p s m args meth c w A cX12_liftsTo RX12 5) (hr : meth.sig.returnType = (some .int)) {r : Int32 × cpS} (x1 : Int32) (x2 : Int32) : ∀ (n : Nat) (x3 : Int32) (x4 : Int32) (S : cpS), fX12_liftsTo_5 x1 x2 n x3 x4 S = some r → cpJ p l e (cpRm 1) s m args below meth c (MQ below (va_Qi (fun x S' => (x, S') = r) (cpWorld w A) A) args s 0 0 A) w A 5 5 [some (.ref (w.2.1 150)), some (.int x1), some (.int x2), some (.int x3), some (.int x4)] [] S := by
  intro n
  induction n with
  | zero => intro x3 x4 S h; rw [fX12_liftsTo_5] at h; cases h
  | succ n ih =>
    intro x3 x4 S h
    rw [fX12_liftsTo_5] at h
    refine cj_iload C dX12_liftsTo_5 rfl ?_
    refine cj_aload_n C (i := 0) dX12_liftsTo_7 rfl rfl ?_
    refine cj_getR C (d := 151) o_150 rfl gfX12_13 dX12_liftsTo_8 ?_
    refine cj_iconst C (v := (3 : Int32)) dX12_liftsTo_11 rfl ?_
    refine cj_ialoadC C (j := 3) o_151 (by decide) (by decide) dX12_liftsTo_12 ?_
    refine cj_icmp_ge C (tgt := 61) dX12_liftsTo_13 rfl h (fun _ h => ?_) (fun _ h => ?_)
    · refine cj_iload_n C (i := 3) dX12_liftsTo_61 rfl rfl ?_
      exact cj_ireturn C hr h dX12_liftsTo_62
    · refine cj_iload_n C (i := 3) dX12_liftsTo_16 rfl rfl ?_
      refine cj_iload_n C (i := 1) dX12_liftsTo_17 rfl rfl ?_
      refine cj_aload_n C (i := 0) dX12_liftsTo_18 rfl rfl ?_
      refine cj_getR C (d := 151) o_150 rfl gfX12_13 dX12_liftsTo_19 ?_
      refine cj_bipush C (v := (70 : Int32)) dX12_liftsTo_22 rfl ?_
      refine cj_iload C dX12_liftsTo_24 rfl ?_
      refine cj_iadd C dX12_liftsTo_26 ?_
      refine cj_iaload C o_151 h dX12_liftsTo_27 (fun h => ?_)
      refine cj_iconst C (v := (-1 : Int32)) dX12_liftsTo_28 rfl ?_
      refine cj_ixor C dX12_liftsTo_29 ?_
      refine cj_iand C dX12_liftsTo_30 ?_
      refine cj_iconst C (v := (1 : Int32)) dX12_liftsTo_31 rfl ?_
      refine cj_iload C dX12_liftsTo_32 rfl ?_
      refine ck_ishl C dX12_liftsTo_34 ?_
      refine cj_iconst C (v := (-1 : Int32)) dX12_liftsTo_35 rfl ?_
      refine cj_ixor C dX12_liftsTo_36 ?_
      refine cj_iand C dX12_liftsTo_37 ?_
      refine cj_callSi C (As := [.int ((x1 &&& ((S.1 151 ((70 : Int32) + x4).toNatClampNeg) ^^^ (-1 : Int32))) &&& ((cpShl (1 : Int32) x4) ^^^ (-1 : Int32)))]) (rest := [.int x3]) qX12_bitsOf mw_58_3 rfl rfl (Nat.le_of_ble_eq_true rfl) (by decide) dX12_liftsTo_38 h (fun _ _ hf => m_X12_bitsOf l w A ((x1 &&& ((S.1 151 ((70 : Int32) + x4).toNatClampNeg) ^^^ (-1 : Int32))) &&& ((cpShl (1 : Int32) x4) ^^^ (-1 : Int32))) S _ hf) (fun z1 S2 h => ?_)
      refine cj_iload_n C (i := 2) dX12_liftsTo_41 rfl rfl ?_
      refine cj_icmp_lt C (tgt := 52) dX12_liftsTo_42 rfl h (fun _ h => ?_) (fun _ h => ?_)
      · refine cj_iconst C (v := (0 : Int32)) dX12_liftsTo_52 rfl ?_
        refine cj_ior C dX12_liftsTo_53 ?_
        refine cj_let h (fun y3 h => ?_)
        refine cj_istore_n C (i := 3) (lv' := [some (.ref (w.2.1 150)), some (.int x1), some (.int x2), some (.int y3), some (.int x4)]) dX12_liftsTo_54 rfl (by decide) rfl rfl ?_
        refine cj_iinc C (v := (x4 + 1)) (lv' := [some (.ref (w.2.1 150)), some (.int x1), some (.int x2), some (.int y3), some (.int (x4 + 1))]) dX12_liftsTo_55 rfl rfl (by decide) rfl rfl ?_
        refine cj_goto C (tgt := 5) dX12_liftsTo_58 rfl ?_
        exact ih y3 (x4 + 1) S2 h
      · refine cj_iconst C (v := (1 : Int32)) dX12_liftsTo_45 rfl ?_
        refine cj_iload C dX12_liftsTo_46 rfl ?_
        refine ck_ishl C dX12_liftsTo_48 ?_
        refine cj_goto C (tgt := 53) dX12_liftsTo_49 rfl ?_
        refine cj_ior C dX12_liftsTo_53 ?_
        refine cj_let h (fun y4 h => ?_)
        refine cj_istore_n C (i := 3) (lv' := [some (.ref (w.2.1 150)), some (.int x1), some (.int x2), some (.int y4), some (.int x4)]) dX12_liftsTo_54 rfl (by decide) rfl rfl ?_
        refine cj_iinc C (v := (x4 + 1)) (lv' := [some (.ref (w.2.1 150)), some (.int x1), some (.int x2), some (.int y4), some (.int (x4 + 1))]) dX12_liftsTo_55 rfl rfl (by decide) rfl rfl ?_
        refine cj_goto C (tgt := 5) dX12_liftsTo_58 rfl ?_
        exact ih y4 (x4 + 1) S2 h
def fX12_liftsTo (x1 : Int32) (x2 : Int32) (S : cpS) : Option (Int32 × cpS) :=
    fX12_liftsTo_5 x1 x2 cpFu (0 : Int32) (0 : Int32) S
set_option maxRecDepth 100000 in
set_option maxHeartbeats 4000000 in
theorem m_X12_liftsTo (l : Launch) (w : cpW) (A : Nat → Prop) (x1 : Int32) (x2 : Int32) (S : cpS) (r : Int32 × cpS) (h : fX12_liftsTo x1 x2 S = some r) : cpMi l yX12_liftsTo cX12_liftsTo 5 ((some .int)) 1 w A [.ref (w.2.1 150), .int x1, .int x2] S r := by
  refine cpMi.of (lv := [some (.ref (w.2.1 150)), some (.int x1), some (.int x2), none, none]) (by decide) (Nat.le_of_ble_eq_true rfl) rfl (fun p e s m args below meth c C hr => ?_)
  replace C : cpCx p s m args meth c w A cX12_liftsTo RX12 5 := C
  rw [fX12_liftsTo] at h
  refine cj_iconst C (v := (0 : Int32)) dX12_liftsTo_0 rfl ?_
  refine cj_istore_n C (i := 3) (lv' := [some (.ref (w.2.1 150)), some (.int x1), some (.int x2), some (.int (0 : Int32)), none]) dX12_liftsTo_1 rfl (by decide) rfl rfl ?_
  refine cj_iconst C (v := (0 : Int32)) dX12_liftsTo_2 rfl ?_
  refine cj_istore C (lv' := [some (.ref (w.2.1 150)), some (.int x1), some (.int x2), some (.int (0 : Int32)), some (.int (0 : Int32))]) dX12_liftsTo_3 (by decide) rfl rfl ?_
  exact wX12_liftsTo_5 C hr x1 x2 cpFu (0 : Int32) (0 : Int32) S h
/-! X12_rests -/
def fX12_rests_99 (x1 : Int32) (x2 : Int32) (x3 : Int32) (x5 : Int32) (x6 : Int32) (s0 : Int32) (k46 : Int32 → Int32 → Int32 → Int32 → cpS → Option (Int32 × cpS)) (S : cpS) : Option (Int32 × cpS) :=
    cpB (fX12_bitsOf x6 S) fun z1 S2 =>
    if z1 ≤ x5 then (
    k46 x3 s0 x5 (x6 + 1) S2) else (
    cpB (fX12_bitsOf x6 S2) fun z3 S4 =>
    k46 x3 s0 z3 (x6 + 1) S4)
set_option maxRecDepth 100000 in
set_option maxHeartbeats 4000000 in
theorem wX12_rests_99 (C : cpCx p s m args meth c w A cX12_rests RX12 7) (hr : meth.sig.returnType = (some .int)) {r : Int32 × cpS} (x1 : Int32) (x2 : Int32) (x3 : Int32) (x5 : Int32) (x6 : Int32) (s0 : Int32) {k46 : Int32 → Int32 → Int32 → Int32 → cpS → Option (Int32 × cpS)} (hk46 : ∀ (x3 : Int32) (x4 : Int32) (x5 : Int32) (x6 : Int32) (S : cpS), k46 x3 x4 x5 x6 S = some r → cpJ p l e (cpRm 2) s m args below meth c (MQ below (va_Qi (fun x S' => (x, S') = r) (cpWorld w A) A) args s 0 0 A) w A 7 46 [some (.ref (w.2.1 150)), some (.int x1), some (.int x2), some (.int x3), some (.int x4), some (.int x5), some (.int x6)] [] S) (S : cpS) (h : fX12_rests_99 x1 x2 x3 x5 x6 s0 k46 S = some r) : cpJ p l e (cpRm 2) s m args below meth c (MQ below (va_Qi (fun x S' => (x, S') = r) (cpWorld w A) A) args s 0 0 A) w A 7 99 [some (.ref (w.2.1 150)), some (.int x1), some (.int x2), some (.int x3), none, some (.int x5), some (.int x6)] [.int s0] S := by
  rw [fX12_rests_99] at h
  refine cj_istore C (lv' := [some (.ref (w.2.1 150)), some (.int x1), some (.int x2), some (.int x3), some (.int s0), some (.int x5), some (.int x6)]) dX12_rests_99 (by decide) rfl rfl ?_
  refine cj_iload C dX12_rests_101 rfl ?_
  refine cj_callSi C (As := [.int x6]) (rest := []) qX12_bitsOf mw_58_3 rfl rfl (Nat.le_of_ble_eq_true rfl) (by decide) dX12_rests_103 h (fun _ _ hf => m_X12_bitsOf l w A x6 S _ hf) (fun z1 S2 h => ?_)
  refine cj_iload C dX12_rests_106 rfl ?_
  refine cj_icmp_le C (tgt := 119) dX12_rests_108 rfl h (fun _ h => ?_) (fun _ h => ?_)
  · refine cj_iload C dX12_rests_119 rfl ?_
    refine cj_istore C (lv' := [some (.ref (w.2.1 150)), some (.int x1), some (.int x2), some (.int x3), some (.int s0), some (.int x5), some (.int x6)]) dX12_rests_121 (by decide) rfl rfl ?_
    refine cj_iinc C (v := (x6 + 1)) (lv' := [some (.ref (w.2.1 150)), some (.int x1), some (.int x2), some (.int x3), some (.int s0), some (.int x5), some (.int (x6 + 1))]) dX12_rests_123 rfl rfl (by decide) rfl rfl ?_
    refine cj_goto C (tgt := 46) dX12_rests_126 rfl ?_
    exact hk46 x3 s0 x5 (x6 + 1) S2 h
  · refine cj_iload C dX12_rests_111 rfl ?_
    refine cj_callSi C (As := [.int x6]) (rest := []) qX12_bitsOf mw_58_3 rfl rfl (Nat.le_of_ble_eq_true rfl) (by decide) dX12_rests_113 h (fun _ _ hf => m_X12_bitsOf l w A x6 S2 _ hf) (fun z3 S4 h => ?_)
    refine cj_goto C (tgt := 121) dX12_rests_116 rfl ?_
    refine cj_istore C (lv' := [some (.ref (w.2.1 150)), some (.int x1), some (.int x2), some (.int x3), some (.int s0), some (.int z3), some (.int x6)]) dX12_rests_121 (by decide) rfl rfl ?_
    refine cj_iinc C (v := (x6 + 1)) (lv' := [some (.ref (w.2.1 150)), some (.int x1), some (.int x2), some (.int x3), some (.int s0), some (.int z3), some (.int (x6 + 1))]) dX12_rests_123 rfl rfl (by decide) rfl rfl ?_
    refine cj_goto C (tgt := 46) dX12_rests_126 rfl ?_
    exact hk46 x3 s0 z3 (x6 + 1) S4 h
def fX12_rests_46 (x1 : Int32) (x2 : Int32) : Nat → Int32 → Int32 → Int32 → Int32 → cpS → Option (Int32 × cpS)
  | 0, _, _, _, _, _ => none
  | n + 1, x3, x4, x5, x6, S =>
    cpB (fX12_everybody S) fun z1 S2 =>
    if z1 < x6 then (
    if x2 = 0 then (
    some (x3, S2)) else (
    if x2 = (1 : Int32) then (
    some (x4, S2)) else (
    some (x5, S2)))) else (
    cpB (fX12_liftsTo x6 x1 S2) fun z3 S4 =>
    if z3 = x6 then (
    if x4 = (-1 : Int32) then (
    cpB (fX12_bitsOf x6 S4) fun z5 S6 =>
    fX12_rests_99 x1 x2 (x3 + 1) x5 x6 z5 (fX12_rests_46 x1 x2 n) S6) else (
    cpB (fX12_bitsOf x6 S4) fun z7 S8 =>
    if x4 ≤ z7 then (
    fX12_rests_99 x1 x2 (x3 + 1) x5 x6 x4 (fX12_rests_46 x1 x2 n) S8) else (
    cpB (fX12_bitsOf x6 S8) fun z9 S10 =>
    fX12_rests_99 x1 x2 (x3 + 1) x5 x6 z9 (fX12_rests_46 x1 x2 n) S10))) else (
    fX12_rests_46 x1 x2 n x3 x4 x5 (x6 + 1) S4))
set_option maxRecDepth 100000 in
set_option maxHeartbeats 4000000 in
theorem wX12_rests_46 (C : cpCx p s m args meth c w A cX12_rests RX12 7) (hr : meth.sig.returnType = (some .int)) {r : Int32 × cpS} (x1 : Int32) (x2 : Int32) : ∀ (n : Nat) (x3 : Int32) (x4 : Int32) (x5 : Int32) (x6 : Int32) (S : cpS), fX12_rests_46 x1 x2 n x3 x4 x5 x6 S = some r → cpJ p l e (cpRm 2) s m args below meth c (MQ below (va_Qi (fun x S' => (x, S') = r) (cpWorld w A) A) args s 0 0 A) w A 7 46 [some (.ref (w.2.1 150)), some (.int x1), some (.int x2), some (.int x3), some (.int x4), some (.int x5), some (.int x6)] [] S := by
  intro n
  induction n with
  | zero => intro x3 x4 x5 x6 S h; rw [fX12_rests_46] at h; cases h
  | succ n ih =>
    intro x3 x4 x5 x6 S h
    rw [fX12_rests_46] at h
    refine cj_iload C dX12_rests_46 rfl ?_
    refine cj_aload_n C (i := 0) dX12_rests_48 rfl rfl ?_
    refine cj_callVi C (As := []) (rest := [.int x6]) qX12_everybody mw_56_7 o_150 rfl rfl rfl (Nat.le_of_ble_eq_true rfl) (by decide) dX12_rests_49 h (fun _ _ hf => m_X12_everybody l w A S _ hf) (fun z1 S2 h => ?_)
    refine cj_icmp_gt C (tgt := 129) dX12_rests_52 rfl h (fun _ h => ?_) (fun _ h => ?_)
    · refine cj_iload_n C (i := 2) dX12_rests_129 rfl rfl ?_
      refine cj_if_ne C (tgt := 137) dX12_rests_130 rfl h (fun _ h => ?_) (fun _ h => ?_)
      · refine cj_iload_n C (i := 3) dX12_rests_133 rfl rfl ?_
        refine cj_goto C (tgt := 149) dX12_rests_134 rfl ?_
        exact cj_ireturn C hr h dX12_rests_149
      · refine cj_iload_n C (i := 2) dX12_rests_137 rfl rfl ?_
        refine cj_iconst C (v := (1 : Int32)) dX12_rests_138 rfl ?_
        refine cj_icmp_ne C (tgt := 147) dX12_rests_139 rfl h (fun _ h => ?_) (fun _ h => ?_)
        · refine cj_iload C dX12_rests_142 rfl ?_
          refine cj_goto C (tgt := 149) dX12_rests_144 rfl ?_
          exact cj_ireturn C hr h dX12_rests_149
        · refine cj_iload C dX12_rests_147 rfl ?_
          exact cj_ireturn C hr h dX12_rests_149
    · refine cj_aload_n C (i := 0) dX12_rests_55 rfl rfl ?_
      refine cj_iload C dX12_rests_56 rfl ?_
      refine cj_iload_n C (i := 1) dX12_rests_58 rfl rfl ?_
      refine cj_callVi C (As := [.int x6, .int x1]) (rest := []) qX12_liftsTo mw_60_11 o_150 rfl rfl rfl (Nat.le_of_ble_eq_true rfl) (by decide) dX12_rests_59 h (fun _ _ hf => m_X12_liftsTo l w A x6 x1 S2 _ hf) (fun z3 S4 h => ?_)
      refine cj_iload C dX12_rests_62 rfl ?_
      refine cj_icmp_eq C (tgt := 70) dX12_rests_64 rfl h (fun _ h => ?_) (fun _ h => ?_)
      · refine cj_iinc C (v := (x3 + 1)) (lv' := [some (.ref (w.2.1 150)), some (.int x1), some (.int x2), some (.int (x3 + 1)), some (.int x4), some (.int x5), some (.int x6)]) dX12_rests_70 rfl rfl (by decide) rfl rfl ?_
        refine cj_iload C dX12_rests_73 rfl ?_
        refine cj_iconst C (v := (-1 : Int32)) dX12_rests_75 rfl ?_
        refine cj_icmp_eq C (tgt := 89) dX12_rests_76 rfl h (fun _ h => ?_) (fun _ h => ?_)
        · refine cj_iload C dX12_rests_89 rfl ?_
          refine cj_callSi C (As := [.int x6]) (rest := []) qX12_bitsOf mw_58_3 rfl rfl (Nat.le_of_ble_eq_true rfl) (by decide) dX12_rests_91 h (fun _ _ hf => m_X12_bitsOf l w A x6 S4 _ hf) (fun z5 S6 h => ?_)
          refine cj_goto C (tgt := 99) dX12_rests_94 rfl ?_
          refine cj_weak C (lv' := [some (.ref (w.2.1 150)), some (.int x1), some (.int x2), some (.int (x3 + 1)), none, some (.int x5), some (.int x6)]) (cpSub_s (cpSub_s (cpSub_s (cpSub_s (cpSub_n (cpSub_s (cpSub_s cpSub_nil))))))) ?_
          exact wX12_rests_99 C hr x1 x2 (x3 + 1) x5 x6 z5 ih S6 h
        · refine cj_iload C dX12_rests_79 rfl ?_
          refine cj_callSi C (As := [.int x6]) (rest := []) qX12_bitsOf mw_58_3 rfl rfl (Nat.le_of_ble_eq_true rfl) (by decide) dX12_rests_81 h (fun _ _ hf => m_X12_bitsOf l w A x6 S4 _ hf) (fun z7 S8 h => ?_)
          refine cj_iload C dX12_rests_84 rfl ?_
          refine cj_icmp_ge C (tgt := 97) dX12_rests_86 rfl h (fun _ h => ?_) (fun _ h => ?_)
          · refine cj_iload C dX12_rests_97 rfl ?_
            refine cj_weak C (lv' := [some (.ref (w.2.1 150)), some (.int x1), some (.int x2), some (.int (x3 + 1)), none, some (.int x5), some (.int x6)]) (cpSub_s (cpSub_s (cpSub_s (cpSub_s (cpSub_n (cpSub_s (cpSub_s cpSub_nil))))))) ?_
            exact wX12_rests_99 C hr x1 x2 (x3 + 1) x5 x6 x4 ih S8 h
          · refine cj_iload C dX12_rests_89 rfl ?_
            refine cj_callSi C (As := [.int x6]) (rest := []) qX12_bitsOf mw_58_3 rfl rfl (Nat.le_of_ble_eq_true rfl) (by decide) dX12_rests_91 h (fun _ _ hf => m_X12_bitsOf l w A x6 S8 _ hf) (fun z9 S10 h => ?_)
            refine cj_goto C (tgt := 99) dX12_rests_94 rfl ?_
            refine cj_weak C (lv' := [some (.ref (w.2.1 150)), some (.int x1), some (.int x2), some (.int (x3 + 1)), none, some (.int x5), some (.int x6)]) (cpSub_s (cpSub_s (cpSub_s (cpSub_s (cpSub_n (cpSub_s (cpSub_s cpSub_nil))))))) ?_
            exact wX12_rests_99 C hr x1 x2 (x3 + 1) x5 x6 z9 ih S10 h
      · refine cj_goto C (tgt := 123) dX12_rests_67 rfl ?_
        refine cj_iinc C (v := (x6 + 1)) (lv' := [some (.ref (w.2.1 150)), some (.int x1), some (.int x2), some (.int x3), some (.int x4), some (.int x5), some (.int (x6 + 1))]) dX12_rests_123 rfl rfl (by decide) rfl rfl ?_
        refine cj_goto C (tgt := 46) dX12_rests_126 rfl ?_
        exact ih x3 x4 x5 (x6 + 1) S4 h
def fX12_rests (x1 : Int32) (x2 : Int32) (S : cpS) : Option (Int32 × cpS) :=
    cpLt (cpI S 150 0 (0 : Int32)) fun S1 =>
    cpB (fX12_within (Int32.toInt64 x2) (0 : Int64) (2 : Int64) S1) fun z2 S3 =>
    if z2 = 0 then (
    some ((-2 : Int32), S3)) else (
    cpB (fX12_within (Int32.toInt64 x1) (0 : Int64) (8 : Int64) S3) fun z4 S5 =>
    if z4 = 0 then (
    some ((-3 : Int32), S5)) else (
    fX12_rests_46 x1 x2 cpFu (0 : Int32) (-1 : Int32) (-1 : Int32) (0 : Int32) S5))
set_option maxRecDepth 100000 in
set_option maxHeartbeats 4000000 in
theorem m_X12_rests (l : Launch) (w : cpW) (A : Nat → Prop) (x1 : Int32) (x2 : Int32) (S : cpS) (r : Int32 × cpS) (h : fX12_rests x1 x2 S = some r) : cpMi l yX12_rests cX12_rests 7 ((some .int)) 2 w A [.ref (w.2.1 150), .int x1, .int x2] S r := by
  refine cpMi.of (lv := [some (.ref (w.2.1 150)), some (.int x1), some (.int x2), none, none, none, none]) (by decide) (Nat.le_of_ble_eq_true rfl) rfl (fun p e s m args below meth c C hr => ?_)
  replace C : cpCx p s m args meth c w A cX12_rests RX12 7 := C
  rw [fX12_rests] at h
  refine cj_aload_n C (i := 0) dX12_rests_0 rfl rfl ?_
  refine cj_iconst C (v := (0 : Int32)) dX12_rests_1 rfl ?_
  refine cj_put C (j := 0) o_150 rfl pfX12_1 rfl rfl dX12_rests_2 ?_
  refine cj_lets h (fun S1 h => ?_)
  refine cj_iload_n C (i := 2) dX12_rests_5 rfl rfl ?_
  refine cj_i2l C dX12_rests_6 ?_
  refine cj_lconst C (v := (0 : Int64)) dX12_rests_7 rfl ?_
  refine cj_ldc2 C (v := (2 : Int64)) mw_31_1 dX12_rests_8 ?_
  refine cj_callSi C (As := [.long (Int32.toInt64 x2), .long (0 : Int64), .long (2 : Int64)]) (rest := []) qX12_within mw_23_15 rfl rfl (Nat.le_of_ble_eq_true rfl) (by decide) dX12_rests_11 h (fun _ _ hf => m_X12_within l w A (Int32.toInt64 x2) (0 : Int64) (2 : Int64) S1 _ hf) (fun z2 S3 h => ?_)
  refine cj_if_ne C (tgt := 20) dX12_rests_14 rfl h (fun _ h => ?_) (fun _ h => ?_)
  · refine cj_bipush C (v := (-2 : Int32)) dX12_rests_17 rfl ?_
    exact cj_ireturn C hr h dX12_rests_19
  · refine cj_iload_n C (i := 1) dX12_rests_20 rfl rfl ?_
    refine cj_i2l C dX12_rests_21 ?_
    refine cj_lconst C (v := (0 : Int64)) dX12_rests_22 rfl ?_
    refine cj_ldc2 C (v := (8 : Int64)) mw_51_20 dX12_rests_23 ?_
    refine cj_callSi C (As := [.long (Int32.toInt64 x1), .long (0 : Int64), .long (8 : Int64)]) (rest := []) qX12_within mw_23_15 rfl rfl (Nat.le_of_ble_eq_true rfl) (by decide) dX12_rests_26 h (fun _ _ hf => m_X12_within l w A (Int32.toInt64 x1) (0 : Int64) (8 : Int64) S3 _ hf) (fun z4 S5 h => ?_)
    refine cj_if_ne C (tgt := 35) dX12_rests_29 rfl h (fun _ h => ?_) (fun _ h => ?_)
    · refine cj_bipush C (v := (-3 : Int32)) dX12_rests_32 rfl ?_
      exact cj_ireturn C hr h dX12_rests_34
    · refine cj_iconst C (v := (0 : Int32)) dX12_rests_35 rfl ?_
      refine cj_istore_n C (i := 3) (lv' := [some (.ref (w.2.1 150)), some (.int x1), some (.int x2), some (.int (0 : Int32)), none, none, none]) dX12_rests_36 rfl (by decide) rfl rfl ?_
      refine cj_iconst C (v := (-1 : Int32)) dX12_rests_37 rfl ?_
      refine cj_istore C (lv' := [some (.ref (w.2.1 150)), some (.int x1), some (.int x2), some (.int (0 : Int32)), some (.int (-1 : Int32)), none, none]) dX12_rests_38 (by decide) rfl rfl ?_
      refine cj_iconst C (v := (-1 : Int32)) dX12_rests_40 rfl ?_
      refine cj_istore C (lv' := [some (.ref (w.2.1 150)), some (.int x1), some (.int x2), some (.int (0 : Int32)), some (.int (-1 : Int32)), some (.int (-1 : Int32)), none]) dX12_rests_41 (by decide) rfl rfl ?_
      refine cj_iconst C (v := (0 : Int32)) dX12_rests_43 rfl ?_
      refine cj_istore C (lv' := [some (.ref (w.2.1 150)), some (.int x1), some (.int x2), some (.int (0 : Int32)), some (.int (-1 : Int32)), some (.int (-1 : Int32)), some (.int (0 : Int32))]) dX12_rests_44 (by decide) rfl rfl ?_
      exact wX12_rests_46 C hr x1 x2 cpFu (0 : Int32) (-1 : Int32) (-1 : Int32) (0 : Int32) S5 h
/-! X12_lifting -/
def fX12_lifting_55 (x2 : Int32) (x3 : Int32) : Nat → Int32 → Int32 → cpS → Option (Int32 × cpS)
  | 0, _, _, _ => none
  | n + 1, x4, x5, S =>
    if x3 ≤ x5 then (
    some (x4, S)) else (
    cpB (fX12_liftsTo x4 x2 S) fun z1 S2 =>
    fX12_lifting_55 x2 x3 n z1 (x5 + 1) S2)
set_option maxRecDepth 100000 in
set_option maxHeartbeats 4000000 in
theorem wX12_lifting_55 (C : cpCx p s m args meth c w A cX12_lifting RX12 6) (hr : meth.sig.returnType = (some .int)) {r : Int32 × cpS} (x2 : Int32) (x3 : Int32) : ∀ (n : Nat) (x4 : Int32) (x5 : Int32) (S : cpS), fX12_lifting_55 x2 x3 n x4 x5 S = some r → cpJ p l e (cpRm 2) s m args below meth c (MQ below (va_Qi (fun x S' => (x, S') = r) (cpWorld w A) A) args s 0 0 A) w A 6 55 [some (.ref (w.2.1 150)), none, some (.int x2), some (.int x3), some (.int x4), some (.int x5)] [] S := by
  intro n
  induction n with
  | zero => intro x4 x5 S h; rw [fX12_lifting_55] at h; cases h
  | succ n ih =>
    intro x4 x5 S h
    rw [fX12_lifting_55] at h
    refine cj_iload C dX12_lifting_55 rfl ?_
    refine cj_iload_n C (i := 3) dX12_lifting_57 rfl rfl ?_
    refine cj_icmp_ge C (tgt := 76) dX12_lifting_58 rfl h (fun _ h => ?_) (fun _ h => ?_)
    · refine cj_iload C dX12_lifting_76 rfl ?_
      exact cj_ireturn C hr h dX12_lifting_78
    · refine cj_aload_n C (i := 0) dX12_lifting_61 rfl rfl ?_
      refine cj_iload C dX12_lifting_62 rfl ?_
      refine cj_iload_n C (i := 2) dX12_lifting_64 rfl rfl ?_
      refine cj_callVi C (As := [.int x4, .int x2]) (rest := []) qX12_liftsTo mw_60_11 o_150 rfl rfl rfl (Nat.le_of_ble_eq_true rfl) (by decide) dX12_lifting_65 h (fun _ _ hf => m_X12_liftsTo l w A x4 x2 S _ hf) (fun z1 S2 h => ?_)
      refine cj_istore C (lv' := [some (.ref (w.2.1 150)), none, some (.int x2), some (.int x3), some (.int z1), some (.int x5)]) dX12_lifting_68 (by decide) rfl rfl ?_
      refine cj_iinc C (v := (x5 + 1)) (lv' := [some (.ref (w.2.1 150)), none, some (.int x2), some (.int x3), some (.int z1), some (.int (x5 + 1))]) dX12_lifting_70 rfl rfl (by decide) rfl rfl ?_
      refine cj_goto C (tgt := 55) dX12_lifting_73 rfl ?_
      exact ih z1 (x5 + 1) S2 h
def fX12_lifting (x1 : Int32) (x2 : Int32) (x3 : Int32) (S : cpS) : Option (Int32 × cpS) :=
    cpLt (cpI S 150 0 (0 : Int32)) fun S1 =>
    cpB (fX12_everybody S1) fun z2 S3 =>
    cpB (fX12_within (Int32.toInt64 x1) (0 : Int64) (Int32.toInt64 z2) S3) fun z4 S5 =>
    if z4 = 0 then (
    some ((-2 : Int32), S5)) else (
    cpB (fX12_within (Int32.toInt64 x2) (0 : Int64) (8 : Int64) S5) fun z6 S7 =>
    if z6 = 0 then (
    some ((-3 : Int32), S7)) else (
    cpB (fX12_within (Int32.toInt64 x3) (0 : Int64) (999 : Int64) S7) fun z8 S9 =>
    if z8 = 0 then (
    some ((-3 : Int32), S9)) else (
    fX12_lifting_55 x2 x3 cpFu x1 (0 : Int32) S9)))
set_option maxRecDepth 100000 in
set_option maxHeartbeats 4000000 in
theorem m_X12_lifting (l : Launch) (w : cpW) (A : Nat → Prop) (x1 : Int32) (x2 : Int32) (x3 : Int32) (S : cpS) (r : Int32 × cpS) (h : fX12_lifting x1 x2 x3 S = some r) : cpMi l yX12_lifting cX12_lifting 6 ((some .int)) 2 w A [.ref (w.2.1 150), .int x1, .int x2, .int x3] S r := by
  refine cpMi.of (lv := [some (.ref (w.2.1 150)), some (.int x1), some (.int x2), some (.int x3), none, none]) (by decide) (Nat.le_of_ble_eq_true rfl) rfl (fun p e s m args below meth c C hr => ?_)
  replace C : cpCx p s m args meth c w A cX12_lifting RX12 6 := C
  rw [fX12_lifting] at h
  refine cj_aload_n C (i := 0) dX12_lifting_0 rfl rfl ?_
  refine cj_iconst C (v := (0 : Int32)) dX12_lifting_1 rfl ?_
  refine cj_put C (j := 0) o_150 rfl pfX12_1 rfl rfl dX12_lifting_2 ?_
  refine cj_lets h (fun S1 h => ?_)
  refine cj_iload_n C (i := 1) dX12_lifting_5 rfl rfl ?_
  refine cj_i2l C dX12_lifting_6 ?_
  refine cj_lconst C (v := (0 : Int64)) dX12_lifting_7 rfl ?_
  refine cj_aload_n C (i := 0) dX12_lifting_8 rfl rfl ?_
  refine cj_callVi C (As := []) (rest := [.long (0 : Int64), .long (Int32.toInt64 x1)]) qX12_everybody mw_56_7 o_150 rfl rfl rfl (Nat.le_of_ble_eq_true rfl) (by decide) dX12_lifting_9 h (fun _ _ hf => m_X12_everybody l w A S1 _ hf) (fun z2 S3 h => ?_)
  refine cj_i2l C dX12_lifting_12 ?_
  refine cj_callSi C (As := [.long (Int32.toInt64 x1), .long (0 : Int64), .long (Int32.toInt64 z2)]) (rest := []) qX12_within mw_23_15 rfl rfl (Nat.le_of_ble_eq_true rfl) (by decide) dX12_lifting_13 h (fun _ _ hf => m_X12_within l w A (Int32.toInt64 x1) (0 : Int64) (Int32.toInt64 z2) S3 _ hf) (fun z4 S5 h => ?_)
  refine cj_if_ne C (tgt := 22) dX12_lifting_16 rfl h (fun _ h => ?_) (fun _ h => ?_)
  · refine cj_bipush C (v := (-2 : Int32)) dX12_lifting_19 rfl ?_
    exact cj_ireturn C hr h dX12_lifting_21
  · refine cj_iload_n C (i := 2) dX12_lifting_22 rfl rfl ?_
    refine cj_i2l C dX12_lifting_23 ?_
    refine cj_lconst C (v := (0 : Int64)) dX12_lifting_24 rfl ?_
    refine cj_ldc2 C (v := (8 : Int64)) mw_51_20 dX12_lifting_25 ?_
    refine cj_callSi C (As := [.long (Int32.toInt64 x2), .long (0 : Int64), .long (8 : Int64)]) (rest := []) qX12_within mw_23_15 rfl rfl (Nat.le_of_ble_eq_true rfl) (by decide) dX12_lifting_28 h (fun _ _ hf => m_X12_within l w A (Int32.toInt64 x2) (0 : Int64) (8 : Int64) S5 _ hf) (fun z6 S7 h => ?_)
    refine cj_if_eq C (tgt := 46) dX12_lifting_31 rfl h (fun _ h => ?_) (fun _ h => ?_)
    · refine cj_bipush C (v := (-3 : Int32)) dX12_lifting_46 rfl ?_
      exact cj_ireturn C hr h dX12_lifting_48
    · refine cj_iload_n C (i := 3) dX12_lifting_34 rfl rfl ?_
      refine cj_i2l C dX12_lifting_35 ?_
      refine cj_lconst C (v := (0 : Int64)) dX12_lifting_36 rfl ?_
      refine cj_ldc2 C (v := (999 : Int64)) mw_53_20 dX12_lifting_37 ?_
      refine cj_callSi C (As := [.long (Int32.toInt64 x3), .long (0 : Int64), .long (999 : Int64)]) (rest := []) qX12_within mw_23_15 rfl rfl (Nat.le_of_ble_eq_true rfl) (by decide) dX12_lifting_40 h (fun _ _ hf => m_X12_within l w A (Int32.toInt64 x3) (0 : Int64) (999 : Int64) S7 _ hf) (fun z8 S9 h => ?_)
      refine cj_if_ne C (tgt := 49) dX12_lifting_43 rfl h (fun _ h => ?_) (fun _ h => ?_)
      · refine cj_bipush C (v := (-3 : Int32)) dX12_lifting_46 rfl ?_
        exact cj_ireturn C hr h dX12_lifting_48
      · refine cj_iload_n C (i := 1) dX12_lifting_49 rfl rfl ?_
        refine cj_istore C (lv' := [some (.ref (w.2.1 150)), some (.int x1), some (.int x2), some (.int x3), some (.int x1), none]) dX12_lifting_50 (by decide) rfl rfl ?_
        refine cj_iconst C (v := (0 : Int32)) dX12_lifting_52 rfl ?_
        refine cj_istore C (lv' := [some (.ref (w.2.1 150)), some (.int x1), some (.int x2), some (.int x3), some (.int x1), some (.int (0 : Int32))]) dX12_lifting_53 (by decide) rfl rfl ?_
        refine cj_weak C (lv' := [some (.ref (w.2.1 150)), none, some (.int x2), some (.int x3), some (.int x1), some (.int (0 : Int32))]) (cpSub_s (cpSub_n (cpSub_s (cpSub_s (cpSub_s (cpSub_s cpSub_nil)))))) ?_
        exact wX12_lifting_55 C hr x2 x3 cpFu x1 (0 : Int32) S9 h
/-! X12_heardTo -/
def fX12_heardTo_4 (x1 : Int32) : Nat → Int32 → Int32 → cpS → Option (Int32 × cpS)
  | 0, _, _, _ => none
  | n + 1, x2, x3, S =>
    if (S.1 151 3) ≤ x3 then (
    some (x2, S)) else (
    cpB (fX12_isIn (Int32.toInt64 x1) x3 S) fun z1 S2 =>
    if z1 = 0 then (
    cpLt (x2 ||| (0 : Int32)) fun y3 =>
    fX12_heardTo_4 x1 n y3 (x3 + 1) S2) else (
    cpB (fX12_everybody S2) fun z4 S5 =>
    if cpIn ((70 : Int32) + x3) 3486 then (
    cpLt (x2 ||| (z4 &&& ((S5.1 151 ((70 : Int32) + x3).toNatClampNeg) ^^^ (-1 : Int32)))) fun y6 =>
    fX12_heardTo_4 x1 n y6 (x3 + 1) S5) else none))
set_option maxRecDepth 100000 in
set_option maxHeartbeats 4000000 in
theorem wX12_heardTo_4 (C : cpCx p s m args meth c w A cX12_heardTo RX12 4) (hr : meth.sig.returnType = (some .int)) {r : Int32 × cpS} (x1 : Int32) : ∀ (n : Nat) (x2 : Int32) (x3 : Int32) (S : cpS), fX12_heardTo_4 x1 n x2 x3 S = some r → cpJ p l e (cpRm 1) s m args below meth c (MQ below (va_Qi (fun x S' => (x, S') = r) (cpWorld w A) A) args s 0 0 A) w A 4 4 [some (.ref (w.2.1 150)), some (.int x1), some (.int x2), some (.int x3)] [] S := by
  intro n
  induction n with
  | zero => intro x2 x3 S h; rw [fX12_heardTo_4] at h; cases h
  | succ n ih =>
    intro x2 x3 S h
    rw [fX12_heardTo_4] at h
    refine cj_iload_n C (i := 3) dX12_heardTo_4 rfl rfl ?_
    refine cj_aload_n C (i := 0) dX12_heardTo_5 rfl rfl ?_
    refine cj_getR C (d := 151) o_150 rfl gfX12_13 dX12_heardTo_6 ?_
    refine cj_iconst C (v := (3 : Int32)) dX12_heardTo_9 rfl ?_
    refine cj_ialoadC C (j := 3) o_151 (by decide) (by decide) dX12_heardTo_10 ?_
    refine cj_icmp_ge C (tgt := 52) dX12_heardTo_11 rfl h (fun _ h => ?_) (fun _ h => ?_)
    · refine cj_iload_n C (i := 2) dX12_heardTo_52 rfl rfl ?_
      exact cj_ireturn C hr h dX12_heardTo_53
    · refine cj_iload_n C (i := 2) dX12_heardTo_14 rfl rfl ?_
      refine cj_iload_n C (i := 1) dX12_heardTo_15 rfl rfl ?_
      refine cj_i2l C dX12_heardTo_16 ?_
      refine cj_iload_n C (i := 3) dX12_heardTo_17 rfl rfl ?_
      refine cj_callSi C (As := [.long (Int32.toInt64 x1), .int x3]) (rest := [.int x2]) qX12_isIn mw_36_4 rfl rfl (Nat.le_of_ble_eq_true rfl) (by decide) dX12_heardTo_18 h (fun _ _ hf => m_X12_isIn l w A (Int32.toInt64 x1) x3 S _ hf) (fun z1 S2 h => ?_)
      refine cj_if_eq C (tgt := 43) dX12_heardTo_21 rfl h (fun _ h => ?_) (fun _ h => ?_)
      · refine cj_iconst C (v := (0 : Int32)) dX12_heardTo_43 rfl ?_
        refine cj_ior C dX12_heardTo_44 ?_
        refine cj_let h (fun y3 h => ?_)
        refine cj_istore_n C (i := 2) (lv' := [some (.ref (w.2.1 150)), some (.int x1), some (.int y3), some (.int x3)]) dX12_heardTo_45 rfl (by decide) rfl rfl ?_
        refine cj_iinc C (v := (x3 + 1)) (lv' := [some (.ref (w.2.1 150)), some (.int x1), some (.int y3), some (.int (x3 + 1))]) dX12_heardTo_46 rfl rfl (by decide) rfl rfl ?_
        refine cj_goto C (tgt := 4) dX12_heardTo_49 rfl ?_
        exact ih y3 (x3 + 1) S2 h
      · refine cj_aload_n C (i := 0) dX12_heardTo_24 rfl rfl ?_
        refine cj_callVi C (As := []) (rest := [.int x2]) qX12_everybody mw_56_7 o_150 rfl rfl rfl (Nat.le_of_ble_eq_true rfl) (by decide) dX12_heardTo_25 h (fun _ _ hf => m_X12_everybody l w A S2 _ hf) (fun z4 S5 h => ?_)
        refine cj_aload_n C (i := 0) dX12_heardTo_28 rfl rfl ?_
        refine cj_getR C (d := 151) o_150 rfl gfX12_13 dX12_heardTo_29 ?_
        refine cj_bipush C (v := (70 : Int32)) dX12_heardTo_32 rfl ?_
        refine cj_iload_n C (i := 3) dX12_heardTo_34 rfl rfl ?_
        refine cj_iadd C dX12_heardTo_35 ?_
        refine cj_iaload C o_151 h dX12_heardTo_36 (fun h => ?_)
        refine cj_iconst C (v := (-1 : Int32)) dX12_heardTo_37 rfl ?_
        refine cj_ixor C dX12_heardTo_38 ?_
        refine cj_iand C dX12_heardTo_39 ?_
        refine cj_goto C (tgt := 44) dX12_heardTo_40 rfl ?_
        refine cj_ior C dX12_heardTo_44 ?_
        refine cj_let h (fun y6 h => ?_)
        refine cj_istore_n C (i := 2) (lv' := [some (.ref (w.2.1 150)), some (.int x1), some (.int y6), some (.int x3)]) dX12_heardTo_45 rfl (by decide) rfl rfl ?_
        refine cj_iinc C (v := (x3 + 1)) (lv' := [some (.ref (w.2.1 150)), some (.int x1), some (.int y6), some (.int (x3 + 1))]) dX12_heardTo_46 rfl rfl (by decide) rfl rfl ?_
        refine cj_goto C (tgt := 4) dX12_heardTo_49 rfl ?_
        exact ih y6 (x3 + 1) S5 h
def fX12_heardTo (x1 : Int32) (S : cpS) : Option (Int32 × cpS) :=
    fX12_heardTo_4 x1 cpFu x1 (0 : Int32) S
set_option maxRecDepth 100000 in
set_option maxHeartbeats 4000000 in
theorem m_X12_heardTo (l : Launch) (w : cpW) (A : Nat → Prop) (x1 : Int32) (S : cpS) (r : Int32 × cpS) (h : fX12_heardTo x1 S = some r) : cpMi l yX12_heardTo cX12_heardTo 4 ((some .int)) 1 w A [.ref (w.2.1 150), .int x1] S r := by
  refine cpMi.of (lv := [some (.ref (w.2.1 150)), some (.int x1), none, none]) (by decide) (Nat.le_of_ble_eq_true rfl) rfl (fun p e s m args below meth c C hr => ?_)
  replace C : cpCx p s m args meth c w A cX12_heardTo RX12 4 := C
  rw [fX12_heardTo] at h
  refine cj_iload_n C (i := 1) dX12_heardTo_0 rfl rfl ?_
  refine cj_istore_n C (i := 2) (lv' := [some (.ref (w.2.1 150)), some (.int x1), some (.int x1), none]) dX12_heardTo_1 rfl (by decide) rfl rfl ?_
  refine cj_iconst C (v := (0 : Int32)) dX12_heardTo_2 rfl ?_
  refine cj_istore_n C (i := 3) (lv' := [some (.ref (w.2.1 150)), some (.int x1), some (.int x1), some (.int (0 : Int32))]) dX12_heardTo_3 rfl (by decide) rfl rfl ?_
  exact wX12_heardTo_4 C hr x1 cpFu x1 (0 : Int32) S h
/-! X12_talk -/
def fX12_talk_39 (x2 : Int32) : Nat → Int32 → Int32 → cpS → Option (Int32 × cpS)
  | 0, _, _, _ => none
  | n + 1, x3, x4, S =>
    if x2 ≤ x4 then (
    some (x3, S)) else (
    cpB (fX12_heardTo x3 S) fun z1 S2 =>
    fX12_talk_39 x2 n z1 (x4 + 1) S2)
set_option maxRecDepth 100000 in
set_option maxHeartbeats 4000000 in
theorem wX12_talk_39 (C : cpCx p s m args meth c w A cX12_talk RX12 5) (hr : meth.sig.returnType = (some .int)) {r : Int32 × cpS} (x2 : Int32) : ∀ (n : Nat) (x3 : Int32) (x4 : Int32) (S : cpS), fX12_talk_39 x2 n x3 x4 S = some r → cpJ p l e (cpRm 2) s m args below meth c (MQ below (va_Qi (fun x S' => (x, S') = r) (cpWorld w A) A) args s 0 0 A) w A 5 39 [some (.ref (w.2.1 150)), none, some (.int x2), some (.int x3), some (.int x4)] [] S := by
  intro n
  induction n with
  | zero => intro x3 x4 S h; rw [fX12_talk_39] at h; cases h
  | succ n ih =>
    intro x3 x4 S h
    rw [fX12_talk_39] at h
    refine cj_iload C dX12_talk_39 rfl ?_
    refine cj_iload_n C (i := 2) dX12_talk_41 rfl rfl ?_
    refine cj_icmp_ge C (tgt := 57) dX12_talk_42 rfl h (fun _ h => ?_) (fun _ h => ?_)
    · refine cj_iload_n C (i := 3) dX12_talk_57 rfl rfl ?_
      exact cj_ireturn C hr h dX12_talk_58
    · refine cj_aload_n C (i := 0) dX12_talk_45 rfl rfl ?_
      refine cj_iload_n C (i := 3) dX12_talk_46 rfl rfl ?_
      refine cj_callVi C (As := [.int x3]) (rest := []) qX12_heardTo mw_61_16 o_150 rfl rfl rfl (Nat.le_of_ble_eq_true rfl) (by decide) dX12_talk_47 h (fun _ _ hf => m_X12_heardTo l w A x3 S _ hf) (fun z1 S2 h => ?_)
      refine cj_istore_n C (i := 3) (lv' := [some (.ref (w.2.1 150)), none, some (.int x2), some (.int z1), some (.int x4)]) dX12_talk_50 rfl (by decide) rfl rfl ?_
      refine cj_iinc C (v := (x4 + 1)) (lv' := [some (.ref (w.2.1 150)), none, some (.int x2), some (.int z1), some (.int (x4 + 1))]) dX12_talk_51 rfl rfl (by decide) rfl rfl ?_
      refine cj_goto C (tgt := 39) dX12_talk_54 rfl ?_
      exact ih z1 (x4 + 1) S2 h
def fX12_talk (x1 : Int32) (x2 : Int32) (S : cpS) : Option (Int32 × cpS) :=
    cpLt (cpI S 150 0 (0 : Int32)) fun S1 =>
    cpB (fX12_isPerson (Int32.toInt64 x1) S1) fun z2 S3 =>
    if z2 = 0 then (
    some ((-2 : Int32), S3)) else (
    cpB (fX12_within (Int32.toInt64 x2) (0 : Int64) (8 : Int64) S3) fun z4 S5 =>
    if z4 = 0 then (
    some ((-3 : Int32), S5)) else (
    cpLt (cpShl (1 : Int32) x1) fun y6 =>
    fX12_talk_39 x2 cpFu y6 (0 : Int32) S5))
set_option maxRecDepth 100000 in
set_option maxHeartbeats 4000000 in
theorem m_X12_talk (l : Launch) (w : cpW) (A : Nat → Prop) (x1 : Int32) (x2 : Int32) (S : cpS) (r : Int32 × cpS) (h : fX12_talk x1 x2 S = some r) : cpMi l yX12_talk cX12_talk 5 ((some .int)) 2 w A [.ref (w.2.1 150), .int x1, .int x2] S r := by
  refine cpMi.of (lv := [some (.ref (w.2.1 150)), some (.int x1), some (.int x2), none, none]) (by decide) (Nat.le_of_ble_eq_true rfl) rfl (fun p e s m args below meth c C hr => ?_)
  replace C : cpCx p s m args meth c w A cX12_talk RX12 5 := C
  rw [fX12_talk] at h
  refine cj_aload_n C (i := 0) dX12_talk_0 rfl rfl ?_
  refine cj_iconst C (v := (0 : Int32)) dX12_talk_1 rfl ?_
  refine cj_put C (j := 0) o_150 rfl pfX12_1 rfl rfl dX12_talk_2 ?_
  refine cj_lets h (fun S1 h => ?_)
  refine cj_aload_n C (i := 0) dX12_talk_5 rfl rfl ?_
  refine cj_iload_n C (i := 1) dX12_talk_6 rfl rfl ?_
  refine cj_i2l C dX12_talk_7 ?_
  refine cj_callVi C (As := [.long (Int32.toInt64 x1)]) (rest := []) qX12_isPerson mw_29_13 o_150 rfl rfl rfl (Nat.le_of_ble_eq_true rfl) (by decide) dX12_talk_8 h (fun _ _ hf => m_X12_isPerson l w A (Int32.toInt64 x1) S1 _ hf) (fun z2 S3 h => ?_)
  refine cj_if_ne C (tgt := 17) dX12_talk_11 rfl h (fun _ h => ?_) (fun _ h => ?_)
  · refine cj_bipush C (v := (-2 : Int32)) dX12_talk_14 rfl ?_
    exact cj_ireturn C hr h dX12_talk_16
  · refine cj_iload_n C (i := 2) dX12_talk_17 rfl rfl ?_
    refine cj_i2l C dX12_talk_18 ?_
    refine cj_lconst C (v := (0 : Int64)) dX12_talk_19 rfl ?_
    refine cj_ldc2 C (v := (8 : Int64)) mw_51_20 dX12_talk_20 ?_
    refine cj_callSi C (As := [.long (Int32.toInt64 x2), .long (0 : Int64), .long (8 : Int64)]) (rest := []) qX12_within mw_23_15 rfl rfl (Nat.le_of_ble_eq_true rfl) (by decide) dX12_talk_23 h (fun _ _ hf => m_X12_within l w A (Int32.toInt64 x2) (0 : Int64) (8 : Int64) S3 _ hf) (fun z4 S5 h => ?_)
    refine cj_if_ne C (tgt := 32) dX12_talk_26 rfl h (fun _ h => ?_) (fun _ h => ?_)
    · refine cj_bipush C (v := (-3 : Int32)) dX12_talk_29 rfl ?_
      exact cj_ireturn C hr h dX12_talk_31
    · refine cj_iconst C (v := (1 : Int32)) dX12_talk_32 rfl ?_
      refine cj_iload_n C (i := 1) dX12_talk_33 rfl rfl ?_
      refine ck_ishl C dX12_talk_34 ?_
      refine cj_let h (fun y6 h => ?_)
      refine cj_istore_n C (i := 3) (lv' := [some (.ref (w.2.1 150)), some (.int x1), some (.int x2), some (.int y6), none]) dX12_talk_35 rfl (by decide) rfl rfl ?_
      refine cj_iconst C (v := (0 : Int32)) dX12_talk_36 rfl ?_
      refine cj_istore C (lv' := [some (.ref (w.2.1 150)), some (.int x1), some (.int x2), some (.int y6), some (.int (0 : Int32))]) dX12_talk_37 (by decide) rfl rfl ?_
      refine cj_weak C (lv' := [some (.ref (w.2.1 150)), none, some (.int x2), some (.int y6), some (.int (0 : Int32))]) (cpSub_s (cpSub_n (cpSub_s (cpSub_s (cpSub_s cpSub_nil))))) ?_
      exact wX12_talk_39 C hr x2 cpFu y6 (0 : Int32) S5 h
/-! X12_told -/
def fX12_told_23 : Nat → Int32 → Int32 → cpS → Option (Int32 × cpS)
  | 0, _, _, _ => none
  | n + 1, x2, x3, S =>
    if (8 : Int32) < x3 then (
    some ((-1 : Int32), S)) else (
    cpB (fX12_everybody S) fun z1 S2 =>
    if x2 = z1 then (
    some (x3, S2)) else (
    cpB (fX12_heardTo x2 S2) fun z3 S4 =>
    fX12_told_23 n z3 (x3 + 1) S4))
set_option maxRecDepth 100000 in
set_option maxHeartbeats 4000000 in
theorem wX12_told_23 (C : cpCx p s m args meth c w A cX12_told RX12 4) (hr : meth.sig.returnType = (some .int)) {r : Int32 × cpS} : ∀ (n : Nat) (x2 : Int32) (x3 : Int32) (S : cpS), fX12_told_23 n x2 x3 S = some r → cpJ p l e (cpRm 2) s m args below meth c (MQ below (va_Qi (fun x S' => (x, S') = r) (cpWorld w A) A) args s 0 0 A) w A 4 23 [some (.ref (w.2.1 150)), none, some (.int x2), some (.int x3)] [] S := by
  intro n
  induction n with
  | zero => intro x2 x3 S h; rw [fX12_told_23] at h; cases h
  | succ n ih =>
    intro x2 x3 S h
    rw [fX12_told_23] at h
    refine cj_iload_n C (i := 3) dX12_told_23 rfl rfl ?_
    refine cj_bipush C (v := (8 : Int32)) dX12_told_24 rfl ?_
    refine cj_icmp_gt C (tgt := 51) dX12_told_26 rfl h (fun _ h => ?_) (fun _ h => ?_)
    · refine cj_iconst C (v := (-1 : Int32)) dX12_told_51 rfl ?_
      exact cj_ireturn C hr h dX12_told_52
    · refine cj_iload_n C (i := 2) dX12_told_29 rfl rfl ?_
      refine cj_aload_n C (i := 0) dX12_told_30 rfl rfl ?_
      refine cj_callVi C (As := []) (rest := [.int x2]) qX12_everybody mw_56_7 o_150 rfl rfl rfl (Nat.le_of_ble_eq_true rfl) (by decide) dX12_told_31 h (fun _ _ hf => m_X12_everybody l w A S _ hf) (fun z1 S2 h => ?_)
      refine cj_icmp_ne C (tgt := 39) dX12_told_34 rfl h (fun _ h => ?_) (fun _ h => ?_)
      · refine cj_iload_n C (i := 3) dX12_told_37 rfl rfl ?_
        exact cj_ireturn C hr h dX12_told_38
      · refine cj_aload_n C (i := 0) dX12_told_39 rfl rfl ?_
        refine cj_iload_n C (i := 2) dX12_told_40 rfl rfl ?_
        refine cj_callVi C (As := [.int x2]) (rest := []) qX12_heardTo mw_61_16 o_150 rfl rfl rfl (Nat.le_of_ble_eq_true rfl) (by decide) dX12_told_41 h (fun _ _ hf => m_X12_heardTo l w A x2 S2 _ hf) (fun z3 S4 h => ?_)
        refine cj_istore_n C (i := 2) (lv' := [some (.ref (w.2.1 150)), none, some (.int z3), some (.int x3)]) dX12_told_44 rfl (by decide) rfl rfl ?_
        refine cj_iinc C (v := (x3 + 1)) (lv' := [some (.ref (w.2.1 150)), none, some (.int z3), some (.int (x3 + 1))]) dX12_told_45 rfl rfl (by decide) rfl rfl ?_
        refine cj_goto C (tgt := 23) dX12_told_48 rfl ?_
        exact ih z3 (x3 + 1) S4 h
def fX12_told (x1 : Int32) (S : cpS) : Option (Int32 × cpS) :=
    cpLt (cpI S 150 0 (0 : Int32)) fun S1 =>
    cpB (fX12_isPerson (Int32.toInt64 x1) S1) fun z2 S3 =>
    if z2 = 0 then (
    some ((-2 : Int32), S3)) else (
    cpLt (cpShl (1 : Int32) x1) fun y4 =>
    fX12_told_23 cpFu y4 (0 : Int32) S3)
set_option maxRecDepth 100000 in
set_option maxHeartbeats 4000000 in
theorem m_X12_told (l : Launch) (w : cpW) (A : Nat → Prop) (x1 : Int32) (S : cpS) (r : Int32 × cpS) (h : fX12_told x1 S = some r) : cpMi l yX12_told cX12_told 4 ((some .int)) 2 w A [.ref (w.2.1 150), .int x1] S r := by
  refine cpMi.of (lv := [some (.ref (w.2.1 150)), some (.int x1), none, none]) (by decide) (Nat.le_of_ble_eq_true rfl) rfl (fun p e s m args below meth c C hr => ?_)
  replace C : cpCx p s m args meth c w A cX12_told RX12 4 := C
  rw [fX12_told] at h
  refine cj_aload_n C (i := 0) dX12_told_0 rfl rfl ?_
  refine cj_iconst C (v := (0 : Int32)) dX12_told_1 rfl ?_
  refine cj_put C (j := 0) o_150 rfl pfX12_1 rfl rfl dX12_told_2 ?_
  refine cj_lets h (fun S1 h => ?_)
  refine cj_aload_n C (i := 0) dX12_told_5 rfl rfl ?_
  refine cj_iload_n C (i := 1) dX12_told_6 rfl rfl ?_
  refine cj_i2l C dX12_told_7 ?_
  refine cj_callVi C (As := [.long (Int32.toInt64 x1)]) (rest := []) qX12_isPerson mw_29_13 o_150 rfl rfl rfl (Nat.le_of_ble_eq_true rfl) (by decide) dX12_told_8 h (fun _ _ hf => m_X12_isPerson l w A (Int32.toInt64 x1) S1 _ hf) (fun z2 S3 h => ?_)
  refine cj_if_ne C (tgt := 17) dX12_told_11 rfl h (fun _ h => ?_) (fun _ h => ?_)
  · refine cj_bipush C (v := (-2 : Int32)) dX12_told_14 rfl ?_
    exact cj_ireturn C hr h dX12_told_16
  · refine cj_iconst C (v := (1 : Int32)) dX12_told_17 rfl ?_
    refine cj_iload_n C (i := 1) dX12_told_18 rfl rfl ?_
    refine ck_ishl C dX12_told_19 ?_
    refine cj_let h (fun y4 h => ?_)
    refine cj_istore_n C (i := 2) (lv' := [some (.ref (w.2.1 150)), some (.int x1), some (.int y4), none]) dX12_told_20 rfl (by decide) rfl rfl ?_
    refine cj_iconst C (v := (0 : Int32)) dX12_told_21 rfl ?_
    refine cj_istore_n C (i := 3) (lv' := [some (.ref (w.2.1 150)), some (.int x1), some (.int y4), some (.int (0 : Int32))]) dX12_told_22 rfl (by decide) rfl rfl ?_
    refine cj_weak C (lv' := [some (.ref (w.2.1 150)), none, some (.int y4), some (.int (0 : Int32))]) (cpSub_s (cpSub_n (cpSub_s (cpSub_s cpSub_nil)))) ?_
    exact wX12_told_23 C hr cpFu y4 (0 : Int32) S3 h
/-! X12_campCost -/
def fX12_campCost_59 (x1 : Int32) (x3 : Int32) (x4 : Int32) (s0 : Int32) (s1 : Int32) (s2 : Int32) (k4 : Int32 → Int32 → cpS → Option (Int32 × cpS)) (k19 : Int32 → Int32 → cpS → Option (Int32 × cpS)) (S : cpS) : Option (Int32 × cpS) :=
    if s1 = s0 then (
    cpLt (s2 + (1 : Int32)) fun y1 =>
    k19 y1 (x4 + 1) S) else (
    cpLt (s2 + (0 : Int32)) fun y2 =>
    k19 y2 (x4 + 1) S)
set_option maxRecDepth 100000 in
set_option maxHeartbeats 4000000 in
theorem wX12_campCost_59 (C : cpCx p s m args meth c w A cX12_campCost RX12 5) (hr : meth.sig.returnType = (some .int)) {r : Int32 × cpS} (x1 : Int32) (x3 : Int32) (x4 : Int32) (s0 : Int32) (s1 : Int32) (s2 : Int32) {k4 : Int32 → Int32 → cpS → Option (Int32 × cpS)} (hk4 : ∀ (x2 : Int32) (x3 : Int32) (S : cpS), k4 x2 x3 S = some r → cpJ p l e (cpRm 2) s m args below meth c (MQ below (va_Qi (fun x S' => (x, S') = r) (cpWorld w A) A) args s 0 0 A) w A 5 4 [some (.ref (w.2.1 150)), some (.int x1), some (.int x2), some (.int x3), none] [] S) {k19 : Int32 → Int32 → cpS → Option (Int32 × cpS)} (hk19 : ∀ (x2 : Int32) (x4 : Int32) (S : cpS), k19 x2 x4 S = some r → cpJ p l e (cpRm 2) s m args below meth c (MQ below (va_Qi (fun x S' => (x, S') = r) (cpWorld w A) A) args s 0 0 A) w A 5 19 [some (.ref (w.2.1 150)), some (.int x1), some (.int x2), some (.int x3), some (.int x4)] [] S) (S : cpS) (h : fX12_campCost_59 x1 x3 x4 s0 s1 s2 k4 k19 S = some r) : cpJ p l e (cpRm 2) s m args below meth c (MQ below (va_Qi (fun x S' => (x, S') = r) (cpWorld w A) A) args s 0 0 A) w A 5 59 [some (.ref (w.2.1 150)), some (.int x1), none, some (.int x3), some (.int x4)] [.int s0, .int s1, .int s2] S := by
  rw [fX12_campCost_59] at h
  refine cj_icmp_ne C (tgt := 66) dX12_campCost_59 rfl h (fun _ h => ?_) (fun _ h => ?_)
  · refine cj_iconst C (v := (1 : Int32)) dX12_campCost_62 rfl ?_
    refine cj_goto C (tgt := 67) dX12_campCost_63 rfl ?_
    refine cj_iadd C dX12_campCost_67 ?_
    refine cj_let h (fun y1 h => ?_)
    refine cj_istore_n C (i := 2) (lv' := [some (.ref (w.2.1 150)), some (.int x1), some (.int y1), some (.int x3), some (.int x4)]) dX12_campCost_68 rfl (by decide) rfl rfl ?_
    refine cj_iinc C (v := (x4 + 1)) (lv' := [some (.ref (w.2.1 150)), some (.int x1), some (.int y1), some (.int x3), some (.int (x4 + 1))]) dX12_campCost_69 rfl rfl (by decide) rfl rfl ?_
    refine cj_goto C (tgt := 19) dX12_campCost_72 rfl ?_
    exact hk19 y1 (x4 + 1) S h
  · refine cj_iconst C (v := (0 : Int32)) dX12_campCost_66 rfl ?_
    refine cj_iadd C dX12_campCost_67 ?_
    refine cj_let h (fun y2 h => ?_)
    refine cj_istore_n C (i := 2) (lv' := [some (.ref (w.2.1 150)), some (.int x1), some (.int y2), some (.int x3), some (.int x4)]) dX12_campCost_68 rfl (by decide) rfl rfl ?_
    refine cj_iinc C (v := (x4 + 1)) (lv' := [some (.ref (w.2.1 150)), some (.int x1), some (.int y2), some (.int x3), some (.int (x4 + 1))]) dX12_campCost_69 rfl rfl (by decide) rfl rfl ?_
    refine cj_goto C (tgt := 19) dX12_campCost_72 rfl ?_
    exact hk19 y2 (x4 + 1) S h
def fX12_campCost_19 (x1 : Int32) (x3 : Int32) (k4 : Int32 → Int32 → cpS → Option (Int32 × cpS)) : Nat → Int32 → Int32 → cpS → Option (Int32 × cpS)
  | 0, _, _, _ => none
  | n + 1, x2, x4, S =>
    if (S.1 151 3) ≤ x4 then (
    k4 x2 (x3 + 1) S) else (
    cpB (fX12_haveQuarrelled x3 x4 S) fun z1 S2 =>
    cpB (fX12_isIn (Int32.toInt64 x1) x3 S2) fun z3 S4 =>
    cpB (fX12_isIn (Int32.toInt64 x1) x4 S4) fun z5 S6 =>
    if z3 = z5 then (
    fX12_campCost_59 x1 x3 x4 (1 : Int32) z1 x2 k4 (fX12_campCost_19 x1 x3 k4 n) S6) else (
    fX12_campCost_59 x1 x3 x4 (0 : Int32) z1 x2 k4 (fX12_campCost_19 x1 x3 k4 n) S6))
set_option maxRecDepth 100000 in
set_option maxHeartbeats 4000000 in
theorem wX12_campCost_19 (C : cpCx p s m args meth c w A cX12_campCost RX12 5) (hr : meth.sig.returnType = (some .int)) {r : Int32 × cpS} (x1 : Int32) (x3 : Int32) {k4 : Int32 → Int32 → cpS → Option (Int32 × cpS)} (hk4 : ∀ (x2 : Int32) (x3 : Int32) (S : cpS), k4 x2 x3 S = some r → cpJ p l e (cpRm 2) s m args below meth c (MQ below (va_Qi (fun x S' => (x, S') = r) (cpWorld w A) A) args s 0 0 A) w A 5 4 [some (.ref (w.2.1 150)), some (.int x1), some (.int x2), some (.int x3), none] [] S) : ∀ (n : Nat) (x2 : Int32) (x4 : Int32) (S : cpS), fX12_campCost_19 x1 x3 k4 n x2 x4 S = some r → cpJ p l e (cpRm 2) s m args below meth c (MQ below (va_Qi (fun x S' => (x, S') = r) (cpWorld w A) A) args s 0 0 A) w A 5 19 [some (.ref (w.2.1 150)), some (.int x1), some (.int x2), some (.int x3), some (.int x4)] [] S := by
  intro n
  induction n with
  | zero => intro x2 x4 S h; rw [fX12_campCost_19] at h; cases h
  | succ n ih =>
    intro x2 x4 S h
    rw [fX12_campCost_19] at h
    refine cj_iload C dX12_campCost_19 rfl ?_
    refine cj_aload_n C (i := 0) dX12_campCost_21 rfl rfl ?_
    refine cj_getR C (d := 151) o_150 rfl gfX12_13 dX12_campCost_22 ?_
    refine cj_iconst C (v := (3 : Int32)) dX12_campCost_25 rfl ?_
    refine cj_ialoadC C (j := 3) o_151 (by decide) (by decide) dX12_campCost_26 ?_
    refine cj_icmp_ge C (tgt := 75) dX12_campCost_27 rfl h (fun _ h => ?_) (fun _ h => ?_)
    · refine cj_iinc C (v := (x3 + 1)) (lv' := [some (.ref (w.2.1 150)), some (.int x1), some (.int x2), some (.int (x3 + 1)), some (.int x4)]) dX12_campCost_75 rfl rfl (by decide) rfl rfl ?_
      refine cj_goto C (tgt := 4) dX12_campCost_78 rfl ?_
      refine cj_weak C (lv' := [some (.ref (w.2.1 150)), some (.int x1), some (.int x2), some (.int (x3 + 1)), none]) (cpSub_s (cpSub_s (cpSub_s (cpSub_s (cpSub_n cpSub_nil))))) ?_
      exact hk4 x2 (x3 + 1) S h
    · refine cj_iload_n C (i := 2) dX12_campCost_30 rfl rfl ?_
      refine cj_aload_n C (i := 0) dX12_campCost_31 rfl rfl ?_
      refine cj_iload_n C (i := 3) dX12_campCost_32 rfl rfl ?_
      refine cj_iload C dX12_campCost_33 rfl ?_
      refine cj_callVi C (As := [.int x3, .int x4]) (rest := [.int x2]) qX12_haveQuarrelled mw_36_0 o_150 rfl rfl rfl (Nat.le_of_ble_eq_true rfl) (by decide) dX12_campCost_35 h (fun _ _ hf => m_X12_haveQuarrelled l w A x3 x4 S _ hf) (fun z1 S2 h => ?_)
      refine cj_iload_n C (i := 1) dX12_campCost_38 rfl rfl ?_
      refine cj_i2l C dX12_campCost_39 ?_
      refine cj_iload_n C (i := 3) dX12_campCost_40 rfl rfl ?_
      refine cj_callSi C (As := [.long (Int32.toInt64 x1), .int x3]) (rest := [.int z1, .int x2]) qX12_isIn mw_36_4 rfl rfl (Nat.le_of_ble_eq_true rfl) (by decide) dX12_campCost_41 h (fun _ _ hf => m_X12_isIn l w A (Int32.toInt64 x1) x3 S2 _ hf) (fun z3 S4 h => ?_)
      refine cj_iload_n C (i := 1) dX12_campCost_44 rfl rfl ?_
      refine cj_i2l C dX12_campCost_45 ?_
      refine cj_iload C dX12_campCost_46 rfl ?_
      refine cj_callSi C (As := [.long (Int32.toInt64 x1), .int x4]) (rest := [.int z3, .int z1, .int x2]) qX12_isIn mw_36_4 rfl rfl (Nat.le_of_ble_eq_true rfl) (by decide) dX12_campCost_48 h (fun _ _ hf => m_X12_isIn l w A (Int32.toInt64 x1) x4 S4 _ hf) (fun z5 S6 h => ?_)
      refine cj_icmp_ne C (tgt := 58) dX12_campCost_51 rfl h (fun _ h => ?_) (fun _ h => ?_)
      · refine cj_iconst C (v := (1 : Int32)) dX12_campCost_54 rfl ?_
        refine cj_goto C (tgt := 59) dX12_campCost_55 rfl ?_
        refine cj_weak C (lv' := [some (.ref (w.2.1 150)), some (.int x1), none, some (.int x3), some (.int x4)]) (cpSub_s (cpSub_s (cpSub_n (cpSub_s (cpSub_s cpSub_nil))))) ?_
        exact wX12_campCost_59 C hr x1 x3 x4 (1 : Int32) z1 x2 hk4 ih S6 h
      · refine cj_iconst C (v := (0 : Int32)) dX12_campCost_58 rfl ?_
        refine cj_weak C (lv' := [some (.ref (w.2.1 150)), some (.int x1), none, some (.int x3), some (.int x4)]) (cpSub_s (cpSub_s (cpSub_n (cpSub_s (cpSub_s cpSub_nil))))) ?_
        exact wX12_campCost_59 C hr x1 x3 x4 (0 : Int32) z1 x2 hk4 ih S6 h
def fX12_campCost_4 (x1 : Int32) : Nat → Int32 → Int32 → cpS → Option (Int32 × cpS)
  | 0, _, _, _ => none
  | n + 1, x2, x3, S =>
    if (S.1 151 3) ≤ x3 then (
    some (x2, S)) else (
    cpLt (x3 + (1 : Int32)) fun y1 =>
    fX12_campCost_19 x1 x3 (fX12_campCost_4 x1 n) cpFu x2 y1 S)
set_option maxRecDepth 100000 in
set_option maxHeartbeats 4000000 in
theorem wX12_campCost_4 (C : cpCx p s m args meth c w A cX12_campCost RX12 5) (hr : meth.sig.returnType = (some .int)) {r : Int32 × cpS} (x1 : Int32) : ∀ (n : Nat) (x2 : Int32) (x3 : Int32) (S : cpS), fX12_campCost_4 x1 n x2 x3 S = some r → cpJ p l e (cpRm 2) s m args below meth c (MQ below (va_Qi (fun x S' => (x, S') = r) (cpWorld w A) A) args s 0 0 A) w A 5 4 [some (.ref (w.2.1 150)), some (.int x1), some (.int x2), some (.int x3), none] [] S := by
  intro n
  induction n with
  | zero => intro x2 x3 S h; rw [fX12_campCost_4] at h; cases h
  | succ n ih =>
    intro x2 x3 S h
    rw [fX12_campCost_4] at h
    refine cj_iload_n C (i := 3) dX12_campCost_4 rfl rfl ?_
    refine cj_aload_n C (i := 0) dX12_campCost_5 rfl rfl ?_
    refine cj_getR C (d := 151) o_150 rfl gfX12_13 dX12_campCost_6 ?_
    refine cj_iconst C (v := (3 : Int32)) dX12_campCost_9 rfl ?_
    refine cj_ialoadC C (j := 3) o_151 (by decide) (by decide) dX12_campCost_10 ?_
    refine cj_icmp_ge C (tgt := 81) dX12_campCost_11 rfl h (fun _ h => ?_) (fun _ h => ?_)
    · refine cj_iload_n C (i := 2) dX12_campCost_81 rfl rfl ?_
      exact cj_ireturn C hr h dX12_campCost_82
    · refine cj_iload_n C (i := 3) dX12_campCost_14 rfl rfl ?_
      refine cj_iconst C (v := (1 : Int32)) dX12_campCost_15 rfl ?_
      refine cj_iadd C dX12_campCost_16 ?_
      refine cj_let h (fun y1 h => ?_)
      refine cj_istore C (lv' := [some (.ref (w.2.1 150)), some (.int x1), some (.int x2), some (.int x3), some (.int y1)]) dX12_campCost_17 (by decide) rfl rfl ?_
      exact wX12_campCost_19 C hr x1 x3 ih cpFu x2 y1 S h
def fX12_campCost (x1 : Int32) (S : cpS) : Option (Int32 × cpS) :=
    fX12_campCost_4 x1 cpFu (0 : Int32) (0 : Int32) S
set_option maxRecDepth 100000 in
set_option maxHeartbeats 4000000 in
theorem m_X12_campCost (l : Launch) (w : cpW) (A : Nat → Prop) (x1 : Int32) (S : cpS) (r : Int32 × cpS) (h : fX12_campCost x1 S = some r) : cpMi l yX12_campCost cX12_campCost 5 ((some .int)) 2 w A [.ref (w.2.1 150), .int x1] S r := by
  refine cpMi.of (lv := [some (.ref (w.2.1 150)), some (.int x1), none, none, none]) (by decide) (Nat.le_of_ble_eq_true rfl) rfl (fun p e s m args below meth c C hr => ?_)
  replace C : cpCx p s m args meth c w A cX12_campCost RX12 5 := C
  rw [fX12_campCost] at h
  refine cj_iconst C (v := (0 : Int32)) dX12_campCost_0 rfl ?_
  refine cj_istore_n C (i := 2) (lv' := [some (.ref (w.2.1 150)), some (.int x1), some (.int (0 : Int32)), none, none]) dX12_campCost_1 rfl (by decide) rfl rfl ?_
  refine cj_iconst C (v := (0 : Int32)) dX12_campCost_2 rfl ?_
  refine cj_istore_n C (i := 3) (lv' := [some (.ref (w.2.1 150)), some (.int x1), some (.int (0 : Int32)), some (.int (0 : Int32)), none]) dX12_campCost_3 rfl (by decide) rfl rfl ?_
  exact wX12_campCost_4 C hr x1 cpFu (0 : Int32) (0 : Int32) S h
/-! X12_camps -/
def fX12_camps_33 (x1 : Int32) : Nat → Int32 → Int32 → cpS → Option (Int32 × cpS)
  | 0, _, _, _ => none
  | n + 1, x2, x3, S =>
    cpB (fX12_everybody S) fun z1 S2 =>
    if z1 < x3 then (
    if x1 = 0 then (
    cpB (fX12_campCost x2 S2) fun z3 S4 =>
    some (z3, S4)) else (
    some (x2, S2))) else (
    cpB (fX12_campCost x3 S2) fun z5 S6 =>
    cpB (fX12_campCost x2 S6) fun z7 S8 =>
    if z7 ≤ z5 then (
    fX12_camps_33 x1 n x2 (x3 + 2) S8) else (
    fX12_camps_33 x1 n x3 (x3 + 2) S8))
set_option maxRecDepth 100000 in
set_option maxHeartbeats 4000000 in
theorem wX12_camps_33 (C : cpCx p s m args meth c w A cX12_camps RX12 4) (hr : meth.sig.returnType = (some .int)) {r : Int32 × cpS} (x1 : Int32) : ∀ (n : Nat) (x2 : Int32) (x3 : Int32) (S : cpS), fX12_camps_33 x1 n x2 x3 S = some r → cpJ p l e (cpRm 3) s m args below meth c (MQ below (va_Qi (fun x S' => (x, S') = r) (cpWorld w A) A) args s 0 0 A) w A 4 33 [some (.ref (w.2.1 150)), some (.int x1), some (.int x2), some (.int x3)] [] S := by
  intro n
  induction n with
  | zero => intro x2 x3 S h; rw [fX12_camps_33] at h; cases h
  | succ n ih =>
    intro x2 x3 S h
    rw [fX12_camps_33] at h
    refine cj_iload_n C (i := 3) dX12_camps_33 rfl rfl ?_
    refine cj_aload_n C (i := 0) dX12_camps_34 rfl rfl ?_
    refine cj_callVi C (As := []) (rest := [.int x3]) qX12_everybody mw_56_7 o_150 rfl rfl rfl (Nat.le_of_ble_eq_true rfl) (by decide) dX12_camps_35 h (fun _ _ hf => m_X12_everybody l w A S _ hf) (fun z1 S2 h => ?_)
    refine cj_icmp_gt C (tgt := 62) dX12_camps_38 rfl h (fun _ h => ?_) (fun _ h => ?_)
    · refine cj_iload_n C (i := 1) dX12_camps_62 rfl rfl ?_
      refine cj_if_ne C (tgt := 74) dX12_camps_63 rfl h (fun _ h => ?_) (fun _ h => ?_)
      · refine cj_aload_n C (i := 0) dX12_camps_66 rfl rfl ?_
        refine cj_iload_n C (i := 2) dX12_camps_67 rfl rfl ?_
        refine cj_callVi C (As := [.int x2]) (rest := []) qX12_campCost mw_62_21 o_150 rfl rfl rfl (Nat.le_of_ble_eq_true rfl) (by decide) dX12_camps_68 h (fun _ _ hf => m_X12_campCost l w A x2 S2 _ hf) (fun z3 S4 h => ?_)
        refine cj_goto C (tgt := 75) dX12_camps_71 rfl ?_
        exact cj_ireturn C hr h dX12_camps_75
      · refine cj_iload_n C (i := 2) dX12_camps_74 rfl rfl ?_
        exact cj_ireturn C hr h dX12_camps_75
    · refine cj_aload_n C (i := 0) dX12_camps_41 rfl rfl ?_
      refine cj_iload_n C (i := 3) dX12_camps_42 rfl rfl ?_
      refine cj_callVi C (As := [.int x3]) (rest := []) qX12_campCost mw_62_21 o_150 rfl rfl rfl (Nat.le_of_ble_eq_true rfl) (by decide) dX12_camps_43 h (fun _ _ hf => m_X12_campCost l w A x3 S2 _ hf) (fun z5 S6 h => ?_)
      refine cj_aload_n C (i := 0) dX12_camps_46 rfl rfl ?_
      refine cj_iload_n C (i := 2) dX12_camps_47 rfl rfl ?_
      refine cj_callVi C (As := [.int x2]) (rest := [.int z5]) qX12_campCost mw_62_21 o_150 rfl rfl rfl (Nat.le_of_ble_eq_true rfl) (by decide) dX12_camps_48 h (fun _ _ hf => m_X12_campCost l w A x2 S6 _ hf) (fun z7 S8 h => ?_)
      refine cj_icmp_ge C (tgt := 56) dX12_camps_51 rfl h (fun _ h => ?_) (fun _ h => ?_)
      · refine cj_iinc C (v := (x3 + 2)) (lv' := [some (.ref (w.2.1 150)), some (.int x1), some (.int x2), some (.int (x3 + 2))]) dX12_camps_56 rfl rfl (by decide) rfl rfl ?_
        refine cj_goto C (tgt := 33) dX12_camps_59 rfl ?_
        exact ih x2 (x3 + 2) S8 h
      · refine cj_iload_n C (i := 3) dX12_camps_54 rfl rfl ?_
        refine cj_istore_n C (i := 2) (lv' := [some (.ref (w.2.1 150)), some (.int x1), some (.int x3), some (.int x3)]) dX12_camps_55 rfl (by decide) rfl rfl ?_
        refine cj_iinc C (v := (x3 + 2)) (lv' := [some (.ref (w.2.1 150)), some (.int x1), some (.int x3), some (.int (x3 + 2))]) dX12_camps_56 rfl rfl (by decide) rfl rfl ?_
        refine cj_goto C (tgt := 33) dX12_camps_59 rfl ?_
        exact ih x3 (x3 + 2) S8 h
def fX12_camps (x1 : Int32) (S : cpS) : Option (Int32 × cpS) :=
    cpLt (cpI S 150 0 (0 : Int32)) fun S1 =>
    cpB (fX12_within (Int32.toInt64 x1) (0 : Int64) (1 : Int64) S1) fun z2 S3 =>
    if z2 = 0 then (
    some ((-2 : Int32), S3)) else (
    if (S3.1 151 3) = 0 then (
    some ((0 : Int32), S3)) else (
    fX12_camps_33 x1 cpFu (1 : Int32) (3 : Int32) S3))
set_option maxRecDepth 100000 in
set_option maxHeartbeats 4000000 in
theorem m_X12_camps (l : Launch) (w : cpW) (A : Nat → Prop) (x1 : Int32) (S : cpS) (r : Int32 × cpS) (h : fX12_camps x1 S = some r) : cpMi l yX12_camps cX12_camps 4 ((some .int)) 3 w A [.ref (w.2.1 150), .int x1] S r := by
  refine cpMi.of (lv := [some (.ref (w.2.1 150)), some (.int x1), none, none]) (by decide) (Nat.le_of_ble_eq_true rfl) rfl (fun p e s m args below meth c C hr => ?_)
  replace C : cpCx p s m args meth c w A cX12_camps RX12 4 := C
  rw [fX12_camps] at h
  refine cj_aload_n C (i := 0) dX12_camps_0 rfl rfl ?_
  refine cj_iconst C (v := (0 : Int32)) dX12_camps_1 rfl ?_
  refine cj_put C (j := 0) o_150 rfl pfX12_1 rfl rfl dX12_camps_2 ?_
  refine cj_lets h (fun S1 h => ?_)
  refine cj_iload_n C (i := 1) dX12_camps_5 rfl rfl ?_
  refine cj_i2l C dX12_camps_6 ?_
  refine cj_lconst C (v := (0 : Int64)) dX12_camps_7 rfl ?_
  refine cj_lconst C (v := (1 : Int64)) dX12_camps_8 rfl ?_
  refine cj_callSi C (As := [.long (Int32.toInt64 x1), .long (0 : Int64), .long (1 : Int64)]) (rest := []) qX12_within mw_23_15 rfl rfl (Nat.le_of_ble_eq_true rfl) (by decide) dX12_camps_9 h (fun _ _ hf => m_X12_within l w A (Int32.toInt64 x1) (0 : Int64) (1 : Int64) S1 _ hf) (fun z2 S3 h => ?_)
  refine cj_if_ne C (tgt := 18) dX12_camps_12 rfl h (fun _ h => ?_) (fun _ h => ?_)
  · refine cj_bipush C (v := (-2 : Int32)) dX12_camps_15 rfl ?_
    exact cj_ireturn C hr h dX12_camps_17
  · refine cj_aload_n C (i := 0) dX12_camps_18 rfl rfl ?_
    refine cj_getR C (d := 151) o_150 rfl gfX12_13 dX12_camps_19 ?_
    refine cj_iconst C (v := (3 : Int32)) dX12_camps_22 rfl ?_
    refine cj_ialoadC C (j := 3) o_151 (by decide) (by decide) dX12_camps_23 ?_
    refine cj_if_ne C (tgt := 29) dX12_camps_24 rfl h (fun _ h => ?_) (fun _ h => ?_)
    · refine cj_iconst C (v := (0 : Int32)) dX12_camps_27 rfl ?_
      exact cj_ireturn C hr h dX12_camps_28
    · refine cj_iconst C (v := (1 : Int32)) dX12_camps_29 rfl ?_
      refine cj_istore_n C (i := 2) (lv' := [some (.ref (w.2.1 150)), some (.int x1), some (.int (1 : Int32)), none]) dX12_camps_30 rfl (by decide) rfl rfl ?_
      refine cj_iconst C (v := (3 : Int32)) dX12_camps_31 rfl ?_
      refine cj_istore_n C (i := 3) (lv' := [some (.ref (w.2.1 150)), some (.int x1), some (.int (1 : Int32)), some (.int (3 : Int32))]) dX12_camps_32 rfl (by decide) rfl rfl ?_
      exact wX12_camps_33 C hr x1 cpFu (1 : Int32) (3 : Int32) S3 h
/-! X12_peace -/
def fX12_peace_26 (x1 : Int32) (x2 : Int32) (k12 : Int32 → Int32 → cpS → Option (Int32 × cpS)) : Nat → Int32 → Int32 → cpS → Option (Int32 × cpS)
  | 0, _, _, _ => none
  | n + 1, x3, x4, S =>
    if (8 : Int32) ≤ x4 then (
    cpLt (x1 &&& (x3 ^^^ (-1 : Int32))) fun y1 =>
    k12 y1 (x2 + 1) S) else (
    cpB (fX12_heardTo x3 S) fun z2 S3 =>
    fX12_peace_26 x1 x2 k12 n z2 (x4 + 1) S3)
set_option maxRecDepth 100000 in
set_option maxHeartbeats 4000000 in
theorem wX12_peace_26 (C : cpCx p s m args meth c w A cX12_peace RX12 5) (hr : meth.sig.returnType = (some .int)) {r : Int32 × cpS} (x1 : Int32) (x2 : Int32) {k12 : Int32 → Int32 → cpS → Option (Int32 × cpS)} (hk12 : ∀ (x1 : Int32) (x2 : Int32) (S : cpS), k12 x1 x2 S = some r → cpJ p l e (cpRm 2) s m args below meth c (MQ below (va_Qi (fun x S' => (x, S') = r) (cpWorld w A) A) args s 0 0 A) w A 5 12 [some (.ref (w.2.1 150)), some (.int x1), some (.int x2), none, none] [] S) : ∀ (n : Nat) (x3 : Int32) (x4 : Int32) (S : cpS), fX12_peace_26 x1 x2 k12 n x3 x4 S = some r → cpJ p l e (cpRm 2) s m args below meth c (MQ below (va_Qi (fun x S' => (x, S') = r) (cpWorld w A) A) args s 0 0 A) w A 5 26 [some (.ref (w.2.1 150)), some (.int x1), some (.int x2), some (.int x3), some (.int x4)] [] S := by
  intro n
  induction n with
  | zero => intro x3 x4 S h; rw [fX12_peace_26] at h; cases h
  | succ n ih =>
    intro x3 x4 S h
    rw [fX12_peace_26] at h
    refine cj_iload C dX12_peace_26 rfl ?_
    refine cj_bipush C (v := (8 : Int32)) dX12_peace_28 rfl ?_
    refine cj_icmp_ge C (tgt := 45) dX12_peace_30 rfl h (fun _ h => ?_) (fun _ h => ?_)
    · refine cj_iload_n C (i := 1) dX12_peace_45 rfl rfl ?_
      refine cj_iload_n C (i := 3) dX12_peace_46 rfl rfl ?_
      refine cj_iconst C (v := (-1 : Int32)) dX12_peace_47 rfl ?_
      refine cj_ixor C dX12_peace_48 ?_
      refine cj_iand C dX12_peace_49 ?_
      refine cj_let h (fun y1 h => ?_)
      refine cj_istore_n C (i := 1) (lv' := [some (.ref (w.2.1 150)), some (.int y1), some (.int x2), some (.int x3), some (.int x4)]) dX12_peace_50 rfl (by decide) rfl rfl ?_
      refine cj_iinc C (v := (x2 + 1)) (lv' := [some (.ref (w.2.1 150)), some (.int y1), some (.int (x2 + 1)), some (.int x3), some (.int x4)]) dX12_peace_51 rfl rfl (by decide) rfl rfl ?_
      refine cj_goto C (tgt := 12) dX12_peace_54 rfl ?_
      refine cj_weak C (lv' := [some (.ref (w.2.1 150)), some (.int y1), some (.int (x2 + 1)), none, none]) (cpSub_s (cpSub_s (cpSub_s (cpSub_n (cpSub_n cpSub_nil))))) ?_
      exact hk12 y1 (x2 + 1) S h
    · refine cj_aload_n C (i := 0) dX12_peace_33 rfl rfl ?_
      refine cj_iload_n C (i := 3) dX12_peace_34 rfl rfl ?_
      refine cj_callVi C (As := [.int x3]) (rest := []) qX12_heardTo mw_61_16 o_150 rfl rfl rfl (Nat.le_of_ble_eq_true rfl) (by decide) dX12_peace_35 h (fun _ _ hf => m_X12_heardTo l w A x3 S _ hf) (fun z2 S3 h => ?_)
      refine cj_istore_n C (i := 3) (lv' := [some (.ref (w.2.1 150)), some (.int x1), some (.int x2), some (.int z2), some (.int x4)]) dX12_peace_38 rfl (by decide) rfl rfl ?_
      refine cj_iinc C (v := (x4 + 1)) (lv' := [some (.ref (w.2.1 150)), some (.int x1), some (.int x2), some (.int z2), some (.int (x4 + 1))]) dX12_peace_39 rfl rfl (by decide) rfl rfl ?_
      refine cj_goto C (tgt := 26) dX12_peace_42 rfl ?_
      exact ih z2 (x4 + 1) S3 h
def fX12_peace_12 : Nat → Int32 → Int32 → cpS → Option (Int32 × cpS)
  | 0, _, _, _ => none
  | n + 1, x1, x2, S =>
    if x1 = 0 then (
    if x2 = 0 then (
    some ((0 : Int32), S)) else (
    some ((x2 - (1 : Int32)), S))) else (
    cpB (fX12_leastOf x1 S) fun z1 S2 =>
    cpLt (cpShl (1 : Int32) z1) fun y3 =>
    fX12_peace_26 x1 x2 (fX12_peace_12 n) cpFu y3 (0 : Int32) S2)
set_option maxRecDepth 100000 in
set_option maxHeartbeats 4000000 in
theorem wX12_peace_12 (C : cpCx p s m args meth c w A cX12_peace RX12 5) (hr : meth.sig.returnType = (some .int)) {r : Int32 × cpS} : ∀ (n : Nat) (x1 : Int32) (x2 : Int32) (S : cpS), fX12_peace_12 n x1 x2 S = some r → cpJ p l e (cpRm 2) s m args below meth c (MQ below (va_Qi (fun x S' => (x, S') = r) (cpWorld w A) A) args s 0 0 A) w A 5 12 [some (.ref (w.2.1 150)), some (.int x1), some (.int x2), none, none] [] S := by
  intro n
  induction n with
  | zero => intro x1 x2 S h; rw [fX12_peace_12] at h; cases h
  | succ n ih =>
    intro x1 x2 S h
    rw [fX12_peace_12] at h
    refine cj_iload_n C (i := 1) dX12_peace_12 rfl rfl ?_
    refine cj_if_eq C (tgt := 57) dX12_peace_13 rfl h (fun _ h => ?_) (fun _ h => ?_)
    · refine cj_iload_n C (i := 2) dX12_peace_57 rfl rfl ?_
      refine cj_if_ne C (tgt := 65) dX12_peace_58 rfl h (fun _ h => ?_) (fun _ h => ?_)
      · refine cj_iconst C (v := (0 : Int32)) dX12_peace_61 rfl ?_
        refine cj_goto C (tgt := 68) dX12_peace_62 rfl ?_
        exact cj_ireturn C hr h dX12_peace_68
      · refine cj_iload_n C (i := 2) dX12_peace_65 rfl rfl ?_
        refine cj_iconst C (v := (1 : Int32)) dX12_peace_66 rfl ?_
        refine cj_isub C dX12_peace_67 ?_
        exact cj_ireturn C hr h dX12_peace_68
    · refine cj_iconst C (v := (1 : Int32)) dX12_peace_16 rfl ?_
      refine cj_iload_n C (i := 1) dX12_peace_17 rfl rfl ?_
      refine cj_callSi C (As := [.int x1]) (rest := [.int (1 : Int32)]) qX12_leastOf mw_56_0 rfl rfl (Nat.le_of_ble_eq_true rfl) (by decide) dX12_peace_18 h (fun _ _ hf => m_X12_leastOf l w A x1 S _ hf) (fun z1 S2 h => ?_)
      refine ck_ishl C dX12_peace_21 ?_
      refine cj_let h (fun y3 h => ?_)
      refine cj_istore_n C (i := 3) (lv' := [some (.ref (w.2.1 150)), some (.int x1), some (.int x2), some (.int y3), none]) dX12_peace_22 rfl (by decide) rfl rfl ?_
      refine cj_iconst C (v := (0 : Int32)) dX12_peace_23 rfl ?_
      refine cj_istore C (lv' := [some (.ref (w.2.1 150)), some (.int x1), some (.int x2), some (.int y3), some (.int (0 : Int32))]) dX12_peace_24 (by decide) rfl rfl ?_
      exact wX12_peace_26 C hr x1 x2 ih cpFu y3 (0 : Int32) S2 h
def fX12_peace (S : cpS) : Option (Int32 × cpS) :=
    cpLt (cpI S 150 0 (0 : Int32)) fun S1 =>
    cpB (fX12_everybody S1) fun z2 S3 =>
    fX12_peace_12 cpFu z2 (0 : Int32) S3
set_option maxRecDepth 100000 in
set_option maxHeartbeats 4000000 in
theorem m_X12_peace (l : Launch) (w : cpW) (A : Nat → Prop) (S : cpS) (r : Int32 × cpS) (h : fX12_peace S = some r) : cpMi l yX12_peace cX12_peace 5 ((some .int)) 2 w A [.ref (w.2.1 150)] S r := by
  refine cpMi.of (lv := [some (.ref (w.2.1 150)), none, none, none, none]) (by decide) (Nat.le_of_ble_eq_true rfl) rfl (fun p e s m args below meth c C hr => ?_)
  replace C : cpCx p s m args meth c w A cX12_peace RX12 5 := C
  rw [fX12_peace] at h
  refine cj_aload_n C (i := 0) dX12_peace_0 rfl rfl ?_
  refine cj_iconst C (v := (0 : Int32)) dX12_peace_1 rfl ?_
  refine cj_put C (j := 0) o_150 rfl pfX12_1 rfl rfl dX12_peace_2 ?_
  refine cj_lets h (fun S1 h => ?_)
  refine cj_aload_n C (i := 0) dX12_peace_5 rfl rfl ?_
  refine cj_callVi C (As := []) (rest := []) qX12_everybody mw_56_7 o_150 rfl rfl rfl (Nat.le_of_ble_eq_true rfl) (by decide) dX12_peace_6 h (fun _ _ hf => m_X12_everybody l w A S1 _ hf) (fun z2 S3 h => ?_)
  refine cj_istore_n C (i := 1) (lv' := [some (.ref (w.2.1 150)), some (.int z2), none, none, none]) dX12_peace_9 rfl (by decide) rfl rfl ?_
  refine cj_iconst C (v := (0 : Int32)) dX12_peace_10 rfl ?_
  refine cj_istore_n C (i := 2) (lv' := [some (.ref (w.2.1 150)), some (.int z2), some (.int (0 : Int32)), none, none]) dX12_peace_11 rfl (by decide) rfl rfl ?_
  exact wX12_peace_12 C hr cpFu z2 (0 : Int32) S3 h
/-! X12_noTold -/
def fX12_noTold_38 (x1 : Int32) (x2 : Int32) (x3 : Int32) : Nat → Int32 → cpS → Option (Int32 × cpS)
  | 0, _, _ => none
  | n + 1, x5, S =>
    if cpIn x1 4 then (
    if (S.1 172 x1.toNatClampNeg) ≤ x5 then (
    some ((0 : Int32), S)) else (
    if cpIn (((40 : Int32) * x1) + x5) 160 then (
    cpB (fX12_within (S.2 173 (((40 : Int32) * x1) + x5).toNatClampNeg) (Int32.toInt64 x2) (Int32.toInt64 x3) S) fun z1 S2 =>
    if z1 = 0 then (
    some ((-3 : Int32), S2)) else (
    fX12_noTold_38 x1 x2 x3 n (x5 + 1) S2)) else none)) else none
set_option maxRecDepth 100000 in
set_option maxHeartbeats 4000000 in
theorem wX12_noTold_38 (C : cpCx p s m args meth c w A cX12_noTold RX12 6) (hr : meth.sig.returnType = (some .int)) {r : Int32 × cpS} (x1 : Int32) (x2 : Int32) (x3 : Int32) : ∀ (n : Nat) (x5 : Int32) (S : cpS), fX12_noTold_38 x1 x2 x3 n x5 S = some r → cpJ p l e (cpRm 2) s m args below meth c (MQ below (va_Qi (fun x S' => (x, S') = r) (cpWorld w A) A) args s 0 0 A) w A 6 38 [some (.ref (w.2.1 150)), some (.int x1), some (.int x2), some (.int x3), none, some (.int x5)] [] S := by
  intro n
  induction n with
  | zero => intro x5 S h; rw [fX12_noTold_38] at h; cases h
  | succ n ih =>
    intro x5 S h
    rw [fX12_noTold_38] at h
    refine cj_iload C dX12_noTold_38 rfl ?_
    refine cj_aload_n C (i := 0) dX12_noTold_40 rfl rfl ?_
    refine cj_getR C (d := 172) o_150 rfl gfX12_82 dX12_noTold_41 ?_
    refine cj_iload_n C (i := 1) dX12_noTold_44 rfl rfl ?_
    refine cj_iaload C o_172 h dX12_noTold_45 (fun h => ?_)
    refine cj_icmp_ge C (tgt := 80) dX12_noTold_46 rfl h (fun _ h => ?_) (fun _ h => ?_)
    · refine cj_iconst C (v := (0 : Int32)) dX12_noTold_80 rfl ?_
      exact cj_ireturn C hr h dX12_noTold_81
    · refine cj_aload_n C (i := 0) dX12_noTold_49 rfl rfl ?_
      refine cj_getR C (d := 173) o_150 rfl gfX12_85 dX12_noTold_50 ?_
      refine cj_bipush C (v := (40 : Int32)) dX12_noTold_53 rfl ?_
      refine cj_iload_n C (i := 1) dX12_noTold_55 rfl rfl ?_
      refine cj_imul C dX12_noTold_56 ?_
      refine cj_iload C dX12_noTold_57 rfl ?_
      refine cj_iadd C dX12_noTold_59 ?_
      refine cj_laload C o_173 h dX12_noTold_60 (fun h => ?_)
      refine cj_iload_n C (i := 2) dX12_noTold_61 rfl rfl ?_
      refine cj_i2l C dX12_noTold_62 ?_
      refine cj_iload_n C (i := 3) dX12_noTold_63 rfl rfl ?_
      refine cj_i2l C dX12_noTold_64 ?_
      refine cj_callSi C (As := [.long (S.2 173 (((40 : Int32) * x1) + x5).toNatClampNeg), .long (Int32.toInt64 x2), .long (Int32.toInt64 x3)]) (rest := []) qX12_within mw_23_15 rfl rfl (Nat.le_of_ble_eq_true rfl) (by decide) dX12_noTold_65 h (fun _ _ hf => m_X12_within l w A (S.2 173 (((40 : Int32) * x1) + x5).toNatClampNeg) (Int32.toInt64 x2) (Int32.toInt64 x3) S _ hf) (fun z1 S2 h => ?_)
      refine cj_if_ne C (tgt := 74) dX12_noTold_68 rfl h (fun _ h => ?_) (fun _ h => ?_)
      · refine cj_bipush C (v := (-3 : Int32)) dX12_noTold_71 rfl ?_
        exact cj_ireturn C hr h dX12_noTold_73
      · refine cj_iinc C (v := (x5 + 1)) (lv' := [some (.ref (w.2.1 150)), some (.int x1), some (.int x2), some (.int x3), none, some (.int (x5 + 1))]) dX12_noTold_74 rfl rfl (by decide) rfl rfl ?_
        refine cj_goto C (tgt := 38) dX12_noTold_77 rfl ?_
        exact ih (x5 + 1) S2 h
def fX12_noTold (x1 : Int32) (x2 : Int32) (x3 : Int32) (S : cpS) : Option (Int32 × cpS) :=
    cpB (fX12_noTray x1 S) fun z1 S2 =>
    if z1 = 0 then (
    if cpIn x1 4 then (
    cpB (fX12_within (Int32.toInt64 (S2.1 172 x1.toNatClampNeg)) (1 : Int64) (8 : Int64) S2) fun z3 S4 =>
    if z3 = 0 then (
    some ((-4 : Int32), S4)) else (
    fX12_noTold_38 x1 x2 x3 cpFu (0 : Int32) S4)) else none) else (
    some (z1, S2))
set_option maxRecDepth 100000 in
set_option maxHeartbeats 4000000 in
theorem m_X12_noTold (l : Launch) (w : cpW) (A : Nat → Prop) (x1 : Int32) (x2 : Int32) (x3 : Int32) (S : cpS) (r : Int32 × cpS) (h : fX12_noTold x1 x2 x3 S = some r) : cpMi l yX12_noTold cX12_noTold 6 ((some .int)) 2 w A [.ref (w.2.1 150), .int x1, .int x2, .int x3] S r := by
  refine cpMi.of (lv := [some (.ref (w.2.1 150)), some (.int x1), some (.int x2), some (.int x3), none, none]) (by decide) (Nat.le_of_ble_eq_true rfl) rfl (fun p e s m args below meth c C hr => ?_)
  replace C : cpCx p s m args meth c w A cX12_noTold RX12 6 := C
  rw [fX12_noTold] at h
  refine cj_aload_n C (i := 0) dX12_noTold_0 rfl rfl ?_
  refine cj_iload_n C (i := 1) dX12_noTold_1 rfl rfl ?_
  refine cj_callVi C (As := [.int x1]) (rest := []) qX12_noTray mw_44_10 o_150 rfl rfl rfl (Nat.le_of_ble_eq_true rfl) (by decide) dX12_noTold_2 h (fun _ _ hf => m_X12_noTray l w A x1 S _ hf) (fun z1 S2 h => ?_)
  refine cj_istore C (lv' := [some (.ref (w.2.1 150)), some (.int x1), some (.int x2), some (.int x3), some (.int z1), none]) dX12_noTold_5 (by decide) rfl rfl ?_
  refine cj_iload C dX12_noTold_7 rfl ?_
  refine cj_if_eq C (tgt := 15) dX12_noTold_9 rfl h (fun _ h => ?_) (fun _ h => ?_)
  · refine cj_aload_n C (i := 0) dX12_noTold_15 rfl rfl ?_
    refine cj_getR C (d := 172) o_150 rfl gfX12_82 dX12_noTold_16 ?_
    refine cj_iload_n C (i := 1) dX12_noTold_19 rfl rfl ?_
    refine cj_iaload C o_172 h dX12_noTold_20 (fun h => ?_)
    refine cj_i2l C dX12_noTold_21 ?_
    refine cj_lconst C (v := (1 : Int64)) dX12_noTold_22 rfl ?_
    refine cj_ldc2 C (v := (8 : Int64)) mw_51_20 dX12_noTold_23 ?_
    refine cj_callSi C (As := [.long (Int32.toInt64 (S2.1 172 x1.toNatClampNeg)), .long (1 : Int64), .long (8 : Int64)]) (rest := []) qX12_within mw_23_15 rfl rfl (Nat.le_of_ble_eq_true rfl) (by decide) dX12_noTold_26 h (fun _ _ hf => m_X12_within l w A (Int32.toInt64 (S2.1 172 x1.toNatClampNeg)) (1 : Int64) (8 : Int64) S2 _ hf) (fun z3 S4 h => ?_)
    refine cj_if_ne C (tgt := 35) dX12_noTold_29 rfl h (fun _ h => ?_) (fun _ h => ?_)
    · refine cj_bipush C (v := (-4 : Int32)) dX12_noTold_32 rfl ?_
      exact cj_ireturn C hr h dX12_noTold_34
    · refine cj_iconst C (v := (0 : Int32)) dX12_noTold_35 rfl ?_
      refine cj_istore C (lv' := [some (.ref (w.2.1 150)), some (.int x1), some (.int x2), some (.int x3), some (.int z1), some (.int (0 : Int32))]) dX12_noTold_36 (by decide) rfl rfl ?_
      refine cj_weak C (lv' := [some (.ref (w.2.1 150)), some (.int x1), some (.int x2), some (.int x3), none, some (.int (0 : Int32))]) (cpSub_s (cpSub_s (cpSub_s (cpSub_s (cpSub_n (cpSub_s cpSub_nil)))))) ?_
      exact wX12_noTold_38 C hr x1 x2 x3 cpFu (0 : Int32) S4 h
  · refine cj_iload C dX12_noTold_12 rfl ?_
    exact cj_ireturn C hr h dX12_noTold_14
/-! X12_noWorn -/
def fX12_noWorn (x1 : Int32) (x2 : Int32) (S : cpS) : Option (Int32 × cpS) :=
    cpB (fX12_within (Int32.toInt64 x1) (0 : Int64) (3 : Int64) S) fun z1 S2 =>
    if z1 = 0 then (
    some ((-2 : Int32), S2)) else (
    cpB (fX12_isCoin (Int32.toInt64 x2) S2) fun z3 S4 =>
    if z3 = 0 then (
    some ((-2 : Int32), S4)) else (
    cpB (fX12_noTold x1 (-1 : Int32) (9 : Int32) S4) fun z5 S6 =>
    some (z5, S6)))
set_option maxRecDepth 100000 in
set_option maxHeartbeats 4000000 in
theorem m_X12_noWorn (l : Launch) (w : cpW) (A : Nat → Prop) (x1 : Int32) (x2 : Int32) (S : cpS) (r : Int32 × cpS) (h : fX12_noWorn x1 x2 S = some r) : cpMi l yX12_noWorn cX12_noWorn 3 ((some .int)) 3 w A [.ref (w.2.1 150), .int x1, .int x2] S r := by
  refine cpMi.of (lv := [some (.ref (w.2.1 150)), some (.int x1), some (.int x2)]) (by decide) (Nat.le_of_ble_eq_true rfl) rfl (fun p e s m args below meth c C hr => ?_)
  replace C : cpCx p s m args meth c w A cX12_noWorn RX12 3 := C
  rw [fX12_noWorn] at h
  refine cj_iload_n C (i := 1) dX12_noWorn_0 rfl rfl ?_
  refine cj_i2l C dX12_noWorn_1 ?_
  refine cj_lconst C (v := (0 : Int64)) dX12_noWorn_2 rfl ?_
  refine cj_ldc2 C (v := (3 : Int64)) mw_44_8 dX12_noWorn_3 ?_
  refine cj_callSi C (As := [.long (Int32.toInt64 x1), .long (0 : Int64), .long (3 : Int64)]) (rest := []) qX12_within mw_23_15 rfl rfl (Nat.le_of_ble_eq_true rfl) (by decide) dX12_noWorn_6 h (fun _ _ hf => m_X12_within l w A (Int32.toInt64 x1) (0 : Int64) (3 : Int64) S _ hf) (fun z1 S2 h => ?_)
  refine cj_if_eq C (tgt := 21) dX12_noWorn_9 rfl h (fun _ h => ?_) (fun _ h => ?_)
  · refine cj_bipush C (v := (-2 : Int32)) dX12_noWorn_21 rfl ?_
    refine cj_goto C (tgt := 34) dX12_noWorn_23 rfl ?_
    exact cj_ireturn C hr h dX12_noWorn_34
  · refine cj_aload_n C (i := 0) dX12_noWorn_12 rfl rfl ?_
    refine cj_iload_n C (i := 2) dX12_noWorn_13 rfl rfl ?_
    refine cj_i2l C dX12_noWorn_14 ?_
    refine cj_callVi C (As := [.long (Int32.toInt64 x2)]) (rest := []) qX12_isCoin mw_30_9 o_150 rfl rfl rfl (Nat.le_of_ble_eq_true rfl) (by decide) dX12_noWorn_15 h (fun _ _ hf => m_X12_isCoin l w A (Int32.toInt64 x2) S2 _ hf) (fun z3 S4 h => ?_)
    refine cj_if_ne C (tgt := 26) dX12_noWorn_18 rfl h (fun _ h => ?_) (fun _ h => ?_)
    · refine cj_bipush C (v := (-2 : Int32)) dX12_noWorn_21 rfl ?_
      refine cj_goto C (tgt := 34) dX12_noWorn_23 rfl ?_
      exact cj_ireturn C hr h dX12_noWorn_34
    · refine cj_aload_n C (i := 0) dX12_noWorn_26 rfl rfl ?_
      refine cj_iload_n C (i := 1) dX12_noWorn_27 rfl rfl ?_
      refine cj_iconst C (v := (-1 : Int32)) dX12_noWorn_28 rfl ?_
      refine cj_bipush C (v := (9 : Int32)) dX12_noWorn_29 rfl ?_
      refine cj_callVi C (As := [.int x1, .int (-1 : Int32), .int (9 : Int32)]) (rest := []) qX12_noTold mw_65_17 o_150 rfl rfl rfl (Nat.le_of_ble_eq_true rfl) (by decide) dX12_noWorn_31 h (fun _ _ hf => m_X12_noTold l w A x1 (-1 : Int32) (9 : Int32) S4 _ hf) (fun z5 S6 h => ?_)
      exact cj_ireturn C hr h dX12_noWorn_34
end CPV
