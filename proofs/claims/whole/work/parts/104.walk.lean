section CPV
variable {p : Program} {l : Launch} {e : Env} {s : State} {m : MethodId} {args : Array Value} {below : List Frame} {meth : Method} {c : Code} {w : cpW} {A : Nat → Prop}
/-! X4_worthOf -/
def fX4_worthOf_4 (x1 : Int32) : Nat → Int32 → Int32 → cpS → Option (Int32 × cpS)
  | 0, _, _, _ => none
  | n + 1, x2, x3, S =>
    if (S.1 1 11) ≤ x3 then (
    some (x2, S)) else (
    cpB (fX11_isIn x1 x3 S) fun z1 S2 =>
    if z1 = 0 then (
    fX4_worthOf_4 x1 n x2 (x3 + 1) S2) else (
    if cpIn x3 4 then (
    cpLt (x2 + (S2.1 10 x3.toNatClampNeg)) fun y3 =>
    fX4_worthOf_4 x1 n y3 (x3 + 1) S2) else none))
set_option maxRecDepth 100000 in
set_option maxHeartbeats 4000000 in
theorem wX4_worthOf_4 (C : cpCx p s m args meth c w A cX4_worthOf RX4 4) (hr : meth.sig.returnType = (some .int)) {r : Int32 × cpS} (x1 : Int32) : ∀ (n : Nat) (x2 : Int32) (x3 : Int32) (S : cpS), fX4_worthOf_4 x1 n x2 x3 S = some r → cpJ p l e (cpRm 1) s m args below meth c (MQ below (va_Qi (fun x S' => (x, S') = r) (cpWorld w A) A) args s 0 0 A) w A 4 4 [some (.ref (w.2.1 119)), some (.int x1), some (.int x2), some (.int x3)] [] S := by
  intro n
  induction n with
  | zero => intro x2 x3 S h; rw [fX4_worthOf_4] at h; cases h
  | succ n ih =>
    intro x2 x3 S h
    rw [fX4_worthOf_4] at h
    refine cj_iload_n C (i := 3) dX4_worthOf_4 rfl rfl ?_
    refine cj_aload_n C (i := 0) dX4_worthOf_5 rfl rfl ?_
    refine cj_getR C (d := 117) o_119 rfl gfX4_34 dX4_worthOf_6 ?_
    refine cj_getR C (d := 1) o_117 rfl gfX4_38 dX4_worthOf_9 ?_
    refine cj_getI C (j := 11) o_1 rfl gfX4_129 dX4_worthOf_12 ?_
    refine cj_icmp_ge C (tgt := 47) dX4_worthOf_15 rfl h (fun _ h => ?_) (fun _ h => ?_)
    · refine cj_iload_n C (i := 2) dX4_worthOf_47 rfl rfl ?_
      exact cj_ireturn C hr h dX4_worthOf_48
    · refine cj_iload_n C (i := 1) dX4_worthOf_18 rfl rfl ?_
      refine cj_iload_n C (i := 3) dX4_worthOf_19 rfl rfl ?_
      refine cj_callNi C (As := [.int x1, .int x3]) (rest := []) qX11_isIn (List.mem_of_getElem? (i := 3) rfl) rfl rfl (Nat.le_of_ble_eq_true rfl) (by decide) dX4_worthOf_20 h (fun _ _ hf => m_X11_isIn l w A x1 x3 S _ hf) (fun z1 S2 h => ?_)
      refine cj_if_eq C (tgt := 41) dX4_worthOf_23 rfl h (fun _ h => ?_) (fun _ h => ?_)
      · refine cj_iinc C (v := (x3 + 1)) (lv' := [some (.ref (w.2.1 119)), some (.int x1), some (.int x2), some (.int (x3 + 1))]) dX4_worthOf_41 rfl rfl (by decide) rfl rfl ?_
        refine cj_goto C (tgt := 4) dX4_worthOf_44 rfl ?_
        exact ih x2 (x3 + 1) S2 h
      · refine cj_iload_n C (i := 2) dX4_worthOf_26 rfl rfl ?_
        refine cj_aload_n C (i := 0) dX4_worthOf_27 rfl rfl ?_
        refine cj_getR C (d := 117) o_119 rfl gfX4_34 dX4_worthOf_28 ?_
        refine cj_getR C (d := 1) o_117 rfl gfX4_38 dX4_worthOf_31 ?_
        refine cj_getR C (d := 10) o_1 rfl gfX4_149 dX4_worthOf_34 ?_
        refine cj_iload_n C (i := 3) dX4_worthOf_37 rfl rfl ?_
        refine cj_iaload C o_10 h dX4_worthOf_38 (fun h => ?_)
        refine cj_iadd C dX4_worthOf_39 ?_
        refine cj_let h (fun y3 h => ?_)
        refine cj_istore_n C (i := 2) (lv' := [some (.ref (w.2.1 119)), some (.int x1), some (.int y3), some (.int x3)]) dX4_worthOf_40 rfl (by decide) rfl rfl ?_
        refine cj_iinc C (v := (x3 + 1)) (lv' := [some (.ref (w.2.1 119)), some (.int x1), some (.int y3), some (.int (x3 + 1))]) dX4_worthOf_41 rfl rfl (by decide) rfl rfl ?_
        refine cj_goto C (tgt := 4) dX4_worthOf_44 rfl ?_
        exact ih y3 (x3 + 1) S2 h
def fX4_worthOf (x1 : Int32) (S : cpS) : Option (Int32 × cpS) :=
    fX4_worthOf_4 x1 cpFu (0 : Int32) (0 : Int32) S
set_option maxRecDepth 100000 in
set_option maxHeartbeats 4000000 in
theorem m_X4_worthOf (l : Launch) (w : cpW) (A : Nat → Prop) (x1 : Int32) (S : cpS) (r : Int32 × cpS) (h : fX4_worthOf x1 S = some r) : cpMi l yX4_worthOf cX4_worthOf 4 ((some .int)) 1 w A [.ref (w.2.1 119), .int x1] S r := by
  refine cpMi.of (lv := [some (.ref (w.2.1 119)), some (.int x1), none, none]) (by decide) (Nat.le_of_ble_eq_true rfl) rfl (fun p e s m args below meth c C hr => ?_)
  replace C : cpCx p s m args meth c w A cX4_worthOf RX4 4 := C
  rw [fX4_worthOf] at h
  refine cj_iconst C (v := (0 : Int32)) dX4_worthOf_0 rfl ?_
  refine cj_istore_n C (i := 2) (lv' := [some (.ref (w.2.1 119)), some (.int x1), some (.int (0 : Int32)), none]) dX4_worthOf_1 rfl (by decide) rfl rfl ?_
  refine cj_iconst C (v := (0 : Int32)) dX4_worthOf_2 rfl ?_
  refine cj_istore_n C (i := 3) (lv' := [some (.ref (w.2.1 119)), some (.int x1), some (.int (0 : Int32)), some (.int (0 : Int32))]) dX4_worthOf_3 rfl (by decide) rfl rfl ?_
  exact wX4_worthOf_4 C hr x1 cpFu (0 : Int32) (0 : Int32) S h
/-! X4_leastPaying -/
def fX4_leastPaying_62 (x1 : Int32) (x2 : Int32) (x3 : Int32) (x4 : Int32) (x5 : Int32) (x7 : Int32) (s0 : Int32) (k8 : Int32 → Int32 → Int32 → cpS → Option (Int32 × cpS)) (S : cpS) : Option (Int32 × cpS) :=
    if s0 = 0 then (
    k8 x3 x4 (x5 + 1) S) else (
    if x7 = (-1 : Int32) then (
    k8 x3 x4 (x5 + 1) S) else (
    if x3 = (-1 : Int32) then (
    k8 x5 x7 (x5 + 1) S) else (
    if x4 ≤ x7 then (
    k8 x3 x4 (x5 + 1) S) else (
    k8 x5 x7 (x5 + 1) S))))
set_option maxRecDepth 100000 in
set_option maxHeartbeats 4000000 in
theorem wX4_leastPaying_62 (C : cpCx p s m args meth c w A cX4_leastPaying RX4 9) (hr : meth.sig.returnType = (some .int)) {r : Int32 × cpS} (x1 : Int32) (x2 : Int32) (x3 : Int32) (x4 : Int32) (x5 : Int32) (x7 : Int32) (s0 : Int32) {k8 : Int32 → Int32 → Int32 → cpS → Option (Int32 × cpS)} (hk8 : ∀ (x3 : Int32) (x4 : Int32) (x5 : Int32) (S : cpS), k8 x3 x4 x5 S = some r → cpJ p l e (cpRm 2) s m args below meth c (MQ below (va_Qi (fun x S' => (x, S') = r) (cpWorld w A) A) args s 0 0 A) w A 9 8 [some (.ref (w.2.1 119)), some (.int x1), some (.int x2), some (.int x3), some (.int x4), some (.int x5), none, none, none] [] S) (S : cpS) (h : fX4_leastPaying_62 x1 x2 x3 x4 x5 x7 s0 k8 S = some r) : cpJ p l e (cpRm 2) s m args below meth c (MQ below (va_Qi (fun x S' => (x, S') = r) (cpWorld w A) A) args s 0 0 A) w A 9 62 [some (.ref (w.2.1 119)), some (.int x1), some (.int x2), some (.int x3), some (.int x4), some (.int x5), none, some (.int x7), none] [.int s0] S := by
  rw [fX4_leastPaying_62] at h
  refine cj_istore C (lv' := [some (.ref (w.2.1 119)), some (.int x1), some (.int x2), some (.int x3), some (.int x4), some (.int x5), none, some (.int x7), some (.int s0)]) dX4_leastPaying_62 (by decide) rfl rfl ?_
  refine cj_iload C dX4_leastPaying_64 rfl ?_
  refine cj_if_eq C (tgt := 94) dX4_leastPaying_66 rfl h (fun _ h => ?_) (fun _ h => ?_)
  · refine cj_iinc C (v := (x5 + 1)) (lv' := [some (.ref (w.2.1 119)), some (.int x1), some (.int x2), some (.int x3), some (.int x4), some (.int (x5 + 1)), none, some (.int x7), some (.int s0)]) dX4_leastPaying_94 rfl rfl (by decide) rfl rfl ?_
    refine cj_goto C (tgt := 8) dX4_leastPaying_97 rfl ?_
    refine cj_weak C (lv' := [some (.ref (w.2.1 119)), some (.int x1), some (.int x2), some (.int x3), some (.int x4), some (.int (x5 + 1)), none, none, none]) (cpSub_s (cpSub_s (cpSub_s (cpSub_s (cpSub_s (cpSub_s (cpSub_n (cpSub_n (cpSub_n cpSub_nil))))))))) ?_
    exact hk8 x3 x4 (x5 + 1) S h
  · refine cj_iload C dX4_leastPaying_69 rfl ?_
    refine cj_iconst C (v := (-1 : Int32)) dX4_leastPaying_71 rfl ?_
    refine cj_icmp_eq C (tgt := 94) dX4_leastPaying_72 rfl h (fun _ h => ?_) (fun _ h => ?_)
    · refine cj_iinc C (v := (x5 + 1)) (lv' := [some (.ref (w.2.1 119)), some (.int x1), some (.int x2), some (.int x3), some (.int x4), some (.int (x5 + 1)), none, some (.int x7), some (.int s0)]) dX4_leastPaying_94 rfl rfl (by decide) rfl rfl ?_
      refine cj_goto C (tgt := 8) dX4_leastPaying_97 rfl ?_
      refine cj_weak C (lv' := [some (.ref (w.2.1 119)), some (.int x1), some (.int x2), some (.int x3), some (.int x4), some (.int (x5 + 1)), none, none, none]) (cpSub_s (cpSub_s (cpSub_s (cpSub_s (cpSub_s (cpSub_s (cpSub_n (cpSub_n (cpSub_n cpSub_nil))))))))) ?_
      exact hk8 x3 x4 (x5 + 1) S h
    · refine cj_iload_n C (i := 3) dX4_leastPaying_75 rfl rfl ?_
      refine cj_iconst C (v := (-1 : Int32)) dX4_leastPaying_76 rfl ?_
      refine cj_icmp_eq C (tgt := 87) dX4_leastPaying_77 rfl h (fun _ h => ?_) (fun _ h => ?_)
      · refine cj_iload C dX4_leastPaying_87 rfl ?_
        refine cj_istore_n C (i := 3) (lv' := [some (.ref (w.2.1 119)), some (.int x1), some (.int x2), some (.int x5), some (.int x4), some (.int x5), none, some (.int x7), some (.int s0)]) dX4_leastPaying_89 rfl (by decide) rfl rfl ?_
        refine cj_iload C dX4_leastPaying_90 rfl ?_
        refine cj_istore C (lv' := [some (.ref (w.2.1 119)), some (.int x1), some (.int x2), some (.int x5), some (.int x7), some (.int x5), none, some (.int x7), some (.int s0)]) dX4_leastPaying_92 (by decide) rfl rfl ?_
        refine cj_iinc C (v := (x5 + 1)) (lv' := [some (.ref (w.2.1 119)), some (.int x1), some (.int x2), some (.int x5), some (.int x7), some (.int (x5 + 1)), none, some (.int x7), some (.int s0)]) dX4_leastPaying_94 rfl rfl (by decide) rfl rfl ?_
        refine cj_goto C (tgt := 8) dX4_leastPaying_97 rfl ?_
        refine cj_weak C (lv' := [some (.ref (w.2.1 119)), some (.int x1), some (.int x2), some (.int x5), some (.int x7), some (.int (x5 + 1)), none, none, none]) (cpSub_s (cpSub_s (cpSub_s (cpSub_s (cpSub_s (cpSub_s (cpSub_n (cpSub_n (cpSub_n cpSub_nil))))))))) ?_
        exact hk8 x5 x7 (x5 + 1) S h
      · refine cj_iload C dX4_leastPaying_80 rfl ?_
        refine cj_iload C dX4_leastPaying_82 rfl ?_
        refine cj_icmp_ge C (tgt := 94) dX4_leastPaying_84 rfl h (fun _ h => ?_) (fun _ h => ?_)
        · refine cj_iinc C (v := (x5 + 1)) (lv' := [some (.ref (w.2.1 119)), some (.int x1), some (.int x2), some (.int x3), some (.int x4), some (.int (x5 + 1)), none, some (.int x7), some (.int s0)]) dX4_leastPaying_94 rfl rfl (by decide) rfl rfl ?_
          refine cj_goto C (tgt := 8) dX4_leastPaying_97 rfl ?_
          refine cj_weak C (lv' := [some (.ref (w.2.1 119)), some (.int x1), some (.int x2), some (.int x3), some (.int x4), some (.int (x5 + 1)), none, none, none]) (cpSub_s (cpSub_s (cpSub_s (cpSub_s (cpSub_s (cpSub_s (cpSub_n (cpSub_n (cpSub_n cpSub_nil))))))))) ?_
          exact hk8 x3 x4 (x5 + 1) S h
        · refine cj_iload C dX4_leastPaying_87 rfl ?_
          refine cj_istore_n C (i := 3) (lv' := [some (.ref (w.2.1 119)), some (.int x1), some (.int x2), some (.int x5), some (.int x4), some (.int x5), none, some (.int x7), some (.int s0)]) dX4_leastPaying_89 rfl (by decide) rfl rfl ?_
          refine cj_iload C dX4_leastPaying_90 rfl ?_
          refine cj_istore C (lv' := [some (.ref (w.2.1 119)), some (.int x1), some (.int x2), some (.int x5), some (.int x7), some (.int x5), none, some (.int x7), some (.int s0)]) dX4_leastPaying_92 (by decide) rfl rfl ?_
          refine cj_iinc C (v := (x5 + 1)) (lv' := [some (.ref (w.2.1 119)), some (.int x1), some (.int x2), some (.int x5), some (.int x7), some (.int (x5 + 1)), none, some (.int x7), some (.int s0)]) dX4_leastPaying_94 rfl rfl (by decide) rfl rfl ?_
          refine cj_goto C (tgt := 8) dX4_leastPaying_97 rfl ?_
          refine cj_weak C (lv' := [some (.ref (w.2.1 119)), some (.int x1), some (.int x2), some (.int x5), some (.int x7), some (.int (x5 + 1)), none, none, none]) (cpSub_s (cpSub_s (cpSub_s (cpSub_s (cpSub_s (cpSub_s (cpSub_n (cpSub_n (cpSub_n cpSub_nil))))))))) ?_
          exact hk8 x5 x7 (x5 + 1) S h
def fX4_leastPaying_8 (x1 : Int32) (x2 : Int32) : Nat → Int32 → Int32 → Int32 → cpS → Option (Int32 × cpS)
  | 0, _, _, _, _ => none
  | n + 1, x3, x4, x5, S =>
    if (cpShl (1 : Int32) (S.1 1 11)) ≤ x5 then (
    some (x3, S)) else (
    cpB (fX4_worthOf x5 S) fun z1 S2 =>
    cpB (fX4_carryingsFor x5 S2) fun z3 S4 =>
    if z1 = x1 then (
    fX4_leastPaying_62 x1 x2 x3 x4 x5 z3 (1 : Int32) (fX4_leastPaying_8 x1 x2 n) S4) else (
    if x2 = 0 then (
    fX4_leastPaying_62 x1 x2 x3 x4 x5 z3 (0 : Int32) (fX4_leastPaying_8 x1 x2 n) S4) else (
    if z1 ≤ x1 then (
    fX4_leastPaying_62 x1 x2 x3 x4 x5 z3 (0 : Int32) (fX4_leastPaying_8 x1 x2 n) S4) else (
    fX4_leastPaying_62 x1 x2 x3 x4 x5 z3 (1 : Int32) (fX4_leastPaying_8 x1 x2 n) S4))))
set_option maxRecDepth 100000 in
set_option maxHeartbeats 4000000 in
theorem wX4_leastPaying_8 (C : cpCx p s m args meth c w A cX4_leastPaying RX4 9) (hr : meth.sig.returnType = (some .int)) {r : Int32 × cpS} (x1 : Int32) (x2 : Int32) : ∀ (n : Nat) (x3 : Int32) (x4 : Int32) (x5 : Int32) (S : cpS), fX4_leastPaying_8 x1 x2 n x3 x4 x5 S = some r → cpJ p l e (cpRm 2) s m args below meth c (MQ below (va_Qi (fun x S' => (x, S') = r) (cpWorld w A) A) args s 0 0 A) w A 9 8 [some (.ref (w.2.1 119)), some (.int x1), some (.int x2), some (.int x3), some (.int x4), some (.int x5), none, none, none] [] S := by
  intro n
  induction n with
  | zero => intro x3 x4 x5 S h; rw [fX4_leastPaying_8] at h; cases h
  | succ n ih =>
    intro x3 x4 x5 S h
    rw [fX4_leastPaying_8] at h
    refine cj_iload C dX4_leastPaying_8 rfl ?_
    refine cj_iconst C (v := (1 : Int32)) dX4_leastPaying_10 rfl ?_
    refine cj_aload_n C (i := 0) dX4_leastPaying_11 rfl rfl ?_
    refine cj_getR C (d := 117) o_119 rfl gfX4_34 dX4_leastPaying_12 ?_
    refine cj_getR C (d := 1) o_117 rfl gfX4_38 dX4_leastPaying_15 ?_
    refine cj_getI C (j := 11) o_1 rfl gfX4_129 dX4_leastPaying_18 ?_
    refine ck_ishl C dX4_leastPaying_21 ?_
    refine cj_icmp_ge C (tgt := 100) dX4_leastPaying_22 rfl h (fun _ h => ?_) (fun _ h => ?_)
    · refine cj_iload_n C (i := 3) dX4_leastPaying_100 rfl rfl ?_
      exact cj_ireturn C hr h dX4_leastPaying_101
    · refine cj_aload_n C (i := 0) dX4_leastPaying_25 rfl rfl ?_
      refine cj_iload C dX4_leastPaying_26 rfl ?_
      refine cj_callVi C (As := [.int x5]) (rest := []) qX4_worthOf mw_53_6 o_119 rfl rfl rfl (Nat.le_of_ble_eq_true rfl) (by decide) dX4_leastPaying_28 h (fun _ _ hf => m_X4_worthOf l w A x5 S _ hf) (fun z1 S2 h => ?_)
      refine cj_istore C (lv' := [some (.ref (w.2.1 119)), some (.int x1), some (.int x2), some (.int x3), some (.int x4), some (.int x5), some (.int z1), none, none]) dX4_leastPaying_31 (by decide) rfl rfl ?_
      refine cj_aload_n C (i := 0) dX4_leastPaying_33 rfl rfl ?_
      refine cj_iload C dX4_leastPaying_34 rfl ?_
      refine cj_callVi C (As := [.int x5]) (rest := []) qX4_carryingsFor mw_53_11 o_119 rfl rfl rfl (Nat.le_of_ble_eq_true rfl) (by decide) dX4_leastPaying_36 h (fun _ _ hf => m_X4_carryingsFor l w A x5 S2 _ hf) (fun z3 S4 h => ?_)
      refine cj_istore C (lv' := [some (.ref (w.2.1 119)), some (.int x1), some (.int x2), some (.int x3), some (.int x4), some (.int x5), some (.int z1), some (.int z3), none]) dX4_leastPaying_39 (by decide) rfl rfl ?_
      refine cj_iload C dX4_leastPaying_41 rfl ?_
      refine cj_iload_n C (i := 1) dX4_leastPaying_43 rfl rfl ?_
      refine cj_icmp_eq C (tgt := 57) dX4_leastPaying_44 rfl h (fun _ h => ?_) (fun _ h => ?_)
      · refine cj_iconst C (v := (1 : Int32)) dX4_leastPaying_57 rfl ?_
        refine cj_goto C (tgt := 62) dX4_leastPaying_58 rfl ?_
        refine cj_weak C (lv' := [some (.ref (w.2.1 119)), some (.int x1), some (.int x2), some (.int x3), some (.int x4), some (.int x5), none, some (.int z3), none]) (cpSub_s (cpSub_s (cpSub_s (cpSub_s (cpSub_s (cpSub_s (cpSub_n (cpSub_s (cpSub_n cpSub_nil))))))))) ?_
        exact wX4_leastPaying_62 C hr x1 x2 x3 x4 x5 z3 (1 : Int32) ih S4 h
      · refine cj_iload_n C (i := 2) dX4_leastPaying_47 rfl rfl ?_
        refine cj_if_eq C (tgt := 61) dX4_leastPaying_48 rfl h (fun _ h => ?_) (fun _ h => ?_)
        · refine cj_iconst C (v := (0 : Int32)) dX4_leastPaying_61 rfl ?_
          refine cj_weak C (lv' := [some (.ref (w.2.1 119)), some (.int x1), some (.int x2), some (.int x3), some (.int x4), some (.int x5), none, some (.int z3), none]) (cpSub_s (cpSub_s (cpSub_s (cpSub_s (cpSub_s (cpSub_s (cpSub_n (cpSub_s (cpSub_n cpSub_nil))))))))) ?_
          exact wX4_leastPaying_62 C hr x1 x2 x3 x4 x5 z3 (0 : Int32) ih S4 h
        · refine cj_iload C dX4_leastPaying_51 rfl ?_
          refine cj_iload_n C (i := 1) dX4_leastPaying_53 rfl rfl ?_
          refine cj_icmp_le C (tgt := 61) dX4_leastPaying_54 rfl h (fun _ h => ?_) (fun _ h => ?_)
          · refine cj_iconst C (v := (0 : Int32)) dX4_leastPaying_61 rfl ?_
            refine cj_weak C (lv' := [some (.ref (w.2.1 119)), some (.int x1), some (.int x2), some (.int x3), some (.int x4), some (.int x5), none, some (.int z3), none]) (cpSub_s (cpSub_s (cpSub_s (cpSub_s (cpSub_s (cpSub_s (cpSub_n (cpSub_s (cpSub_n cpSub_nil))))))))) ?_
            exact wX4_leastPaying_62 C hr x1 x2 x3 x4 x5 z3 (0 : Int32) ih S4 h
          · refine cj_iconst C (v := (1 : Int32)) dX4_leastPaying_57 rfl ?_
            refine cj_goto C (tgt := 62) dX4_leastPaying_58 rfl ?_
            refine cj_weak C (lv' := [some (.ref (w.2.1 119)), some (.int x1), some (.int x2), some (.int x3), some (.int x4), some (.int x5), none, some (.int z3), none]) (cpSub_s (cpSub_s (cpSub_s (cpSub_s (cpSub_s (cpSub_s (cpSub_n (cpSub_s (cpSub_n cpSub_nil))))))))) ?_
            exact wX4_leastPaying_62 C hr x1 x2 x3 x4 x5 z3 (1 : Int32) ih S4 h
def fX4_leastPaying (x1 : Int32) (x2 : Int32) (S : cpS) : Option (Int32 × cpS) :=
    fX4_leastPaying_8 x1 x2 cpFu (-1 : Int32) (0 : Int32) (0 : Int32) S
set_option maxRecDepth 100000 in
set_option maxHeartbeats 4000000 in
theorem m_X4_leastPaying (l : Launch) (w : cpW) (A : Nat → Prop) (x1 : Int32) (x2 : Int32) (S : cpS) (r : Int32 × cpS) (h : fX4_leastPaying x1 x2 S = some r) : cpMi l yX4_leastPaying cX4_leastPaying 9 ((some .int)) 2 w A [.ref (w.2.1 119), .int x1, .int x2] S r := by
  refine cpMi.of (lv := [some (.ref (w.2.1 119)), some (.int x1), some (.int x2), none, none, none, none, none, none]) (by decide) (Nat.le_of_ble_eq_true rfl) rfl (fun p e s m args below meth c C hr => ?_)
  replace C : cpCx p s m args meth c w A cX4_leastPaying RX4 9 := C
  rw [fX4_leastPaying] at h
  refine cj_iconst C (v := (-1 : Int32)) dX4_leastPaying_0 rfl ?_
  refine cj_istore_n C (i := 3) (lv' := [some (.ref (w.2.1 119)), some (.int x1), some (.int x2), some (.int (-1 : Int32)), none, none, none, none, none]) dX4_leastPaying_1 rfl (by decide) rfl rfl ?_
  refine cj_iconst C (v := (0 : Int32)) dX4_leastPaying_2 rfl ?_
  refine cj_istore C (lv' := [some (.ref (w.2.1 119)), some (.int x1), some (.int x2), some (.int (-1 : Int32)), some (.int (0 : Int32)), none, none, none, none]) dX4_leastPaying_3 (by decide) rfl rfl ?_
  refine cj_iconst C (v := (0 : Int32)) dX4_leastPaying_5 rfl ?_
  refine cj_istore C (lv' := [some (.ref (w.2.1 119)), some (.int x1), some (.int x2), some (.int (-1 : Int32)), some (.int (0 : Int32)), some (.int (0 : Int32)), none, none, none]) dX4_leastPaying_6 (by decide) rfl rfl ?_
  exact wX4_leastPaying_8 C hr x1 x2 cpFu (-1 : Int32) (0 : Int32) (0 : Int32) S h
/-! X5_begin -/
def fX5_begin (v : Nat) (k1 : Nat) (S : cpS) : Option (Unit × cpS) :=
    cpLt (cpRI S (v + 1) (va_cpy (S.1 (k1 + 7)) (S.1 (v + 1)) 0 0 4)) fun S1 =>
    cpLt (cpRI S1 (v + 3) (va_cpy (S1.1 (k1 + 6)) (S1.1 (v + 3)) 0 0 8)) fun S2 =>
    cpB (fJ7_fill_53178 (v + 2) 4 (0 : Int32) S2) fun _ S4 =>
    cpLt (cpI S4 v 3 (S4.1 k1 1)) fun S5 =>
    cpLt (cpI S5 v 4 (0 : Int32)) fun S6 =>
    some ((), S6)
set_option maxRecDepth 100000 in
set_option maxHeartbeats 4000000 in
theorem m_X5_begin (l : Launch) (w : cpW) (A : Nat → Prop) {v : Nat} (hv : cpNw v) {k1 : Nat} (hk1 : cpVy k1) (S : cpS) (r : Unit × cpS) (h : fX5_begin v k1 S = some r) : cpMv l yX5_begin cX5_begin 2 (none) 1 w A [.ref (w.2.1 v), .ref (w.2.1 k1)] S r := by
  refine cpMv.of (lv := [some (.ref (w.2.1 v)), some (.ref (w.2.1 k1))]) (by decide) (Nat.le_of_ble_eq_true rfl) rfl (fun p e s m args below meth c C hr => ?_)
  replace C : cpCx p s m args meth c w A cX5_begin RX5 2 := C
  rw [fX5_begin] at h
  refine cj_aload_n C (i := 1) dX5_begin_0 rfl rfl ?_
  refine cj_getR C (d := (k1 + 7)) (cpVy_o0 hk1) rfl gfX5_21 dX5_begin_1 ?_
  refine cj_iconst C (v := (0 : Int32)) dX5_begin_4 rfl ?_
  refine cj_aload_n C (i := 0) dX5_begin_5 rfl rfl ?_
  refine cj_getR C (d := (v + 1)) (cpNw_o0 hv) rfl gfX5_9 dX5_begin_6 ?_
  refine cj_iconst C (v := (0 : Int32)) dX5_begin_9 rfl ?_
  refine cj_iconst C (v := (4 : Int32)) dX5_begin_10 rfl ?_
  refine ck_copyi C (sp' := 0) (dp' := 0) (n' := 4) (cpVy_o7 hk1) (cpNw_o1 hv) mw_22_18 mw_22_5 mw_22_6 mw_22_7 (by decide) (by decide) (by decide) (by decide) (by decide) rfl rfl rfl (by decide) (Nat.le_of_ble_eq_true rfl) dX5_begin_11 ?_
  refine cj_lets h (fun S1 h => ?_)
  refine cj_aload_n C (i := 1) dX5_begin_14 rfl rfl ?_
  refine cj_getR C (d := (k1 + 6)) (cpVy_o0 hk1) rfl gfX5_32 dX5_begin_15 ?_
  refine cj_iconst C (v := (0 : Int32)) dX5_begin_18 rfl ?_
  refine cj_aload_n C (i := 0) dX5_begin_19 rfl rfl ?_
  refine cj_getR C (d := (v + 3)) (cpNw_o0 hv) rfl gfX5_18 dX5_begin_20 ?_
  refine cj_iconst C (v := (0 : Int32)) dX5_begin_23 rfl ?_
  refine cj_bipush C (v := (8 : Int32)) dX5_begin_24 rfl ?_
  refine ck_copyi C (sp' := 0) (dp' := 0) (n' := 8) (cpVy_o6 hk1) (cpNw_o3 hv) mw_22_18 mw_22_5 mw_22_6 mw_22_7 (by decide) (by decide) (by decide) (by decide) (by decide) rfl rfl rfl (by decide) (Nat.le_of_ble_eq_true rfl) dX5_begin_26 ?_
  refine cj_lets h (fun S2 h => ?_)
  refine cj_aload_n C (i := 0) dX5_begin_29 rfl rfl ?_
  refine cj_getR C (d := (v + 2)) (cpNw_o0 hv) rfl gfX5_15 dX5_begin_30 ?_
  refine cj_iconst C (v := (0 : Int32)) dX5_begin_33 rfl ?_
  refine cj_callSv C (As := [.ref (w.2.1 (v + 2)), .int (0 : Int32)]) (rest := []) qJ7_fill_53178 mw_22_23 rfl rfl (Nat.le_of_ble_eq_true rfl) (by decide) dX5_begin_34 h (fun _ _ hf => m_J7_fill_53178 l w A (cpNw_o2 hv) (0 : Int32) S2 _ hf) (fun z3 S4 h => ?_)
  refine cj_aload_n C (i := 0) dX5_begin_37 rfl rfl ?_
  refine cj_aload_n C (i := 1) dX5_begin_38 rfl rfl ?_
  refine cj_getI C (j := 1) (cpVy_o0 hk1) rfl gfX5_39 dX5_begin_39 ?_
  refine cj_put C (j := 3) (cpNw_o0 hv) rfl pfX5_43 rfl rfl dX5_begin_42 ?_
  refine cj_lets h (fun S5 h => ?_)
  refine cj_aload_n C (i := 0) dX5_begin_45 rfl rfl ?_
  refine cj_iconst C (v := (0 : Int32)) dX5_begin_46 rfl ?_
  refine cj_put C (j := 4) (cpNw_o0 hv) rfl pfX5_46 rfl rfl dX5_begin_47 ?_
  refine cj_lets h (fun S6 h => ?_)
  exact cj_vreturn C hr h dX5_begin_50
/-! X5_copyFrom -/
def fX5_copyFrom (v : Nat) (k1 : Nat) (S : cpS) : Option (Unit × cpS) :=
    cpLt (cpRI S (v + 1) (va_cpy (S.1 (k1 + 1)) (S.1 (v + 1)) 0 0 4)) fun S1 =>
    cpLt (cpRI S1 (v + 2) (va_cpy (S1.1 (k1 + 2)) (S1.1 (v + 2)) 0 0 4)) fun S2 =>
    cpLt (cpRI S2 (v + 3) (va_cpy (S2.1 (k1 + 3)) (S2.1 (v + 3)) 0 0 8)) fun S3 =>
    cpLt (cpI S3 v 3 (S3.1 k1 3)) fun S4 =>
    cpLt (cpI S4 v 4 (S4.1 k1 4)) fun S5 =>
    some ((), S5)
set_option maxRecDepth 100000 in
set_option maxHeartbeats 4000000 in
theorem m_X5_copyFrom (l : Launch) (w : cpW) (A : Nat → Prop) {v : Nat} (hv : cpNw v) {k1 : Nat} (hk1 : cpNw k1) (S : cpS) (r : Unit × cpS) (h : fX5_copyFrom v k1 S = some r) : cpMv l yX5_copyFrom cX5_copyFrom 2 (none) 1 w A [.ref (w.2.1 v), .ref (w.2.1 k1)] S r := by
  refine cpMv.of (lv := [some (.ref (w.2.1 v)), some (.ref (w.2.1 k1))]) (by decide) (Nat.le_of_ble_eq_true rfl) rfl (fun p e s m args below meth c C hr => ?_)
  replace C : cpCx p s m args meth c w A cX5_copyFrom RX5 2 := C
  rw [fX5_copyFrom] at h
  refine cj_aload_n C (i := 1) dX5_copyFrom_0 rfl rfl ?_
  refine cj_getR C (d := (k1 + 1)) (cpNw_o0 hk1) rfl gfX5_9 dX5_copyFrom_1 ?_
  refine cj_iconst C (v := (0 : Int32)) dX5_copyFrom_4 rfl ?_
  refine cj_aload_n C (i := 0) dX5_copyFrom_5 rfl rfl ?_
  refine cj_getR C (d := (v + 1)) (cpNw_o0 hv) rfl gfX5_9 dX5_copyFrom_6 ?_
  refine cj_iconst C (v := (0 : Int32)) dX5_copyFrom_9 rfl ?_
  refine cj_iconst C (v := (4 : Int32)) dX5_copyFrom_10 rfl ?_
  refine ck_copyi C (sp' := 0) (dp' := 0) (n' := 4) (cpNw_o1 hk1) (cpNw_o1 hv) mw_22_18 mw_22_5 mw_22_6 mw_22_7 (by decide) (by decide) (by decide) (by decide) (by decide) rfl rfl rfl (by decide) (Nat.le_of_ble_eq_true rfl) dX5_copyFrom_11 ?_
  refine cj_lets h (fun S1 h => ?_)
  refine cj_aload_n C (i := 1) dX5_copyFrom_14 rfl rfl ?_
  refine cj_getR C (d := (k1 + 2)) (cpNw_o0 hk1) rfl gfX5_15 dX5_copyFrom_15 ?_
  refine cj_iconst C (v := (0 : Int32)) dX5_copyFrom_18 rfl ?_
  refine cj_aload_n C (i := 0) dX5_copyFrom_19 rfl rfl ?_
  refine cj_getR C (d := (v + 2)) (cpNw_o0 hv) rfl gfX5_15 dX5_copyFrom_20 ?_
  refine cj_iconst C (v := (0 : Int32)) dX5_copyFrom_23 rfl ?_
  refine cj_iconst C (v := (4 : Int32)) dX5_copyFrom_24 rfl ?_
  refine ck_copyi C (sp' := 0) (dp' := 0) (n' := 4) (cpNw_o2 hk1) (cpNw_o2 hv) mw_22_18 mw_22_5 mw_22_6 mw_22_7 (by decide) (by decide) (by decide) (by decide) (by decide) rfl rfl rfl (by decide) (Nat.le_of_ble_eq_true rfl) dX5_copyFrom_25 ?_
  refine cj_lets h (fun S2 h => ?_)
  refine cj_aload_n C (i := 1) dX5_copyFrom_28 rfl rfl ?_
  refine cj_getR C (d := (k1 + 3)) (cpNw_o0 hk1) rfl gfX5_18 dX5_copyFrom_29 ?_
  refine cj_iconst C (v := (0 : Int32)) dX5_copyFrom_32 rfl ?_
  refine cj_aload_n C (i := 0) dX5_copyFrom_33 rfl rfl ?_
  refine cj_getR C (d := (v + 3)) (cpNw_o0 hv) rfl gfX5_18 dX5_copyFrom_34 ?_
  refine cj_iconst C (v := (0 : Int32)) dX5_copyFrom_37 rfl ?_
  refine cj_bipush C (v := (8 : Int32)) dX5_copyFrom_38 rfl ?_
  refine ck_copyi C (sp' := 0) (dp' := 0) (n' := 8) (cpNw_o3 hk1) (cpNw_o3 hv) mw_22_18 mw_22_5 mw_22_6 mw_22_7 (by decide) (by decide) (by decide) (by decide) (by decide) rfl rfl rfl (by decide) (Nat.le_of_ble_eq_true rfl) dX5_copyFrom_40 ?_
  refine cj_lets h (fun S3 h => ?_)
  refine cj_aload_n C (i := 0) dX5_copyFrom_43 rfl rfl ?_
  refine cj_aload_n C (i := 1) dX5_copyFrom_44 rfl rfl ?_
  refine cj_getI C (j := 3) (cpNw_o0 hk1) rfl gfX5_43 dX5_copyFrom_45 ?_
  refine cj_put C (j := 3) (cpNw_o0 hv) rfl pfX5_43 rfl rfl dX5_copyFrom_48 ?_
  refine cj_lets h (fun S4 h => ?_)
  refine cj_aload_n C (i := 0) dX5_copyFrom_51 rfl rfl ?_
  refine cj_aload_n C (i := 1) dX5_copyFrom_52 rfl rfl ?_
  refine cj_getI C (j := 4) (cpNw_o0 hk1) rfl gfX5_46 dX5_copyFrom_53 ?_
  refine cj_put C (j := 4) (cpNw_o0 hv) rfl pfX5_46 rfl rfl dX5_copyFrom_56 ?_
  refine cj_lets h (fun S5 h => ?_)
  exact cj_vreturn C hr h dX5_copyFrom_59
/-! X5_quarrelsThereAre -/
def fX5_quarrelsThereAre_4 (v : Nat) : Nat → Int32 → Int32 → cpS → Option (Int32 × cpS)
  | 0, _, _, _ => none
  | n + 1, x1, x2, S =>
    if (8 : Int32) ≤ x2 then (
    some ((x1 / (2 : Int32)), S)) else (
    if cpIn x2 8 then (
    cpB (fJ6_bitCount_0f7a4 (S.1 (v + 3) x2.toNatClampNeg) S) fun z1 S2 =>
    cpLt (x1 + z1) fun y3 =>
    fX5_quarrelsThereAre_4 v n y3 (x2 + 1) S2) else none)
set_option maxRecDepth 100000 in
set_option maxHeartbeats 4000000 in
theorem wX5_quarrelsThereAre_4 (C : cpCx p s m args meth c w A cX5_quarrelsThereAre RX5 3) (hr : meth.sig.returnType = (some .int)) {r : Int32 × cpS} {v : Nat} (hv : cpNw v) : ∀ (n : Nat) (x1 : Int32) (x2 : Int32) (S : cpS), fX5_quarrelsThereAre_4 v n x1 x2 S = some r → cpJ p l e (cpRm 1) s m args below meth c (MQ below (va_Qi (fun x S' => (x, S') = r) (cpWorld w A) A) args s 0 0 A) w A 3 4 [some (.ref (w.2.1 v)), some (.int x1), some (.int x2)] [] S := by
  intro n
  induction n with
  | zero => intro x1 x2 S h; rw [fX5_quarrelsThereAre_4] at h; cases h
  | succ n ih =>
    intro x1 x2 S h
    rw [fX5_quarrelsThereAre_4] at h
    refine cj_iload_n C (i := 2) dX5_quarrelsThereAre_4 rfl rfl ?_
    refine cj_bipush C (v := (8 : Int32)) dX5_quarrelsThereAre_5 rfl ?_
    refine cj_icmp_ge C (tgt := 28) dX5_quarrelsThereAre_7 rfl h (fun _ h => ?_) (fun _ h => ?_)
    · refine cj_iload_n C (i := 1) dX5_quarrelsThereAre_28 rfl rfl ?_
      refine cj_iconst C (v := (2 : Int32)) dX5_quarrelsThereAre_29 rfl ?_
      refine cj_idiv C dX5_quarrelsThereAre_30 (by decide) ?_
      exact cj_ireturn C hr h dX5_quarrelsThereAre_31
    · refine cj_iload_n C (i := 1) dX5_quarrelsThereAre_10 rfl rfl ?_
      refine cj_aload_n C (i := 0) dX5_quarrelsThereAre_11 rfl rfl ?_
      refine cj_getR C (d := (v + 3)) (cpNw_o0 hv) rfl gfX5_18 dX5_quarrelsThereAre_12 ?_
      refine cj_iload_n C (i := 2) dX5_quarrelsThereAre_15 rfl rfl ?_
      refine cj_iaload C (cpNw_o3 hv) h dX5_quarrelsThereAre_16 (fun h => ?_)
      refine cj_callSi C (As := [.int (S.1 (v + 3) x2.toNatClampNeg)]) (rest := [.int x1]) qJ6_bitCount_0f7a4 mw_78_13 rfl rfl (Nat.le_of_ble_eq_true rfl) (by decide) dX5_quarrelsThereAre_17 h (fun _ _ hf => m_J6_bitCount_0f7a4 l w A (S.1 (v + 3) x2.toNatClampNeg) S _ hf) (fun z1 S2 h => ?_)
      refine cj_iadd C dX5_quarrelsThereAre_20 ?_
      refine cj_let h (fun y3 h => ?_)
      refine cj_istore_n C (i := 1) (lv' := [some (.ref (w.2.1 v)), some (.int y3), some (.int x2)]) dX5_quarrelsThereAre_21 rfl (by decide) rfl rfl ?_
      refine cj_iinc C (v := (x2 + 1)) (lv' := [some (.ref (w.2.1 v)), some (.int y3), some (.int (x2 + 1))]) dX5_quarrelsThereAre_22 rfl rfl (by decide) rfl rfl ?_
      refine cj_goto C (tgt := 4) dX5_quarrelsThereAre_25 rfl ?_
      exact ih y3 (x2 + 1) S2 h
def fX5_quarrelsThereAre (v : Nat) (S : cpS) : Option (Int32 × cpS) :=
    fX5_quarrelsThereAre_4 v cpFu (0 : Int32) (0 : Int32) S
set_option maxRecDepth 100000 in
set_option maxHeartbeats 4000000 in
theorem m_X5_quarrelsThereAre (l : Launch) (w : cpW) (A : Nat → Prop) {v : Nat} (hv : cpNw v) (S : cpS) (r : Int32 × cpS) (h : fX5_quarrelsThereAre v S = some r) : cpMi l yX5_quarrelsThereAre cX5_quarrelsThereAre 3 ((some .int)) 1 w A [.ref (w.2.1 v)] S r := by
  refine cpMi.of (lv := [some (.ref (w.2.1 v)), none, none]) (by decide) (Nat.le_of_ble_eq_true rfl) rfl (fun p e s m args below meth c C hr => ?_)
  replace C : cpCx p s m args meth c w A cX5_quarrelsThereAre RX5 3 := C
  rw [fX5_quarrelsThereAre] at h
  refine cj_iconst C (v := (0 : Int32)) dX5_quarrelsThereAre_0 rfl ?_
  refine cj_istore_n C (i := 1) (lv' := [some (.ref (w.2.1 v)), some (.int (0 : Int32)), none]) dX5_quarrelsThereAre_1 rfl (by decide) rfl rfl ?_
  refine cj_iconst C (v := (0 : Int32)) dX5_quarrelsThereAre_2 rfl ?_
  refine cj_istore_n C (i := 2) (lv' := [some (.ref (w.2.1 v)), some (.int (0 : Int32)), some (.int (0 : Int32))]) dX5_quarrelsThereAre_3 rfl (by decide) rfl rfl ?_
  exact wX5_quarrelsThereAre_4 C hr hv cpFu (0 : Int32) (0 : Int32) S h
/-! X5_rimsTogether -/
def fX5_rimsTogether_4 (v : Nat) : Nat → Int32 → Int32 → cpS → Option (Int32 × cpS)
  | 0, _, _, _ => none
  | n + 1, x1, x2, S =>
    if (4 : Int32) ≤ x2 then (
    some (x1, S)) else (
    if cpIn x2 4 then (
    cpLt (x1 + (S.1 (v + 2) x2.toNatClampNeg)) fun y1 =>
    fX5_rimsTogether_4 v n y1 (x2 + 1) S) else none)
set_option maxRecDepth 100000 in
set_option maxHeartbeats 4000000 in
theorem wX5_rimsTogether_4 (C : cpCx p s m args meth c w A cX5_rimsTogether RX5 3) (hr : meth.sig.returnType = (some .int)) {r : Int32 × cpS} {v : Nat} (hv : cpNw v) : ∀ (n : Nat) (x1 : Int32) (x2 : Int32) (S : cpS), fX5_rimsTogether_4 v n x1 x2 S = some r → cpJ p l e (cpRm 0) s m args below meth c (MQ below (va_Qi (fun x S' => (x, S') = r) (cpWorld w A) A) args s 0 0 A) w A 3 4 [some (.ref (w.2.1 v)), some (.int x1), some (.int x2)] [] S := by
  intro n
  induction n with
  | zero => intro x1 x2 S h; rw [fX5_rimsTogether_4] at h; cases h
  | succ n ih =>
    intro x1 x2 S h
    rw [fX5_rimsTogether_4] at h
    refine cj_iload_n C (i := 2) dX5_rimsTogether_4 rfl rfl ?_
    refine cj_iconst C (v := (4 : Int32)) dX5_rimsTogether_5 rfl ?_
    refine cj_icmp_ge C (tgt := 24) dX5_rimsTogether_6 rfl h (fun _ h => ?_) (fun _ h => ?_)
    · refine cj_iload_n C (i := 1) dX5_rimsTogether_24 rfl rfl ?_
      exact cj_ireturn C hr h dX5_rimsTogether_25
    · refine cj_iload_n C (i := 1) dX5_rimsTogether_9 rfl rfl ?_
      refine cj_aload_n C (i := 0) dX5_rimsTogether_10 rfl rfl ?_
      refine cj_getR C (d := (v + 2)) (cpNw_o0 hv) rfl gfX5_15 dX5_rimsTogether_11 ?_
      refine cj_iload_n C (i := 2) dX5_rimsTogether_14 rfl rfl ?_
      refine cj_iaload C (cpNw_o2 hv) h dX5_rimsTogether_15 (fun h => ?_)
      refine cj_iadd C dX5_rimsTogether_16 ?_
      refine cj_let h (fun y1 h => ?_)
      refine cj_istore_n C (i := 1) (lv' := [some (.ref (w.2.1 v)), some (.int y1), some (.int x2)]) dX5_rimsTogether_17 rfl (by decide) rfl rfl ?_
      refine cj_iinc C (v := (x2 + 1)) (lv' := [some (.ref (w.2.1 v)), some (.int y1), some (.int (x2 + 1))]) dX5_rimsTogether_18 rfl rfl (by decide) rfl rfl ?_
      refine cj_goto C (tgt := 4) dX5_rimsTogether_21 rfl ?_
      exact ih y1 (x2 + 1) S h
def fX5_rimsTogether (v : Nat) (S : cpS) : Option (Int32 × cpS) :=
    fX5_rimsTogether_4 v cpFu (0 : Int32) (0 : Int32) S
set_option maxRecDepth 100000 in
set_option maxHeartbeats 4000000 in
theorem m_X5_rimsTogether (l : Launch) (w : cpW) (A : Nat → Prop) {v : Nat} (hv : cpNw v) (S : cpS) (r : Int32 × cpS) (h : fX5_rimsTogether v S = some r) : cpMi l yX5_rimsTogether cX5_rimsTogether 3 ((some .int)) 0 w A [.ref (w.2.1 v)] S r := by
  refine cpMi.of (lv := [some (.ref (w.2.1 v)), none, none]) (by decide) (Nat.le_of_ble_eq_true rfl) rfl (fun p e s m args below meth c C hr => ?_)
  replace C : cpCx p s m args meth c w A cX5_rimsTogether RX5 3 := C
  rw [fX5_rimsTogether] at h
  refine cj_iconst C (v := (0 : Int32)) dX5_rimsTogether_0 rfl ?_
  refine cj_istore_n C (i := 1) (lv' := [some (.ref (w.2.1 v)), some (.int (0 : Int32)), none]) dX5_rimsTogether_1 rfl (by decide) rfl rfl ?_
  refine cj_iconst C (v := (0 : Int32)) dX5_rimsTogether_2 rfl ?_
  refine cj_istore_n C (i := 2) (lv' := [some (.ref (w.2.1 v)), some (.int (0 : Int32)), some (.int (0 : Int32))]) dX5_rimsTogether_3 rfl (by decide) rfl rfl ?_
  exact wX5_rimsTogether_4 C hr hv cpFu (0 : Int32) (0 : Int32) S h
/-! X5_placesAsDigits -/
def fX5_placesAsDigits_4 (v : Nat) : Nat → Int32 → Int32 → cpS → Option (Int32 × cpS)
  | 0, _, _, _ => none
  | n + 1, x1, x2, S =>
    if x2 < 0 then (
    some (x1, S)) else (
    if cpIn x2 4 then (
    cpLt (((10 : Int32) * x1) + (S.1 (v + 1) x2.toNatClampNeg)) fun y1 =>
    fX5_placesAsDigits_4 v n y1 (x2 + (-1)) S) else none)
set_option maxRecDepth 100000 in
set_option maxHeartbeats 4000000 in
theorem wX5_placesAsDigits_4 (C : cpCx p s m args meth c w A cX5_placesAsDigits RX5 3) (hr : meth.sig.returnType = (some .int)) {r : Int32 × cpS} {v : Nat} (hv : cpNw v) : ∀ (n : Nat) (x1 : Int32) (x2 : Int32) (S : cpS), fX5_placesAsDigits_4 v n x1 x2 S = some r → cpJ p l e (cpRm 0) s m args below meth c (MQ below (va_Qi (fun x S' => (x, S') = r) (cpWorld w A) A) args s 0 0 A) w A 3 4 [some (.ref (w.2.1 v)), some (.int x1), some (.int x2)] [] S := by
  intro n
  induction n with
  | zero => intro x1 x2 S h; rw [fX5_placesAsDigits_4] at h; cases h
  | succ n ih =>
    intro x1 x2 S h
    rw [fX5_placesAsDigits_4] at h
    refine cj_iload_n C (i := 2) dX5_placesAsDigits_4 rfl rfl ?_
    refine cj_if_lt C (tgt := 26) dX5_placesAsDigits_5 rfl h (fun _ h => ?_) (fun _ h => ?_)
    · refine cj_iload_n C (i := 1) dX5_placesAsDigits_26 rfl rfl ?_
      exact cj_ireturn C hr h dX5_placesAsDigits_27
    · refine cj_bipush C (v := (10 : Int32)) dX5_placesAsDigits_8 rfl ?_
      refine cj_iload_n C (i := 1) dX5_placesAsDigits_10 rfl rfl ?_
      refine cj_imul C dX5_placesAsDigits_11 ?_
      refine cj_aload_n C (i := 0) dX5_placesAsDigits_12 rfl rfl ?_
      refine cj_getR C (d := (v + 1)) (cpNw_o0 hv) rfl gfX5_9 dX5_placesAsDigits_13 ?_
      refine cj_iload_n C (i := 2) dX5_placesAsDigits_16 rfl rfl ?_
      refine cj_iaload C (cpNw_o1 hv) h dX5_placesAsDigits_17 (fun h => ?_)
      refine cj_iadd C dX5_placesAsDigits_18 ?_
      refine cj_let h (fun y1 h => ?_)
      refine cj_istore_n C (i := 1) (lv' := [some (.ref (w.2.1 v)), some (.int y1), some (.int x2)]) dX5_placesAsDigits_19 rfl (by decide) rfl rfl ?_
      refine cj_iinc C (v := (x2 + (-1))) (lv' := [some (.ref (w.2.1 v)), some (.int y1), some (.int (x2 + (-1)))]) dX5_placesAsDigits_20 rfl rfl (by decide) rfl rfl ?_
      refine cj_goto C (tgt := 4) dX5_placesAsDigits_23 rfl ?_
      exact ih y1 (x2 + (-1)) S h
def fX5_placesAsDigits (v : Nat) (S : cpS) : Option (Int32 × cpS) :=
    fX5_placesAsDigits_4 v cpFu (0 : Int32) (3 : Int32) S
set_option maxRecDepth 100000 in
set_option maxHeartbeats 4000000 in
theorem m_X5_placesAsDigits (l : Launch) (w : cpW) (A : Nat → Prop) {v : Nat} (hv : cpNw v) (S : cpS) (r : Int32 × cpS) (h : fX5_placesAsDigits v S = some r) : cpMi l yX5_placesAsDigits cX5_placesAsDigits 3 ((some .int)) 0 w A [.ref (w.2.1 v)] S r := by
  refine cpMi.of (lv := [some (.ref (w.2.1 v)), none, none]) (by decide) (Nat.le_of_ble_eq_true rfl) rfl (fun p e s m args below meth c C hr => ?_)
  replace C : cpCx p s m args meth c w A cX5_placesAsDigits RX5 3 := C
  rw [fX5_placesAsDigits] at h
  refine cj_iconst C (v := (0 : Int32)) dX5_placesAsDigits_0 rfl ?_
  refine cj_istore_n C (i := 1) (lv' := [some (.ref (w.2.1 v)), some (.int (0 : Int32)), none]) dX5_placesAsDigits_1 rfl (by decide) rfl rfl ?_
  refine cj_iconst C (v := (3 : Int32)) dX5_placesAsDigits_2 rfl ?_
  refine cj_istore_n C (i := 2) (lv' := [some (.ref (w.2.1 v)), some (.int (0 : Int32)), some (.int (3 : Int32))]) dX5_placesAsDigits_3 rfl (by decide) rfl rfl ?_
  exact wX5_placesAsDigits_4 C hr hv cpFu (0 : Int32) (3 : Int32) S h
/-! X6_keep -/
def fX6_keep (k1 : Nat) (S : cpS) : Option (Unit × cpS) :=
    if cpIn (S.1 113 1) 10 then (
    cpB (fX5_copyFrom (65 + 4 * (S.1 113 1).toNatClampNeg) k1 S) fun _ S3 =>
    cpLt (cpI S3 113 1 (cpRem ((S3.1 113 1) + (1 : Int32)) (10 : Int32))) fun S4 =>
    cpLt (cpI S4 113 2 (cpMin (10 : Int32) ((S4.1 113 2) + (1 : Int32)))) fun S5 =>
    some ((), S5)) else none
set_option maxRecDepth 100000 in
set_option maxHeartbeats 4000000 in
theorem m_X6_keep (l : Launch) (w : cpW) (A : Nat → Prop) {k1 : Nat} (hk1 : cpNw k1) (S : cpS) (r : Unit × cpS) (h : fX6_keep k1 S = some r) : cpMv l yX6_keep cX6_keep 2 (none) 2 w A [.ref (w.2.1 113), .ref (w.2.1 k1)] S r := by
  refine cpMv.of (lv := [some (.ref (w.2.1 113)), some (.ref (w.2.1 k1))]) (by decide) (Nat.le_of_ble_eq_true rfl) rfl (fun p e s m args below meth c C hr => ?_)
  replace C : cpCx p s m args meth c w A cX6_keep RX6 2 := C
  rw [fX6_keep] at h
  refine cj_aload_n C (i := 0) dX6_keep_0 rfl rfl ?_
  refine cj_getR C (d := 114) o_113 rfl gfX6_11 dX6_keep_1 ?_
  refine cj_aload_n C (i := 0) dX6_keep_4 rfl rfl ?_
  refine cj_getI C (j := 1) o_113 rfl gfX6_18 dX6_keep_5 ?_
  refine cj_aaload C (d := (65 + 4 * (S.1 113 1).toNatClampNeg)) (by decide) o_114 rfl h (tr_114) dX6_keep_8 (fun hi1 h => ?_)
  refine cj_aload_n C (i := 1) dX6_keep_9 rfl rfl ?_
  refine cj_callVv C (As := [.ref (w.2.1 k1)]) (rest := []) qX5_copyFrom mw_39_5 (cpNw_o0 (tk_114 hi1)) rfl rfl rfl (Nat.le_of_ble_eq_true rfl) (by decide) dX6_keep_10 h (fun _ _ hf => m_X5_copyFrom l w A (tk_114 hi1) hk1 S _ hf) (fun z2 S3 h => ?_)
  refine cj_aload_n C (i := 0) dX6_keep_13 rfl rfl ?_
  refine cj_aload_n C (i := 0) dX6_keep_14 rfl rfl ?_
  refine cj_getI C (j := 1) o_113 rfl gfX6_18 dX6_keep_15 ?_
  refine cj_iconst C (v := (1 : Int32)) dX6_keep_18 rfl ?_
  refine cj_iadd C dX6_keep_19 ?_
  refine cj_bipush C (v := (10 : Int32)) dX6_keep_20 rfl ?_
  refine ck_irem C dX6_keep_22 (by decide) ?_
  refine cj_put C (j := 1) o_113 rfl pfX6_18 rfl rfl dX6_keep_23 ?_
  refine cj_lets h (fun S4 h => ?_)
  refine cj_aload_n C (i := 0) dX6_keep_26 rfl rfl ?_
  refine cj_bipush C (v := (10 : Int32)) dX6_keep_27 rfl ?_
  refine cj_aload_n C (i := 0) dX6_keep_29 rfl rfl ?_
  refine cj_getI C (j := 2) o_113 rfl gfX6_26 dX6_keep_30 ?_
  refine cj_iconst C (v := (1 : Int32)) dX6_keep_33 rfl ?_
  refine cj_iadd C dX6_keep_34 ?_
  refine ck_mmin C mw_39_4 mw_12_17 mw_12_14 mw_12_18 (by decide) (Nat.le_of_ble_eq_true rfl) dX6_keep_35 ?_
  refine cj_put C (j := 2) o_113 rfl pfX6_26 rfl rfl dX6_keep_38 ?_
  refine cj_lets h (fun S5 h => ?_)
  exact cj_vreturn C hr h dX6_keep_41
/-! J9_floorMod_7cf53 -/
def fJ9_floorMod_7cf53 (x0 : Int32) (x1 : Int32) (S : cpS) : Option (Int32 × cpS) :=
    if x1 = 0 then none else (
    cpLt (cpRem x0 x1) fun y1 =>
    if 0 ≤ (x0 ^^^ x1) then (
    some (y1, S)) else (
    if y1 = 0 then (
    some (y1, S)) else (
    some ((y1 + x1), S))))
set_option maxRecDepth 100000 in
set_option maxHeartbeats 4000000 in
theorem m_J9_floorMod_7cf53 (l : Launch) (w : cpW) (A : Nat → Prop) (x0 : Int32) (x1 : Int32) (S : cpS) (r : Int32 × cpS) (h : fJ9_floorMod_7cf53 x0 x1 S = some r) : cpMi l yJ9_floorMod_7cf53 cJ9_floorMod_7cf53 3 ((some .int)) 0 w A [.int x0, .int x1] S r := by
  refine cpMi.ofF (lv := [some (.int x0), some (.int x1), none]) (by decide +kernel) (Nat.le_of_ble_eq_true rfl) rfl (fun p e s m args below meth c C hr => ?_)
  replace C : cpCx p s m args meth c w A cJ9_floorMod_7cf53 RJ9 3 := C
  rw [fJ9_floorMod_7cf53] at h
  refine cj_iload_n C (i := 0) dJ9_floorMod_7cf53_0 rfl rfl ?_
  refine cj_iload_n C (i := 1) dJ9_floorMod_7cf53_1 rfl rfl ?_
  obtain ⟨hne, h⟩ := cpGuardN h
  refine ck_irem C dJ9_floorMod_7cf53_2 hne ?_
  refine cj_let h (fun y1 h => ?_)
  refine cj_istore_n C (i := 2) (lv' := [some (.int x0), some (.int x1), some (.int y1)]) dJ9_floorMod_7cf53_3 rfl (by decide) rfl rfl ?_
  refine cj_iload_n C (i := 0) dJ9_floorMod_7cf53_4 rfl rfl ?_
  refine cj_iload_n C (i := 1) dJ9_floorMod_7cf53_5 rfl rfl ?_
  refine cj_ixor C dJ9_floorMod_7cf53_6 ?_
  refine cj_if_ge C (tgt := 18) dJ9_floorMod_7cf53_7 rfl h (fun _ h => ?_) (fun _ h => ?_)
  · refine cj_iload_n C (i := 2) dJ9_floorMod_7cf53_18 rfl rfl ?_
    exact cj_ireturn C hr h dJ9_floorMod_7cf53_19
  · refine cj_iload_n C (i := 2) dJ9_floorMod_7cf53_10 rfl rfl ?_
    refine cj_if_eq C (tgt := 18) dJ9_floorMod_7cf53_11 rfl h (fun _ h => ?_) (fun _ h => ?_)
    · refine cj_iload_n C (i := 2) dJ9_floorMod_7cf53_18 rfl rfl ?_
      exact cj_ireturn C hr h dJ9_floorMod_7cf53_19
    · refine cj_iload_n C (i := 2) dJ9_floorMod_7cf53_14 rfl rfl ?_
      refine cj_iload_n C (i := 1) dJ9_floorMod_7cf53_15 rfl rfl ?_
      refine cj_iadd C dJ9_floorMod_7cf53_16 ?_
      exact cj_ireturn C hr h dJ9_floorMod_7cf53_17
/-! X6_goBack -/
def fX6_goBack (k1 : Nat) (x2 : Int32) (S : cpS) : Option (Unit × cpS) :=
    cpB (fJ9_floorMod_7cf53 ((S.1 113 1) - x2) (10 : Int32) S) fun z1 S2 =>
    cpLt (cpI S2 113 1 z1) fun S3 =>
    if cpIn (S3.1 113 1) 10 then (
    cpB (fX5_copyFrom k1 (65 + 4 * (S3.1 113 1).toNatClampNeg) S3) fun _ S6 =>
    cpLt (cpI S6 113 2 ((S6.1 113 2) - x2)) fun S7 =>
    some ((), S7)) else none
set_option maxRecDepth 100000 in
set_option maxHeartbeats 4000000 in
theorem m_X6_goBack (l : Launch) (w : cpW) (A : Nat → Prop) {k1 : Nat} (hk1 : cpNw k1) (x2 : Int32) (S : cpS) (r : Unit × cpS) (h : fX6_goBack k1 x2 S = some r) : cpMv l yX6_goBack cX6_goBack 3 (none) 2 w A [.ref (w.2.1 113), .ref (w.2.1 k1), .int x2] S r := by
  refine cpMv.of (lv := [some (.ref (w.2.1 113)), some (.ref (w.2.1 k1)), some (.int x2)]) (by decide) (Nat.le_of_ble_eq_true rfl) rfl (fun p e s m args below meth c C hr => ?_)
  replace C : cpCx p s m args meth c w A cX6_goBack RX6 3 := C
  rw [fX6_goBack] at h
  refine cj_aload_n C (i := 0) dX6_goBack_0 rfl rfl ?_
  refine cj_aload_n C (i := 0) dX6_goBack_1 rfl rfl ?_
  refine cj_getI C (j := 1) o_113 rfl gfX6_18 dX6_goBack_2 ?_
  refine cj_iload_n C (i := 2) dX6_goBack_5 rfl rfl ?_
  refine cj_isub C dX6_goBack_6 ?_
  refine cj_bipush C (v := (10 : Int32)) dX6_goBack_7 rfl ?_
  refine cj_callSi C (As := [.int ((S.1 113 1) - x2), .int (10 : Int32)]) (rest := [.ref (w.2.1 113)]) qJ9_floorMod_7cf53 mw_42_3 rfl rfl (Nat.le_of_ble_eq_true rfl) (by decide) dX6_goBack_9 h (fun _ _ hf => m_J9_floorMod_7cf53 l w A ((S.1 113 1) - x2) (10 : Int32) S _ hf) (fun z1 S2 h => ?_)
  refine cj_put C (j := 1) o_113 rfl pfX6_18 rfl rfl dX6_goBack_12 ?_
  refine cj_lets h (fun S3 h => ?_)
  refine cj_aload_n C (i := 1) dX6_goBack_15 rfl rfl ?_
  refine cj_aload_n C (i := 0) dX6_goBack_16 rfl rfl ?_
  refine cj_getR C (d := 114) o_113 rfl gfX6_11 dX6_goBack_17 ?_
  refine cj_aload_n C (i := 0) dX6_goBack_20 rfl rfl ?_
  refine cj_getI C (j := 1) o_113 rfl gfX6_18 dX6_goBack_21 ?_
  refine cj_aaload C (d := (65 + 4 * (S3.1 113 1).toNatClampNeg)) (by decide) o_114 rfl h (tr_114) dX6_goBack_24 (fun hi4 h => ?_)
  refine cj_callVv C (As := [.ref (w.2.1 (65 + 4 * (S3.1 113 1).toNatClampNeg))]) (rest := []) qX5_copyFrom mw_39_5 (cpNw_o0 hk1) rfl rfl rfl (Nat.le_of_ble_eq_true rfl) (by decide) dX6_goBack_25 h (fun _ _ hf => m_X5_copyFrom l w A hk1 (tk_114 hi4) S3 _ hf) (fun z5 S6 h => ?_)
  refine cj_aload_n C (i := 0) dX6_goBack_28 rfl rfl ?_
  refine cj_dup C dX6_goBack_29 rfl ?_
  refine cj_getI C (j := 2) o_113 rfl gfX6_26 dX6_goBack_30 ?_
  refine cj_iload_n C (i := 2) dX6_goBack_33 rfl rfl ?_
  refine cj_isub C dX6_goBack_34 ?_
  refine cj_put C (j := 2) o_113 rfl pfX6_26 rfl rfl dX6_goBack_35 ?_
  refine cj_lets h (fun S7 h => ?_)
  exact cj_vreturn C hr h dX6_goBack_38
/-! X6_forget -/
def fX6_forget (S : cpS) : Option (Unit × cpS) :=
    cpLt (cpI S 113 2 (0 : Int32)) fun S1 =>
    some ((), S1)
set_option maxRecDepth 100000 in
set_option maxHeartbeats 4000000 in
theorem m_X6_forget (l : Launch) (w : cpW) (A : Nat → Prop) (S : cpS) (r : Unit × cpS) (h : fX6_forget S = some r) : cpMv l yX6_forget cX6_forget 1 (none) 0 w A [.ref (w.2.1 113)] S r := by
  refine cpMv.of (lv := [some (.ref (w.2.1 113))]) (by decide) (Nat.le_of_ble_eq_true rfl) rfl (fun p e s m args below meth c C hr => ?_)
  replace C : cpCx p s m args meth c w A cX6_forget RX6 1 := C
  rw [fX6_forget] at h
  refine cj_aload_n C (i := 0) dX6_forget_0 rfl rfl ?_
  refine cj_iconst C (v := (0 : Int32)) dX6_forget_1 rfl ?_
  refine cj_put C (j := 2) o_113 rfl pfX6_26 rfl rfl dX6_forget_2 ?_
  refine cj_lets h (fun S1 h => ?_)
  exact cj_vreturn C hr h dX6_forget_5
/-! X7_append -/
def fX7_append_3 (x1 : Int32) : Nat → Int32 → cpS → Option (Unit × cpS)
  | 0, _, _ => none
  | n + 1, x2, S =>
    if x2 < 0 then (
    some ((), S)) else (
    if (900 : Int32) ≤ (S.1 115 1) then (
    some ((), S)) else (
    if cpIn (S.1 115 1) 900 then (
    cpLt (cpI S 116 (S.1 115 1).toNatClampNeg (vp_nar .char (cpi2c ((cpUsh x1 x2) &&& (255 : Int32))))) fun S1 =>
    cpLt (cpI S1 115 1 ((S1.1 115 1) + (1 : Int32))) fun S2 =>
    fX7_append_3 x1 n (x2 + (-8)) S2) else none))
set_option maxRecDepth 100000 in
set_option maxHeartbeats 4000000 in
theorem wX7_append_3 (C : cpCx p s m args meth c w A cX7_append RX7 3) (hr : meth.sig.returnType = none) {r : Unit × cpS} (x1 : Int32) : ∀ (n : Nat) (x2 : Int32) (S : cpS), fX7_append_3 x1 n x2 S = some r → cpJ p l e (cpRm 0) s m args below meth c (MQ below (va_Qv (fun S' => ((), S') = r) (cpWorld w A) A) args s 0 0 A) w A 3 3 [some (.ref (w.2.1 115)), some (.int x1), some (.int x2)] [] S := by
  intro n
  induction n with
  | zero => intro x2 S h; rw [fX7_append_3] at h; cases h
  | succ n ih =>
    intro x2 S h
    rw [fX7_append_3] at h
    refine cj_iload_n C (i := 2) dX7_append_3 rfl rfl ?_
    refine cj_if_lt C (tgt := 50) dX7_append_4 rfl h (fun _ h => ?_) (fun _ h => ?_)
    · exact cj_vreturn C hr h dX7_append_50
    · refine cj_aload_n C (i := 0) dX7_append_7 rfl rfl ?_
      refine cj_getI C (j := 1) o_115 rfl gfX7_26 dX7_append_8 ?_
      refine cj_sipush C (v := (900 : Int32)) dX7_append_11 rfl ?_
      refine cj_icmp_ge C (tgt := 50) dX7_append_14 rfl h (fun _ h => ?_) (fun _ h => ?_)
      · exact cj_vreturn C hr h dX7_append_50
      · refine cj_aload_n C (i := 0) dX7_append_17 rfl rfl ?_
        refine cj_getR C (d := 116) o_115 rfl gfX7_9 dX7_append_18 ?_
        refine cj_aload_n C (i := 0) dX7_append_21 rfl rfl ?_
        refine cj_getI C (j := 1) o_115 rfl gfX7_26 dX7_append_22 ?_
        refine cj_iload_n C (i := 1) dX7_append_25 rfl rfl ?_
        refine cj_iload_n C (i := 2) dX7_append_26 rfl rfl ?_
        refine ck_iushr C dX7_append_27 ?_
        refine cj_sipush C (v := (255 : Int32)) dX7_append_28 rfl ?_
        refine cj_iand C dX7_append_31 ?_
        refine ck_i2c C dX7_append_32 ?_
        refine cj_castore C o_116 h dX7_append_33 (fun h => ?_)
        refine cj_lets h (fun S1 h => ?_)
        refine cj_aload_n C (i := 0) dX7_append_34 rfl rfl ?_
        refine cj_dup C dX7_append_35 rfl ?_
        refine cj_getI C (j := 1) o_115 rfl gfX7_26 dX7_append_36 ?_
        refine cj_iconst C (v := (1 : Int32)) dX7_append_39 rfl ?_
        refine cj_iadd C dX7_append_40 ?_
        refine cj_put C (j := 1) o_115 rfl pfX7_26 rfl rfl dX7_append_41 ?_
        refine cj_lets h (fun S2 h => ?_)
        refine cj_iinc C (v := (x2 + (-8))) (lv' := [some (.ref (w.2.1 115)), some (.int x1), some (.int (x2 + (-8)))]) dX7_append_44 rfl rfl (by decide) rfl rfl ?_
        refine cj_goto C (tgt := 3) dX7_append_47 rfl ?_
        exact ih (x2 + (-8)) S2 h
def fX7_append (x1 : Int32) (S : cpS) : Option (Unit × cpS) :=
    fX7_append_3 x1 cpFu (24 : Int32) S
set_option maxRecDepth 100000 in
set_option maxHeartbeats 4000000 in
theorem m_X7_append (l : Launch) (w : cpW) (A : Nat → Prop) (x1 : Int32) (S : cpS) (r : Unit × cpS) (h : fX7_append x1 S = some r) : cpMv l yX7_append cX7_append 3 (none) 0 w A [.ref (w.2.1 115), .int x1] S r := by
  refine cpMv.of (lv := [some (.ref (w.2.1 115)), some (.int x1), none]) (by decide) (Nat.le_of_ble_eq_true rfl) rfl (fun p e s m args below meth c C hr => ?_)
  replace C : cpCx p s m args meth c w A cX7_append RX7 3 := C
  rw [fX7_append] at h
  refine cj_bipush C (v := (24 : Int32)) dX7_append_0 rfl ?_
  refine cj_istore_n C (i := 2) (lv' := [some (.ref (w.2.1 115)), some (.int x1), some (.int (24 : Int32))]) dX7_append_2 rfl (by decide) rfl rfl ?_
  exact wX7_append_3 C hr x1 cpFu (24 : Int32) S h
/-! X10_clear -/
def fX10_clear (v : Nat) (S : cpS) : Option (Unit × cpS) :=
    cpLt (cpI S v 0 (1 : Int32)) fun S1 =>
    cpLt (cpI S1 v 1 (0 : Int32)) fun S2 =>
    cpLt (cpI S2 v 2 (0 : Int32)) fun S3 =>
    cpLt (cpI S3 v 3 (0 : Int32)) fun S4 =>
    cpLt (cpI S4 v 7 (0 : Int32)) fun S5 =>
    cpLt (cpI S5 v 11 (0 : Int32)) fun S6 =>
    cpB (fJ7_fill_53178 (v + 6) 8 (0 : Int32) S6) fun _ S8 =>
    cpB (fJ7_fill_53178 (v + 7) 4 (0 : Int32) S8) fun _ S10 =>
    cpB (fX3_clear (v + 11) S10) fun _ S12 =>
    some ((), S12)
set_option maxRecDepth 100000 in
set_option maxHeartbeats 4000000 in
theorem m_X10_clear (l : Launch) (w : cpW) (A : Nat → Prop) {v : Nat} (hv : cpVy v) (S : cpS) (r : Unit × cpS) (h : fX10_clear v S = some r) : cpMv l yX10_clear cX10_clear 1 (none) 1 w A [.ref (w.2.1 v)] S r := by
  refine cpMv.of (lv := [some (.ref (w.2.1 v))]) (by decide) (Nat.le_of_ble_eq_true rfl) rfl (fun p e s m args below meth c C hr => ?_)
  replace C : cpCx p s m args meth c w A cX10_clear RX10 1 := C
  rw [fX10_clear] at h
  refine cj_aload_n C (i := 0) dX10_clear_0 rfl rfl ?_
  refine cj_iconst C (v := (1 : Int32)) dX10_clear_1 rfl ?_
  refine cj_put C (j := 0) (cpVy_o0 hv) rfl pfX10_9 rfl rfl dX10_clear_2 ?_
  refine cj_lets h (fun S1 h => ?_)
  refine cj_aload_n C (i := 0) dX10_clear_5 rfl rfl ?_
  refine cj_iconst C (v := (0 : Int32)) dX10_clear_6 rfl ?_
  refine cj_put C (j := 1) (cpVy_o0 hv) rfl pfX10_53 rfl rfl dX10_clear_7 ?_
  refine cj_lets h (fun S2 h => ?_)
  refine cj_aload_n C (i := 0) dX10_clear_10 rfl rfl ?_
  refine cj_iconst C (v := (0 : Int32)) dX10_clear_11 rfl ?_
  refine cj_put C (j := 2) (cpVy_o0 hv) rfl pfX10_56 rfl rfl dX10_clear_12 ?_
  refine cj_lets h (fun S3 h => ?_)
  refine cj_aload_n C (i := 0) dX10_clear_15 rfl rfl ?_
  refine cj_iconst C (v := (0 : Int32)) dX10_clear_16 rfl ?_
  refine cj_put C (j := 3) (cpVy_o0 hv) rfl pfX10_59 rfl rfl dX10_clear_17 ?_
  refine cj_lets h (fun S4 h => ?_)
  refine cj_aload_n C (i := 0) dX10_clear_20 rfl rfl ?_
  refine cj_iconst C (v := (0 : Int32)) dX10_clear_21 rfl ?_
  refine cj_put C (j := 7) (cpVy_o0 hv) rfl pfX10_62 rfl rfl dX10_clear_22 ?_
  refine cj_lets h (fun S5 h => ?_)
  refine cj_aload_n C (i := 0) dX10_clear_25 rfl rfl ?_
  refine cj_iconst C (v := (0 : Int32)) dX10_clear_26 rfl ?_
  refine cj_put C (j := 11) (cpVy_o0 hv) rfl pfX10_65 rfl rfl dX10_clear_27 ?_
  refine cj_lets h (fun S6 h => ?_)
  refine cj_aload_n C (i := 0) dX10_clear_30 rfl rfl ?_
  refine cj_getR C (d := (v + 6)) (cpVy_o0 hv) rfl gfX10_31 dX10_clear_31 ?_
  refine cj_iconst C (v := (0 : Int32)) dX10_clear_34 rfl ?_
  refine cj_callSv C (As := [.ref (w.2.1 (v + 6)), .int (0 : Int32)]) (rest := []) qJ7_fill_53178 mw_10_21 rfl rfl (Nat.le_of_ble_eq_true rfl) (by decide) dX10_clear_35 h (fun _ _ hf => m_J7_fill_53178 l w A (cpVy_o6 hv) (0 : Int32) S6 _ hf) (fun z7 S8 h => ?_)
  refine cj_aload_n C (i := 0) dX10_clear_38 rfl rfl ?_
  refine cj_getR C (d := (v + 7)) (cpVy_o0 hv) rfl gfX10_34 dX10_clear_39 ?_
  refine cj_iconst C (v := (0 : Int32)) dX10_clear_42 rfl ?_
  refine cj_callSv C (As := [.ref (w.2.1 (v + 7)), .int (0 : Int32)]) (rest := []) qJ7_fill_53178 mw_10_21 rfl rfl (Nat.le_of_ble_eq_true rfl) (by decide) dX10_clear_43 h (fun _ _ hf => m_J7_fill_53178 l w A (cpVy_o7 hv) (0 : Int32) S8 _ hf) (fun z9 S10 h => ?_)
  refine cj_aload_n C (i := 0) dX10_clear_46 rfl rfl ?_
  refine cj_getR C (d := (v + 11)) (cpVy_o0 hv) rfl gfX10_49 dX10_clear_47 ?_
  refine cj_callVv C (As := []) (rest := []) qX3_clear mw_11_1 (cpVy_o11 hv) rfl rfl rfl (Nat.le_of_ble_eq_true rfl) (by decide) dX10_clear_50 h (fun _ _ hf => m_X3_clear l w A (cpVy_l hv) S10 _ hf) (fun z11 S12 h => ?_)
  exact cj_vreturn C hr h dX10_clear_53
/-! J0_isLatin1_aae02 -/
def fJ0_isLatin1_aae02 (v : Nat) (S : cpS) : Option (Int32 × cpS) :=
    some ((1 : Int32), S)
set_option maxRecDepth 100000 in
set_option maxHeartbeats 4000000 in
theorem m_J0_isLatin1_aae02 (l : Launch) (w : cpW) (A : Nat → Prop) {v : Nat} (hv : cpSg v) (S : cpS) (r : Int32 × cpS) (h : fJ0_isLatin1_aae02 v S = some r) : cpMi l yJ0_isLatin1_aae02 cJ0_isLatin1_aae02 1 ((some .boolean)) 0 w A [.ref (w.2.2.2.2.1 v)] S r := by
  refine cpMi.of (lv := [some (.ref (w.2.2.2.2.1 v))]) (by decide) (Nat.le_of_ble_eq_true rfl) rfl (fun p e s m args below meth c C hr => ?_)
  replace C : cpCx p s m args meth c w A cJ0_isLatin1_aae02 RJ0 1 := C
  rw [fJ0_isLatin1_aae02] at h
  refine cj_gstC C mw_11_22 dJ0_isLatin1_aae02_0 ?_
  refine cj_if_eq C (tgt := 17) (a := none) dJ0_isLatin1_aae02_3 rfl ((if_neg (by decide)).trans h) (fun hc _ => absurd hc (by decide)) (fun _ h => ?_)
  refine cj_aload_n C (i := 0) dJ0_isLatin1_aae02_6 rfl rfl ?_
  refine cj_strC C hv mw_11_23 dJ0_isLatin1_aae02_7 ?_
  refine cj_if_ne C (tgt := 17) (b := none) dJ0_isLatin1_aae02_10 rfl ((if_pos (by decide)).trans h) (fun _ h => ?_) (fun hc _ => absurd (by decide) hc)
  refine cj_iconst C (v := (1 : Int32)) dJ0_isLatin1_aae02_13 rfl ?_
  refine cj_goto C (tgt := 18) dJ0_isLatin1_aae02_14 rfl ?_
  exact cj_zreturn C hr rfl h dJ0_isLatin1_aae02_18
/-! J0_coder_7d493 -/
def fJ0_coder_7d493 (v : Nat) (S : cpS) : Option (Int32 × cpS) :=
    some ((0 : Int32), S)
set_option maxRecDepth 100000 in
set_option maxHeartbeats 4000000 in
theorem m_J0_coder_7d493 (l : Launch) (w : cpW) (A : Nat → Prop) {v : Nat} (hv : cpSg v) (S : cpS) (r : Int32 × cpS) (h : fJ0_coder_7d493 v S = some r) : cpMi l yJ0_coder_7d493 cJ0_coder_7d493 1 ((some .byte)) 0 w A [.ref (w.2.2.2.2.1 v)] S r := by
  refine cpMi.of (lv := [some (.ref (w.2.2.2.2.1 v))]) (by decide) (Nat.le_of_ble_eq_true rfl) rfl (fun p e s m args below meth c C hr => ?_)
  replace C : cpCx p s m args meth c w A cJ0_coder_7d493 RJ0 1 := C
  rw [fJ0_coder_7d493] at h
  refine cj_gstC C mw_11_22 dJ0_coder_7d493_0 ?_
  refine cj_if_eq C (tgt := 13) (a := none) dJ0_coder_7d493_3 rfl ((if_neg (by decide)).trans h) (fun hc _ => absurd hc (by decide)) (fun _ h => ?_)
  refine cj_aload_n C (i := 0) dJ0_coder_7d493_6 rfl rfl ?_
  refine cj_strC C hv mw_11_23 dJ0_coder_7d493_7 ?_
  refine cj_goto C (tgt := 14) dJ0_coder_7d493_10 rfl ?_
  exact cj_zreturn C hr rfl h dJ0_coder_7d493_14
/-! J0_length_8abf5 -/
def fJ0_length_8abf5 (v : Nat) (S : cpS) : Option (Int32 × cpS) :=
    cpB (fJ0_coder_7d493 v S) fun z1 S2 =>
    some ((cpShr (nI (cpLen.getD v 0)) z1), S2)
set_option maxRecDepth 100000 in
set_option maxHeartbeats 4000000 in
theorem m_J0_length_8abf5 (l : Launch) (w : cpW) (A : Nat → Prop) {v : Nat} (hv : cpSg v) (S : cpS) (r : Int32 × cpS) (h : fJ0_length_8abf5 v S = some r) : cpMi l yJ0_length_8abf5 cJ0_length_8abf5 1 ((some .int)) 1 w A [.ref (w.2.2.2.2.1 v)] S r := by
  refine cpMi.of (lv := [some (.ref (w.2.2.2.2.1 v))]) (by decide) (Nat.le_of_ble_eq_true rfl) rfl (fun p e s m args below meth c C hr => ?_)
  replace C : cpCx p s m args meth c w A cJ0_length_8abf5 RJ0 1 := C
  rw [fJ0_length_8abf5] at h
  refine cj_aload_n C (i := 0) dJ0_length_8abf5_0 rfl rfl ?_
  refine cj_strV C hv mw_11_17 dJ0_length_8abf5_1 ?_
  refine cj_byl C hv dJ0_length_8abf5_4 ?_
  refine cj_aload_n C (i := 0) dJ0_length_8abf5_5 rfl rfl ?_
  refine cj_callTi C (As := []) (rest := [.int (nI (cpLen.getD v 0))]) qJ0_coder_7d493 mw_12_4 hv rfl rfl rfl (Nat.le_of_ble_eq_true rfl) (by decide) dJ0_length_8abf5_6 h (fun _ _ hf => m_J0_coder_7d493 l w A hv S _ hf) (fun z1 S2 h => ?_)
  refine ck_ishr C dJ0_length_8abf5_9 ?_
  exact cj_ireturn C hr h dJ0_length_8abf5_10
/-! J1_canEncode_9a6ad -/
def fJ1_canEncode_9a6ad (x0 : Int32) (S : cpS) : Option (Int32 × cpS) :=
    if x0 < 0 then (
    some ((0 : Int32), S)) else (
    if (255 : Int32) < x0 then (
    some ((0 : Int32), S)) else (
    some ((1 : Int32), S)))
set_option maxRecDepth 100000 in
set_option maxHeartbeats 4000000 in
theorem m_J1_canEncode_9a6ad (l : Launch) (w : cpW) (A : Nat → Prop) (x0 : Int32) (S : cpS) (r : Int32 × cpS) (h : fJ1_canEncode_9a6ad x0 S = some r) : cpMi l yJ1_canEncode_9a6ad cJ1_canEncode_9a6ad 1 ((some .boolean)) 0 w A [.int x0] S r := by
  refine cpMi.of (lv := [some (.int x0)]) (by decide) (Nat.le_of_ble_eq_true rfl) rfl (fun p e s m args below meth c C hr => ?_)
  replace C : cpCx p s m args meth c w A cJ1_canEncode_9a6ad RJ1 1 := C
  rw [fJ1_canEncode_9a6ad] at h
  refine cj_iload_n C (i := 0) dJ1_canEncode_9a6ad_0 rfl rfl ?_
  refine cj_if_lt C (tgt := 15) dJ1_canEncode_9a6ad_1 rfl h (fun _ h => ?_) (fun _ h => ?_)
  · refine cj_iconst C (v := (0 : Int32)) dJ1_canEncode_9a6ad_15 rfl ?_
    exact cj_zreturn C hr rfl h dJ1_canEncode_9a6ad_16
  · refine cj_iload_n C (i := 0) dJ1_canEncode_9a6ad_4 rfl rfl ?_
    refine cj_sipush C (v := (255 : Int32)) dJ1_canEncode_9a6ad_5 rfl ?_
    refine cj_icmp_gt C (tgt := 15) dJ1_canEncode_9a6ad_8 rfl h (fun _ h => ?_) (fun _ h => ?_)
    · refine cj_iconst C (v := (0 : Int32)) dJ1_canEncode_9a6ad_15 rfl ?_
      exact cj_zreturn C hr rfl h dJ1_canEncode_9a6ad_16
    · refine cj_iconst C (v := (1 : Int32)) dJ1_canEncode_9a6ad_11 rfl ?_
      refine cj_goto C (tgt := 16) dJ1_canEncode_9a6ad_12 rfl ?_
      exact cj_zreturn C hr rfl h dJ1_canEncode_9a6ad_16
/-! J1_indexOfChar_4cfef -/
def fJ1_indexOfChar_4cfef_7 (k0 : Nat) (x3 : Int32) (x4 : Int32) : Nat → Int32 → cpS → Option (Int32 × cpS)
  | 0, _, _ => none
  | n + 1, x5, S =>
    if x3 ≤ x5 then (
    some ((-1 : Int32), S)) else (
    if cpIn x5 (cpLen.getD k0 0) then (
    if ((cpByt.getD k0 []).getD x5.toNatClampNeg 0) = x4 then (
    some (x5, S)) else (
    fJ1_indexOfChar_4cfef_7 k0 x3 x4 n (x5 + 1) S)) else none)
set_option maxRecDepth 100000 in
set_option maxHeartbeats 4000000 in
theorem wJ1_indexOfChar_4cfef_7 (C : cpCx p s m args meth c w A cJ1_indexOfChar_4cfef RJ1 6) (hr : meth.sig.returnType = (some .int)) {r : Int32 × cpS} {k0 : Nat} (hk0 : cpSg k0) (x3 : Int32) (x4 : Int32) : ∀ (n : Nat) (x5 : Int32) (S : cpS), fJ1_indexOfChar_4cfef_7 k0 x3 x4 n x5 S = some r → cpJ p l e (cpRm 0) s m args below meth c (MQ below (va_Qi (fun x S' => (x, S') = r) (cpWorld w A) A) args s 0 0 A) w A 6 7 [some (.ref (w.2.2.2.2.2.1 k0)), none, none, some (.int x3), some (.int x4), some (.int x5)] [] S := by
  intro n
  induction n with
  | zero => intro x5 S h; rw [fJ1_indexOfChar_4cfef_7] at h; cases h
  | succ n ih =>
    intro x5 S h
    rw [fJ1_indexOfChar_4cfef_7] at h
    refine cj_iload C dJ1_indexOfChar_4cfef_7 rfl ?_
    refine cj_iload_n C (i := 3) dJ1_indexOfChar_4cfef_9 rfl rfl ?_
    refine cj_icmp_ge C (tgt := 31) dJ1_indexOfChar_4cfef_10 rfl h (fun _ h => ?_) (fun _ h => ?_)
    · refine cj_iconst C (v := (-1 : Int32)) dJ1_indexOfChar_4cfef_31 rfl ?_
      exact cj_ireturn C hr h dJ1_indexOfChar_4cfef_32
    · refine cj_aload_n C (i := 0) dJ1_indexOfChar_4cfef_13 rfl rfl ?_
      refine cj_iload C dJ1_indexOfChar_4cfef_14 rfl ?_
      refine cj_byt C hk0 h dJ1_indexOfChar_4cfef_16 (fun h => ?_)
      refine cj_iload C dJ1_indexOfChar_4cfef_17 rfl ?_
      refine cj_icmp_ne C (tgt := 25) dJ1_indexOfChar_4cfef_19 rfl h (fun _ h => ?_) (fun _ h => ?_)
      · refine cj_iload C dJ1_indexOfChar_4cfef_22 rfl ?_
        exact cj_ireturn C hr h dJ1_indexOfChar_4cfef_24
      · refine cj_iinc C (v := (x5 + 1)) (lv' := [some (.ref (w.2.2.2.2.2.1 k0)), none, none, some (.int x3), some (.int x4), some (.int (x5 + 1))]) dJ1_indexOfChar_4cfef_25 rfl rfl (by decide) rfl rfl ?_
        refine cj_goto C (tgt := 7) dJ1_indexOfChar_4cfef_28 rfl ?_
        exact ih (x5 + 1) S h
def fJ1_indexOfChar_4cfef (k0 : Nat) (x1 : Int32) (x2 : Int32) (x3 : Int32) (S : cpS) : Option (Int32 × cpS) :=
    cpLt (cpi2b x1) fun y1 =>
    fJ1_indexOfChar_4cfef_7 k0 x3 y1 cpFu x2 S
set_option maxRecDepth 100000 in
set_option maxHeartbeats 4000000 in
theorem m_J1_indexOfChar_4cfef (l : Launch) (w : cpW) (A : Nat → Prop) {k0 : Nat} (hk0 : cpSg k0) (x1 : Int32) (x2 : Int32) (x3 : Int32) (S : cpS) (r : Int32 × cpS) (h : fJ1_indexOfChar_4cfef k0 x1 x2 x3 S = some r) : cpMi l yJ1_indexOfChar_4cfef cJ1_indexOfChar_4cfef 6 ((some .int)) 0 w A [.ref (w.2.2.2.2.2.1 k0), .int x1, .int x2, .int x3] S r := by
  refine cpMi.of (lv := [some (.ref (w.2.2.2.2.2.1 k0)), some (.int x1), some (.int x2), some (.int x3), none, none]) (by decide) (Nat.le_of_ble_eq_true rfl) rfl (fun p e s m args below meth c C hr => ?_)
  replace C : cpCx p s m args meth c w A cJ1_indexOfChar_4cfef RJ1 6 := C
  rw [fJ1_indexOfChar_4cfef] at h
  refine cj_iload_n C (i := 1) dJ1_indexOfChar_4cfef_0 rfl rfl ?_
  refine ck_i2b C dJ1_indexOfChar_4cfef_1 ?_
  refine cj_let h (fun y1 h => ?_)
  refine cj_istore C (lv' := [some (.ref (w.2.2.2.2.2.1 k0)), some (.int x1), some (.int x2), some (.int x3), some (.int y1), none]) dJ1_indexOfChar_4cfef_2 (by decide) rfl rfl ?_
  refine cj_iload_n C (i := 2) dJ1_indexOfChar_4cfef_4 rfl rfl ?_
  refine cj_istore C (lv' := [some (.ref (w.2.2.2.2.2.1 k0)), some (.int x1), some (.int x2), some (.int x3), some (.int y1), some (.int x2)]) dJ1_indexOfChar_4cfef_5 (by decide) rfl rfl ?_
  refine cj_weak C (lv' := [some (.ref (w.2.2.2.2.2.1 k0)), none, none, some (.int x3), some (.int y1), some (.int x2)]) (cpSub_s (cpSub_n (cpSub_n (cpSub_s (cpSub_s (cpSub_s cpSub_nil)))))) ?_
  exact wJ1_indexOfChar_4cfef_7 C hr hk0 x3 y1 cpFu x2 S h
/-! J1_indexOf_4cfef -/
def fJ1_indexOf_4cfef (k0 : Nat) (x1 : Int32) (x2 : Int32) (x3 : Int32) (S : cpS) : Option (Int32 × cpS) :=
    cpB (fJ1_canEncode_9a6ad x1 S) fun z1 S2 =>
    if z1 = 0 then (
    some ((-1 : Int32), S2)) else (
    cpLt (cpMax x2 (0 : Int32)) fun y3 =>
    cpLt (cpMin x3 (nI (cpLen.getD k0 0))) fun y4 =>
    if y3 < y4 then (
    cpB (fJ1_indexOfChar_4cfef k0 x1 y3 y4 S2) fun z5 S6 =>
    some (z5, S6)) else (
    some ((-1 : Int32), S2)))
set_option maxRecDepth 100000 in
set_option maxHeartbeats 4000000 in
theorem m_J1_indexOf_4cfef (l : Launch) (w : cpW) (A : Nat → Prop) {k0 : Nat} (hk0 : cpSg k0) (x1 : Int32) (x2 : Int32) (x3 : Int32) (S : cpS) (r : Int32 × cpS) (h : fJ1_indexOf_4cfef k0 x1 x2 x3 S = some r) : cpMi l yJ1_indexOf_4cfef cJ1_indexOf_4cfef 4 ((some .int)) 1 w A [.ref (w.2.2.2.2.2.1 k0), .int x1, .int x2, .int x3] S r := by
  refine cpMi.of (lv := [some (.ref (w.2.2.2.2.2.1 k0)), some (.int x1), some (.int x2), some (.int x3)]) (by decide) (Nat.le_of_ble_eq_true rfl) rfl (fun p e s m args below meth c C hr => ?_)
  replace C : cpCx p s m args meth c w A cJ1_indexOf_4cfef RJ1 4 := C
  rw [fJ1_indexOf_4cfef] at h
  refine cj_iload_n C (i := 1) dJ1_indexOf_4cfef_0 rfl rfl ?_
  refine cj_callSi C (As := [.int x1]) (rest := []) qJ1_canEncode_9a6ad mw_12_19 rfl rfl (Nat.le_of_ble_eq_true rfl) (by decide) dJ1_indexOf_4cfef_1 h (fun _ _ hf => m_J1_canEncode_9a6ad l w A x1 S _ hf) (fun z1 S2 h => ?_)
  refine cj_if_ne C (tgt := 9) dJ1_indexOf_4cfef_4 rfl h (fun _ h => ?_) (fun _ h => ?_)
  · refine cj_iconst C (v := (-1 : Int32)) dJ1_indexOf_4cfef_7 rfl ?_
    exact cj_ireturn C hr h dJ1_indexOf_4cfef_8
  · refine cj_iload_n C (i := 2) dJ1_indexOf_4cfef_9 rfl rfl ?_
    refine cj_iconst C (v := (0 : Int32)) dJ1_indexOf_4cfef_10 rfl ?_
    refine ck_mmax C mw_12_12 mw_12_13 mw_12_14 mw_12_15 (by decide) (Nat.le_of_ble_eq_true rfl) dJ1_indexOf_4cfef_11 ?_
    refine cj_let h (fun y3 h => ?_)
    refine cj_istore_n C (i := 2) (lv' := [some (.ref (w.2.2.2.2.2.1 k0)), some (.int x1), some (.int y3), some (.int x3)]) dJ1_indexOf_4cfef_14 rfl (by decide) rfl rfl ?_
    refine cj_iload_n C (i := 3) dJ1_indexOf_4cfef_15 rfl rfl ?_
    refine cj_aload_n C (i := 0) dJ1_indexOf_4cfef_16 rfl rfl ?_
    refine cj_byl C hk0 dJ1_indexOf_4cfef_17 ?_
    refine ck_mmin C mw_12_16 mw_12_17 mw_12_14 mw_12_18 (by decide) (Nat.le_of_ble_eq_true rfl) dJ1_indexOf_4cfef_18 ?_
    refine cj_let h (fun y4 h => ?_)
    refine cj_istore_n C (i := 3) (lv' := [some (.ref (w.2.2.2.2.2.1 k0)), some (.int x1), some (.int y3), some (.int y4)]) dJ1_indexOf_4cfef_21 rfl (by decide) rfl rfl ?_
    refine cj_iload_n C (i := 2) dJ1_indexOf_4cfef_22 rfl rfl ?_
    refine cj_iload_n C (i := 3) dJ1_indexOf_4cfef_23 rfl rfl ?_
    refine cj_icmp_lt C (tgt := 29) dJ1_indexOf_4cfef_24 rfl h (fun _ h => ?_) (fun _ h => ?_)
    · refine cj_aload_n C (i := 0) dJ1_indexOf_4cfef_29 rfl rfl ?_
      refine cj_iload_n C (i := 1) dJ1_indexOf_4cfef_30 rfl rfl ?_
      refine cj_iload_n C (i := 2) dJ1_indexOf_4cfef_31 rfl rfl ?_
      refine cj_iload_n C (i := 3) dJ1_indexOf_4cfef_32 rfl rfl ?_
      refine cj_callSi C (As := [.ref (w.2.2.2.2.2.1 k0), .int x1, .int y3, .int y4]) (rest := []) qJ1_indexOfChar_4cfef mw_12_22 rfl rfl (Nat.le_of_ble_eq_true rfl) (by decide) dJ1_indexOf_4cfef_33 h (fun _ _ hf => m_J1_indexOfChar_4cfef l w A hk0 x1 y3 y4 S2 _ hf) (fun z5 S6 h => ?_)
      exact cj_ireturn C hr h dJ1_indexOf_4cfef_36
    · refine cj_iconst C (v := (-1 : Int32)) dJ1_indexOf_4cfef_27 rfl ?_
      exact cj_ireturn C hr h dJ1_indexOf_4cfef_28
/-! J0_indexOf_7cf53 -/
def fJ0_indexOf_7cf53 (v : Nat) (x1 : Int32) (x2 : Int32) (S : cpS) : Option (Int32 × cpS) :=
    cpB (fJ0_isLatin1_aae02 v S) fun z1 S2 =>
    if z1 = 0 then (
    none) else (
    cpB (fJ0_length_8abf5 v S2) fun z5 S6 =>
    cpB (fJ1_indexOf_4cfef v x1 x2 z5 S6) fun z7 S8 =>
    some (z7, S8))
set_option maxRecDepth 100000 in
set_option maxHeartbeats 4000000 in
theorem m_J0_indexOf_7cf53 (l : Launch) (w : cpW) (A : Nat → Prop) {v : Nat} (hv : cpSg v) (x1 : Int32) (x2 : Int32) (S : cpS) (r : Int32 × cpS) (h : fJ0_indexOf_7cf53 v x1 x2 S = some r) : cpMi l yJ0_indexOf_7cf53 cJ0_indexOf_7cf53 3 ((some .int)) 2 w A [.ref (w.2.2.2.2.1 v), .int x1, .int x2] S r := by
  refine cpMi.of (lv := [some (.ref (w.2.2.2.2.1 v)), some (.int x1), some (.int x2)]) (by decide) (Nat.le_of_ble_eq_true rfl) rfl (fun p e s m args below meth c C hr => ?_)
  replace C : cpCx p s m args meth c w A cJ0_indexOf_7cf53 RJ0 3 := C
  rw [fJ0_indexOf_7cf53] at h
  refine cj_aload_n C (i := 0) dJ0_indexOf_7cf53_0 rfl rfl ?_
  refine cj_callTi C (As := []) (rest := []) qJ0_isLatin1_aae02 mw_11_18 hv rfl rfl rfl (Nat.le_of_ble_eq_true rfl) (by decide) dJ0_indexOf_7cf53_1 h (fun _ _ hf => m_J0_isLatin1_aae02 l w A hv S _ hf) (fun z1 S2 h => ?_)
  refine cj_if_eq C (tgt := 23) dJ0_indexOf_7cf53_4 rfl h (fun _ h => ?_) (fun _ h => ?_)
  · cases h
  · refine cj_aload_n C (i := 0) dJ0_indexOf_7cf53_7 rfl rfl ?_
    refine cj_strV C hv mw_11_17 dJ0_indexOf_7cf53_8 ?_
    refine cj_iload_n C (i := 1) dJ0_indexOf_7cf53_11 rfl rfl ?_
    refine cj_iload_n C (i := 2) dJ0_indexOf_7cf53_12 rfl rfl ?_
    refine cj_aload_n C (i := 0) dJ0_indexOf_7cf53_13 rfl rfl ?_
    refine cj_callTi C (As := []) (rest := [.int x2, .int x1, .ref (w.2.2.2.2.2.1 v)]) qJ0_length_8abf5 mw_12_0 hv rfl rfl rfl (Nat.le_of_ble_eq_true rfl) (by decide) dJ0_indexOf_7cf53_14 h (fun _ _ hf => m_J0_length_8abf5 l w A hv S2 _ hf) (fun z5 S6 h => ?_)
    refine cj_callSi C (As := [.ref (w.2.2.2.2.2.1 v), .int x1, .int x2, .int z5]) (rest := []) qJ1_indexOf_4cfef mw_12_8 rfl rfl (Nat.le_of_ble_eq_true rfl) (by decide) dJ0_indexOf_7cf53_17 h (fun _ _ hf => m_J1_indexOf_4cfef l w A hv x1 x2 z5 S6 _ hf) (fun z7 S8 h => ?_)
    refine cj_goto C (tgt := 36) dJ0_indexOf_7cf53_20 rfl ?_
    exact cj_ireturn C hr h dJ0_indexOf_7cf53_36
/-! J0_indexOf_0f7a4 -/
def fJ0_indexOf_0f7a4 (v : Nat) (x1 : Int32) (S : cpS) : Option (Int32 × cpS) :=
    cpB (fJ0_indexOf_7cf53 v x1 (0 : Int32) S) fun z1 S2 =>
    some (z1, S2)
set_option maxRecDepth 100000 in
set_option maxHeartbeats 4000000 in
theorem m_J0_indexOf_0f7a4 (l : Launch) (w : cpW) (A : Nat → Prop) {v : Nat} (hv : cpSg v) (x1 : Int32) (S : cpS) (r : Int32 × cpS) (h : fJ0_indexOf_0f7a4 v x1 S = some r) : cpMi l yJ0_indexOf_0f7a4 cJ0_indexOf_0f7a4 2 ((some .int)) 3 w A [.ref (w.2.2.2.2.1 v), .int x1] S r := by
  refine cpMi.of (lv := [some (.ref (w.2.2.2.2.1 v)), some (.int x1)]) (by decide) (Nat.le_of_ble_eq_true rfl) rfl (fun p e s m args below meth c C hr => ?_)
  replace C : cpCx p s m args meth c w A cJ0_indexOf_0f7a4 RJ0 2 := C
  rw [fJ0_indexOf_0f7a4] at h
  refine cj_aload_n C (i := 0) dJ0_indexOf_0f7a4_0 rfl rfl ?_
  refine cj_iload_n C (i := 1) dJ0_indexOf_0f7a4_1 rfl rfl ?_
  refine cj_iconst C (v := (0 : Int32)) dJ0_indexOf_0f7a4_2 rfl ?_
  refine cj_callTi C (As := [.int x1, .int (0 : Int32)]) (rest := []) qJ0_indexOf_7cf53 mw_11_13 hv rfl rfl rfl (Nat.le_of_ble_eq_true rfl) (by decide) dJ0_indexOf_0f7a4_3 h (fun _ _ hf => m_J0_indexOf_7cf53 l w A hv x1 (0 : Int32) S _ hf) (fun z1 S2 h => ?_)
  exact cj_ireturn C hr h dJ0_indexOf_0f7a4_6
/-! X7_advance -/
def fX7_advance_231 (S : cpS) : Option (Unit × cpS) :=
    if (S.1 115 8) ≤ (S.1 115 7) then (
    if (S.1 115 7) < (S.1 115 5) then (
    if cpIn (S.1 115 7) 900 then (
    cpB (fJ0_indexOf_0f7a4 0 (S.1 116 (S.1 115 7).toNatClampNeg) S) fun z1 S2 =>
    if z1 < 0 then (
    cpLt (cpI S2 115 6 (4 : Int32)) fun S3 =>
    cpLt (cpI S3 115 8 ((S3.1 115 7) + (1 : Int32))) fun S4 =>
    some ((), S4)) else (
    cpLt (cpI S2 115 6 (3 : Int32)) fun S5 =>
    cpLt (cpI S5 115 8 ((S5.1 115 7) + (1 : Int32))) fun S6 =>
    some ((), S6))) else none) else (
    cpLt (cpI S 115 6 (0 : Int32)) fun S7 =>
    some ((), S7))) else (
    if ((S.1 115 8) - (S.1 115 7)) ≤ (3 : Int32) then (
    cpLt (cpI S 115 6 (2 : Int32)) fun S8 =>
    some ((), S8)) else (
    cpLt (cpI S 115 6 (4 : Int32)) fun S9 =>
    some ((), S9)))
set_option maxRecDepth 100000 in
set_option maxHeartbeats 4000000 in
theorem wX7_advance_231 (C : cpCx p s m args meth c w A cX7_advance RX7 1) (hr : meth.sig.returnType = none) {r : Unit × cpS} (S : cpS) (h : fX7_advance_231 S = some r) : cpJ p l e (cpRm 4) s m args below meth c (MQ below (va_Qv (fun S' => ((), S') = r) (cpWorld w A) A) args s 0 0 A) w A 1 231 [some (.ref (w.2.1 115))] [] S := by
  rw [fX7_advance_231] at h
  refine cj_aload_n C (i := 0) dX7_advance_231 rfl rfl ?_
  refine cj_getI C (j := 8) o_115 rfl gfX7_32 dX7_advance_232 ?_
  refine cj_aload_n C (i := 0) dX7_advance_235 rfl rfl ?_
  refine cj_getI C (j := 7) o_115 rfl gfX7_248 dX7_advance_236 ?_
  refine cj_icmp_le C (tgt := 267) dX7_advance_239 rfl h (fun _ h => ?_) (fun _ h => ?_)
  · refine cj_aload_n C (i := 0) dX7_advance_267 rfl rfl ?_
    refine cj_getI C (j := 7) o_115 rfl gfX7_248 dX7_advance_268 ?_
    refine cj_aload_n C (i := 0) dX7_advance_271 rfl rfl ?_
    refine cj_getI C (j := 5) o_115 rfl gfX7_29 dX7_advance_272 ?_
    refine cj_icmp_lt C (tgt := 286) dX7_advance_275 rfl h (fun _ h => ?_) (fun _ h => ?_)
    · refine cj_aload_n C (i := 0) dX7_advance_286 rfl rfl ?_
      refine cj_ldcwS C (i := 0) (List.mem_of_getElem? (i := 0) rfl) dX7_advance_287 ?_
      refine cj_aload_n C (i := 0) dX7_advance_290 rfl rfl ?_
      refine cj_getR C (d := 116) o_115 rfl gfX7_9 dX7_advance_291 ?_
      refine cj_aload_n C (i := 0) dX7_advance_294 rfl rfl ?_
      refine cj_getI C (j := 7) o_115 rfl gfX7_248 dX7_advance_295 ?_
      refine cj_caload C o_116 h dX7_advance_298 (fun h => ?_)
      refine cj_callTi C (As := [.int (S.1 116 (S.1 115 7).toNatClampNeg)]) (rest := [.ref (w.2.1 115)]) qJ0_indexOf_0f7a4 mw_11_8 (by decide) rfl rfl rfl (Nat.le_of_ble_eq_true rfl) (by decide) dX7_advance_299 h (fun _ _ hf => m_J0_indexOf_0f7a4 l w A (by decide) (S.1 116 (S.1 115 7).toNatClampNeg) S _ hf) (fun z1 S2 h => ?_)
      refine cj_if_lt C (tgt := 309) dX7_advance_302 rfl h (fun _ h => ?_) (fun _ h => ?_)
      · refine cj_iconst C (v := (4 : Int32)) dX7_advance_309 rfl ?_
        refine cj_put C (j := 6) o_115 rfl pfX7_48 rfl rfl dX7_advance_310 ?_
        refine cj_lets h (fun S3 h => ?_)
        refine cj_aload_n C (i := 0) dX7_advance_313 rfl rfl ?_
        refine cj_aload_n C (i := 0) dX7_advance_314 rfl rfl ?_
        refine cj_getI C (j := 7) o_115 rfl gfX7_248 dX7_advance_315 ?_
        refine cj_iconst C (v := (1 : Int32)) dX7_advance_318 rfl ?_
        refine cj_iadd C dX7_advance_319 ?_
        refine cj_put C (j := 8) o_115 rfl pfX7_32 rfl rfl dX7_advance_320 ?_
        refine cj_lets h (fun S4 h => ?_)
        exact cj_vreturn C hr h dX7_advance_323
      · refine cj_iconst C (v := (3 : Int32)) dX7_advance_305 rfl ?_
        refine cj_goto C (tgt := 310) dX7_advance_306 rfl ?_
        refine cj_put C (j := 6) o_115 rfl pfX7_48 rfl rfl dX7_advance_310 ?_
        refine cj_lets h (fun S5 h => ?_)
        refine cj_aload_n C (i := 0) dX7_advance_313 rfl rfl ?_
        refine cj_aload_n C (i := 0) dX7_advance_314 rfl rfl ?_
        refine cj_getI C (j := 7) o_115 rfl gfX7_248 dX7_advance_315 ?_
        refine cj_iconst C (v := (1 : Int32)) dX7_advance_318 rfl ?_
        refine cj_iadd C dX7_advance_319 ?_
        refine cj_put C (j := 8) o_115 rfl pfX7_32 rfl rfl dX7_advance_320 ?_
        refine cj_lets h (fun S6 h => ?_)
        exact cj_vreturn C hr h dX7_advance_323
    · refine cj_aload_n C (i := 0) dX7_advance_278 rfl rfl ?_
      refine cj_iconst C (v := (0 : Int32)) dX7_advance_279 rfl ?_
      refine cj_put C (j := 6) o_115 rfl pfX7_48 rfl rfl dX7_advance_280 ?_
      refine cj_lets h (fun S7 h => ?_)
      refine cj_goto C (tgt := 323) dX7_advance_283 rfl ?_
      exact cj_vreturn C hr h dX7_advance_323
  · refine cj_aload_n C (i := 0) dX7_advance_242 rfl rfl ?_
    refine cj_aload_n C (i := 0) dX7_advance_243 rfl rfl ?_
    refine cj_getI C (j := 8) o_115 rfl gfX7_32 dX7_advance_244 ?_
    refine cj_aload_n C (i := 0) dX7_advance_247 rfl rfl ?_
    refine cj_getI C (j := 7) o_115 rfl gfX7_248 dX7_advance_248 ?_
    refine cj_isub C dX7_advance_251 ?_
    refine cj_iconst C (v := (3 : Int32)) dX7_advance_252 rfl ?_
    refine cj_icmp_le C (tgt := 260) dX7_advance_253 rfl h (fun _ h => ?_) (fun _ h => ?_)
    · refine cj_iconst C (v := (2 : Int32)) dX7_advance_260 rfl ?_
      refine cj_put C (j := 6) o_115 rfl pfX7_48 rfl rfl dX7_advance_261 ?_
      refine cj_lets h (fun S8 h => ?_)
      refine cj_goto C (tgt := 323) dX7_advance_264 rfl ?_
      exact cj_vreturn C hr h dX7_advance_323
    · refine cj_iconst C (v := (4 : Int32)) dX7_advance_256 rfl ?_
      refine cj_goto C (tgt := 261) dX7_advance_257 rfl ?_
      refine cj_put C (j := 6) o_115 rfl pfX7_48 rfl rfl dX7_advance_261 ?_
      refine cj_lets h (fun S9 h => ?_)
      refine cj_goto C (tgt := 323) dX7_advance_264 rfl ?_
      exact cj_vreturn C hr h dX7_advance_323
def fX7_advance_142 : Nat → cpS → Option (Unit × cpS)
  | 0, _ => none
  | n + 1, S =>
    if (S.1 115 5) ≤ (S.1 115 8) then (
    fX7_advance_231 S) else (
    if cpIn (S.1 115 8) 900 then (
    if (S.1 116 (S.1 115 8).toNatClampNeg) < (48 : Int32) then (
    fX7_advance_231 S) else (
    if cpIn (S.1 115 8) 900 then (
    if (57 : Int32) < (S.1 116 (S.1 115 8).toNatClampNeg) then (
    fX7_advance_231 S) else (
    if (3 : Int32) ≤ ((S.1 115 8) - (S.1 115 7)) then (
    cpLt (cpI S 115 8 ((S.1 115 8) + (1 : Int32))) fun S1 =>
    fX7_advance_142 n S1) else (
    if cpIn (S.1 115 8) 900 then (
    cpLt (cpI S 115 9 ((((10 : Int32) * (S.1 115 9)) + (S.1 116 (S.1 115 8).toNatClampNeg)) - (48 : Int32))) fun S2 =>
    cpLt (cpI S2 115 8 ((S2.1 115 8) + (1 : Int32))) fun S3 =>
    fX7_advance_142 n S3) else none))) else none)) else none)
set_option maxRecDepth 100000 in
set_option maxHeartbeats 4000000 in
theorem wX7_advance_142 (C : cpCx p s m args meth c w A cX7_advance RX7 1) (hr : meth.sig.returnType = none) {r : Unit × cpS} : ∀ (n : Nat)  (S : cpS), fX7_advance_142 n S = some r → cpJ p l e (cpRm 4) s m args below meth c (MQ below (va_Qv (fun S' => ((), S') = r) (cpWorld w A) A) args s 0 0 A) w A 1 142 [some (.ref (w.2.1 115))] [] S := by
  intro n
  induction n with
  | zero => intro  S h; rw [fX7_advance_142] at h; cases h
  | succ n ih =>
    intro  S h
    rw [fX7_advance_142] at h
    refine cj_aload_n C (i := 0) dX7_advance_142 rfl rfl ?_
    refine cj_getI C (j := 8) o_115 rfl gfX7_32 dX7_advance_143 ?_
    refine cj_aload_n C (i := 0) dX7_advance_146 rfl rfl ?_
    refine cj_getI C (j := 5) o_115 rfl gfX7_29 dX7_advance_147 ?_
    refine cj_icmp_ge C (tgt := 231) dX7_advance_150 rfl h (fun _ h => ?_) (fun _ h => ?_)
    · exact wX7_advance_231 C hr S h
    · refine cj_aload_n C (i := 0) dX7_advance_153 rfl rfl ?_
      refine cj_getR C (d := 116) o_115 rfl gfX7_9 dX7_advance_154 ?_
      refine cj_aload_n C (i := 0) dX7_advance_157 rfl rfl ?_
      refine cj_getI C (j := 8) o_115 rfl gfX7_32 dX7_advance_158 ?_
      refine cj_caload C o_116 h dX7_advance_161 (fun h => ?_)
      refine cj_bipush C (v := (48 : Int32)) dX7_advance_162 rfl ?_
      refine cj_icmp_lt C (tgt := 231) dX7_advance_164 rfl h (fun _ h => ?_) (fun _ h => ?_)
      · exact wX7_advance_231 C hr S h
      · refine cj_aload_n C (i := 0) dX7_advance_167 rfl rfl ?_
        refine cj_getR C (d := 116) o_115 rfl gfX7_9 dX7_advance_168 ?_
        refine cj_aload_n C (i := 0) dX7_advance_171 rfl rfl ?_
        refine cj_getI C (j := 8) o_115 rfl gfX7_32 dX7_advance_172 ?_
        refine cj_caload C o_116 h dX7_advance_175 (fun h => ?_)
        refine cj_bipush C (v := (57 : Int32)) dX7_advance_176 rfl ?_
        refine cj_icmp_gt C (tgt := 231) dX7_advance_178 rfl h (fun _ h => ?_) (fun _ h => ?_)
        · exact wX7_advance_231 C hr S h
        · refine cj_aload_n C (i := 0) dX7_advance_181 rfl rfl ?_
          refine cj_getI C (j := 8) o_115 rfl gfX7_32 dX7_advance_182 ?_
          refine cj_aload_n C (i := 0) dX7_advance_185 rfl rfl ?_
          refine cj_getI C (j := 7) o_115 rfl gfX7_248 dX7_advance_186 ?_
          refine cj_isub C dX7_advance_189 ?_
          refine cj_iconst C (v := (3 : Int32)) dX7_advance_190 rfl ?_
          refine cj_icmp_ge C (tgt := 218) dX7_advance_191 rfl h (fun _ h => ?_) (fun _ h => ?_)
          · refine cj_aload_n C (i := 0) dX7_advance_218 rfl rfl ?_
            refine cj_dup C dX7_advance_219 rfl ?_
            refine cj_getI C (j := 8) o_115 rfl gfX7_32 dX7_advance_220 ?_
            refine cj_iconst C (v := (1 : Int32)) dX7_advance_223 rfl ?_
            refine cj_iadd C dX7_advance_224 ?_
            refine cj_put C (j := 8) o_115 rfl pfX7_32 rfl rfl dX7_advance_225 ?_
            refine cj_lets h (fun S1 h => ?_)
            refine cj_goto C (tgt := 142) dX7_advance_228 rfl ?_
            exact ih S1 h
          · refine cj_aload_n C (i := 0) dX7_advance_194 rfl rfl ?_
            refine cj_bipush C (v := (10 : Int32)) dX7_advance_195 rfl ?_
            refine cj_aload_n C (i := 0) dX7_advance_197 rfl rfl ?_
            refine cj_getI C (j := 9) o_115 rfl gfX7_236 dX7_advance_198 ?_
            refine cj_imul C dX7_advance_201 ?_
            refine cj_aload_n C (i := 0) dX7_advance_202 rfl rfl ?_
            refine cj_getR C (d := 116) o_115 rfl gfX7_9 dX7_advance_203 ?_
            refine cj_aload_n C (i := 0) dX7_advance_206 rfl rfl ?_
            refine cj_getI C (j := 8) o_115 rfl gfX7_32 dX7_advance_207 ?_
            refine cj_caload C o_116 h dX7_advance_210 (fun h => ?_)
            refine cj_iadd C dX7_advance_211 ?_
            refine cj_bipush C (v := (48 : Int32)) dX7_advance_212 rfl ?_
            refine cj_isub C dX7_advance_214 ?_
            refine cj_put C (j := 9) o_115 rfl pfX7_236 rfl rfl dX7_advance_215 ?_
            refine cj_lets h (fun S2 h => ?_)
            refine cj_aload_n C (i := 0) dX7_advance_218 rfl rfl ?_
            refine cj_dup C dX7_advance_219 rfl ?_
            refine cj_getI C (j := 8) o_115 rfl gfX7_32 dX7_advance_220 ?_
            refine cj_iconst C (v := (1 : Int32)) dX7_advance_223 rfl ?_
            refine cj_iadd C dX7_advance_224 ?_
            refine cj_put C (j := 8) o_115 rfl pfX7_32 rfl rfl dX7_advance_225 ?_
            refine cj_lets h (fun S3 h => ?_)
            refine cj_goto C (tgt := 142) dX7_advance_228 rfl ?_
            exact ih S3 h
def fX7_advance_120 (S : cpS) : Option (Unit × cpS) :=
    if (S.1 115 8) ≤ (S.1 115 7) then (
    cpLt (cpI S 115 9 (0 : Int32)) fun S1 =>
    fX7_advance_142 cpFu S1) else (
    cpLt (cpI S 115 6 (1 : Int32)) fun S2 =>
    some ((), S2))
set_option maxRecDepth 100000 in
set_option maxHeartbeats 4000000 in
theorem wX7_advance_120 (C : cpCx p s m args meth c w A cX7_advance RX7 1) (hr : meth.sig.returnType = none) {r : Unit × cpS} (S : cpS) (h : fX7_advance_120 S = some r) : cpJ p l e (cpRm 4) s m args below meth c (MQ below (va_Qv (fun S' => ((), S') = r) (cpWorld w A) A) args s 0 0 A) w A 1 120 [some (.ref (w.2.1 115))] [] S := by
  rw [fX7_advance_120] at h
  refine cj_aload_n C (i := 0) dX7_advance_120 rfl rfl ?_
  refine cj_getI C (j := 8) o_115 rfl gfX7_32 dX7_advance_121 ?_
  refine cj_aload_n C (i := 0) dX7_advance_124 rfl rfl ?_
  refine cj_getI C (j := 7) o_115 rfl gfX7_248 dX7_advance_125 ?_
  refine cj_icmp_le C (tgt := 137) dX7_advance_128 rfl h (fun _ h => ?_) (fun _ h => ?_)
  · refine cj_aload_n C (i := 0) dX7_advance_137 rfl rfl ?_
    refine cj_iconst C (v := (0 : Int32)) dX7_advance_138 rfl ?_
    refine cj_put C (j := 9) o_115 rfl pfX7_236 rfl rfl dX7_advance_139 ?_
    refine cj_lets h (fun S1 h => ?_)
    exact wX7_advance_142 C hr cpFu S1 h
  · refine cj_aload_n C (i := 0) dX7_advance_131 rfl rfl ?_
    refine cj_iconst C (v := (1 : Int32)) dX7_advance_132 rfl ?_
    refine cj_put C (j := 6) o_115 rfl pfX7_48 rfl rfl dX7_advance_133 ?_
    refine cj_lets h (fun S2 h => ?_)
    exact cj_vreturn C hr h dX7_advance_136
def fX7_advance_68 : Nat → cpS → Option (Unit × cpS)
  | 0, _ => none
  | n + 1, S =>
    if (S.1 115 5) ≤ (S.1 115 8) then (
    fX7_advance_120 S) else (
    if cpIn (S.1 115 8) 900 then (
    if (S.1 116 (S.1 115 8).toNatClampNeg) < (97 : Int32) then (
    fX7_advance_120 S) else (
    if cpIn (S.1 115 8) 900 then (
    if (122 : Int32) < (S.1 116 (S.1 115 8).toNatClampNeg) then (
    fX7_advance_120 S) else (
    cpLt (cpI S 115 8 ((S.1 115 8) + (1 : Int32))) fun S1 =>
    fX7_advance_68 n S1)) else none)) else none)
set_option maxRecDepth 100000 in
set_option maxHeartbeats 4000000 in
theorem wX7_advance_68 (C : cpCx p s m args meth c w A cX7_advance RX7 1) (hr : meth.sig.returnType = none) {r : Unit × cpS} : ∀ (n : Nat)  (S : cpS), fX7_advance_68 n S = some r → cpJ p l e (cpRm 4) s m args below meth c (MQ below (va_Qv (fun S' => ((), S') = r) (cpWorld w A) A) args s 0 0 A) w A 1 68 [some (.ref (w.2.1 115))] [] S := by
  intro n
  induction n with
  | zero => intro  S h; rw [fX7_advance_68] at h; cases h
  | succ n ih =>
    intro  S h
    rw [fX7_advance_68] at h
    refine cj_aload_n C (i := 0) dX7_advance_68 rfl rfl ?_
    refine cj_getI C (j := 8) o_115 rfl gfX7_32 dX7_advance_69 ?_
    refine cj_aload_n C (i := 0) dX7_advance_72 rfl rfl ?_
    refine cj_getI C (j := 5) o_115 rfl gfX7_29 dX7_advance_73 ?_
    refine cj_icmp_ge C (tgt := 120) dX7_advance_76 rfl h (fun _ h => ?_) (fun _ h => ?_)
    · exact wX7_advance_120 C hr S h
    · refine cj_aload_n C (i := 0) dX7_advance_79 rfl rfl ?_
      refine cj_getR C (d := 116) o_115 rfl gfX7_9 dX7_advance_80 ?_
      refine cj_aload_n C (i := 0) dX7_advance_83 rfl rfl ?_
      refine cj_getI C (j := 8) o_115 rfl gfX7_32 dX7_advance_84 ?_
      refine cj_caload C o_116 h dX7_advance_87 (fun h => ?_)
      refine cj_bipush C (v := (97 : Int32)) dX7_advance_88 rfl ?_
      refine cj_icmp_lt C (tgt := 120) dX7_advance_90 rfl h (fun _ h => ?_) (fun _ h => ?_)
      · exact wX7_advance_120 C hr S h
      · refine cj_aload_n C (i := 0) dX7_advance_93 rfl rfl ?_
        refine cj_getR C (d := 116) o_115 rfl gfX7_9 dX7_advance_94 ?_
        refine cj_aload_n C (i := 0) dX7_advance_97 rfl rfl ?_
        refine cj_getI C (j := 8) o_115 rfl gfX7_32 dX7_advance_98 ?_
        refine cj_caload C o_116 h dX7_advance_101 (fun h => ?_)
        refine cj_bipush C (v := (122 : Int32)) dX7_advance_102 rfl ?_
        refine cj_icmp_gt C (tgt := 120) dX7_advance_104 rfl h (fun _ h => ?_) (fun _ h => ?_)
        · exact wX7_advance_120 C hr S h
        · refine cj_aload_n C (i := 0) dX7_advance_107 rfl rfl ?_
          refine cj_dup C dX7_advance_108 rfl ?_
          refine cj_getI C (j := 8) o_115 rfl gfX7_32 dX7_advance_109 ?_
          refine cj_iconst C (v := (1 : Int32)) dX7_advance_112 rfl ?_
          refine cj_iadd C dX7_advance_113 ?_
          refine cj_put C (j := 8) o_115 rfl pfX7_32 rfl rfl dX7_advance_114 ?_
          refine cj_lets h (fun S1 h => ?_)
          refine cj_goto C (tgt := 68) dX7_advance_117 rfl ?_
          exact ih S1 h
def fX7_advance_8 : Nat → cpS → Option (Unit × cpS)
  | 0, _ => none
  | n + 1, S =>
    if (S.1 115 5) ≤ (S.1 115 7) then (
    cpLt (cpI S 115 8 (S.1 115 7)) fun S1 =>
    fX7_advance_68 cpFu S1) else (
    if cpIn (S.1 115 7) 900 then (
    if (S.1 116 (S.1 115 7).toNatClampNeg) = (10 : Int32) then (
    cpLt (cpI S 115 7 ((S.1 115 7) + (1 : Int32))) fun S2 =>
    fX7_advance_8 n S2) else (
    if cpIn (S.1 115 7) 900 then (
    if (S.1 116 (S.1 115 7).toNatClampNeg) = (32 : Int32) then (
    cpLt (cpI S 115 7 ((S.1 115 7) + (1 : Int32))) fun S3 =>
    fX7_advance_8 n S3) else (
    cpLt (cpI S 115 8 (S.1 115 7)) fun S4 =>
    fX7_advance_68 cpFu S4)) else none)) else none)
set_option maxRecDepth 100000 in
set_option maxHeartbeats 4000000 in
theorem wX7_advance_8 (C : cpCx p s m args meth c w A cX7_advance RX7 1) (hr : meth.sig.returnType = none) {r : Unit × cpS} : ∀ (n : Nat)  (S : cpS), fX7_advance_8 n S = some r → cpJ p l e (cpRm 4) s m args below meth c (MQ below (va_Qv (fun S' => ((), S') = r) (cpWorld w A) A) args s 0 0 A) w A 1 8 [some (.ref (w.2.1 115))] [] S := by
  intro n
  induction n with
  | zero => intro  S h; rw [fX7_advance_8] at h; cases h
  | succ n ih =>
    intro  S h
    rw [fX7_advance_8] at h
    refine cj_aload_n C (i := 0) dX7_advance_8 rfl rfl ?_
    refine cj_getI C (j := 7) o_115 rfl gfX7_248 dX7_advance_9 ?_
    refine cj_aload_n C (i := 0) dX7_advance_12 rfl rfl ?_
    refine cj_getI C (j := 5) o_115 rfl gfX7_29 dX7_advance_13 ?_
    refine cj_icmp_ge C (tgt := 60) dX7_advance_16 rfl h (fun _ h => ?_) (fun _ h => ?_)
    · refine cj_aload_n C (i := 0) dX7_advance_60 rfl rfl ?_
      refine cj_aload_n C (i := 0) dX7_advance_61 rfl rfl ?_
      refine cj_getI C (j := 7) o_115 rfl gfX7_248 dX7_advance_62 ?_
      refine cj_put C (j := 8) o_115 rfl pfX7_32 rfl rfl dX7_advance_65 ?_
      refine cj_lets h (fun S1 h => ?_)
      exact wX7_advance_68 C hr cpFu S1 h
    · refine cj_aload_n C (i := 0) dX7_advance_19 rfl rfl ?_
      refine cj_getR C (d := 116) o_115 rfl gfX7_9 dX7_advance_20 ?_
      refine cj_aload_n C (i := 0) dX7_advance_23 rfl rfl ?_
      refine cj_getI C (j := 7) o_115 rfl gfX7_248 dX7_advance_24 ?_
      refine cj_caload C o_116 h dX7_advance_27 (fun h => ?_)
      refine cj_bipush C (v := (10 : Int32)) dX7_advance_28 rfl ?_
      refine cj_icmp_eq C (tgt := 47) dX7_advance_30 rfl h (fun _ h => ?_) (fun _ h => ?_)
      · refine cj_aload_n C (i := 0) dX7_advance_47 rfl rfl ?_
        refine cj_dup C dX7_advance_48 rfl ?_
        refine cj_getI C (j := 7) o_115 rfl gfX7_248 dX7_advance_49 ?_
        refine cj_iconst C (v := (1 : Int32)) dX7_advance_52 rfl ?_
        refine cj_iadd C dX7_advance_53 ?_
        refine cj_put C (j := 7) o_115 rfl pfX7_248 rfl rfl dX7_advance_54 ?_
        refine cj_lets h (fun S2 h => ?_)
        refine cj_goto C (tgt := 8) dX7_advance_57 rfl ?_
        exact ih S2 h
      · refine cj_aload_n C (i := 0) dX7_advance_33 rfl rfl ?_
        refine cj_getR C (d := 116) o_115 rfl gfX7_9 dX7_advance_34 ?_
        refine cj_aload_n C (i := 0) dX7_advance_37 rfl rfl ?_
        refine cj_getI C (j := 7) o_115 rfl gfX7_248 dX7_advance_38 ?_
        refine cj_caload C o_116 h dX7_advance_41 (fun h => ?_)
        refine cj_bipush C (v := (32 : Int32)) dX7_advance_42 rfl ?_
        refine cj_icmp_ne C (tgt := 60) dX7_advance_44 rfl h (fun _ h => ?_) (fun _ h => ?_)
        · refine cj_aload_n C (i := 0) dX7_advance_47 rfl rfl ?_
          refine cj_dup C dX7_advance_48 rfl ?_
          refine cj_getI C (j := 7) o_115 rfl gfX7_248 dX7_advance_49 ?_
          refine cj_iconst C (v := (1 : Int32)) dX7_advance_52 rfl ?_
          refine cj_iadd C dX7_advance_53 ?_
          refine cj_put C (j := 7) o_115 rfl pfX7_248 rfl rfl dX7_advance_54 ?_
          refine cj_lets h (fun S3 h => ?_)
          refine cj_goto C (tgt := 8) dX7_advance_57 rfl ?_
          exact ih S3 h
        · refine cj_aload_n C (i := 0) dX7_advance_60 rfl rfl ?_
          refine cj_aload_n C (i := 0) dX7_advance_61 rfl rfl ?_
          refine cj_getI C (j := 7) o_115 rfl gfX7_248 dX7_advance_62 ?_
          refine cj_put C (j := 8) o_115 rfl pfX7_32 rfl rfl dX7_advance_65 ?_
          refine cj_lets h (fun S4 h => ?_)
          exact wX7_advance_68 C hr cpFu S4 h
def fX7_advance (S : cpS) : Option (Unit × cpS) :=
    cpLt (cpI S 115 7 (S.1 115 8)) fun S1 =>
    fX7_advance_8 cpFu S1
set_option maxRecDepth 100000 in
set_option maxHeartbeats 4000000 in
theorem m_X7_advance (l : Launch) (w : cpW) (A : Nat → Prop) (S : cpS) (r : Unit × cpS) (h : fX7_advance S = some r) : cpMv l yX7_advance cX7_advance 1 (none) 4 w A [.ref (w.2.1 115)] S r := by
  refine cpMv.of (lv := [some (.ref (w.2.1 115))]) (by decide) (Nat.le_of_ble_eq_true rfl) rfl (fun p e s m args below meth c C hr => ?_)
  replace C : cpCx p s m args meth c w A cX7_advance RX7 1 := C
  rw [fX7_advance] at h
  refine cj_aload_n C (i := 0) dX7_advance_0 rfl rfl ?_
  refine cj_aload_n C (i := 0) dX7_advance_1 rfl rfl ?_
  refine cj_getI C (j := 8) o_115 rfl gfX7_32 dX7_advance_2 ?_
  refine cj_put C (j := 7) o_115 rfl pfX7_248 rfl rfl dX7_advance_5 ?_
  refine cj_lets h (fun S1 h => ?_)
  exact wX7_advance_8 C hr cpFu S1 h
/-! J3_checkIndex_8e157 -/
def fJ3_checkIndex_8e157 (x0 : Int32) (x1 : Int32) (S : cpS) : Option (Int32 × cpS) :=
    if x0 < 0 then (
    none) else (
    if x0 < x1 then (
    some (x0, S)) else (
    none))
set_option maxRecDepth 100000 in
set_option maxHeartbeats 4000000 in
theorem m_J3_checkIndex_8e157 (l : Launch) (w : cpW) (A : Nat → Prop) (x0 : Int32) (x1 : Int32) (S : cpS) (r : Int32 × cpS) (h : fJ3_checkIndex_8e157 x0 x1 S = some r) : cpMi l yJ3_checkIndex_8e157 cJ3_checkIndex_8e157 3 ((some .int)) 0 w A [.int x0, .int x1, va_rf w.2.2.2.2.2.2] S r := by
  refine cpMi.of (lv := [some (.int x0), some (.int x1), some (va_rf w.2.2.2.2.2.2)]) (by decide) (by simp [lg_sl, cpRf_cat, cpIc]) (by simp [cpArgs, cpRf_cat, cpIc]) (fun p e s m args below meth c C hr => ?_)
  replace C : cpCx p s m args meth c w A cJ3_checkIndex_8e157 RJ3 3 := C
  rw [fJ3_checkIndex_8e157] at h
  refine cj_iload_n C (i := 0) dJ3_checkIndex_8e157_0 rfl rfl ?_
  refine cj_if_lt C (tgt := 9) dJ3_checkIndex_8e157_1 rfl h (fun _ h => ?_) (fun _ h => ?_)
  · cases h
  · refine cj_iload_n C (i := 0) dJ3_checkIndex_8e157_4 rfl rfl ?_
    refine cj_iload_n C (i := 1) dJ3_checkIndex_8e157_5 rfl rfl ?_
    refine cj_icmp_lt C (tgt := 16) dJ3_checkIndex_8e157_6 rfl h (fun _ h => ?_) (fun _ h => ?_)
    · refine cj_iload_n C (i := 0) dJ3_checkIndex_8e157_16 rfl rfl ?_
      exact cj_ireturn C hr h dJ3_checkIndex_8e157_17
    · cases h
end CPV
