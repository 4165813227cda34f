section CPV
variable {p : Program} {l : Launch} {e : Env} {s : State} {m : MethodId} {args : Array Value} {below : List Frame} {meth : Method} {c : Code} {w : cpW} {A : Nat → Prop}
/-! X1_liftNext -/
def fX1_liftNext_5 (x1 : Int32) (x2 : Int32) : Nat → Int32 → Int32 → cpS → Option (Int32 × cpS)
  | 0, _, _, _ => none
  | n + 1, x3, x4, S =>
    if (S.1 1 7) ≤ x4 then (
    some (x3, S)) else (
    cpB (fX1_friendsOf x4 S) fun z1 S2 =>
    cpB (fJ6_bitCount_0f7a4 (z1 &&& x1) S2) fun z3 S4 =>
    if z3 < x2 then (
    fX1_liftNext_5 x1 x2 n x3 (x4 + 1) S4) else (
    cpLt (x3 ||| (cpShl (1 : Int32) x4)) fun y5 =>
    fX1_liftNext_5 x1 x2 n y5 (x4 + 1) S4))
set_option maxRecDepth 100000 in
set_option maxHeartbeats 4000000 in
theorem wX1_liftNext_5 (C : cpCx p s m args meth c w A cX1_liftNext RX1 5) (hr : meth.sig.returnType = (some .int)) {r : Int32 × cpS} (x1 : Int32) (x2 : Int32) : ∀ (n : Nat) (x3 : Int32) (x4 : Int32) (S : cpS), fX1_liftNext_5 x1 x2 n x3 x4 S = some r → cpJ p l e (cpRm 2) s m args below meth c (MQ below (va_Qi (fun x S' => (x, S') = r) (cpWorld w A) A) args s 0 0 A) w A 5 5 [some (.ref (w.2.1 127)), some (.int x1), some (.int x2), some (.int x3), some (.int x4)] [] S := by
  intro n
  induction n with
  | zero => intro x3 x4 S h; rw [fX1_liftNext_5] at h; cases h
  | succ n ih =>
    intro x3 x4 S h
    rw [fX1_liftNext_5] at h
    refine cj_iload C dX1_liftNext_5 rfl ?_
    refine cj_aload_n C (i := 0) dX1_liftNext_7 rfl rfl ?_
    refine cj_getR C (d := 1) o_127 rfl gfX1_18 dX1_liftNext_8 ?_
    refine cj_getI C (j := 7) o_1 rfl gfX1_26 dX1_liftNext_11 ?_
    refine cj_icmp_ge C (tgt := 45) dX1_liftNext_14 rfl h (fun _ h => ?_) (fun _ h => ?_)
    · refine cj_iload_n C (i := 3) dX1_liftNext_45 rfl rfl ?_
      exact cj_ireturn C hr h dX1_liftNext_46
    · refine cj_aload_n C (i := 0) dX1_liftNext_17 rfl rfl ?_
      refine cj_iload C dX1_liftNext_18 rfl ?_
      refine cj_callVi C (As := [.int x4]) (rest := []) qX1_friendsOf mw_60_2 o_127 rfl rfl rfl (Nat.le_of_ble_eq_true rfl) (by decide) dX1_liftNext_20 h (fun _ _ hf => m_X1_friendsOf l w A x4 S _ hf) (fun z1 S2 h => ?_)
      refine cj_iload_n C (i := 1) dX1_liftNext_23 rfl rfl ?_
      refine cj_iand C dX1_liftNext_24 ?_
      refine cj_callSi C (As := [.int (z1 &&& x1)]) (rest := []) qJ6_bitCount_0f7a4 mw_57_8 rfl rfl (Nat.le_of_ble_eq_true rfl) (by decide) dX1_liftNext_25 h (fun _ _ hf => m_J6_bitCount_0f7a4 l w A (z1 &&& x1) S2 _ hf) (fun z3 S4 h => ?_)
      refine cj_iload_n C (i := 2) dX1_liftNext_28 rfl rfl ?_
      refine cj_icmp_lt C (tgt := 39) dX1_liftNext_29 rfl h (fun _ h => ?_) (fun _ h => ?_)
      · refine cj_iinc C (v := (x4 + 1)) (lv' := [some (.ref (w.2.1 127)), some (.int x1), some (.int x2), some (.int x3), some (.int (x4 + 1))]) dX1_liftNext_39 rfl rfl (by decide) rfl rfl ?_
        refine cj_goto C (tgt := 5) dX1_liftNext_42 rfl ?_
        exact ih x3 (x4 + 1) S4 h
      · refine cj_iload_n C (i := 3) dX1_liftNext_32 rfl rfl ?_
        refine cj_iconst C (v := (1 : Int32)) dX1_liftNext_33 rfl ?_
        refine cj_iload C dX1_liftNext_34 rfl ?_
        refine ck_ishl C dX1_liftNext_36 ?_
        refine cj_ior C dX1_liftNext_37 ?_
        refine cj_let h (fun y5 h => ?_)
        refine cj_istore_n C (i := 3) (lv' := [some (.ref (w.2.1 127)), some (.int x1), some (.int x2), some (.int y5), some (.int x4)]) dX1_liftNext_38 rfl (by decide) rfl rfl ?_
        refine cj_iinc C (v := (x4 + 1)) (lv' := [some (.ref (w.2.1 127)), some (.int x1), some (.int x2), some (.int y5), some (.int (x4 + 1))]) dX1_liftNext_39 rfl rfl (by decide) rfl rfl ?_
        refine cj_goto C (tgt := 5) dX1_liftNext_42 rfl ?_
        exact ih y5 (x4 + 1) S4 h
def fX1_liftNext (x1 : Int32) (x2 : Int32) (S : cpS) : Option (Int32 × cpS) :=
    fX1_liftNext_5 x1 x2 cpFu (0 : Int32) (0 : Int32) S
set_option maxRecDepth 100000 in
set_option maxHeartbeats 4000000 in
theorem m_X1_liftNext (l : Launch) (w : cpW) (A : Nat → Prop) (x1 : Int32) (x2 : Int32) (S : cpS) (r : Int32 × cpS) (h : fX1_liftNext x1 x2 S = some r) : cpMi l yX1_liftNext cX1_liftNext 5 ((some .int)) 2 w A [.ref (w.2.1 127), .int x1, .int x2] S r := by
  refine cpMi.of (lv := [some (.ref (w.2.1 127)), some (.int x1), some (.int x2), none, none]) (by decide) (Nat.le_of_ble_eq_true rfl) rfl (fun p e s m args below meth c C hr => ?_)
  replace C : cpCx p s m args meth c w A cX1_liftNext RX1 5 := C
  rw [fX1_liftNext] at h
  refine cj_iconst C (v := (0 : Int32)) dX1_liftNext_0 rfl ?_
  refine cj_istore_n C (i := 3) (lv' := [some (.ref (w.2.1 127)), some (.int x1), some (.int x2), some (.int (0 : Int32)), none]) dX1_liftNext_1 rfl (by decide) rfl rfl ?_
  refine cj_iconst C (v := (0 : Int32)) dX1_liftNext_2 rfl ?_
  refine cj_istore C (lv' := [some (.ref (w.2.1 127)), some (.int x1), some (.int x2), some (.int (0 : Int32)), some (.int (0 : Int32))]) dX1_liftNext_3 (by decide) rfl rfl ?_
  exact wX1_liftNext_5 C hr x1 x2 cpFu (0 : Int32) (0 : Int32) S h
/-! X1_findRests -/
def fX1_findRests_60 (x1 : Int32) (x2 : Int32) (x3 : Int32) (s0 : Int32) (k17 : Int32 → cpS → Option (Unit × cpS)) (S : cpS) : Option (Unit × cpS) :=
    cpLt (cpI S 127 5 s0) fun S1 =>
    cpLt (cpI S1 127 6 (cpMax x3 (S1.1 127 6))) fun S2 =>
    cpLt (cpI S2 127 4 ((S2.1 127 4) + (1 : Int32))) fun S3 =>
    k17 (x2 + 1) S3
set_option maxRecDepth 100000 in
set_option maxHeartbeats 4000000 in
theorem wX1_findRests_60 (C : cpCx p s m args meth c w A cX1_findRests RX1 4) (hr : meth.sig.returnType = none) {r : Unit × cpS} (x1 : Int32) (x2 : Int32) (x3 : Int32) (s0 : Int32) {k17 : Int32 → cpS → Option (Unit × cpS)} (hk17 : ∀ (x2 : Int32) (S : cpS), k17 x2 S = some r → cpJ p l e (cpRm 3) s m args below meth c (MQ below (va_Qv (fun S' => ((), S') = r) (cpWorld w A) A) args s 0 0 A) w A 4 17 [some (.ref (w.2.1 127)), some (.int x1), some (.int x2), none] [] S) (S : cpS) (h : fX1_findRests_60 x1 x2 x3 s0 k17 S = some r) : cpJ p l e (cpRm 3) s m args below meth c (MQ below (va_Qv (fun S' => ((), S') = r) (cpWorld w A) A) args s 0 0 A) w A 4 60 [some (.ref (w.2.1 127)), some (.int x1), some (.int x2), some (.int x3)] [.int s0, .ref (w.2.1 127)] S := by
  rw [fX1_findRests_60] at h
  refine cj_put C (j := 5) o_127 rfl pfX1_110 rfl rfl dX1_findRests_60 ?_
  refine cj_lets h (fun S1 h => ?_)
  refine cj_aload_n C (i := 0) dX1_findRests_63 rfl rfl ?_
  refine cj_iload_n C (i := 3) dX1_findRests_64 rfl rfl ?_
  refine cj_aload_n C (i := 0) dX1_findRests_65 rfl rfl ?_
  refine cj_getI C (j := 6) o_127 rfl gfX1_113 dX1_findRests_66 ?_
  refine ck_mmax C mw_54_22 mw_12_13 mw_12_14 mw_12_15 (by decide) (Nat.le_of_ble_eq_true rfl) dX1_findRests_69 ?_
  refine cj_put C (j := 6) o_127 rfl pfX1_113 rfl rfl dX1_findRests_72 ?_
  refine cj_lets h (fun S2 h => ?_)
  refine cj_aload_n C (i := 0) dX1_findRests_75 rfl rfl ?_
  refine cj_dup C dX1_findRests_76 rfl ?_
  refine cj_getI C (j := 4) o_127 rfl gfX1_107 dX1_findRests_77 ?_
  refine cj_iconst C (v := (1 : Int32)) dX1_findRests_80 rfl ?_
  refine cj_iadd C dX1_findRests_81 ?_
  refine cj_put C (j := 4) o_127 rfl pfX1_107 rfl rfl dX1_findRests_82 ?_
  refine cj_lets h (fun S3 h => ?_)
  refine cj_iinc C (v := (x2 + 1)) (lv' := [some (.ref (w.2.1 127)), some (.int x1), some (.int (x2 + 1)), some (.int x3)]) dX1_findRests_85 rfl rfl (by decide) rfl rfl ?_
  refine cj_goto C (tgt := 17) dX1_findRests_88 rfl ?_
  refine cj_weak C (lv' := [some (.ref (w.2.1 127)), some (.int x1), some (.int (x2 + 1)), none]) (cpSub_s (cpSub_s (cpSub_s (cpSub_n cpSub_nil)))) ?_
  exact hk17 (x2 + 1) S3 h
def fX1_findRests_17 (x1 : Int32) : Nat → Int32 → cpS → Option (Unit × cpS)
  | 0, _, _ => none
  | n + 1, x2, S =>
    cpB (fX1_everybody S) fun z1 S2 =>
    if z1 < x2 then (
    some ((), S2)) else (
    cpB (fX1_liftNext x2 x1 S2) fun z3 S4 =>
    if z3 = x2 then (
    cpB (fJ6_bitCount_0f7a4 x2 S4) fun z5 S6 =>
    if (S6.1 127 4) = 0 then (
    fX1_findRests_60 x1 x2 z5 z5 (fX1_findRests_17 x1 n) S6) else (
    fX1_findRests_60 x1 x2 z5 (cpMin z5 (S6.1 127 5)) (fX1_findRests_17 x1 n) S6)) else (
    fX1_findRests_17 x1 n (x2 + 1) S4))
set_option maxRecDepth 100000 in
set_option maxHeartbeats 4000000 in
theorem wX1_findRests_17 (C : cpCx p s m args meth c w A cX1_findRests RX1 4) (hr : meth.sig.returnType = none) {r : Unit × cpS} (x1 : Int32) : ∀ (n : Nat) (x2 : Int32) (S : cpS), fX1_findRests_17 x1 n x2 S = some r → cpJ p l e (cpRm 3) s m args below meth c (MQ below (va_Qv (fun S' => ((), S') = r) (cpWorld w A) A) args s 0 0 A) w A 4 17 [some (.ref (w.2.1 127)), some (.int x1), some (.int x2), none] [] S := by
  intro n
  induction n with
  | zero => intro x2 S h; rw [fX1_findRests_17] at h; cases h
  | succ n ih =>
    intro x2 S h
    rw [fX1_findRests_17] at h
    refine cj_iload_n C (i := 2) dX1_findRests_17 rfl rfl ?_
    refine cj_aload_n C (i := 0) dX1_findRests_18 rfl rfl ?_
    refine cj_callVi C (As := []) (rest := [.int x2]) qX1_everybody mw_54_14 o_127 rfl rfl rfl (Nat.le_of_ble_eq_true rfl) (by decide) dX1_findRests_19 h (fun _ _ hf => m_X1_everybody l w A S _ hf) (fun z1 S2 h => ?_)
    refine cj_icmp_gt C (tgt := 91) dX1_findRests_22 rfl h (fun _ h => ?_) (fun _ h => ?_)
    · exact cj_vreturn C hr h dX1_findRests_91
    · refine cj_aload_n C (i := 0) dX1_findRests_25 rfl rfl ?_
      refine cj_iload_n C (i := 2) dX1_findRests_26 rfl rfl ?_
      refine cj_iload_n C (i := 1) dX1_findRests_27 rfl rfl ?_
      refine cj_callVi C (As := [.int x2, .int x1]) (rest := []) qX1_liftNext mw_59_22 o_127 rfl rfl rfl (Nat.le_of_ble_eq_true rfl) (by decide) dX1_findRests_28 h (fun _ _ hf => m_X1_liftNext l w A x2 x1 S2 _ hf) (fun z3 S4 h => ?_)
      refine cj_iload_n C (i := 2) dX1_findRests_31 rfl rfl ?_
      refine cj_icmp_ne C (tgt := 85) dX1_findRests_32 rfl h (fun _ h => ?_) (fun _ h => ?_)
      · refine cj_iload_n C (i := 2) dX1_findRests_35 rfl rfl ?_
        refine cj_callSi C (As := [.int x2]) (rest := []) qJ6_bitCount_0f7a4 mw_57_8 rfl rfl (Nat.le_of_ble_eq_true rfl) (by decide) dX1_findRests_36 h (fun _ _ hf => m_J6_bitCount_0f7a4 l w A x2 S4 _ hf) (fun z5 S6 h => ?_)
        refine cj_istore_n C (i := 3) (lv' := [some (.ref (w.2.1 127)), some (.int x1), some (.int x2), some (.int z5)]) dX1_findRests_39 rfl (by decide) rfl rfl ?_
        refine cj_aload_n C (i := 0) dX1_findRests_40 rfl rfl ?_
        refine cj_aload_n C (i := 0) dX1_findRests_41 rfl rfl ?_
        refine cj_getI C (j := 4) o_127 rfl gfX1_107 dX1_findRests_42 ?_
        refine cj_if_ne C (tgt := 52) dX1_findRests_45 rfl h (fun _ h => ?_) (fun _ h => ?_)
        · refine cj_iload_n C (i := 3) dX1_findRests_48 rfl rfl ?_
          refine cj_goto C (tgt := 60) dX1_findRests_49 rfl ?_
          exact wX1_findRests_60 C hr x1 x2 z5 z5 ih S6 h
        · refine cj_iload_n C (i := 3) dX1_findRests_52 rfl rfl ?_
          refine cj_aload_n C (i := 0) dX1_findRests_53 rfl rfl ?_
          refine cj_getI C (j := 5) o_127 rfl gfX1_110 dX1_findRests_54 ?_
          refine ck_mmin C mw_59_21 mw_12_17 mw_12_14 mw_12_18 (by decide) (Nat.le_of_ble_eq_true rfl) dX1_findRests_57 ?_
          exact wX1_findRests_60 C hr x1 x2 z5 (cpMin z5 (S6.1 127 5)) ih S6 h
      · refine cj_iinc C (v := (x2 + 1)) (lv' := [some (.ref (w.2.1 127)), some (.int x1), some (.int (x2 + 1)), none]) dX1_findRests_85 rfl rfl (by decide) rfl rfl ?_
        refine cj_goto C (tgt := 17) dX1_findRests_88 rfl ?_
        exact ih (x2 + 1) S4 h
def fX1_findRests (x1 : Int32) (S : cpS) : Option (Unit × cpS) :=
    cpLt (cpI S 127 4 (0 : Int32)) fun S1 =>
    cpLt (cpI S1 127 5 (-1 : Int32)) fun S2 =>
    cpLt (cpI S2 127 6 (-1 : Int32)) fun S3 =>
    fX1_findRests_17 x1 cpFu (0 : Int32) S3
set_option maxRecDepth 100000 in
set_option maxHeartbeats 4000000 in
theorem m_X1_findRests (l : Launch) (w : cpW) (A : Nat → Prop) (x1 : Int32) (S : cpS) (r : Unit × cpS) (h : fX1_findRests x1 S = some r) : cpMv l yX1_findRests cX1_findRests 4 (none) 3 w A [.ref (w.2.1 127), .int x1] S r := by
  refine cpMv.of (lv := [some (.ref (w.2.1 127)), some (.int x1), none, none]) (by decide) (Nat.le_of_ble_eq_true rfl) rfl (fun p e s m args below meth c C hr => ?_)
  replace C : cpCx p s m args meth c w A cX1_findRests RX1 4 := C
  rw [fX1_findRests] at h
  refine cj_aload_n C (i := 0) dX1_findRests_0 rfl rfl ?_
  refine cj_iconst C (v := (0 : Int32)) dX1_findRests_1 rfl ?_
  refine cj_put C (j := 4) o_127 rfl pfX1_107 rfl rfl dX1_findRests_2 ?_
  refine cj_lets h (fun S1 h => ?_)
  refine cj_aload_n C (i := 0) dX1_findRests_5 rfl rfl ?_
  refine cj_iconst C (v := (-1 : Int32)) dX1_findRests_6 rfl ?_
  refine cj_put C (j := 5) o_127 rfl pfX1_110 rfl rfl dX1_findRests_7 ?_
  refine cj_lets h (fun S2 h => ?_)
  refine cj_aload_n C (i := 0) dX1_findRests_10 rfl rfl ?_
  refine cj_iconst C (v := (-1 : Int32)) dX1_findRests_11 rfl ?_
  refine cj_put C (j := 6) o_127 rfl pfX1_113 rfl rfl dX1_findRests_12 ?_
  refine cj_lets h (fun S3 h => ?_)
  refine cj_iconst C (v := (0 : Int32)) dX1_findRests_15 rfl ?_
  refine cj_istore_n C (i := 2) (lv' := [some (.ref (w.2.1 127)), some (.int x1), some (.int (0 : Int32)), none]) dX1_findRests_16 rfl (by decide) rfl rfl ?_
  exact wX1_findRests_17 C hr x1 cpFu (0 : Int32) S3 h
/-! X1_tellOn -/
def fX1_tellOn_4 (x1 : Int32) : Nat → Int32 → Int32 → cpS → Option (Int32 × cpS)
  | 0, _, _, _ => none
  | n + 1, x2, x3, S =>
    if (S.1 1 7) ≤ x3 then (
    some (x2, S)) else (
    cpB (fX11_isIn x1 x3 S) fun z1 S2 =>
    if z1 = 0 then (
    fX1_tellOn_4 x1 n x2 (x3 + 1) S2) else (
    cpB (fX1_friendsOf x3 S2) fun z3 S4 =>
    cpLt (x2 ||| z3) fun y5 =>
    fX1_tellOn_4 x1 n y5 (x3 + 1) S4))
set_option maxRecDepth 100000 in
set_option maxHeartbeats 4000000 in
theorem wX1_tellOn_4 (C : cpCx p s m args meth c w A cX1_tellOn RX1 4) (hr : meth.sig.returnType = (some .int)) {r : Int32 × cpS} (x1 : Int32) : ∀ (n : Nat) (x2 : Int32) (x3 : Int32) (S : cpS), fX1_tellOn_4 x1 n x2 x3 S = some r → cpJ p l e (cpRm 2) s m args below meth c (MQ below (va_Qi (fun x S' => (x, S') = r) (cpWorld w A) A) args s 0 0 A) w A 4 4 [some (.ref (w.2.1 127)), some (.int x1), some (.int x2), some (.int x3)] [] S := by
  intro n
  induction n with
  | zero => intro x2 x3 S h; rw [fX1_tellOn_4] at h; cases h
  | succ n ih =>
    intro x2 x3 S h
    rw [fX1_tellOn_4] at h
    refine cj_iload_n C (i := 3) dX1_tellOn_4 rfl rfl ?_
    refine cj_aload_n C (i := 0) dX1_tellOn_5 rfl rfl ?_
    refine cj_getR C (d := 1) o_127 rfl gfX1_18 dX1_tellOn_6 ?_
    refine cj_getI C (j := 7) o_1 rfl gfX1_26 dX1_tellOn_9 ?_
    refine cj_icmp_ge C (tgt := 37) dX1_tellOn_12 rfl h (fun _ h => ?_) (fun _ h => ?_)
    · refine cj_iload_n C (i := 2) dX1_tellOn_37 rfl rfl ?_
      exact cj_ireturn C hr h dX1_tellOn_38
    · refine cj_iload_n C (i := 1) dX1_tellOn_15 rfl rfl ?_
      refine cj_iload_n C (i := 3) dX1_tellOn_16 rfl rfl ?_
      refine cj_callNi C (As := [.int x1, .int x3]) (rest := []) qX11_isIn (List.mem_of_getElem? (i := 6) rfl) rfl rfl (Nat.le_of_ble_eq_true rfl) (by decide) dX1_tellOn_17 h (fun _ _ hf => m_X11_isIn l w A x1 x3 S _ hf) (fun z1 S2 h => ?_)
      refine cj_if_eq C (tgt := 31) dX1_tellOn_20 rfl h (fun _ h => ?_) (fun _ h => ?_)
      · refine cj_iinc C (v := (x3 + 1)) (lv' := [some (.ref (w.2.1 127)), some (.int x1), some (.int x2), some (.int (x3 + 1))]) dX1_tellOn_31 rfl rfl (by decide) rfl rfl ?_
        refine cj_goto C (tgt := 4) dX1_tellOn_34 rfl ?_
        exact ih x2 (x3 + 1) S2 h
      · refine cj_iload_n C (i := 2) dX1_tellOn_23 rfl rfl ?_
        refine cj_aload_n C (i := 0) dX1_tellOn_24 rfl rfl ?_
        refine cj_iload_n C (i := 3) dX1_tellOn_25 rfl rfl ?_
        refine cj_callVi C (As := [.int x3]) (rest := [.int x2]) qX1_friendsOf mw_60_2 o_127 rfl rfl rfl (Nat.le_of_ble_eq_true rfl) (by decide) dX1_tellOn_26 h (fun _ _ hf => m_X1_friendsOf l w A x3 S2 _ hf) (fun z3 S4 h => ?_)
        refine cj_ior C dX1_tellOn_29 ?_
        refine cj_let h (fun y5 h => ?_)
        refine cj_istore_n C (i := 2) (lv' := [some (.ref (w.2.1 127)), some (.int x1), some (.int y5), some (.int x3)]) dX1_tellOn_30 rfl (by decide) rfl rfl ?_
        refine cj_iinc C (v := (x3 + 1)) (lv' := [some (.ref (w.2.1 127)), some (.int x1), some (.int y5), some (.int (x3 + 1))]) dX1_tellOn_31 rfl rfl (by decide) rfl rfl ?_
        refine cj_goto C (tgt := 4) dX1_tellOn_34 rfl ?_
        exact ih y5 (x3 + 1) S4 h
def fX1_tellOn (x1 : Int32) (S : cpS) : Option (Int32 × cpS) :=
    fX1_tellOn_4 x1 cpFu x1 (0 : Int32) S
set_option maxRecDepth 100000 in
set_option maxHeartbeats 4000000 in
theorem m_X1_tellOn (l : Launch) (w : cpW) (A : Nat → Prop) (x1 : Int32) (S : cpS) (r : Int32 × cpS) (h : fX1_tellOn x1 S = some r) : cpMi l yX1_tellOn cX1_tellOn 4 ((some .int)) 2 w A [.ref (w.2.1 127), .int x1] S r := by
  refine cpMi.of (lv := [some (.ref (w.2.1 127)), some (.int x1), none, none]) (by decide) (Nat.le_of_ble_eq_true rfl) rfl (fun p e s m args below meth c C hr => ?_)
  replace C : cpCx p s m args meth c w A cX1_tellOn RX1 4 := C
  rw [fX1_tellOn] at h
  refine cj_iload_n C (i := 1) dX1_tellOn_0 rfl rfl ?_
  refine cj_istore_n C (i := 2) (lv' := [some (.ref (w.2.1 127)), some (.int x1), some (.int x1), none]) dX1_tellOn_1 rfl (by decide) rfl rfl ?_
  refine cj_iconst C (v := (0 : Int32)) dX1_tellOn_2 rfl ?_
  refine cj_istore_n C (i := 3) (lv' := [some (.ref (w.2.1 127)), some (.int x1), some (.int x1), some (.int (0 : Int32))]) dX1_tellOn_3 rfl (by decide) rfl rfl ?_
  exact wX1_tellOn_4 C hr x1 cpFu x1 (0 : Int32) S h
/-! X1_heardBehind -/
def fX1_heardBehind_7 (x2 : Int32) : Nat → Int32 → Int32 → cpS → Option (Int32 × cpS)
  | 0, _, _, _ => none
  | n + 1, x3, x4, S =>
    if x2 ≤ x4 then (
    some (x3, S)) else (
    cpB (fX1_tellOn x3 S) fun z1 S2 =>
    fX1_heardBehind_7 x2 n z1 (x4 + 1) S2)
set_option maxRecDepth 100000 in
set_option maxHeartbeats 4000000 in
theorem wX1_heardBehind_7 (C : cpCx p s m args meth c w A cX1_heardBehind RX1 5) (hr : meth.sig.returnType = (some .int)) {r : Int32 × cpS} (x2 : Int32) : ∀ (n : Nat) (x3 : Int32) (x4 : Int32) (S : cpS), fX1_heardBehind_7 x2 n x3 x4 S = some r → cpJ p l e (cpRm 3) s m args below meth c (MQ below (va_Qi (fun x S' => (x, S') = r) (cpWorld w A) A) args s 0 0 A) w A 5 7 [some (.ref (w.2.1 127)), none, some (.int x2), some (.int x3), some (.int x4)] [] S := by
  intro n
  induction n with
  | zero => intro x3 x4 S h; rw [fX1_heardBehind_7] at h; cases h
  | succ n ih =>
    intro x3 x4 S h
    rw [fX1_heardBehind_7] at h
    refine cj_iload C dX1_heardBehind_7 rfl ?_
    refine cj_iload_n C (i := 2) dX1_heardBehind_9 rfl rfl ?_
    refine cj_icmp_ge C (tgt := 25) dX1_heardBehind_10 rfl h (fun _ h => ?_) (fun _ h => ?_)
    · refine cj_iload_n C (i := 3) dX1_heardBehind_25 rfl rfl ?_
      exact cj_ireturn C hr h dX1_heardBehind_26
    · refine cj_aload_n C (i := 0) dX1_heardBehind_13 rfl rfl ?_
      refine cj_iload_n C (i := 3) dX1_heardBehind_14 rfl rfl ?_
      refine cj_callVi C (As := [.int x3]) (rest := []) qX1_tellOn mw_61_8 o_127 rfl rfl rfl (Nat.le_of_ble_eq_true rfl) (by decide) dX1_heardBehind_15 h (fun _ _ hf => m_X1_tellOn l w A x3 S _ hf) (fun z1 S2 h => ?_)
      refine cj_istore_n C (i := 3) (lv' := [some (.ref (w.2.1 127)), none, some (.int x2), some (.int z1), some (.int x4)]) dX1_heardBehind_18 rfl (by decide) rfl rfl ?_
      refine cj_iinc C (v := (x4 + 1)) (lv' := [some (.ref (w.2.1 127)), none, some (.int x2), some (.int z1), some (.int (x4 + 1))]) dX1_heardBehind_19 rfl rfl (by decide) rfl rfl ?_
      refine cj_goto C (tgt := 7) dX1_heardBehind_22 rfl ?_
      exact ih z1 (x4 + 1) S2 h
def fX1_heardBehind (x1 : Int32) (x2 : Int32) (S : cpS) : Option (Int32 × cpS) :=
    cpLt (cpShl (1 : Int32) x1) fun y1 =>
    fX1_heardBehind_7 x2 cpFu y1 (0 : Int32) S
set_option maxRecDepth 100000 in
set_option maxHeartbeats 4000000 in
theorem m_X1_heardBehind (l : Launch) (w : cpW) (A : Nat → Prop) (x1 : Int32) (x2 : Int32) (S : cpS) (r : Int32 × cpS) (h : fX1_heardBehind x1 x2 S = some r) : cpMi l yX1_heardBehind cX1_heardBehind 5 ((some .int)) 3 w A [.ref (w.2.1 127), .int x1, .int x2] S r := by
  refine cpMi.of (lv := [some (.ref (w.2.1 127)), some (.int x1), some (.int x2), none, none]) (by decide) (Nat.le_of_ble_eq_true rfl) rfl (fun p e s m args below meth c C hr => ?_)
  replace C : cpCx p s m args meth c w A cX1_heardBehind RX1 5 := C
  rw [fX1_heardBehind] at h
  refine cj_iconst C (v := (1 : Int32)) dX1_heardBehind_0 rfl ?_
  refine cj_iload_n C (i := 1) dX1_heardBehind_1 rfl rfl ?_
  refine ck_ishl C dX1_heardBehind_2 ?_
  refine cj_let h (fun y1 h => ?_)
  refine cj_istore_n C (i := 3) (lv' := [some (.ref (w.2.1 127)), some (.int x1), some (.int x2), some (.int y1), none]) dX1_heardBehind_3 rfl (by decide) rfl rfl ?_
  refine cj_iconst C (v := (0 : Int32)) dX1_heardBehind_4 rfl ?_
  refine cj_istore C (lv' := [some (.ref (w.2.1 127)), some (.int x1), some (.int x2), some (.int y1), some (.int (0 : Int32))]) dX1_heardBehind_5 (by decide) rfl rfl ?_
  refine cj_weak C (lv' := [some (.ref (w.2.1 127)), none, some (.int x2), some (.int y1), some (.int (0 : Int32))]) (cpSub_s (cpSub_n (cpSub_s (cpSub_s (cpSub_s cpSub_nil))))) ?_
  exact wX1_heardBehind_7 C hr x2 cpFu y1 (0 : Int32) S h
/-! X1_changesFor -/
def fX1_changesFor_35 (x1 : Int32) (x2 : Int32) (x3 : Int32) (s0 : Int32) (k4 : Int32 → Int32 → cpS → Option (Int32 × cpS)) (S : cpS) : Option (Int32 × cpS) :=
    if cpIn x3 8 then (
    cpB (fJ6_bitCount_0f7a4 ((S.1 60 x3.toNatClampNeg) ^^^ s0) S) fun z1 S2 =>
    cpLt (x2 + z1) fun y3 =>
    k4 y3 (x3 + 1) S2) else none
set_option maxRecDepth 100000 in
set_option maxHeartbeats 4000000 in
theorem wX1_changesFor_35 (C : cpCx p s m args meth c w A cX1_changesFor RX1 5) (hr : meth.sig.returnType = (some .int)) {r : Int32 × cpS} (x1 : Int32) (x2 : Int32) (x3 : Int32) (s0 : Int32) {k4 : Int32 → Int32 → cpS → Option (Int32 × cpS)} (hk4 : ∀ (x2 : Int32) (x3 : Int32) (S : cpS), k4 x2 x3 S = some r → cpJ p l e (cpRm 1) s m args below meth c (MQ below (va_Qi (fun x S' => (x, S') = r) (cpWorld w A) A) args s 0 0 A) w A 5 4 [some (.ref (w.2.1 127)), some (.int x1), some (.int x2), some (.int x3), none] [] S) (S : cpS) (h : fX1_changesFor_35 x1 x2 x3 s0 k4 S = some r) : cpJ p l e (cpRm 1) s m args below meth c (MQ below (va_Qi (fun x S' => (x, S') = r) (cpWorld w A) A) args s 0 0 A) w A 5 35 [some (.ref (w.2.1 127)), some (.int x1), some (.int x2), some (.int x3), none] [.int s0] S := by
  rw [fX1_changesFor_35] at h
  refine cj_istore C (lv' := [some (.ref (w.2.1 127)), some (.int x1), some (.int x2), some (.int x3), some (.int s0)]) dX1_changesFor_35 (by decide) rfl rfl ?_
  refine cj_iload_n C (i := 2) dX1_changesFor_37 rfl rfl ?_
  refine cj_aload_n C (i := 0) dX1_changesFor_38 rfl rfl ?_
  refine cj_getR C (d := 57) o_127 rfl gfX1_22 dX1_changesFor_39 ?_
  refine cj_getR C (d := 60) o_57 rfl gfX1_36 dX1_changesFor_42 ?_
  refine cj_iload_n C (i := 3) dX1_changesFor_45 rfl rfl ?_
  refine cj_iaload C o_60 h dX1_changesFor_46 (fun h => ?_)
  refine cj_iload C dX1_changesFor_47 rfl ?_
  refine cj_ixor C dX1_changesFor_49 ?_
  refine cj_callSi C (As := [.int ((S.1 60 x3.toNatClampNeg) ^^^ s0)]) (rest := [.int x2]) qJ6_bitCount_0f7a4 mw_57_8 rfl rfl (Nat.le_of_ble_eq_true rfl) (by decide) dX1_changesFor_50 h (fun _ _ hf => m_J6_bitCount_0f7a4 l w A ((S.1 60 x3.toNatClampNeg) ^^^ s0) S _ hf) (fun z1 S2 h => ?_)
  refine cj_iadd C dX1_changesFor_53 ?_
  refine cj_let h (fun y3 h => ?_)
  refine cj_istore_n C (i := 2) (lv' := [some (.ref (w.2.1 127)), some (.int x1), some (.int y3), some (.int x3), some (.int s0)]) dX1_changesFor_54 rfl (by decide) rfl rfl ?_
  refine cj_iinc C (v := (x3 + 1)) (lv' := [some (.ref (w.2.1 127)), some (.int x1), some (.int y3), some (.int (x3 + 1)), some (.int s0)]) dX1_changesFor_55 rfl rfl (by decide) rfl rfl ?_
  refine cj_goto C (tgt := 4) dX1_changesFor_58 rfl ?_
  refine cj_weak C (lv' := [some (.ref (w.2.1 127)), some (.int x1), some (.int y3), some (.int (x3 + 1)), none]) (cpSub_s (cpSub_s (cpSub_s (cpSub_s (cpSub_n cpSub_nil))))) ?_
  exact hk4 y3 (x3 + 1) S2 h
def fX1_changesFor_4 (x1 : Int32) : Nat → Int32 → Int32 → cpS → Option (Int32 × cpS)
  | 0, _, _, _ => none
  | n + 1, x2, x3, S =>
    if (S.1 1 7) ≤ x3 then (
    some ((x2 / (2 : Int32)), S)) else (
    cpB (fX11_isIn x1 x3 S) fun z1 S2 =>
    if z1 = 0 then (
    fX1_changesFor_35 x1 x2 x3 x1 (fX1_changesFor_4 x1 n) S2) else (
    cpB (fX1_everybody S2) fun z3 S4 =>
    fX1_changesFor_35 x1 x2 x3 (z3 &&& (x1 ^^^ (-1 : Int32))) (fX1_changesFor_4 x1 n) S4))
set_option maxRecDepth 100000 in
set_option maxHeartbeats 4000000 in
theorem wX1_changesFor_4 (C : cpCx p s m args meth c w A cX1_changesFor RX1 5) (hr : meth.sig.returnType = (some .int)) {r : Int32 × cpS} (x1 : Int32) : ∀ (n : Nat) (x2 : Int32) (x3 : Int32) (S : cpS), fX1_changesFor_4 x1 n x2 x3 S = some r → cpJ p l e (cpRm 1) s m args below meth c (MQ below (va_Qi (fun x S' => (x, S') = r) (cpWorld w A) A) args s 0 0 A) w A 5 4 [some (.ref (w.2.1 127)), some (.int x1), some (.int x2), some (.int x3), none] [] S := by
  intro n
  induction n with
  | zero => intro x2 x3 S h; rw [fX1_changesFor_4] at h; cases h
  | succ n ih =>
    intro x2 x3 S h
    rw [fX1_changesFor_4] at h
    refine cj_iload_n C (i := 3) dX1_changesFor_4 rfl rfl ?_
    refine cj_aload_n C (i := 0) dX1_changesFor_5 rfl rfl ?_
    refine cj_getR C (d := 1) o_127 rfl gfX1_18 dX1_changesFor_6 ?_
    refine cj_getI C (j := 7) o_1 rfl gfX1_26 dX1_changesFor_9 ?_
    refine cj_icmp_ge C (tgt := 61) dX1_changesFor_12 rfl h (fun _ h => ?_) (fun _ h => ?_)
    · refine cj_iload_n C (i := 2) dX1_changesFor_61 rfl rfl ?_
      refine cj_iconst C (v := (2 : Int32)) dX1_changesFor_62 rfl ?_
      refine cj_idiv C dX1_changesFor_63 (by decide) ?_
      exact cj_ireturn C hr h dX1_changesFor_64
    · refine cj_iload_n C (i := 1) dX1_changesFor_15 rfl rfl ?_
      refine cj_iload_n C (i := 3) dX1_changesFor_16 rfl rfl ?_
      refine cj_callNi C (As := [.int x1, .int x3]) (rest := []) qX11_isIn (List.mem_of_getElem? (i := 6) rfl) rfl rfl (Nat.le_of_ble_eq_true rfl) (by decide) dX1_changesFor_17 h (fun _ _ hf => m_X11_isIn l w A x1 x3 S _ hf) (fun z1 S2 h => ?_)
      refine cj_if_eq C (tgt := 34) dX1_changesFor_20 rfl h (fun _ h => ?_) (fun _ h => ?_)
      · refine cj_iload_n C (i := 1) dX1_changesFor_34 rfl rfl ?_
        exact wX1_changesFor_35 C hr x1 x2 x3 x1 ih S2 h
      · refine cj_aload_n C (i := 0) dX1_changesFor_23 rfl rfl ?_
        refine cj_callVi C (As := []) (rest := []) qX1_everybody mw_54_14 o_127 rfl rfl rfl (Nat.le_of_ble_eq_true rfl) (by decide) dX1_changesFor_24 h (fun _ _ hf => m_X1_everybody l w A S2 _ hf) (fun z3 S4 h => ?_)
        refine cj_iload_n C (i := 1) dX1_changesFor_27 rfl rfl ?_
        refine cj_iconst C (v := (-1 : Int32)) dX1_changesFor_28 rfl ?_
        refine cj_ixor C dX1_changesFor_29 ?_
        refine cj_iand C dX1_changesFor_30 ?_
        refine cj_goto C (tgt := 35) dX1_changesFor_31 rfl ?_
        exact wX1_changesFor_35 C hr x1 x2 x3 (z3 &&& (x1 ^^^ (-1 : Int32))) ih S4 h
def fX1_changesFor (x1 : Int32) (S : cpS) : Option (Int32 × cpS) :=
    fX1_changesFor_4 x1 cpFu (0 : Int32) (0 : Int32) S
set_option maxRecDepth 100000 in
set_option maxHeartbeats 4000000 in
theorem m_X1_changesFor (l : Launch) (w : cpW) (A : Nat → Prop) (x1 : Int32) (S : cpS) (r : Int32 × cpS) (h : fX1_changesFor x1 S = some r) : cpMi l yX1_changesFor cX1_changesFor 5 ((some .int)) 1 w A [.ref (w.2.1 127), .int x1] S r := by
  refine cpMi.of (lv := [some (.ref (w.2.1 127)), some (.int x1), none, none, none]) (by decide) (Nat.le_of_ble_eq_true rfl) rfl (fun p e s m args below meth c C hr => ?_)
  replace C : cpCx p s m args meth c w A cX1_changesFor RX1 5 := C
  rw [fX1_changesFor] at h
  refine cj_iconst C (v := (0 : Int32)) dX1_changesFor_0 rfl ?_
  refine cj_istore_n C (i := 2) (lv' := [some (.ref (w.2.1 127)), some (.int x1), some (.int (0 : Int32)), none, none]) dX1_changesFor_1 rfl (by decide) rfl rfl ?_
  refine cj_iconst C (v := (0 : Int32)) dX1_changesFor_2 rfl ?_
  refine cj_istore_n C (i := 3) (lv' := [some (.ref (w.2.1 127)), some (.int x1), some (.int (0 : Int32)), some (.int (0 : Int32)), none]) dX1_changesFor_3 rfl (by decide) rfl rfl ?_
  exact wX1_changesFor_4 C hr x1 cpFu (0 : Int32) (0 : Int32) S h
/-! X1_bestCamp -/
def fX1_bestCamp_9 : Nat → Int32 → Int32 → cpS → Option (Int32 × cpS)
  | 0, _, _, _ => none
  | n + 1, x1, x2, S =>
    cpB (fX1_everybody S) fun z1 S2 =>
    if z1 < x2 then (
    some (x1, S2)) else (
    cpB (fX1_changesFor x2 S2) fun z3 S4 =>
    cpB (fX1_changesFor x1 S4) fun z5 S6 =>
    if z5 ≤ z3 then (
    fX1_bestCamp_9 n x1 (x2 + 2) S6) else (
    fX1_bestCamp_9 n x2 (x2 + 2) S6))
set_option maxRecDepth 100000 in
set_option maxHeartbeats 4000000 in
theorem wX1_bestCamp_9 (C : cpCx p s m args meth c w A cX1_bestCamp RX1 3) (hr : meth.sig.returnType = (some .int)) {r : Int32 × cpS} : ∀ (n : Nat) (x1 : Int32) (x2 : Int32) (S : cpS), fX1_bestCamp_9 n x1 x2 S = some r → cpJ p l e (cpRm 2) s m args below meth c (MQ below (va_Qi (fun x S' => (x, S') = r) (cpWorld w A) A) args s 0 0 A) w A 3 9 [some (.ref (w.2.1 127)), some (.int x1), some (.int x2)] [] S := by
  intro n
  induction n with
  | zero => intro x1 x2 S h; rw [fX1_bestCamp_9] at h; cases h
  | succ n ih =>
    intro x1 x2 S h
    rw [fX1_bestCamp_9] at h
    refine cj_iload_n C (i := 2) dX1_bestCamp_9 rfl rfl ?_
    refine cj_aload_n C (i := 0) dX1_bestCamp_10 rfl rfl ?_
    refine cj_callVi C (As := []) (rest := [.int x2]) qX1_everybody mw_54_14 o_127 rfl rfl rfl (Nat.le_of_ble_eq_true rfl) (by decide) dX1_bestCamp_11 h (fun _ _ hf => m_X1_everybody l w A S _ hf) (fun z1 S2 h => ?_)
    refine cj_icmp_gt C (tgt := 38) dX1_bestCamp_14 rfl h (fun _ h => ?_) (fun _ h => ?_)
    · refine cj_iload_n C (i := 1) dX1_bestCamp_38 rfl rfl ?_
      exact cj_ireturn C hr h dX1_bestCamp_39
    · refine cj_aload_n C (i := 0) dX1_bestCamp_17 rfl rfl ?_
      refine cj_iload_n C (i := 2) dX1_bestCamp_18 rfl rfl ?_
      refine cj_callVi C (As := [.int x2]) (rest := []) qX1_changesFor mw_62_12 o_127 rfl rfl rfl (Nat.le_of_ble_eq_true rfl) (by decide) dX1_bestCamp_19 h (fun _ _ hf => m_X1_changesFor l w A x2 S2 _ hf) (fun z3 S4 h => ?_)
      refine cj_aload_n C (i := 0) dX1_bestCamp_22 rfl rfl ?_
      refine cj_iload_n C (i := 1) dX1_bestCamp_23 rfl rfl ?_
      refine cj_callVi C (As := [.int x1]) (rest := [.int z3]) qX1_changesFor mw_62_12 o_127 rfl rfl rfl (Nat.le_of_ble_eq_true rfl) (by decide) dX1_bestCamp_24 h (fun _ _ hf => m_X1_changesFor l w A x1 S4 _ hf) (fun z5 S6 h => ?_)
      refine cj_icmp_ge C (tgt := 32) dX1_bestCamp_27 rfl h (fun _ h => ?_) (fun _ h => ?_)
      · refine cj_iinc C (v := (x2 + 2)) (lv' := [some (.ref (w.2.1 127)), some (.int x1), some (.int (x2 + 2))]) dX1_bestCamp_32 rfl rfl (by decide) rfl rfl ?_
        refine cj_goto C (tgt := 9) dX1_bestCamp_35 rfl ?_
        exact ih x1 (x2 + 2) S6 h
      · refine cj_iload_n C (i := 2) dX1_bestCamp_30 rfl rfl ?_
        refine cj_istore_n C (i := 1) (lv' := [some (.ref (w.2.1 127)), some (.int x2), some (.int x2)]) dX1_bestCamp_31 rfl (by decide) rfl rfl ?_
        refine cj_iinc C (v := (x2 + 2)) (lv' := [some (.ref (w.2.1 127)), some (.int x2), some (.int (x2 + 2))]) dX1_bestCamp_32 rfl rfl (by decide) rfl rfl ?_
        refine cj_goto C (tgt := 9) dX1_bestCamp_35 rfl ?_
        exact ih x2 (x2 + 2) S6 h
def fX1_bestCamp (S : cpS) : Option (Int32 × cpS) :=
    cpB (fX1_everybody S) fun z1 S2 =>
    cpLt (z1 &&& (1 : Int32)) fun y3 =>
    fX1_bestCamp_9 cpFu y3 (1 : Int32) S2
set_option maxRecDepth 100000 in
set_option maxHeartbeats 4000000 in
theorem m_X1_bestCamp (l : Launch) (w : cpW) (A : Nat → Prop) (S : cpS) (r : Int32 × cpS) (h : fX1_bestCamp S = some r) : cpMi l yX1_bestCamp cX1_bestCamp 3 ((some .int)) 2 w A [.ref (w.2.1 127)] S r := by
  refine cpMi.of (lv := [some (.ref (w.2.1 127)), none, none]) (by decide) (Nat.le_of_ble_eq_true rfl) rfl (fun p e s m args below meth c C hr => ?_)
  replace C : cpCx p s m args meth c w A cX1_bestCamp RX1 3 := C
  rw [fX1_bestCamp] at h
  refine cj_aload_n C (i := 0) dX1_bestCamp_0 rfl rfl ?_
  refine cj_callVi C (As := []) (rest := []) qX1_everybody mw_54_14 o_127 rfl rfl rfl (Nat.le_of_ble_eq_true rfl) (by decide) dX1_bestCamp_1 h (fun _ _ hf => m_X1_everybody l w A S _ hf) (fun z1 S2 h => ?_)
  refine cj_iconst C (v := (1 : Int32)) dX1_bestCamp_4 rfl ?_
  refine cj_iand C dX1_bestCamp_5 ?_
  refine cj_let h (fun y3 h => ?_)
  refine cj_istore_n C (i := 1) (lv' := [some (.ref (w.2.1 127)), some (.int y3), none]) dX1_bestCamp_6 rfl (by decide) rfl rfl ?_
  refine cj_iconst C (v := (1 : Int32)) dX1_bestCamp_7 rfl ?_
  refine cj_istore_n C (i := 2) (lv' := [some (.ref (w.2.1 127)), some (.int y3), some (.int (1 : Int32))]) dX1_bestCamp_8 rfl (by decide) rfl rfl ?_
  exact wX1_bestCamp_9 C hr cpFu y3 (1 : Int32) S2 h
/-! X1_quarrelsToMakeUp -/
def fX1_quarrelsToMakeUp_6 : Nat → Int32 → Int32 → Int32 → cpS → Option (Int32 × cpS)
  | 0, _, _, _, _ => none
  | n + 1, x1, x2, x3, S =>
    if (S.1 1 7) ≤ x3 then (
    some ((cpMax (0 : Int32) (x1 - (1 : Int32))), S)) else (
    cpB (fX11_isIn x2 x3 S) fun z1 S2 =>
    if z1 = 0 then (
    cpB (fX1_heardBehind x3 (8 : Int32) S2) fun z3 S4 =>
    cpLt (x2 ||| z3) fun y5 =>
    fX1_quarrelsToMakeUp_6 n (x1 + 1) y5 (x3 + 1) S4) else (
    fX1_quarrelsToMakeUp_6 n x1 x2 (x3 + 1) S2))
set_option maxRecDepth 100000 in
set_option maxHeartbeats 4000000 in
theorem wX1_quarrelsToMakeUp_6 (C : cpCx p s m args meth c w A cX1_quarrelsToMakeUp RX1 4) (hr : meth.sig.returnType = (some .int)) {r : Int32 × cpS} : ∀ (n : Nat) (x1 : Int32) (x2 : Int32) (x3 : Int32) (S : cpS), fX1_quarrelsToMakeUp_6 n x1 x2 x3 S = some r → cpJ p l e (cpRm 4) s m args below meth c (MQ below (va_Qi (fun x S' => (x, S') = r) (cpWorld w A) A) args s 0 0 A) w A 4 6 [some (.ref (w.2.1 127)), some (.int x1), some (.int x2), some (.int x3)] [] S := by
  intro n
  induction n with
  | zero => intro x1 x2 x3 S h; rw [fX1_quarrelsToMakeUp_6] at h; cases h
  | succ n ih =>
    intro x1 x2 x3 S h
    rw [fX1_quarrelsToMakeUp_6] at h
    refine cj_iload_n C (i := 3) dX1_quarrelsToMakeUp_6 rfl rfl ?_
    refine cj_aload_n C (i := 0) dX1_quarrelsToMakeUp_7 rfl rfl ?_
    refine cj_getR C (d := 1) o_127 rfl gfX1_18 dX1_quarrelsToMakeUp_8 ?_
    refine cj_getI C (j := 7) o_1 rfl gfX1_26 dX1_quarrelsToMakeUp_11 ?_
    refine cj_icmp_ge C (tgt := 44) dX1_quarrelsToMakeUp_14 rfl h (fun _ h => ?_) (fun _ h => ?_)
    · refine cj_iconst C (v := (0 : Int32)) dX1_quarrelsToMakeUp_44 rfl ?_
      refine cj_iload_n C (i := 1) dX1_quarrelsToMakeUp_45 rfl rfl ?_
      refine cj_iconst C (v := (1 : Int32)) dX1_quarrelsToMakeUp_46 rfl ?_
      refine cj_isub C dX1_quarrelsToMakeUp_47 ?_
      refine ck_mmax C mw_54_22 mw_12_13 mw_12_14 mw_12_15 (by decide) (Nat.le_of_ble_eq_true rfl) dX1_quarrelsToMakeUp_48 ?_
      exact cj_ireturn C hr h dX1_quarrelsToMakeUp_51
    · refine cj_iload_n C (i := 2) dX1_quarrelsToMakeUp_17 rfl rfl ?_
      refine cj_iload_n C (i := 3) dX1_quarrelsToMakeUp_18 rfl rfl ?_
      refine cj_callNi C (As := [.int x2, .int x3]) (rest := []) qX11_isIn (List.mem_of_getElem? (i := 6) rfl) rfl rfl (Nat.le_of_ble_eq_true rfl) (by decide) dX1_quarrelsToMakeUp_19 h (fun _ _ hf => m_X11_isIn l w A x2 x3 S _ hf) (fun z1 S2 h => ?_)
      refine cj_if_ne C (tgt := 38) dX1_quarrelsToMakeUp_22 rfl h (fun _ h => ?_) (fun _ h => ?_)
      · refine cj_iload_n C (i := 2) dX1_quarrelsToMakeUp_25 rfl rfl ?_
        refine cj_aload_n C (i := 0) dX1_quarrelsToMakeUp_26 rfl rfl ?_
        refine cj_iload_n C (i := 3) dX1_quarrelsToMakeUp_27 rfl rfl ?_
        refine cj_bipush C (v := (8 : Int32)) dX1_quarrelsToMakeUp_28 rfl ?_
        refine cj_callVi C (As := [.int x3, .int (8 : Int32)]) (rest := [.int x2]) qX1_heardBehind mw_63_9 o_127 rfl rfl rfl (Nat.le_of_ble_eq_true rfl) (by decide) dX1_quarrelsToMakeUp_30 h (fun _ _ hf => m_X1_heardBehind l w A x3 (8 : Int32) S2 _ hf) (fun z3 S4 h => ?_)
        refine cj_ior C dX1_quarrelsToMakeUp_33 ?_
        refine cj_let h (fun y5 h => ?_)
        refine cj_istore_n C (i := 2) (lv' := [some (.ref (w.2.1 127)), some (.int x1), some (.int y5), some (.int x3)]) dX1_quarrelsToMakeUp_34 rfl (by decide) rfl rfl ?_
        refine cj_iinc C (v := (x1 + 1)) (lv' := [some (.ref (w.2.1 127)), some (.int (x1 + 1)), some (.int y5), some (.int x3)]) dX1_quarrelsToMakeUp_35 rfl rfl (by decide) rfl rfl ?_
        refine cj_iinc C (v := (x3 + 1)) (lv' := [some (.ref (w.2.1 127)), some (.int (x1 + 1)), some (.int y5), some (.int (x3 + 1))]) dX1_quarrelsToMakeUp_38 rfl rfl (by decide) rfl rfl ?_
        refine cj_goto C (tgt := 6) dX1_quarrelsToMakeUp_41 rfl ?_
        exact ih (x1 + 1) y5 (x3 + 1) S4 h
      · refine cj_iinc C (v := (x3 + 1)) (lv' := [some (.ref (w.2.1 127)), some (.int x1), some (.int x2), some (.int (x3 + 1))]) dX1_quarrelsToMakeUp_38 rfl rfl (by decide) rfl rfl ?_
        refine cj_goto C (tgt := 6) dX1_quarrelsToMakeUp_41 rfl ?_
        exact ih x1 x2 (x3 + 1) S2 h
def fX1_quarrelsToMakeUp (S : cpS) : Option (Int32 × cpS) :=
    fX1_quarrelsToMakeUp_6 cpFu (0 : Int32) (0 : Int32) (0 : Int32) S
set_option maxRecDepth 100000 in
set_option maxHeartbeats 4000000 in
theorem m_X1_quarrelsToMakeUp (l : Launch) (w : cpW) (A : Nat → Prop) (S : cpS) (r : Int32 × cpS) (h : fX1_quarrelsToMakeUp S = some r) : cpMi l yX1_quarrelsToMakeUp cX1_quarrelsToMakeUp 4 ((some .int)) 4 w A [.ref (w.2.1 127)] S r := by
  refine cpMi.of (lv := [some (.ref (w.2.1 127)), none, none, none]) (by decide) (Nat.le_of_ble_eq_true rfl) rfl (fun p e s m args below meth c C hr => ?_)
  replace C : cpCx p s m args meth c w A cX1_quarrelsToMakeUp RX1 4 := C
  rw [fX1_quarrelsToMakeUp] at h
  refine cj_iconst C (v := (0 : Int32)) dX1_quarrelsToMakeUp_0 rfl ?_
  refine cj_istore_n C (i := 1) (lv' := [some (.ref (w.2.1 127)), some (.int (0 : Int32)), none, none]) dX1_quarrelsToMakeUp_1 rfl (by decide) rfl rfl ?_
  refine cj_iconst C (v := (0 : Int32)) dX1_quarrelsToMakeUp_2 rfl ?_
  refine cj_istore_n C (i := 2) (lv' := [some (.ref (w.2.1 127)), some (.int (0 : Int32)), some (.int (0 : Int32)), none]) dX1_quarrelsToMakeUp_3 rfl (by decide) rfl rfl ?_
  refine cj_iconst C (v := (0 : Int32)) dX1_quarrelsToMakeUp_4 rfl ?_
  refine cj_istore_n C (i := 3) (lv' := [some (.ref (w.2.1 127)), some (.int (0 : Int32)), some (.int (0 : Int32)), some (.int (0 : Int32))]) dX1_quarrelsToMakeUp_5 rfl (by decide) rfl rfl ?_
  exact wX1_quarrelsToMakeUp_6 C hr cpFu (0 : Int32) (0 : Int32) (0 : Int32) S h
/-! X4_places -/
def fX4_places (S : cpS) : Option (Int32 × cpS) :=
    some ((S.1 1 0), S)
set_option maxRecDepth 100000 in
set_option maxHeartbeats 4000000 in
theorem m_X4_places (l : Launch) (w : cpW) (A : Nat → Prop) (S : cpS) (r : Int32 × cpS) (h : fX4_places S = some r) : cpMi l yX4_places cX4_places 1 ((some .int)) 0 w A [.ref (w.2.1 119)] S r := by
  refine cpMi.of (lv := [some (.ref (w.2.1 119))]) (by decide) (Nat.le_of_ble_eq_true rfl) rfl (fun p e s m args below meth c C hr => ?_)
  replace C : cpCx p s m args meth c w A cX4_places RX4 1 := C
  rw [fX4_places] at h
  refine cj_aload_n C (i := 0) dX4_places_0 rfl rfl ?_
  refine cj_getR C (d := 117) o_119 rfl gfX4_34 dX4_places_1 ?_
  refine cj_getR C (d := 1) o_117 rfl gfX4_38 dX4_places_4 ?_
  refine cj_getI C (j := 0) o_1 rfl gfX4_44 dX4_places_7 ?_
  exact cj_ireturn C hr h dX4_places_10
/-! X4_canGo -/
def fX4_canGo (x1 : Int32) (x2 : Int32) (S : cpS) : Option (Int32 × cpS) :=
    if cpIn ((x1 * (6 : Int32)) + x2) 36 then (
    if (S.1 121 ((x1 * (6 : Int32)) + x2).toNatClampNeg) ≤ 0 then (
    some ((0 : Int32), S)) else (
    some ((1 : Int32), S))) else none
set_option maxRecDepth 100000 in
set_option maxHeartbeats 4000000 in
theorem m_X4_canGo (l : Launch) (w : cpW) (A : Nat → Prop) (x1 : Int32) (x2 : Int32) (S : cpS) (r : Int32 × cpS) (h : fX4_canGo x1 x2 S = some r) : cpMi l yX4_canGo cX4_canGo 3 ((some .boolean)) 0 w A [.ref (w.2.1 119), .int x1, .int x2] S r := by
  refine cpMi.of (lv := [some (.ref (w.2.1 119)), some (.int x1), some (.int x2)]) (by decide) (Nat.le_of_ble_eq_true rfl) rfl (fun p e s m args below meth c C hr => ?_)
  replace C : cpCx p s m args meth c w A cX4_canGo RX4 3 := C
  rw [fX4_canGo] at h
  refine cj_aload_n C (i := 0) dX4_canGo_0 rfl rfl ?_
  refine cj_getR C (d := 121) o_119 rfl gfX4_15 dX4_canGo_1 ?_
  refine cj_iload_n C (i := 1) dX4_canGo_4 rfl rfl ?_
  refine cj_bipush C (v := (6 : Int32)) dX4_canGo_5 rfl ?_
  refine cj_imul C dX4_canGo_7 ?_
  refine cj_iload_n C (i := 2) dX4_canGo_8 rfl rfl ?_
  refine cj_iadd C dX4_canGo_9 ?_
  refine cj_iaload C o_121 h dX4_canGo_10 (fun h => ?_)
  refine cj_if_le C (tgt := 18) dX4_canGo_11 rfl h (fun _ h => ?_) (fun _ h => ?_)
  · refine cj_iconst C (v := (0 : Int32)) dX4_canGo_18 rfl ?_
    exact cj_zreturn C hr rfl h dX4_canGo_19
  · refine cj_iconst C (v := (1 : Int32)) dX4_canGo_14 rfl ?_
    refine cj_goto C (tgt := 19) dX4_canGo_15 rfl ?_
    exact cj_zreturn C hr rfl h dX4_canGo_19
/-! X4_placesNextTo -/
def fX4_placesNextTo_4 (x1 : Int32) : Nat → Int32 → Int32 → cpS → Option (Int32 × cpS)
  | 0, _, _, _ => none
  | n + 1, x2, x3, S =>
    cpB (fX4_places S) fun z1 S2 =>
    if z1 ≤ x3 then (
    some (x2, S2)) else (
    cpB (fX4_canGo x1 x3 S2) fun z3 S4 =>
    if z3 = 0 then (
    fX4_placesNextTo_4 x1 n x2 (x3 + 1) S4) else (
    cpLt (x2 ||| (cpShl (1 : Int32) x3)) fun y5 =>
    fX4_placesNextTo_4 x1 n y5 (x3 + 1) S4))
set_option maxRecDepth 100000 in
set_option maxHeartbeats 4000000 in
theorem wX4_placesNextTo_4 (C : cpCx p s m args meth c w A cX4_placesNextTo RX4 4) (hr : meth.sig.returnType = (some .int)) {r : Int32 × cpS} (x1 : Int32) : ∀ (n : Nat) (x2 : Int32) (x3 : Int32) (S : cpS), fX4_placesNextTo_4 x1 n x2 x3 S = some r → cpJ p l e (cpRm 1) s m args below meth c (MQ below (va_Qi (fun x S' => (x, S') = r) (cpWorld w A) A) args s 0 0 A) w A 4 4 [some (.ref (w.2.1 119)), some (.int x1), some (.int x2), some (.int x3)] [] S := by
  intro n
  induction n with
  | zero => intro x2 x3 S h; rw [fX4_placesNextTo_4] at h; cases h
  | succ n ih =>
    intro x2 x3 S h
    rw [fX4_placesNextTo_4] at h
    refine cj_iload_n C (i := 3) dX4_placesNextTo_4 rfl rfl ?_
    refine cj_aload_n C (i := 0) dX4_placesNextTo_5 rfl rfl ?_
    refine cj_callVi C (As := []) (rest := [.int x3]) qX4_places mw_47_20 o_119 rfl rfl rfl (Nat.le_of_ble_eq_true rfl) (by decide) dX4_placesNextTo_6 h (fun _ _ hf => m_X4_places l w A S _ hf) (fun z1 S2 h => ?_)
    refine cj_icmp_ge C (tgt := 33) dX4_placesNextTo_9 rfl h (fun _ h => ?_) (fun _ h => ?_)
    · refine cj_iload_n C (i := 2) dX4_placesNextTo_33 rfl rfl ?_
      exact cj_ireturn C hr h dX4_placesNextTo_34
    · refine cj_aload_n C (i := 0) dX4_placesNextTo_12 rfl rfl ?_
      refine cj_iload_n C (i := 1) dX4_placesNextTo_13 rfl rfl ?_
      refine cj_iload_n C (i := 3) dX4_placesNextTo_14 rfl rfl ?_
      refine cj_callVi C (As := [.int x1, .int x3]) (rest := []) qX4_canGo mw_48_22 o_119 rfl rfl rfl (Nat.le_of_ble_eq_true rfl) (by decide) dX4_placesNextTo_15 h (fun _ _ hf => m_X4_canGo l w A x1 x3 S2 _ hf) (fun z3 S4 h => ?_)
      refine cj_if_eq C (tgt := 27) dX4_placesNextTo_18 rfl h (fun _ h => ?_) (fun _ h => ?_)
      · refine cj_iinc C (v := (x3 + 1)) (lv' := [some (.ref (w.2.1 119)), some (.int x1), some (.int x2), some (.int (x3 + 1))]) dX4_placesNextTo_27 rfl rfl (by decide) rfl rfl ?_
        refine cj_goto C (tgt := 4) dX4_placesNextTo_30 rfl ?_
        exact ih x2 (x3 + 1) S4 h
      · refine cj_iload_n C (i := 2) dX4_placesNextTo_21 rfl rfl ?_
        refine cj_iconst C (v := (1 : Int32)) dX4_placesNextTo_22 rfl ?_
        refine cj_iload_n C (i := 3) dX4_placesNextTo_23 rfl rfl ?_
        refine ck_ishl C dX4_placesNextTo_24 ?_
        refine cj_ior C dX4_placesNextTo_25 ?_
        refine cj_let h (fun y5 h => ?_)
        refine cj_istore_n C (i := 2) (lv' := [some (.ref (w.2.1 119)), some (.int x1), some (.int y5), some (.int x3)]) dX4_placesNextTo_26 rfl (by decide) rfl rfl ?_
        refine cj_iinc C (v := (x3 + 1)) (lv' := [some (.ref (w.2.1 119)), some (.int x1), some (.int y5), some (.int (x3 + 1))]) dX4_placesNextTo_27 rfl rfl (by decide) rfl rfl ?_
        refine cj_goto C (tgt := 4) dX4_placesNextTo_30 rfl ?_
        exact ih y5 (x3 + 1) S4 h
def fX4_placesNextTo (x1 : Int32) (S : cpS) : Option (Int32 × cpS) :=
    fX4_placesNextTo_4 x1 cpFu (0 : Int32) (0 : Int32) S
set_option maxRecDepth 100000 in
set_option maxHeartbeats 4000000 in
theorem m_X4_placesNextTo (l : Launch) (w : cpW) (A : Nat → Prop) (x1 : Int32) (S : cpS) (r : Int32 × cpS) (h : fX4_placesNextTo x1 S = some r) : cpMi l yX4_placesNextTo cX4_placesNextTo 4 ((some .int)) 1 w A [.ref (w.2.1 119), .int x1] S r := by
  refine cpMi.of (lv := [some (.ref (w.2.1 119)), some (.int x1), none, none]) (by decide) (Nat.le_of_ble_eq_true rfl) rfl (fun p e s m args below meth c C hr => ?_)
  replace C : cpCx p s m args meth c w A cX4_placesNextTo RX4 4 := C
  rw [fX4_placesNextTo] at h
  refine cj_iconst C (v := (0 : Int32)) dX4_placesNextTo_0 rfl ?_
  refine cj_istore_n C (i := 2) (lv' := [some (.ref (w.2.1 119)), some (.int x1), some (.int (0 : Int32)), none]) dX4_placesNextTo_1 rfl (by decide) rfl rfl ?_
  refine cj_iconst C (v := (0 : Int32)) dX4_placesNextTo_2 rfl ?_
  refine cj_istore_n C (i := 3) (lv' := [some (.ref (w.2.1 119)), some (.int x1), some (.int (0 : Int32)), some (.int (0 : Int32))]) dX4_placesNextTo_3 rfl (by decide) rfl rfl ?_
  exact wX4_placesNextTo_4 C hr x1 cpFu (0 : Int32) (0 : Int32) S h
/-! X2_someGoInto -/
def fX2_someGoInto_4 (x1 : Int32) : Nat → Int32 → Int32 → cpS → Option (Int32 × cpS)
  | 0, _, _, _ => none
  | n + 1, x2, x3, S =>
    if (S.1 1 0) ≤ x3 then (
    some (x2, S)) else (
    if cpIn x3 6 then (
    if ((S.1 135 x3.toNatClampNeg) &&& x1) = 0 then (
    fX2_someGoInto_4 x1 n x2 (x3 + 1) S) else (
    cpLt (x2 ||| (cpShl (1 : Int32) x3)) fun y1 =>
    fX2_someGoInto_4 x1 n y1 (x3 + 1) S)) else none)
set_option maxRecDepth 100000 in
set_option maxHeartbeats 4000000 in
theorem wX2_someGoInto_4 (C : cpCx p s m args meth c w A cX2_someGoInto RX2 4) (hr : meth.sig.returnType = (some .int)) {r : Int32 × cpS} (x1 : Int32) : ∀ (n : Nat) (x2 : Int32) (x3 : Int32) (S : cpS), fX2_someGoInto_4 x1 n x2 x3 S = some r → cpJ p l e (cpRm 0) s m args below meth c (MQ below (va_Qi (fun x S' => (x, S') = r) (cpWorld w A) A) args s 0 0 A) w A 4 4 [some (.ref (w.2.1 134)), some (.int x1), some (.int x2), some (.int x3)] [] S := by
  intro n
  induction n with
  | zero => intro x2 x3 S h; rw [fX2_someGoInto_4] at h; cases h
  | succ n ih =>
    intro x2 x3 S h
    rw [fX2_someGoInto_4] at h
    refine cj_iload_n C (i := 3) dX2_someGoInto_4 rfl rfl ?_
    refine cj_aload_n C (i := 0) dX2_someGoInto_5 rfl rfl ?_
    refine cj_getR C (d := 1) o_134 rfl gfX2_38 dX2_someGoInto_6 ?_
    refine cj_getI C (j := 0) o_1 rfl gfX2_39 dX2_someGoInto_9 ?_
    refine cj_icmp_ge C (tgt := 38) dX2_someGoInto_12 rfl h (fun _ h => ?_) (fun _ h => ?_)
    · refine cj_iload_n C (i := 2) dX2_someGoInto_38 rfl rfl ?_
      exact cj_ireturn C hr h dX2_someGoInto_39
    · refine cj_aload_n C (i := 0) dX2_someGoInto_15 rfl rfl ?_
      refine cj_getR C (d := 135) o_134 rfl gfX2_9 dX2_someGoInto_16 ?_
      refine cj_iload_n C (i := 3) dX2_someGoInto_19 rfl rfl ?_
      refine cj_iaload C o_135 h dX2_someGoInto_20 (fun h => ?_)
      refine cj_iload_n C (i := 1) dX2_someGoInto_21 rfl rfl ?_
      refine cj_iand C dX2_someGoInto_22 ?_
      refine cj_if_eq C (tgt := 32) dX2_someGoInto_23 rfl h (fun _ h => ?_) (fun _ h => ?_)
      · refine cj_iinc C (v := (x3 + 1)) (lv' := [some (.ref (w.2.1 134)), some (.int x1), some (.int x2), some (.int (x3 + 1))]) dX2_someGoInto_32 rfl rfl (by decide) rfl rfl ?_
        refine cj_goto C (tgt := 4) dX2_someGoInto_35 rfl ?_
        exact ih x2 (x3 + 1) S h
      · refine cj_iload_n C (i := 2) dX2_someGoInto_26 rfl rfl ?_
        refine cj_iconst C (v := (1 : Int32)) dX2_someGoInto_27 rfl ?_
        refine cj_iload_n C (i := 3) dX2_someGoInto_28 rfl rfl ?_
        refine ck_ishl C dX2_someGoInto_29 ?_
        refine cj_ior C dX2_someGoInto_30 ?_
        refine cj_let h (fun y1 h => ?_)
        refine cj_istore_n C (i := 2) (lv' := [some (.ref (w.2.1 134)), some (.int x1), some (.int y1), some (.int x3)]) dX2_someGoInto_31 rfl (by decide) rfl rfl ?_
        refine cj_iinc C (v := (x3 + 1)) (lv' := [some (.ref (w.2.1 134)), some (.int x1), some (.int y1), some (.int (x3 + 1))]) dX2_someGoInto_32 rfl rfl (by decide) rfl rfl ?_
        refine cj_goto C (tgt := 4) dX2_someGoInto_35 rfl ?_
        exact ih y1 (x3 + 1) S h
def fX2_someGoInto (x1 : Int32) (S : cpS) : Option (Int32 × cpS) :=
    fX2_someGoInto_4 x1 cpFu (0 : Int32) (0 : Int32) S
set_option maxRecDepth 100000 in
set_option maxHeartbeats 4000000 in
theorem m_X2_someGoInto (l : Launch) (w : cpW) (A : Nat → Prop) (x1 : Int32) (S : cpS) (r : Int32 × cpS) (h : fX2_someGoInto x1 S = some r) : cpMi l yX2_someGoInto cX2_someGoInto 4 ((some .int)) 0 w A [.ref (w.2.1 134), .int x1] S r := by
  refine cpMi.of (lv := [some (.ref (w.2.1 134)), some (.int x1), none, none]) (by decide) (Nat.le_of_ble_eq_true rfl) rfl (fun p e s m args below meth c C hr => ?_)
  replace C : cpCx p s m args meth c w A cX2_someGoInto RX2 4 := C
  rw [fX2_someGoInto] at h
  refine cj_iconst C (v := (0 : Int32)) dX2_someGoInto_0 rfl ?_
  refine cj_istore_n C (i := 2) (lv' := [some (.ref (w.2.1 134)), some (.int x1), some (.int (0 : Int32)), none]) dX2_someGoInto_1 rfl (by decide) rfl rfl ?_
  refine cj_iconst C (v := (0 : Int32)) dX2_someGoInto_2 rfl ?_
  refine cj_istore_n C (i := 3) (lv' := [some (.ref (w.2.1 134)), some (.int x1), some (.int (0 : Int32)), some (.int (0 : Int32))]) dX2_someGoInto_3 rfl (by decide) rfl rfl ?_
  exact wX2_someGoInto_4 C hr x1 cpFu (0 : Int32) (0 : Int32) S h
/-! X2_allGoInto -/
def fX2_allGoInto_4 (x1 : Int32) : Nat → Int32 → Int32 → cpS → Option (Int32 × cpS)
  | 0, _, _, _ => none
  | n + 1, x2, x3, S =>
    if (S.1 1 0) ≤ x3 then (
    some (x2, S)) else (
    if cpIn x3 6 then (
    if ((S.1 135 x3.toNatClampNeg) &&& (x1 ^^^ (-1 : Int32))) = 0 then (
    cpLt (x2 ||| (cpShl (1 : Int32) x3)) fun y1 =>
    fX2_allGoInto_4 x1 n y1 (x3 + 1) S) else (
    fX2_allGoInto_4 x1 n x2 (x3 + 1) S)) else none)
set_option maxRecDepth 100000 in
set_option maxHeartbeats 4000000 in
theorem wX2_allGoInto_4 (C : cpCx p s m args meth c w A cX2_allGoInto RX2 4) (hr : meth.sig.returnType = (some .int)) {r : Int32 × cpS} (x1 : Int32) : ∀ (n : Nat) (x2 : Int32) (x3 : Int32) (S : cpS), fX2_allGoInto_4 x1 n x2 x3 S = some r → cpJ p l e (cpRm 0) s m args below meth c (MQ below (va_Qi (fun x S' => (x, S') = r) (cpWorld w A) A) args s 0 0 A) w A 4 4 [some (.ref (w.2.1 134)), some (.int x1), some (.int x2), some (.int x3)] [] S := by
  intro n
  induction n with
  | zero => intro x2 x3 S h; rw [fX2_allGoInto_4] at h; cases h
  | succ n ih =>
    intro x2 x3 S h
    rw [fX2_allGoInto_4] at h
    refine cj_iload_n C (i := 3) dX2_allGoInto_4 rfl rfl ?_
    refine cj_aload_n C (i := 0) dX2_allGoInto_5 rfl rfl ?_
    refine cj_getR C (d := 1) o_134 rfl gfX2_38 dX2_allGoInto_6 ?_
    refine cj_getI C (j := 0) o_1 rfl gfX2_39 dX2_allGoInto_9 ?_
    refine cj_icmp_ge C (tgt := 40) dX2_allGoInto_12 rfl h (fun _ h => ?_) (fun _ h => ?_)
    · refine cj_iload_n C (i := 2) dX2_allGoInto_40 rfl rfl ?_
      exact cj_ireturn C hr h dX2_allGoInto_41
    · refine cj_aload_n C (i := 0) dX2_allGoInto_15 rfl rfl ?_
      refine cj_getR C (d := 135) o_134 rfl gfX2_9 dX2_allGoInto_16 ?_
      refine cj_iload_n C (i := 3) dX2_allGoInto_19 rfl rfl ?_
      refine cj_iaload C o_135 h dX2_allGoInto_20 (fun h => ?_)
      refine cj_iload_n C (i := 1) dX2_allGoInto_21 rfl rfl ?_
      refine cj_iconst C (v := (-1 : Int32)) dX2_allGoInto_22 rfl ?_
      refine cj_ixor C dX2_allGoInto_23 ?_
      refine cj_iand C dX2_allGoInto_24 ?_
      refine cj_if_ne C (tgt := 34) dX2_allGoInto_25 rfl h (fun _ h => ?_) (fun _ h => ?_)
      · refine cj_iload_n C (i := 2) dX2_allGoInto_28 rfl rfl ?_
        refine cj_iconst C (v := (1 : Int32)) dX2_allGoInto_29 rfl ?_
        refine cj_iload_n C (i := 3) dX2_allGoInto_30 rfl rfl ?_
        refine ck_ishl C dX2_allGoInto_31 ?_
        refine cj_ior C dX2_allGoInto_32 ?_
        refine cj_let h (fun y1 h => ?_)
        refine cj_istore_n C (i := 2) (lv' := [some (.ref (w.2.1 134)), some (.int x1), some (.int y1), some (.int x3)]) dX2_allGoInto_33 rfl (by decide) rfl rfl ?_
        refine cj_iinc C (v := (x3 + 1)) (lv' := [some (.ref (w.2.1 134)), some (.int x1), some (.int y1), some (.int (x3 + 1))]) dX2_allGoInto_34 rfl rfl (by decide) rfl rfl ?_
        refine cj_goto C (tgt := 4) dX2_allGoInto_37 rfl ?_
        exact ih y1 (x3 + 1) S h
      · refine cj_iinc C (v := (x3 + 1)) (lv' := [some (.ref (w.2.1 134)), some (.int x1), some (.int x2), some (.int (x3 + 1))]) dX2_allGoInto_34 rfl rfl (by decide) rfl rfl ?_
        refine cj_goto C (tgt := 4) dX2_allGoInto_37 rfl ?_
        exact ih x2 (x3 + 1) S h
def fX2_allGoInto (x1 : Int32) (S : cpS) : Option (Int32 × cpS) :=
    fX2_allGoInto_4 x1 cpFu (0 : Int32) (0 : Int32) S
set_option maxRecDepth 100000 in
set_option maxHeartbeats 4000000 in
theorem m_X2_allGoInto (l : Launch) (w : cpW) (A : Nat → Prop) (x1 : Int32) (S : cpS) (r : Int32 × cpS) (h : fX2_allGoInto x1 S = some r) : cpMi l yX2_allGoInto cX2_allGoInto 4 ((some .int)) 0 w A [.ref (w.2.1 134), .int x1] S r := by
  refine cpMi.of (lv := [some (.ref (w.2.1 134)), some (.int x1), none, none]) (by decide) (Nat.le_of_ble_eq_true rfl) rfl (fun p e s m args below meth c C hr => ?_)
  replace C : cpCx p s m args meth c w A cX2_allGoInto RX2 4 := C
  rw [fX2_allGoInto] at h
  refine cj_iconst C (v := (0 : Int32)) dX2_allGoInto_0 rfl ?_
  refine cj_istore_n C (i := 2) (lv' := [some (.ref (w.2.1 134)), some (.int x1), some (.int (0 : Int32)), none]) dX2_allGoInto_1 rfl (by decide) rfl rfl ?_
  refine cj_iconst C (v := (0 : Int32)) dX2_allGoInto_2 rfl ?_
  refine cj_istore_n C (i := 3) (lv' := [some (.ref (w.2.1 134)), some (.int x1), some (.int (0 : Int32)), some (.int (0 : Int32))]) dX2_allGoInto_3 rfl (by decide) rfl rfl ?_
  exact wX2_allGoInto_4 C hr x1 cpFu (0 : Int32) (0 : Int32) S h
/-! X2_forcedWithin -/
def fX2_forcedWithin_58 (x1 : Int32) (x2 : Int32) : Nat → Int32 → Int32 → cpS → Option (Int32 × cpS)
  | 0, _, _, _ => none
  | n + 1, x3, x4, S =>
    if (12 : Int32) < x4 then (
    some ((-1 : Int32), S)) else (
    cpB (fX2_someGoInto (S.1 134 5) S) fun z1 S2 =>
    cpLt ((cpShl (1 : Int32) x2) ||| z1) fun y3 =>
    cpB (fX11_isIn y3 x1 S2) fun z4 S5 =>
    if z4 = 0 then (
    cpB (fX2_allGoInto x3 S5) fun z6 S7 =>
    cpLt (cpI S7 134 5 ((cpShl (1 : Int32) x2) ||| z6)) fun S8 =>
    fX2_forcedWithin_58 x1 x2 n y3 (x4 + 1) S8) else (
    some (x4, S5)))
set_option maxRecDepth 100000 in
set_option maxHeartbeats 4000000 in
theorem wX2_forcedWithin_58 (C : cpCx p s m args meth c w A cX2_forcedWithin RX2 6) (hr : meth.sig.returnType = (some .int)) {r : Int32 × cpS} (x1 : Int32) (x2 : Int32) : ∀ (n : Nat) (x3 : Int32) (x4 : Int32) (S : cpS), fX2_forcedWithin_58 x1 x2 n x3 x4 S = some r → cpJ p l e (cpRm 2) s m args below meth c (MQ below (va_Qi (fun x S' => (x, S') = r) (cpWorld w A) A) args s 0 0 A) w A 6 58 [some (.ref (w.2.1 134)), some (.int x1), some (.int x2), some (.int x3), some (.int x4), none] [] S := by
  intro n
  induction n with
  | zero => intro x3 x4 S h; rw [fX2_forcedWithin_58] at h; cases h
  | succ n ih =>
    intro x3 x4 S h
    rw [fX2_forcedWithin_58] at h
    refine cj_iload C dX2_forcedWithin_58 rfl ?_
    refine cj_bipush C (v := (12 : Int32)) dX2_forcedWithin_60 rfl ?_
    refine cj_icmp_gt C (tgt := 113) dX2_forcedWithin_62 rfl h (fun _ h => ?_) (fun _ h => ?_)
    · refine cj_iconst C (v := (-1 : Int32)) dX2_forcedWithin_113 rfl ?_
      exact cj_ireturn C hr h dX2_forcedWithin_114
    · refine cj_iconst C (v := (1 : Int32)) dX2_forcedWithin_65 rfl ?_
      refine cj_iload_n C (i := 2) dX2_forcedWithin_66 rfl rfl ?_
      refine ck_ishl C dX2_forcedWithin_67 ?_
      refine cj_aload_n C (i := 0) dX2_forcedWithin_68 rfl rfl ?_
      refine cj_aload_n C (i := 0) dX2_forcedWithin_69 rfl rfl ?_
      refine cj_getI C (j := 5) o_134 rfl gfX2_49 dX2_forcedWithin_70 ?_
      refine cj_callVi C (As := [.int (S.1 134 5)]) (rest := [.int (cpShl (1 : Int32) x2)]) qX2_someGoInto mw_70_23 o_134 rfl rfl rfl (Nat.le_of_ble_eq_true rfl) (by decide) dX2_forcedWithin_73 h (fun _ _ hf => m_X2_someGoInto l w A (S.1 134 5) S _ hf) (fun z1 S2 h => ?_)
      refine cj_ior C dX2_forcedWithin_76 ?_
      refine cj_let h (fun y3 h => ?_)
      refine cj_istore C (lv' := [some (.ref (w.2.1 134)), some (.int x1), some (.int x2), some (.int x3), some (.int x4), some (.int y3)]) dX2_forcedWithin_77 (by decide) rfl rfl ?_
      refine cj_iload C dX2_forcedWithin_79 rfl ?_
      refine cj_iload_n C (i := 1) dX2_forcedWithin_81 rfl rfl ?_
      refine cj_callNi C (As := [.int y3, .int x1]) (rest := []) qX11_isIn (List.mem_of_getElem? (i := 5) rfl) rfl rfl (Nat.le_of_ble_eq_true rfl) (by decide) dX2_forcedWithin_82 h (fun _ _ hf => m_X11_isIn l w A y3 x1 S2 _ hf) (fun z4 S5 h => ?_)
      refine cj_if_eq C (tgt := 91) dX2_forcedWithin_85 rfl h (fun _ h => ?_) (fun _ h => ?_)
      · refine cj_aload_n C (i := 0) dX2_forcedWithin_91 rfl rfl ?_
        refine cj_iconst C (v := (1 : Int32)) dX2_forcedWithin_92 rfl ?_
        refine cj_iload_n C (i := 2) dX2_forcedWithin_93 rfl rfl ?_
        refine ck_ishl C dX2_forcedWithin_94 ?_
        refine cj_aload_n C (i := 0) dX2_forcedWithin_95 rfl rfl ?_
        refine cj_iload_n C (i := 3) dX2_forcedWithin_96 rfl rfl ?_
        refine cj_callVi C (As := [.int x3]) (rest := [.int (cpShl (1 : Int32) x2), .ref (w.2.1 134)]) qX2_allGoInto mw_71_3 o_134 rfl rfl rfl (Nat.le_of_ble_eq_true rfl) (by decide) dX2_forcedWithin_97 h (fun _ _ hf => m_X2_allGoInto l w A x3 S5 _ hf) (fun z6 S7 h => ?_)
        refine cj_ior C dX2_forcedWithin_100 ?_
        refine cj_put C (j := 5) o_134 rfl pfX2_49 rfl rfl dX2_forcedWithin_101 ?_
        refine cj_lets h (fun S8 h => ?_)
        refine cj_iload C dX2_forcedWithin_104 rfl ?_
        refine cj_istore_n C (i := 3) (lv' := [some (.ref (w.2.1 134)), some (.int x1), some (.int x2), some (.int y3), some (.int x4), some (.int y3)]) dX2_forcedWithin_106 rfl (by decide) rfl rfl ?_
        refine cj_iinc C (v := (x4 + 1)) (lv' := [some (.ref (w.2.1 134)), some (.int x1), some (.int x2), some (.int y3), some (.int (x4 + 1)), some (.int y3)]) dX2_forcedWithin_107 rfl rfl (by decide) rfl rfl ?_
        refine cj_goto C (tgt := 58) dX2_forcedWithin_110 rfl ?_
        refine cj_weak C (lv' := [some (.ref (w.2.1 134)), some (.int x1), some (.int x2), some (.int y3), some (.int (x4 + 1)), none]) (cpSub_s (cpSub_s (cpSub_s (cpSub_s (cpSub_s (cpSub_n cpSub_nil)))))) ?_
        exact ih y3 (x4 + 1) S8 h
      · refine cj_iload C dX2_forcedWithin_88 rfl ?_
        exact cj_ireturn C hr h dX2_forcedWithin_90
def fX2_forcedWithin_2 (x1 : Int32) (x2 : Int32) : Nat → Int32 → cpS → Option (Int32 × cpS)
  | 0, _, _ => none
  | n + 1, x3, S =>
    if (S.1 1 0) ≤ x3 then (
    cpLt (cpShl (1 : Int32) x2) fun y1 =>
    cpLt (cpI S 134 5 (cpShl (1 : Int32) x2)) fun S2 =>
    if x1 = x2 then (
    some ((0 : Int32), S2)) else (
    fX2_forcedWithin_58 x1 x2 cpFu y1 (1 : Int32) S2)) else (
    cpB (fX4_placesNextTo x3 S) fun z3 S4 =>
    if cpIn x3 6 then (
    cpLt (cpI S4 135 x3.toNatClampNeg (z3 ||| (cpShl (1 : Int32) x3))) fun S5 =>
    fX2_forcedWithin_2 x1 x2 n (x3 + 1) S5) else none)
set_option maxRecDepth 100000 in
set_option maxHeartbeats 4000000 in
theorem wX2_forcedWithin_2 (C : cpCx p s m args meth c w A cX2_forcedWithin RX2 6) (hr : meth.sig.returnType = (some .int)) {r : Int32 × cpS} (x1 : Int32) (x2 : Int32) : ∀ (n : Nat) (x3 : Int32) (S : cpS), fX2_forcedWithin_2 x1 x2 n x3 S = some r → cpJ p l e (cpRm 2) s m args below meth c (MQ below (va_Qi (fun x S' => (x, S') = r) (cpWorld w A) A) args s 0 0 A) w A 6 2 [some (.ref (w.2.1 134)), some (.int x1), some (.int x2), some (.int x3), none, none] [] S := by
  intro n
  induction n with
  | zero => intro x3 S h; rw [fX2_forcedWithin_2] at h; cases h
  | succ n ih =>
    intro x3 S h
    rw [fX2_forcedWithin_2] at h
    refine cj_iload_n C (i := 3) dX2_forcedWithin_2 rfl rfl ?_
    refine cj_aload_n C (i := 0) dX2_forcedWithin_3 rfl rfl ?_
    refine cj_getR C (d := 1) o_134 rfl gfX2_38 dX2_forcedWithin_4 ?_
    refine cj_getI C (j := 0) o_1 rfl gfX2_39 dX2_forcedWithin_7 ?_
    refine cj_icmp_ge C (tgt := 37) dX2_forcedWithin_10 rfl h (fun _ h => ?_) (fun _ h => ?_)
    · refine cj_iconst C (v := (1 : Int32)) dX2_forcedWithin_37 rfl ?_
      refine cj_iload_n C (i := 2) dX2_forcedWithin_38 rfl rfl ?_
      refine ck_ishl C dX2_forcedWithin_39 ?_
      refine cj_let h (fun y1 h => ?_)
      refine cj_istore_n C (i := 3) (lv' := [some (.ref (w.2.1 134)), some (.int x1), some (.int x2), some (.int y1), none, none]) dX2_forcedWithin_40 rfl (by decide) rfl rfl ?_
      refine cj_aload_n C (i := 0) dX2_forcedWithin_41 rfl rfl ?_
      refine cj_iconst C (v := (1 : Int32)) dX2_forcedWithin_42 rfl ?_
      refine cj_iload_n C (i := 2) dX2_forcedWithin_43 rfl rfl ?_
      refine ck_ishl C dX2_forcedWithin_44 ?_
      refine cj_put C (j := 5) o_134 rfl pfX2_49 rfl rfl dX2_forcedWithin_45 ?_
      refine cj_lets h (fun S2 h => ?_)
      refine cj_iload_n C (i := 1) dX2_forcedWithin_48 rfl rfl ?_
      refine cj_iload_n C (i := 2) dX2_forcedWithin_49 rfl rfl ?_
      refine cj_icmp_ne C (tgt := 55) dX2_forcedWithin_50 rfl h (fun _ h => ?_) (fun _ h => ?_)
      · refine cj_iconst C (v := (0 : Int32)) dX2_forcedWithin_53 rfl ?_
        exact cj_ireturn C hr h dX2_forcedWithin_54
      · refine cj_iconst C (v := (1 : Int32)) dX2_forcedWithin_55 rfl ?_
        refine cj_istore C (lv' := [some (.ref (w.2.1 134)), some (.int x1), some (.int x2), some (.int y1), some (.int (1 : Int32)), none]) dX2_forcedWithin_56 (by decide) rfl rfl ?_
        exact wX2_forcedWithin_58 C hr x1 x2 cpFu y1 (1 : Int32) S2 h
    · refine cj_aload_n C (i := 0) dX2_forcedWithin_13 rfl rfl ?_
      refine cj_getR C (d := 135) o_134 rfl gfX2_9 dX2_forcedWithin_14 ?_
      refine cj_iload_n C (i := 3) dX2_forcedWithin_17 rfl rfl ?_
      refine cj_aload_n C (i := 0) dX2_forcedWithin_18 rfl rfl ?_
      refine cj_getR C (d := 119) o_134 rfl gfX2_22 dX2_forcedWithin_19 ?_
      refine cj_iload_n C (i := 3) dX2_forcedWithin_22 rfl rfl ?_
      refine cj_callVi C (As := [.int x3]) (rest := [.int x3, .ref (w.2.1 135)]) qX4_placesNextTo mw_70_22 o_119 rfl rfl rfl (Nat.le_of_ble_eq_true rfl) (by decide) dX2_forcedWithin_23 h (fun _ _ hf => m_X4_placesNextTo l w A x3 S _ hf) (fun z3 S4 h => ?_)
      refine cj_iconst C (v := (1 : Int32)) dX2_forcedWithin_26 rfl ?_
      refine cj_iload_n C (i := 3) dX2_forcedWithin_27 rfl rfl ?_
      refine ck_ishl C dX2_forcedWithin_28 ?_
      refine cj_ior C dX2_forcedWithin_29 ?_
      refine cj_iastore C o_135 h dX2_forcedWithin_30 (fun h => ?_)
      refine cj_lets h (fun S5 h => ?_)
      refine cj_iinc C (v := (x3 + 1)) (lv' := [some (.ref (w.2.1 134)), some (.int x1), some (.int x2), some (.int (x3 + 1)), none, none]) dX2_forcedWithin_31 rfl rfl (by decide) rfl rfl ?_
      refine cj_goto C (tgt := 2) dX2_forcedWithin_34 rfl ?_
      exact ih (x3 + 1) S5 h
def fX2_forcedWithin (x1 : Int32) (x2 : Int32) (S : cpS) : Option (Int32 × cpS) :=
    fX2_forcedWithin_2 x1 x2 cpFu (0 : Int32) S
set_option maxRecDepth 100000 in
set_option maxHeartbeats 4000000 in
theorem m_X2_forcedWithin (l : Launch) (w : cpW) (A : Nat → Prop) (x1 : Int32) (x2 : Int32) (S : cpS) (r : Int32 × cpS) (h : fX2_forcedWithin x1 x2 S = some r) : cpMi l yX2_forcedWithin cX2_forcedWithin 6 ((some .int)) 2 w A [.ref (w.2.1 134), .int x1, .int x2] S r := by
  refine cpMi.of (lv := [some (.ref (w.2.1 134)), some (.int x1), some (.int x2), none, none, none]) (by decide) (Nat.le_of_ble_eq_true rfl) rfl (fun p e s m args below meth c C hr => ?_)
  replace C : cpCx p s m args meth c w A cX2_forcedWithin RX2 6 := C
  rw [fX2_forcedWithin] at h
  refine cj_iconst C (v := (0 : Int32)) dX2_forcedWithin_0 rfl ?_
  refine cj_istore_n C (i := 3) (lv' := [some (.ref (w.2.1 134)), some (.int x1), some (.int x2), some (.int (0 : Int32)), none, none]) dX2_forcedWithin_1 rfl (by decide) rfl rfl ?_
  exact wX2_forcedWithin_2 C hr x1 x2 cpFu (0 : Int32) S h
/-! X2_bestPlace -/
def fX2_bestPlace_14 (x1 : Int32) (x2 : Int32) : Nat → Int32 → cpS → Option (Int32 × cpS)
  | 0, _, _ => none
  | n + 1, x3, S =>
    if (S.1 1 0) ≤ x3 then (
    cpB (fX11_isIn x2 x1 S) fun z1 S2 =>
    if z1 = 0 then (
    some ((-1 : Int32), S2)) else (
    some (x1, S2))) else (
    if x3 = x1 then (
    fX2_bestPlace_14 x1 x2 n (x3 + 1) S) else (
    cpB (fX11_isIn x2 x3 S) fun z3 S4 =>
    if z3 = 0 then (
    fX2_bestPlace_14 x1 x2 n (x3 + 1) S4) else (
    some (x3, S4))))
set_option maxRecDepth 100000 in
set_option maxHeartbeats 4000000 in
theorem wX2_bestPlace_14 (C : cpCx p s m args meth c w A cX2_bestPlace RX2 4) (hr : meth.sig.returnType = (some .int)) {r : Int32 × cpS} (x1 : Int32) (x2 : Int32) : ∀ (n : Nat) (x3 : Int32) (S : cpS), fX2_bestPlace_14 x1 x2 n x3 S = some r → cpJ p l e (cpRm 1) s m args below meth c (MQ below (va_Qi (fun x S' => (x, S') = r) (cpWorld w A) A) args s 0 0 A) w A 4 14 [some (.ref (w.2.1 134)), some (.int x1), some (.int x2), some (.int x3)] [] S := by
  intro n
  induction n with
  | zero => intro x3 S h; rw [fX2_bestPlace_14] at h; cases h
  | succ n ih =>
    intro x3 S h
    rw [fX2_bestPlace_14] at h
    refine cj_iload_n C (i := 3) dX2_bestPlace_14 rfl rfl ?_
    refine cj_aload_n C (i := 0) dX2_bestPlace_15 rfl rfl ?_
    refine cj_getR C (d := 1) o_134 rfl gfX2_38 dX2_bestPlace_16 ?_
    refine cj_getI C (j := 0) o_1 rfl gfX2_39 dX2_bestPlace_19 ?_
    refine cj_icmp_ge C (tgt := 46) dX2_bestPlace_22 rfl h (fun _ h => ?_) (fun _ h => ?_)
    · refine cj_iload_n C (i := 2) dX2_bestPlace_46 rfl rfl ?_
      refine cj_iload_n C (i := 1) dX2_bestPlace_47 rfl rfl ?_
      refine cj_callNi C (As := [.int x2, .int x1]) (rest := []) qX11_isIn (List.mem_of_getElem? (i := 5) rfl) rfl rfl (Nat.le_of_ble_eq_true rfl) (by decide) dX2_bestPlace_48 h (fun _ _ hf => m_X11_isIn l w A x2 x1 S _ hf) (fun z1 S2 h => ?_)
      refine cj_if_eq C (tgt := 58) dX2_bestPlace_51 rfl h (fun _ h => ?_) (fun _ h => ?_)
      · refine cj_iconst C (v := (-1 : Int32)) dX2_bestPlace_58 rfl ?_
        exact cj_ireturn C hr h dX2_bestPlace_59
      · refine cj_iload_n C (i := 1) dX2_bestPlace_54 rfl rfl ?_
        refine cj_goto C (tgt := 59) dX2_bestPlace_55 rfl ?_
        exact cj_ireturn C hr h dX2_bestPlace_59
    · refine cj_iload_n C (i := 3) dX2_bestPlace_25 rfl rfl ?_
      refine cj_iload_n C (i := 1) dX2_bestPlace_26 rfl rfl ?_
      refine cj_icmp_eq C (tgt := 40) dX2_bestPlace_27 rfl h (fun _ h => ?_) (fun _ h => ?_)
      · refine cj_iinc C (v := (x3 + 1)) (lv' := [some (.ref (w.2.1 134)), some (.int x1), some (.int x2), some (.int (x3 + 1))]) dX2_bestPlace_40 rfl rfl (by decide) rfl rfl ?_
        refine cj_goto C (tgt := 14) dX2_bestPlace_43 rfl ?_
        exact ih (x3 + 1) S h
      · refine cj_iload_n C (i := 2) dX2_bestPlace_30 rfl rfl ?_
        refine cj_iload_n C (i := 3) dX2_bestPlace_31 rfl rfl ?_
        refine cj_callNi C (As := [.int x2, .int x3]) (rest := []) qX11_isIn (List.mem_of_getElem? (i := 5) rfl) rfl rfl (Nat.le_of_ble_eq_true rfl) (by decide) dX2_bestPlace_32 h (fun _ _ hf => m_X11_isIn l w A x2 x3 S _ hf) (fun z3 S4 h => ?_)
        refine cj_if_eq C (tgt := 40) dX2_bestPlace_35 rfl h (fun _ h => ?_) (fun _ h => ?_)
        · refine cj_iinc C (v := (x3 + 1)) (lv' := [some (.ref (w.2.1 134)), some (.int x1), some (.int x2), some (.int (x3 + 1))]) dX2_bestPlace_40 rfl rfl (by decide) rfl rfl ?_
          refine cj_goto C (tgt := 14) dX2_bestPlace_43 rfl ?_
          exact ih (x3 + 1) S4 h
        · refine cj_iload_n C (i := 3) dX2_bestPlace_38 rfl rfl ?_
          exact cj_ireturn C hr h dX2_bestPlace_39
def fX2_bestPlace (x1 : Int32) (S : cpS) : Option (Int32 × cpS) :=
    if cpIn x1 6 then (
    cpLt ((S.1 135 x1.toNatClampNeg) &&& (S.1 134 5)) fun y1 =>
    fX2_bestPlace_14 x1 y1 cpFu (0 : Int32) S) else none
set_option maxRecDepth 100000 in
set_option maxHeartbeats 4000000 in
theorem m_X2_bestPlace (l : Launch) (w : cpW) (A : Nat → Prop) (x1 : Int32) (S : cpS) (r : Int32 × cpS) (h : fX2_bestPlace x1 S = some r) : cpMi l yX2_bestPlace cX2_bestPlace 4 ((some .int)) 1 w A [.ref (w.2.1 134), .int x1] S r := by
  refine cpMi.of (lv := [some (.ref (w.2.1 134)), some (.int x1), none, none]) (by decide) (Nat.le_of_ble_eq_true rfl) rfl (fun p e s m args below meth c C hr => ?_)
  replace C : cpCx p s m args meth c w A cX2_bestPlace RX2 4 := C
  rw [fX2_bestPlace] at h
  refine cj_aload_n C (i := 0) dX2_bestPlace_0 rfl rfl ?_
  refine cj_getR C (d := 135) o_134 rfl gfX2_9 dX2_bestPlace_1 ?_
  refine cj_iload_n C (i := 1) dX2_bestPlace_4 rfl rfl ?_
  refine cj_iaload C o_135 h dX2_bestPlace_5 (fun h => ?_)
  refine cj_aload_n C (i := 0) dX2_bestPlace_6 rfl rfl ?_
  refine cj_getI C (j := 5) o_134 rfl gfX2_49 dX2_bestPlace_7 ?_
  refine cj_iand C dX2_bestPlace_10 ?_
  refine cj_let h (fun y1 h => ?_)
  refine cj_istore_n C (i := 2) (lv' := [some (.ref (w.2.1 134)), some (.int x1), some (.int y1), none]) dX2_bestPlace_11 rfl (by decide) rfl rfl ?_
  refine cj_iconst C (v := (0 : Int32)) dX2_bestPlace_12 rfl ?_
  refine cj_istore_n C (i := 3) (lv' := [some (.ref (w.2.1 134)), some (.int x1), some (.int y1), some (.int (0 : Int32))]) dX2_bestPlace_13 rfl (by decide) rfl rfl ?_
  exact wX2_bestPlace_14 C hr x1 y1 cpFu (0 : Int32) S h
/-! X2_learnOpenRoads -/
def fX2_learnOpenRoads_2 (x1 : Int32) : Nat → Int32 → cpS → Option (Unit × cpS)
  | 0, _, _ => none
  | n + 1, x2, S =>
    if (S.1 1 3) ≤ x2 then (
    some ((), S)) else (
    if cpIn x2 9 then (
    cpB (fX0_someMayOn x1 (S.1 2 x2.toNatClampNeg) x2 S) fun z1 S2 =>
    if cpIn ((2 : Int32) * x2) 18 then (
    cpLt (cpI S2 137 ((2 : Int32) * x2).toNatClampNeg (vp_nar .boolean z1)) fun S3 =>
    if cpIn x2 9 then (
    cpB (fX0_someMayOn x1 (S3.1 3 x2.toNatClampNeg) x2 S3) fun z4 S5 =>
    if cpIn (((2 : Int32) * x2) + (1 : Int32)) 18 then (
    cpLt (cpI S5 137 (((2 : Int32) * x2) + (1 : Int32)).toNatClampNeg (vp_nar .boolean z4)) fun S6 =>
    fX2_learnOpenRoads_2 x1 n (x2 + 1) S6) else none) else none) else none) else none)
set_option maxRecDepth 100000 in
set_option maxHeartbeats 4000000 in
theorem wX2_learnOpenRoads_2 (C : cpCx p s m args meth c w A cX2_learnOpenRoads RX2 3) (hr : meth.sig.returnType = none) {r : Unit × cpS} (x1 : Int32) : ∀ (n : Nat) (x2 : Int32) (S : cpS), fX2_learnOpenRoads_2 x1 n x2 S = some r → cpJ p l e (cpRm 3) s m args below meth c (MQ below (va_Qv (fun S' => ((), S') = r) (cpWorld w A) A) args s 0 0 A) w A 3 2 [some (.ref (w.2.1 134)), some (.int x1), some (.int x2)] [] S := by
  intro n
  induction n with
  | zero => intro x2 S h; rw [fX2_learnOpenRoads_2] at h; cases h
  | succ n ih =>
    intro x2 S h
    rw [fX2_learnOpenRoads_2] at h
    refine cj_iload_n C (i := 2) dX2_learnOpenRoads_2 rfl rfl ?_
    refine cj_aload_n C (i := 0) dX2_learnOpenRoads_3 rfl rfl ?_
    refine cj_getR C (d := 1) o_134 rfl gfX2_38 dX2_learnOpenRoads_4 ?_
    refine cj_getI C (j := 3) o_1 rfl gfX2_73 dX2_learnOpenRoads_7 ?_
    refine cj_icmp_ge C (tgt := 79) dX2_learnOpenRoads_10 rfl h (fun _ h => ?_) (fun _ h => ?_)
    · exact cj_vreturn C hr h dX2_learnOpenRoads_79
    · refine cj_aload_n C (i := 0) dX2_learnOpenRoads_13 rfl rfl ?_
      refine cj_getR C (d := 137) o_134 rfl gfX2_18 dX2_learnOpenRoads_14 ?_
      refine cj_iconst C (v := (2 : Int32)) dX2_learnOpenRoads_17 rfl ?_
      refine cj_iload_n C (i := 2) dX2_learnOpenRoads_18 rfl rfl ?_
      refine cj_imul C dX2_learnOpenRoads_19 ?_
      refine cj_aload_n C (i := 0) dX2_learnOpenRoads_20 rfl rfl ?_
      refine cj_getR C (d := 119) o_134 rfl gfX2_22 dX2_learnOpenRoads_21 ?_
      refine cj_getR C (d := 117) o_119 rfl gfX2_26 dX2_learnOpenRoads_24 ?_
      refine cj_iload_n C (i := 1) dX2_learnOpenRoads_27 rfl rfl ?_
      refine cj_aload_n C (i := 0) dX2_learnOpenRoads_28 rfl rfl ?_
      refine cj_getR C (d := 1) o_134 rfl gfX2_38 dX2_learnOpenRoads_29 ?_
      refine cj_getR C (d := 2) o_1 rfl gfX2_76 dX2_learnOpenRoads_32 ?_
      refine cj_iload_n C (i := 2) dX2_learnOpenRoads_35 rfl rfl ?_
      refine cj_iaload C o_2 h dX2_learnOpenRoads_36 (fun h => ?_)
      refine cj_iload_n C (i := 2) dX2_learnOpenRoads_37 rfl rfl ?_
      refine cj_callVi C (As := [.int x1, .int (S.1 2 x2.toNatClampNeg), .int x2]) (rest := [.int ((2 : Int32) * x2), .ref (w.2.1 137)]) qX0_someMayOn mw_73_4 o_117 rfl rfl rfl (Nat.le_of_ble_eq_true rfl) (by decide) dX2_learnOpenRoads_38 h (fun _ _ hf => m_X0_someMayOn l w A x1 (S.1 2 x2.toNatClampNeg) x2 S _ hf) (fun z1 S2 h => ?_)
      refine cj_bastore C o_137 h dX2_learnOpenRoads_41 (fun h => ?_)
      refine cj_lets h (fun S3 h => ?_)
      refine cj_aload_n C (i := 0) dX2_learnOpenRoads_42 rfl rfl ?_
      refine cj_getR C (d := 137) o_134 rfl gfX2_18 dX2_learnOpenRoads_43 ?_
      refine cj_iconst C (v := (2 : Int32)) dX2_learnOpenRoads_46 rfl ?_
      refine cj_iload_n C (i := 2) dX2_learnOpenRoads_47 rfl rfl ?_
      refine cj_imul C dX2_learnOpenRoads_48 ?_
      refine cj_iconst C (v := (1 : Int32)) dX2_learnOpenRoads_49 rfl ?_
      refine cj_iadd C dX2_learnOpenRoads_50 ?_
      refine cj_aload_n C (i := 0) dX2_learnOpenRoads_51 rfl rfl ?_
      refine cj_getR C (d := 119) o_134 rfl gfX2_22 dX2_learnOpenRoads_52 ?_
      refine cj_getR C (d := 117) o_119 rfl gfX2_26 dX2_learnOpenRoads_55 ?_
      refine cj_iload_n C (i := 1) dX2_learnOpenRoads_58 rfl rfl ?_
      refine cj_aload_n C (i := 0) dX2_learnOpenRoads_59 rfl rfl ?_
      refine cj_getR C (d := 1) o_134 rfl gfX2_38 dX2_learnOpenRoads_60 ?_
      refine cj_getR C (d := 3) o_1 rfl gfX2_79 dX2_learnOpenRoads_63 ?_
      refine cj_iload_n C (i := 2) dX2_learnOpenRoads_66 rfl rfl ?_
      refine cj_iaload C o_3 h dX2_learnOpenRoads_67 (fun h => ?_)
      refine cj_iload_n C (i := 2) dX2_learnOpenRoads_68 rfl rfl ?_
      refine cj_callVi C (As := [.int x1, .int (S3.1 3 x2.toNatClampNeg), .int x2]) (rest := [.int (((2 : Int32) * x2) + (1 : Int32)), .ref (w.2.1 137)]) qX0_someMayOn mw_73_4 o_117 rfl rfl rfl (Nat.le_of_ble_eq_true rfl) (by decide) dX2_learnOpenRoads_69 h (fun _ _ hf => m_X0_someMayOn l w A x1 (S3.1 3 x2.toNatClampNeg) x2 S3 _ hf) (fun z4 S5 h => ?_)
      refine cj_bastore C o_137 h dX2_learnOpenRoads_72 (fun h => ?_)
      refine cj_lets h (fun S6 h => ?_)
      refine cj_iinc C (v := (x2 + 1)) (lv' := [some (.ref (w.2.1 134)), some (.int x1), some (.int (x2 + 1))]) dX2_learnOpenRoads_73 rfl rfl (by decide) rfl rfl ?_
      refine cj_goto C (tgt := 2) dX2_learnOpenRoads_76 rfl ?_
      exact ih (x2 + 1) S6 h
def fX2_learnOpenRoads (x1 : Int32) (S : cpS) : Option (Unit × cpS) :=
    fX2_learnOpenRoads_2 x1 cpFu (0 : Int32) S
set_option maxRecDepth 100000 in
set_option maxHeartbeats 4000000 in
theorem m_X2_learnOpenRoads (l : Launch) (w : cpW) (A : Nat → Prop) (x1 : Int32) (S : cpS) (r : Unit × cpS) (h : fX2_learnOpenRoads x1 S = some r) : cpMv l yX2_learnOpenRoads cX2_learnOpenRoads 3 (none) 3 w A [.ref (w.2.1 134), .int x1] S r := by
  refine cpMv.of (lv := [some (.ref (w.2.1 134)), some (.int x1), none]) (by decide) (Nat.le_of_ble_eq_true rfl) rfl (fun p e s m args below meth c C hr => ?_)
  replace C : cpCx p s m args meth c w A cX2_learnOpenRoads RX2 3 := C
  rw [fX2_learnOpenRoads] at h
  refine cj_iconst C (v := (0 : Int32)) dX2_learnOpenRoads_0 rfl ?_
  refine cj_istore_n C (i := 2) (lv' := [some (.ref (w.2.1 134)), some (.int x1), some (.int (0 : Int32))]) dX2_learnOpenRoads_1 rfl (by decide) rfl rfl ?_
  exact wX2_learnOpenRoads_2 C hr x1 cpFu (0 : Int32) S h
/-! X2_goOn -/
def fX2_goOn (x1 : Int32) (x2 : Int32) (x3 : Int32) (x4 : Int32) (S : cpS) : Option (Unit × cpS) :=
    if cpIn (((x1 - (1 : Int32)) * (6 : Int32)) + x2) 36 then (
    cpLt (((S.1 136 (((x1 - (1 : Int32)) * (6 : Int32)) + x2).toNatClampNeg) / (10 : Int32)) * ((10 : Int32) - x4)) fun y1 =>
    cpLt ((x1 * (6 : Int32)) + x3) fun y2 =>
    if cpIn y2 36 then (
    if cpIn y2 36 then (
    cpLt (cpI S 136 y2.toNatClampNeg (cpMax (S.1 136 y2.toNatClampNeg) y1)) fun S3 =>
    some ((), S3)) else none) else none) else none
set_option maxRecDepth 100000 in
set_option maxHeartbeats 4000000 in
theorem m_X2_goOn (l : Launch) (w : cpW) (A : Nat → Prop) (x1 : Int32) (x2 : Int32) (x3 : Int32) (x4 : Int32) (S : cpS) (r : Unit × cpS) (h : fX2_goOn x1 x2 x3 x4 S = some r) : cpMv l yX2_goOn cX2_goOn 7 (none) 1 w A [.ref (w.2.1 134), .int x1, .int x2, .int x3, .int x4] S r := by
  refine cpMv.of (lv := [some (.ref (w.2.1 134)), some (.int x1), some (.int x2), some (.int x3), some (.int x4), none, none]) (by decide) (Nat.le_of_ble_eq_true rfl) rfl (fun p e s m args below meth c C hr => ?_)
  replace C : cpCx p s m args meth c w A cX2_goOn RX2 7 := C
  rw [fX2_goOn] at h
  refine cj_aload_n C (i := 0) dX2_goOn_0 rfl rfl ?_
  refine cj_getR C (d := 136) o_134 rfl gfX2_15 dX2_goOn_1 ?_
  refine cj_iload_n C (i := 1) dX2_goOn_4 rfl rfl ?_
  refine cj_iconst C (v := (1 : Int32)) dX2_goOn_5 rfl ?_
  refine cj_isub C dX2_goOn_6 ?_
  refine cj_bipush C (v := (6 : Int32)) dX2_goOn_7 rfl ?_
  refine cj_imul C dX2_goOn_9 ?_
  refine cj_iload_n C (i := 2) dX2_goOn_10 rfl rfl ?_
  refine cj_iadd C dX2_goOn_11 ?_
  refine cj_iaload C o_136 h dX2_goOn_12 (fun h => ?_)
  refine cj_bipush C (v := (10 : Int32)) dX2_goOn_13 rfl ?_
  refine cj_idiv C dX2_goOn_15 (by decide) ?_
  refine cj_bipush C (v := (10 : Int32)) dX2_goOn_16 rfl ?_
  refine cj_iload C dX2_goOn_18 rfl ?_
  refine cj_isub C dX2_goOn_20 ?_
  refine cj_imul C dX2_goOn_21 ?_
  refine cj_let h (fun y1 h => ?_)
  refine cj_istore C (lv' := [some (.ref (w.2.1 134)), some (.int x1), some (.int x2), some (.int x3), some (.int x4), some (.int y1), none]) dX2_goOn_22 (by decide) rfl rfl ?_
  refine cj_iload_n C (i := 1) dX2_goOn_24 rfl rfl ?_
  refine cj_bipush C (v := (6 : Int32)) dX2_goOn_25 rfl ?_
  refine cj_imul C dX2_goOn_27 ?_
  refine cj_iload_n C (i := 3) dX2_goOn_28 rfl rfl ?_
  refine cj_iadd C dX2_goOn_29 ?_
  refine cj_let h (fun y2 h => ?_)
  refine cj_istore C (lv' := [some (.ref (w.2.1 134)), some (.int x1), some (.int x2), some (.int x3), some (.int x4), some (.int y1), some (.int y2)]) dX2_goOn_30 (by decide) rfl rfl ?_
  refine cj_aload_n C (i := 0) dX2_goOn_32 rfl rfl ?_
  refine cj_getR C (d := 136) o_134 rfl gfX2_15 dX2_goOn_33 ?_
  refine cj_iload C dX2_goOn_36 rfl ?_
  refine cj_aload_n C (i := 0) dX2_goOn_38 rfl rfl ?_
  refine cj_getR C (d := 136) o_134 rfl gfX2_15 dX2_goOn_39 ?_
  refine cj_iload C dX2_goOn_42 rfl ?_
  refine cj_iaload C o_136 h dX2_goOn_44 (fun h => ?_)
  refine cj_iload C dX2_goOn_45 rfl ?_
  refine ck_mmax C mw_73_13 mw_12_13 mw_12_14 mw_12_15 (by decide) (Nat.le_of_ble_eq_true rfl) dX2_goOn_47 ?_
  refine cj_iastore C o_136 h dX2_goOn_50 (fun h => ?_)
  refine cj_lets h (fun S3 h => ?_)
  exact cj_vreturn C hr h dX2_goOn_51
/-! X2_learnChances -/
def fX2_learnChances_90 (x3 : Int32) (x4 : Int32) (k23 : Int32 → cpS → Option (Unit × cpS)) (k31 : Int32 → cpS → Option (Unit × cpS)) (S : cpS) : Option (Unit × cpS) :=
    if cpIn (((2 : Int32) * x4) + (1 : Int32)) 18 then (
    if (S.1 137 (((2 : Int32) * x4) + (1 : Int32)).toNatClampNeg) = 0 then (
    k31 (x4 + 1) S) else (
    if cpIn x4 9 then (
    if cpIn x4 9 then (
    if cpIn x4 9 then (
    cpB (fX2_goOn x3 (S.1 3 x4.toNatClampNeg) (S.1 2 x4.toNatClampNeg) (S.1 4 x4.toNatClampNeg) S) fun _ S2 =>
    k31 (x4 + 1) S2) else none) else none) else none)) else none
set_option maxRecDepth 100000 in
set_option maxHeartbeats 4000000 in
theorem wX2_learnChances_90 (C : cpCx p s m args meth c w A cX2_learnChances RX2 5) (hr : meth.sig.returnType = none) {r : Unit × cpS} (x3 : Int32) (x4 : Int32) {k23 : Int32 → cpS → Option (Unit × cpS)} (hk23 : ∀ (x3 : Int32) (S : cpS), k23 x3 S = some r → cpJ p l e (cpRm 4) s m args below meth c (MQ below (va_Qv (fun S' => ((), S') = r) (cpWorld w A) A) args s 0 0 A) w A 5 23 [some (.ref (w.2.1 134)), none, none, some (.int x3), none] [] S) {k31 : Int32 → cpS → Option (Unit × cpS)} (hk31 : ∀ (x4 : Int32) (S : cpS), k31 x4 S = some r → cpJ p l e (cpRm 4) s m args below meth c (MQ below (va_Qv (fun S' => ((), S') = r) (cpWorld w A) A) args s 0 0 A) w A 5 31 [some (.ref (w.2.1 134)), none, none, some (.int x3), some (.int x4)] [] S) (S : cpS) (h : fX2_learnChances_90 x3 x4 k23 k31 S = some r) : cpJ p l e (cpRm 4) s m args below meth c (MQ below (va_Qv (fun S' => ((), S') = r) (cpWorld w A) A) args s 0 0 A) w A 5 90 [some (.ref (w.2.1 134)), none, none, some (.int x3), some (.int x4)] [] S := by
  rw [fX2_learnChances_90] at h
  refine cj_aload_n C (i := 0) dX2_learnChances_90 rfl rfl ?_
  refine cj_getR C (d := 137) o_134 rfl gfX2_18 dX2_learnChances_91 ?_
  refine cj_iconst C (v := (2 : Int32)) dX2_learnChances_94 rfl ?_
  refine cj_iload C dX2_learnChances_95 rfl ?_
  refine cj_imul C dX2_learnChances_97 ?_
  refine cj_iconst C (v := (1 : Int32)) dX2_learnChances_98 rfl ?_
  refine cj_iadd C dX2_learnChances_99 ?_
  refine cj_baload C o_137 h dX2_learnChances_100 (fun h => ?_)
  refine cj_if_eq C (tgt := 139) dX2_learnChances_101 rfl h (fun _ h => ?_) (fun _ h => ?_)
  · refine cj_iinc C (v := (x4 + 1)) (lv' := [some (.ref (w.2.1 134)), none, none, some (.int x3), some (.int (x4 + 1))]) dX2_learnChances_139 rfl rfl (by decide) rfl rfl ?_
    refine cj_goto C (tgt := 31) dX2_learnChances_142 rfl ?_
    exact hk31 (x4 + 1) S h
  · refine cj_aload_n C (i := 0) dX2_learnChances_104 rfl rfl ?_
    refine cj_iload_n C (i := 3) dX2_learnChances_105 rfl rfl ?_
    refine cj_aload_n C (i := 0) dX2_learnChances_106 rfl rfl ?_
    refine cj_getR C (d := 1) o_134 rfl gfX2_38 dX2_learnChances_107 ?_
    refine cj_getR C (d := 3) o_1 rfl gfX2_79 dX2_learnChances_110 ?_
    refine cj_iload C dX2_learnChances_113 rfl ?_
    refine cj_iaload C o_3 h dX2_learnChances_115 (fun h => ?_)
    refine cj_aload_n C (i := 0) dX2_learnChances_116 rfl rfl ?_
    refine cj_getR C (d := 1) o_134 rfl gfX2_38 dX2_learnChances_117 ?_
    refine cj_getR C (d := 2) o_1 rfl gfX2_76 dX2_learnChances_120 ?_
    refine cj_iload C dX2_learnChances_123 rfl ?_
    refine cj_iaload C o_2 h dX2_learnChances_125 (fun h => ?_)
    refine cj_aload_n C (i := 0) dX2_learnChances_126 rfl rfl ?_
    refine cj_getR C (d := 1) o_134 rfl gfX2_38 dX2_learnChances_127 ?_
    refine cj_getR C (d := 4) o_1 rfl gfX2_82 dX2_learnChances_130 ?_
    refine cj_iload C dX2_learnChances_133 rfl ?_
    refine cj_iaload C o_4 h dX2_learnChances_135 (fun h => ?_)
    refine cj_callVv C (As := [.int x3, .int (S.1 3 x4.toNatClampNeg), .int (S.1 2 x4.toNatClampNeg), .int (S.1 4 x4.toNatClampNeg)]) (rest := []) qX2_goOn mw_73_9 o_134 rfl rfl rfl (Nat.le_of_ble_eq_true rfl) (by decide) dX2_learnChances_136 h (fun _ _ hf => m_X2_goOn l w A x3 (S.1 3 x4.toNatClampNeg) (S.1 2 x4.toNatClampNeg) (S.1 4 x4.toNatClampNeg) S _ hf) (fun z1 S2 h => ?_)
    refine cj_iinc C (v := (x4 + 1)) (lv' := [some (.ref (w.2.1 134)), none, none, some (.int x3), some (.int (x4 + 1))]) dX2_learnChances_139 rfl rfl (by decide) rfl rfl ?_
    refine cj_goto C (tgt := 31) dX2_learnChances_142 rfl ?_
    exact hk31 (x4 + 1) S2 h
def fX2_learnChances_31 (x3 : Int32) (k23 : Int32 → cpS → Option (Unit × cpS)) : Nat → Int32 → cpS → Option (Unit × cpS)
  | 0, _, _ => none
  | n + 1, x4, S =>
    if (S.1 1 3) ≤ x4 then (
    k23 (x3 + 1) S) else (
    if cpIn ((2 : Int32) * x4) 18 then (
    if (S.1 137 ((2 : Int32) * x4).toNatClampNeg) = 0 then (
    fX2_learnChances_90 x3 x4 k23 (fX2_learnChances_31 x3 k23 n) S) else (
    if cpIn x4 9 then (
    if cpIn x4 9 then (
    if cpIn x4 9 then (
    cpB (fX2_goOn x3 (S.1 2 x4.toNatClampNeg) (S.1 3 x4.toNatClampNeg) (S.1 4 x4.toNatClampNeg) S) fun _ S2 =>
    fX2_learnChances_90 x3 x4 k23 (fX2_learnChances_31 x3 k23 n) S2) else none) else none) else none)) else none)
set_option maxRecDepth 100000 in
set_option maxHeartbeats 4000000 in
theorem wX2_learnChances_31 (C : cpCx p s m args meth c w A cX2_learnChances RX2 5) (hr : meth.sig.returnType = none) {r : Unit × cpS} (x3 : Int32) {k23 : Int32 → cpS → Option (Unit × cpS)} (hk23 : ∀ (x3 : Int32) (S : cpS), k23 x3 S = some r → cpJ p l e (cpRm 4) s m args below meth c (MQ below (va_Qv (fun S' => ((), S') = r) (cpWorld w A) A) args s 0 0 A) w A 5 23 [some (.ref (w.2.1 134)), none, none, some (.int x3), none] [] S) : ∀ (n : Nat) (x4 : Int32) (S : cpS), fX2_learnChances_31 x3 k23 n x4 S = some r → cpJ p l e (cpRm 4) s m args below meth c (MQ below (va_Qv (fun S' => ((), S') = r) (cpWorld w A) A) args s 0 0 A) w A 5 31 [some (.ref (w.2.1 134)), none, none, some (.int x3), some (.int x4)] [] S := by
  intro n
  induction n with
  | zero => intro x4 S h; rw [fX2_learnChances_31] at h; cases h
  | succ n ih =>
    intro x4 S h
    rw [fX2_learnChances_31] at h
    refine cj_iload C dX2_learnChances_31 rfl ?_
    refine cj_aload_n C (i := 0) dX2_learnChances_33 rfl rfl ?_
    refine cj_getR C (d := 1) o_134 rfl gfX2_38 dX2_learnChances_34 ?_
    refine cj_getI C (j := 3) o_1 rfl gfX2_73 dX2_learnChances_37 ?_
    refine cj_icmp_ge C (tgt := 145) dX2_learnChances_40 rfl h (fun _ h => ?_) (fun _ h => ?_)
    · refine cj_iinc C (v := (x3 + 1)) (lv' := [some (.ref (w.2.1 134)), none, none, some (.int (x3 + 1)), some (.int x4)]) dX2_learnChances_145 rfl rfl (by decide) rfl rfl ?_
      refine cj_goto C (tgt := 23) dX2_learnChances_148 rfl ?_
      refine cj_weak C (lv' := [some (.ref (w.2.1 134)), none, none, some (.int (x3 + 1)), none]) (cpSub_s (cpSub_n (cpSub_n (cpSub_s (cpSub_n cpSub_nil))))) ?_
      exact hk23 (x3 + 1) S h
    · refine cj_aload_n C (i := 0) dX2_learnChances_43 rfl rfl ?_
      refine cj_getR C (d := 137) o_134 rfl gfX2_18 dX2_learnChances_44 ?_
      refine cj_iconst C (v := (2 : Int32)) dX2_learnChances_47 rfl ?_
      refine cj_iload C dX2_learnChances_48 rfl ?_
      refine cj_imul C dX2_learnChances_50 ?_
      refine cj_baload C o_137 h dX2_learnChances_51 (fun h => ?_)
      refine cj_if_eq C (tgt := 90) dX2_learnChances_52 rfl h (fun _ h => ?_) (fun _ h => ?_)
      · exact wX2_learnChances_90 C hr x3 x4 hk23 ih S h
      · refine cj_aload_n C (i := 0) dX2_learnChances_55 rfl rfl ?_
        refine cj_iload_n C (i := 3) dX2_learnChances_56 rfl rfl ?_
        refine cj_aload_n C (i := 0) dX2_learnChances_57 rfl rfl ?_
        refine cj_getR C (d := 1) o_134 rfl gfX2_38 dX2_learnChances_58 ?_
        refine cj_getR C (d := 2) o_1 rfl gfX2_76 dX2_learnChances_61 ?_
        refine cj_iload C dX2_learnChances_64 rfl ?_
        refine cj_iaload C o_2 h dX2_learnChances_66 (fun h => ?_)
        refine cj_aload_n C (i := 0) dX2_learnChances_67 rfl rfl ?_
        refine cj_getR C (d := 1) o_134 rfl gfX2_38 dX2_learnChances_68 ?_
        refine cj_getR C (d := 3) o_1 rfl gfX2_79 dX2_learnChances_71 ?_
        refine cj_iload C dX2_learnChances_74 rfl ?_
        refine cj_iaload C o_3 h dX2_learnChances_76 (fun h => ?_)
        refine cj_aload_n C (i := 0) dX2_learnChances_77 rfl rfl ?_
        refine cj_getR C (d := 1) o_134 rfl gfX2_38 dX2_learnChances_78 ?_
        refine cj_getR C (d := 4) o_1 rfl gfX2_82 dX2_learnChances_81 ?_
        refine cj_iload C dX2_learnChances_84 rfl ?_
        refine cj_iaload C o_4 h dX2_learnChances_86 (fun h => ?_)
        refine cj_callVv C (As := [.int x3, .int (S.1 2 x4.toNatClampNeg), .int (S.1 3 x4.toNatClampNeg), .int (S.1 4 x4.toNatClampNeg)]) (rest := []) qX2_goOn mw_73_9 o_134 rfl rfl rfl (Nat.le_of_ble_eq_true rfl) (by decide) dX2_learnChances_87 h (fun _ _ hf => m_X2_goOn l w A x3 (S.1 2 x4.toNatClampNeg) (S.1 3 x4.toNatClampNeg) (S.1 4 x4.toNatClampNeg) S _ hf) (fun z1 S2 h => ?_)
        exact wX2_learnChances_90 C hr x3 x4 hk23 ih S2 h
def fX2_learnChances_23 : Nat → Int32 → cpS → Option (Unit × cpS)
  | 0, _, _ => none
  | n + 1, x3, S =>
    if (5 : Int32) < x3 then (
    some ((), S)) else (
    fX2_learnChances_31 x3 (fX2_learnChances_23 n) cpFu (0 : Int32) S)
set_option maxRecDepth 100000 in
set_option maxHeartbeats 4000000 in
theorem wX2_learnChances_23 (C : cpCx p s m args meth c w A cX2_learnChances RX2 5) (hr : meth.sig.returnType = none) {r : Unit × cpS} : ∀ (n : Nat) (x3 : Int32) (S : cpS), fX2_learnChances_23 n x3 S = some r → cpJ p l e (cpRm 4) s m args below meth c (MQ below (va_Qv (fun S' => ((), S') = r) (cpWorld w A) A) args s 0 0 A) w A 5 23 [some (.ref (w.2.1 134)), none, none, some (.int x3), none] [] S := by
  intro n
  induction n with
  | zero => intro x3 S h; rw [fX2_learnChances_23] at h; cases h
  | succ n ih =>
    intro x3 S h
    rw [fX2_learnChances_23] at h
    refine cj_iload_n C (i := 3) dX2_learnChances_23 rfl rfl ?_
    refine cj_iconst C (v := (5 : Int32)) dX2_learnChances_24 rfl ?_
    refine cj_icmp_gt C (tgt := 151) dX2_learnChances_25 rfl h (fun _ h => ?_) (fun _ h => ?_)
    · exact cj_vreturn C hr h dX2_learnChances_151
    · refine cj_iconst C (v := (0 : Int32)) dX2_learnChances_28 rfl ?_
      refine cj_istore C (lv' := [some (.ref (w.2.1 134)), none, none, some (.int x3), some (.int (0 : Int32))]) dX2_learnChances_29 (by decide) rfl rfl ?_
      exact wX2_learnChances_31 C hr x3 ih cpFu (0 : Int32) S h
def fX2_learnChances (x1 : Int32) (x2 : Int32) (S : cpS) : Option (Unit × cpS) :=
    cpB (fX2_learnOpenRoads x1 S) fun _ S2 =>
    cpB (fJ7_fill_53178 136 36 (0 : Int32) S2) fun _ S4 =>
    if cpIn x2 36 then (
    cpLt (cpI S4 136 x2.toNatClampNeg (100000 : Int32)) fun S5 =>
    fX2_learnChances_23 cpFu (1 : Int32) S5) else none
set_option maxRecDepth 100000 in
set_option maxHeartbeats 4000000 in
theorem m_X2_learnChances (l : Launch) (w : cpW) (A : Nat → Prop) (x1 : Int32) (x2 : Int32) (S : cpS) (r : Unit × cpS) (h : fX2_learnChances x1 x2 S = some r) : cpMv l yX2_learnChances cX2_learnChances 5 (none) 4 w A [.ref (w.2.1 134), .int x1, .int x2] S r := by
  refine cpMv.of (lv := [some (.ref (w.2.1 134)), some (.int x1), some (.int x2), none, none]) (by decide) (Nat.le_of_ble_eq_true rfl) rfl (fun p e s m args below meth c C hr => ?_)
  replace C : cpCx p s m args meth c w A cX2_learnChances RX2 5 := C
  rw [fX2_learnChances] at h
  refine cj_aload_n C (i := 0) dX2_learnChances_0 rfl rfl ?_
  refine cj_iload_n C (i := 1) dX2_learnChances_1 rfl rfl ?_
  refine cj_callVv C (As := [.int x1]) (rest := []) qX2_learnOpenRoads mw_73_0 o_134 rfl rfl rfl (Nat.le_of_ble_eq_true rfl) (by decide) dX2_learnChances_2 h (fun _ _ hf => m_X2_learnOpenRoads l w A x1 S _ hf) (fun z1 S2 h => ?_)
  refine cj_aload_n C (i := 0) dX2_learnChances_5 rfl rfl ?_
  refine cj_getR C (d := 136) o_134 rfl gfX2_15 dX2_learnChances_6 ?_
  refine cj_iconst C (v := (0 : Int32)) dX2_learnChances_9 rfl ?_
  refine cj_callSv C (As := [.ref (w.2.1 136), .int (0 : Int32)]) (rest := []) qJ7_fill_53178 mw_73_8 rfl rfl (Nat.le_of_ble_eq_true rfl) (by decide) dX2_learnChances_10 h (fun _ _ hf => m_J7_fill_53178 l w A o_136 (0 : Int32) S2 _ hf) (fun z3 S4 h => ?_)
  refine cj_aload_n C (i := 0) dX2_learnChances_13 rfl rfl ?_
  refine cj_getR C (d := 136) o_134 rfl gfX2_15 dX2_learnChances_14 ?_
  refine cj_iload_n C (i := 2) dX2_learnChances_17 rfl rfl ?_
  refine cj_ldc C (v := (100000 : Int32)) mw_72_19 dX2_learnChances_18 ?_
  refine cj_iastore C o_136 h dX2_learnChances_20 (fun h => ?_)
  refine cj_lets h (fun S5 h => ?_)
  refine cj_iconst C (v := (1 : Int32)) dX2_learnChances_21 rfl ?_
  refine cj_istore_n C (i := 3) (lv' := [some (.ref (w.2.1 134)), some (.int x1), some (.int x2), some (.int (1 : Int32)), none]) dX2_learnChances_22 rfl (by decide) rfl rfl ?_
  refine cj_weak C (lv' := [some (.ref (w.2.1 134)), none, none, some (.int (1 : Int32)), none]) (cpSub_s (cpSub_n (cpSub_n (cpSub_s (cpSub_n cpSub_nil))))) ?_
  exact wX2_learnChances_23 C hr cpFu (1 : Int32) S5 h
/-! X2_greatestChance -/
def fX2_greatestChance_4 (x1 : Int32) : Nat → Int32 → Int32 → cpS → Option (Int32 × cpS)
  | 0, _, _, _ => none
  | n + 1, x2, x3, S =>
    if (5 : Int32) < x3 then (
    some (x2, S)) else (
    if cpIn ((x3 * (6 : Int32)) + x1) 36 then (
    cpLt (cpMax x2 (S.1 136 ((x3 * (6 : Int32)) + x1).toNatClampNeg)) fun y1 =>
    fX2_greatestChance_4 x1 n y1 (x3 + 1) S) else none)
set_option maxRecDepth 100000 in
set_option maxHeartbeats 4000000 in
theorem wX2_greatestChance_4 (C : cpCx p s m args meth c w A cX2_greatestChance RX2 4) (hr : meth.sig.returnType = (some .int)) {r : Int32 × cpS} (x1 : Int32) : ∀ (n : Nat) (x2 : Int32) (x3 : Int32) (S : cpS), fX2_greatestChance_4 x1 n x2 x3 S = some r → cpJ p l e (cpRm 1) s m args below meth c (MQ below (va_Qi (fun x S' => (x, S') = r) (cpWorld w A) A) args s 0 0 A) w A 4 4 [some (.ref (w.2.1 134)), some (.int x1), some (.int x2), some (.int x3)] [] S := by
  intro n
  induction n with
  | zero => intro x2 x3 S h; rw [fX2_greatestChance_4] at h; cases h
  | succ n ih =>
    intro x2 x3 S h
    rw [fX2_greatestChance_4] at h
    refine cj_iload_n C (i := 3) dX2_greatestChance_4 rfl rfl ?_
    refine cj_iconst C (v := (5 : Int32)) dX2_greatestChance_5 rfl ?_
    refine cj_icmp_gt C (tgt := 31) dX2_greatestChance_6 rfl h (fun _ h => ?_) (fun _ h => ?_)
    · refine cj_iload_n C (i := 2) dX2_greatestChance_31 rfl rfl ?_
      exact cj_ireturn C hr h dX2_greatestChance_32
    · refine cj_iload_n C (i := 2) dX2_greatestChance_9 rfl rfl ?_
      refine cj_aload_n C (i := 0) dX2_greatestChance_10 rfl rfl ?_
      refine cj_getR C (d := 136) o_134 rfl gfX2_15 dX2_greatestChance_11 ?_
      refine cj_iload_n C (i := 3) dX2_greatestChance_14 rfl rfl ?_
      refine cj_bipush C (v := (6 : Int32)) dX2_greatestChance_15 rfl ?_
      refine cj_imul C dX2_greatestChance_17 ?_
      refine cj_iload_n C (i := 1) dX2_greatestChance_18 rfl rfl ?_
      refine cj_iadd C dX2_greatestChance_19 ?_
      refine cj_iaload C o_136 h dX2_greatestChance_20 (fun h => ?_)
      refine ck_mmax C mw_73_13 mw_12_13 mw_12_14 mw_12_15 (by decide) (Nat.le_of_ble_eq_true rfl) dX2_greatestChance_21 ?_
      refine cj_let h (fun y1 h => ?_)
      refine cj_istore_n C (i := 2) (lv' := [some (.ref (w.2.1 134)), some (.int x1), some (.int y1), some (.int x3)]) dX2_greatestChance_24 rfl (by decide) rfl rfl ?_
      refine cj_iinc C (v := (x3 + 1)) (lv' := [some (.ref (w.2.1 134)), some (.int x1), some (.int y1), some (.int (x3 + 1))]) dX2_greatestChance_25 rfl rfl (by decide) rfl rfl ?_
      refine cj_goto C (tgt := 4) dX2_greatestChance_28 rfl ?_
      exact ih y1 (x3 + 1) S h
def fX2_greatestChance (x1 : Int32) (S : cpS) : Option (Int32 × cpS) :=
    fX2_greatestChance_4 x1 cpFu (0 : Int32) (0 : Int32) S
set_option maxRecDepth 100000 in
set_option maxHeartbeats 4000000 in
theorem m_X2_greatestChance (l : Launch) (w : cpW) (A : Nat → Prop) (x1 : Int32) (S : cpS) (r : Int32 × cpS) (h : fX2_greatestChance x1 S = some r) : cpMi l yX2_greatestChance cX2_greatestChance 4 ((some .int)) 1 w A [.ref (w.2.1 134), .int x1] S r := by
  refine cpMi.of (lv := [some (.ref (w.2.1 134)), some (.int x1), none, none]) (by decide) (Nat.le_of_ble_eq_true rfl) rfl (fun p e s m args below meth c C hr => ?_)
  replace C : cpCx p s m args meth c w A cX2_greatestChance RX2 4 := C
  rw [fX2_greatestChance] at h
  refine cj_iconst C (v := (0 : Int32)) dX2_greatestChance_0 rfl ?_
  refine cj_istore_n C (i := 2) (lv' := [some (.ref (w.2.1 134)), some (.int x1), some (.int (0 : Int32)), none]) dX2_greatestChance_1 rfl (by decide) rfl rfl ?_
  refine cj_iconst C (v := (0 : Int32)) dX2_greatestChance_2 rfl ?_
  refine cj_istore_n C (i := 3) (lv' := [some (.ref (w.2.1 134)), some (.int x1), some (.int (0 : Int32)), some (.int (0 : Int32))]) dX2_greatestChance_3 rfl (by decide) rfl rfl ?_
  exact wX2_greatestChance_4 C hr x1 cpFu (0 : Int32) (0 : Int32) S h
/-! X2_fewestRoads -/
def fX2_fewestRoads_8 (x1 : Int32) (x2 : Int32) : Nat → Int32 → cpS → Option (Int32 × cpS)
  | 0, _, _ => none
  | n + 1, x3, S =>
    if (5 : Int32) < x3 then (
    some ((-1 : Int32), S)) else (
    if x2 ≤ 0 then (
    some ((-1 : Int32), S)) else (
    if cpIn ((x3 * (6 : Int32)) + x1) 36 then (
    if (S.1 136 ((x3 * (6 : Int32)) + x1).toNatClampNeg) = x2 then (
    some (x3, S)) else (
    fX2_fewestRoads_8 x1 x2 n (x3 + 1) S)) else none))
set_option maxRecDepth 100000 in
set_option maxHeartbeats 4000000 in
theorem wX2_fewestRoads_8 (C : cpCx p s m args meth c w A cX2_fewestRoads RX2 4) (hr : meth.sig.returnType = (some .int)) {r : Int32 × cpS} (x1 : Int32) (x2 : Int32) : ∀ (n : Nat) (x3 : Int32) (S : cpS), fX2_fewestRoads_8 x1 x2 n x3 S = some r → cpJ p l e (cpRm 2) s m args below meth c (MQ below (va_Qi (fun x S' => (x, S') = r) (cpWorld w A) A) args s 0 0 A) w A 4 8 [some (.ref (w.2.1 134)), some (.int x1), some (.int x2), some (.int x3)] [] S := by
  intro n
  induction n with
  | zero => intro x3 S h; rw [fX2_fewestRoads_8] at h; cases h
  | succ n ih =>
    intro x3 S h
    rw [fX2_fewestRoads_8] at h
    refine cj_iload_n C (i := 3) dX2_fewestRoads_8 rfl rfl ?_
    refine cj_iconst C (v := (5 : Int32)) dX2_fewestRoads_9 rfl ?_
    refine cj_icmp_gt C (tgt := 40) dX2_fewestRoads_10 rfl h (fun _ h => ?_) (fun _ h => ?_)
    · refine cj_iconst C (v := (-1 : Int32)) dX2_fewestRoads_40 rfl ?_
      exact cj_ireturn C hr h dX2_fewestRoads_41
    · refine cj_iload_n C (i := 2) dX2_fewestRoads_13 rfl rfl ?_
      refine cj_if_le C (tgt := 40) dX2_fewestRoads_14 rfl h (fun _ h => ?_) (fun _ h => ?_)
      · refine cj_iconst C (v := (-1 : Int32)) dX2_fewestRoads_40 rfl ?_
        exact cj_ireturn C hr h dX2_fewestRoads_41
      · refine cj_aload_n C (i := 0) dX2_fewestRoads_17 rfl rfl ?_
        refine cj_getR C (d := 136) o_134 rfl gfX2_15 dX2_fewestRoads_18 ?_
        refine cj_iload_n C (i := 3) dX2_fewestRoads_21 rfl rfl ?_
        refine cj_bipush C (v := (6 : Int32)) dX2_fewestRoads_22 rfl ?_
        refine cj_imul C dX2_fewestRoads_24 ?_
        refine cj_iload_n C (i := 1) dX2_fewestRoads_25 rfl rfl ?_
        refine cj_iadd C dX2_fewestRoads_26 ?_
        refine cj_iaload C o_136 h dX2_fewestRoads_27 (fun h => ?_)
        refine cj_iload_n C (i := 2) dX2_fewestRoads_28 rfl rfl ?_
        refine cj_icmp_ne C (tgt := 34) dX2_fewestRoads_29 rfl h (fun _ h => ?_) (fun _ h => ?_)
        · refine cj_iload_n C (i := 3) dX2_fewestRoads_32 rfl rfl ?_
          exact cj_ireturn C hr h dX2_fewestRoads_33
        · refine cj_iinc C (v := (x3 + 1)) (lv' := [some (.ref (w.2.1 134)), some (.int x1), some (.int x2), some (.int (x3 + 1))]) dX2_fewestRoads_34 rfl rfl (by decide) rfl rfl ?_
          refine cj_goto C (tgt := 8) dX2_fewestRoads_37 rfl ?_
          exact ih (x3 + 1) S h
def fX2_fewestRoads (x1 : Int32) (S : cpS) : Option (Int32 × cpS) :=
    cpB (fX2_greatestChance x1 S) fun z1 S2 =>
    fX2_fewestRoads_8 x1 z1 cpFu (0 : Int32) S2
set_option maxRecDepth 100000 in
set_option maxHeartbeats 4000000 in
theorem m_X2_fewestRoads (l : Launch) (w : cpW) (A : Nat → Prop) (x1 : Int32) (S : cpS) (r : Int32 × cpS) (h : fX2_fewestRoads x1 S = some r) : cpMi l yX2_fewestRoads cX2_fewestRoads 4 ((some .int)) 2 w A [.ref (w.2.1 134), .int x1] S r := by
  refine cpMi.of (lv := [some (.ref (w.2.1 134)), some (.int x1), none, none]) (by decide) (Nat.le_of_ble_eq_true rfl) rfl (fun p e s m args below meth c C hr => ?_)
  replace C : cpCx p s m args meth c w A cX2_fewestRoads RX2 4 := C
  rw [fX2_fewestRoads] at h
  refine cj_aload_n C (i := 0) dX2_fewestRoads_0 rfl rfl ?_
  refine cj_iload_n C (i := 1) dX2_fewestRoads_1 rfl rfl ?_
  refine cj_callVi C (As := [.int x1]) (rest := []) qX2_greatestChance mw_75_8 o_134 rfl rfl rfl (Nat.le_of_ble_eq_true rfl) (by decide) dX2_fewestRoads_2 h (fun _ _ hf => m_X2_greatestChance l w A x1 S _ hf) (fun z1 S2 h => ?_)
  refine cj_istore_n C (i := 2) (lv' := [some (.ref (w.2.1 134)), some (.int x1), some (.int z1), none]) dX2_fewestRoads_5 rfl (by decide) rfl rfl ?_
  refine cj_iconst C (v := (0 : Int32)) dX2_fewestRoads_6 rfl ?_
  refine cj_istore_n C (i := 3) (lv' := [some (.ref (w.2.1 134)), some (.int x1), some (.int z1), some (.int (0 : Int32))]) dX2_fewestRoads_7 rfl (by decide) rfl rfl ?_
  exact wX2_fewestRoads_8 C hr x1 z1 cpFu (0 : Int32) S2 h
end CPV
