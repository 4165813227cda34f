section CPV
variable {p : Program} {l : Launch} {e : Env} {s : State} {m : MethodId} {args : Array Value} {below : List Frame} {meth : Method} {c : Code} {w : cpW} {A : Nat → Prop}
/-! X10_hasPerson -/
def fX10_hasPerson (v : Nat) (x1 : Int32) (S : cpS) : Option (Int32 × cpS) :=
    if x1 < 0 then (
    some ((0 : Int32), S)) else (
    if (S.1 v 7) ≤ x1 then (
    some ((0 : Int32), S)) else (
    some ((1 : Int32), S)))
set_option maxRecDepth 100000 in
set_option maxHeartbeats 4000000 in
theorem m_X10_hasPerson (l : Launch) (w : cpW) (A : Nat → Prop) {v : Nat} (hv : cpVy v) (x1 : Int32) (S : cpS) (r : Int32 × cpS) (h : fX10_hasPerson v x1 S = some r) : cpMi l yX10_hasPerson cX10_hasPerson 2 ((some .boolean)) 0 w A [.ref (w.2.1 v), .int x1] S r := by
  refine cpMi.of (lv := [some (.ref (w.2.1 v)), some (.int x1)]) (by decide) (Nat.le_of_ble_eq_true rfl) rfl (fun p e s m args below meth c C hr => ?_)
  replace C : cpCx p s m args meth c w A cX10_hasPerson RX10 2 := C
  rw [fX10_hasPerson] at h
  refine cj_iload_n C (i := 1) dX10_hasPerson_0 rfl rfl ?_
  refine cj_if_lt C (tgt := 16) dX10_hasPerson_1 rfl h (fun _ h => ?_) (fun _ h => ?_)
  · refine cj_iconst C (v := (0 : Int32)) dX10_hasPerson_16 rfl ?_
    exact cj_zreturn C hr rfl h dX10_hasPerson_17
  · refine cj_iload_n C (i := 1) dX10_hasPerson_4 rfl rfl ?_
    refine cj_aload_n C (i := 0) dX10_hasPerson_5 rfl rfl ?_
    refine cj_getI C (j := 7) (cpVy_o0 hv) rfl gfX10_62 dX10_hasPerson_6 ?_
    refine cj_icmp_ge C (tgt := 16) dX10_hasPerson_9 rfl h (fun _ h => ?_) (fun _ h => ?_)
    · refine cj_iconst C (v := (0 : Int32)) dX10_hasPerson_16 rfl ?_
      exact cj_zreturn C hr rfl h dX10_hasPerson_17
    · refine cj_iconst C (v := (1 : Int32)) dX10_hasPerson_12 rfl ?_
      refine cj_goto C (tgt := 17) dX10_hasPerson_13 rfl ?_
      exact cj_zreturn C hr rfl h dX10_hasPerson_17
/-! X0_areTwo -/
def fX0_areTwo (x1 : Int32) (x2 : Int32) (S : cpS) : Option (Int32 × cpS) :=
    cpB (fX10_hasPerson 1 x1 S) fun z1 S2 =>
    if z1 = 0 then (
    some ((0 : Int32), S2)) else (
    cpB (fX10_hasPerson 1 x2 S2) fun z3 S4 =>
    if z3 = 0 then (
    some ((0 : Int32), S4)) else (
    if x1 = x2 then (
    some ((0 : Int32), S4)) else (
    some ((1 : Int32), S4))))
set_option maxRecDepth 100000 in
set_option maxHeartbeats 4000000 in
theorem m_X0_areTwo (l : Launch) (w : cpW) (A : Nat → Prop) (x1 : Int32) (x2 : Int32) (S : cpS) (r : Int32 × cpS) (h : fX0_areTwo x1 x2 S = some r) : cpMi l yX0_areTwo cX0_areTwo 3 ((some .boolean)) 1 w A [.ref (w.2.1 117), .int x1, .int x2] S r := by
  refine cpMi.of (lv := [some (.ref (w.2.1 117)), some (.int x1), some (.int x2)]) (by decide) (Nat.le_of_ble_eq_true rfl) rfl (fun p e s m args below meth c C hr => ?_)
  replace C : cpCx p s m args meth c w A cX0_areTwo RX0 3 := C
  rw [fX0_areTwo] at h
  refine cj_aload_n C (i := 0) dX0_areTwo_0 rfl rfl ?_
  refine cj_getR C (d := 1) o_117 rfl gfX0_17 dX0_areTwo_1 ?_
  refine cj_iload_n C (i := 1) dX0_areTwo_4 rfl rfl ?_
  refine cj_callVi C (As := [.int x1]) (rest := []) qX10_hasPerson mw_33_1 o_1 rfl rfl rfl (Nat.le_of_ble_eq_true rfl) (by decide) dX0_areTwo_5 h (fun _ _ hf => m_X10_hasPerson l w A kVy_1 x1 S _ hf) (fun z1 S2 h => ?_)
  refine cj_if_eq C (tgt := 31) dX0_areTwo_8 rfl h (fun _ h => ?_) (fun _ h => ?_)
  · refine cj_iconst C (v := (0 : Int32)) dX0_areTwo_31 rfl ?_
    exact cj_zreturn C hr rfl h dX0_areTwo_32
  · refine cj_aload_n C (i := 0) dX0_areTwo_11 rfl rfl ?_
    refine cj_getR C (d := 1) o_117 rfl gfX0_17 dX0_areTwo_12 ?_
    refine cj_iload_n C (i := 2) dX0_areTwo_15 rfl rfl ?_
    refine cj_callVi C (As := [.int x2]) (rest := []) qX10_hasPerson mw_33_1 o_1 rfl rfl rfl (Nat.le_of_ble_eq_true rfl) (by decide) dX0_areTwo_16 h (fun _ _ hf => m_X10_hasPerson l w A kVy_1 x2 S2 _ hf) (fun z3 S4 h => ?_)
    refine cj_if_eq C (tgt := 31) dX0_areTwo_19 rfl h (fun _ h => ?_) (fun _ h => ?_)
    · refine cj_iconst C (v := (0 : Int32)) dX0_areTwo_31 rfl ?_
      exact cj_zreturn C hr rfl h dX0_areTwo_32
    · refine cj_iload_n C (i := 1) dX0_areTwo_22 rfl rfl ?_
      refine cj_iload_n C (i := 2) dX0_areTwo_23 rfl rfl ?_
      refine cj_icmp_eq C (tgt := 31) dX0_areTwo_24 rfl h (fun _ h => ?_) (fun _ h => ?_)
      · refine cj_iconst C (v := (0 : Int32)) dX0_areTwo_31 rfl ?_
        exact cj_zreturn C hr rfl h dX0_areTwo_32
      · refine cj_iconst C (v := (1 : Int32)) dX0_areTwo_27 rfl ?_
        refine cj_goto C (tgt := 32) dX0_areTwo_28 rfl ?_
        exact cj_zreturn C hr rfl h dX0_areTwo_32
/-! X10_hasCoin -/
def fX10_hasCoin (v : Nat) (x1 : Int32) (S : cpS) : Option (Int32 × cpS) :=
    if x1 < 0 then (
    some ((0 : Int32), S)) else (
    if (S.1 v 11) ≤ x1 then (
    some ((0 : Int32), S)) else (
    some ((1 : Int32), S)))
set_option maxRecDepth 100000 in
set_option maxHeartbeats 4000000 in
theorem m_X10_hasCoin (l : Launch) (w : cpW) (A : Nat → Prop) {v : Nat} (hv : cpVy v) (x1 : Int32) (S : cpS) (r : Int32 × cpS) (h : fX10_hasCoin v x1 S = some r) : cpMi l yX10_hasCoin cX10_hasCoin 2 ((some .boolean)) 0 w A [.ref (w.2.1 v), .int x1] S r := by
  refine cpMi.of (lv := [some (.ref (w.2.1 v)), some (.int x1)]) (by decide) (Nat.le_of_ble_eq_true rfl) rfl (fun p e s m args below meth c C hr => ?_)
  replace C : cpCx p s m args meth c w A cX10_hasCoin RX10 2 := C
  rw [fX10_hasCoin] at h
  refine cj_iload_n C (i := 1) dX10_hasCoin_0 rfl rfl ?_
  refine cj_if_lt C (tgt := 16) dX10_hasCoin_1 rfl h (fun _ h => ?_) (fun _ h => ?_)
  · refine cj_iconst C (v := (0 : Int32)) dX10_hasCoin_16 rfl ?_
    exact cj_zreturn C hr rfl h dX10_hasCoin_17
  · refine cj_iload_n C (i := 1) dX10_hasCoin_4 rfl rfl ?_
    refine cj_aload_n C (i := 0) dX10_hasCoin_5 rfl rfl ?_
    refine cj_getI C (j := 11) (cpVy_o0 hv) rfl gfX10_65 dX10_hasCoin_6 ?_
    refine cj_icmp_ge C (tgt := 16) dX10_hasCoin_9 rfl h (fun _ h => ?_) (fun _ h => ?_)
    · refine cj_iconst C (v := (0 : Int32)) dX10_hasCoin_16 rfl ?_
      exact cj_zreturn C hr rfl h dX10_hasCoin_17
    · refine cj_iconst C (v := (1 : Int32)) dX10_hasCoin_12 rfl ?_
      refine cj_goto C (tgt := 17) dX10_hasCoin_13 rfl ?_
      exact cj_zreturn C hr rfl h dX10_hasCoin_17
/-! X10_hasPlace -/
def fX10_hasPlace (v : Nat) (x1 : Int32) (S : cpS) : Option (Int32 × cpS) :=
    if x1 < 0 then (
    some ((0 : Int32), S)) else (
    if (S.1 v 0) ≤ x1 then (
    some ((0 : Int32), S)) else (
    some ((1 : Int32), S)))
set_option maxRecDepth 100000 in
set_option maxHeartbeats 4000000 in
theorem m_X10_hasPlace (l : Launch) (w : cpW) (A : Nat → Prop) {v : Nat} (hv : cpVy v) (x1 : Int32) (S : cpS) (r : Int32 × cpS) (h : fX10_hasPlace v x1 S = some r) : cpMi l yX10_hasPlace cX10_hasPlace 2 ((some .boolean)) 0 w A [.ref (w.2.1 v), .int x1] S r := by
  refine cpMi.of (lv := [some (.ref (w.2.1 v)), some (.int x1)]) (by decide) (Nat.le_of_ble_eq_true rfl) rfl (fun p e s m args below meth c C hr => ?_)
  replace C : cpCx p s m args meth c w A cX10_hasPlace RX10 2 := C
  rw [fX10_hasPlace] at h
  refine cj_iload_n C (i := 1) dX10_hasPlace_0 rfl rfl ?_
  refine cj_if_lt C (tgt := 16) dX10_hasPlace_1 rfl h (fun _ h => ?_) (fun _ h => ?_)
  · refine cj_iconst C (v := (0 : Int32)) dX10_hasPlace_16 rfl ?_
    exact cj_zreturn C hr rfl h dX10_hasPlace_17
  · refine cj_iload_n C (i := 1) dX10_hasPlace_4 rfl rfl ?_
    refine cj_aload_n C (i := 0) dX10_hasPlace_5 rfl rfl ?_
    refine cj_getI C (j := 0) (cpVy_o0 hv) rfl gfX10_9 dX10_hasPlace_6 ?_
    refine cj_icmp_ge C (tgt := 16) dX10_hasPlace_9 rfl h (fun _ h => ?_) (fun _ h => ?_)
    · refine cj_iconst C (v := (0 : Int32)) dX10_hasPlace_16 rfl ?_
      exact cj_zreturn C hr rfl h dX10_hasPlace_17
    · refine cj_iconst C (v := (1 : Int32)) dX10_hasPlace_12 rfl ?_
      refine cj_goto C (tgt := 17) dX10_hasPlace_13 rfl ?_
      exact cj_zreturn C hr rfl h dX10_hasPlace_17
/-! X10_joins -/
def fX10_joins_20 (v : Nat) (x1 : Int32) (x2 : Int32) (x3 : Int32) (S : cpS) : Option (Int32 × cpS) :=
    if cpIn x1 9 then (
    if (S.1 (v + 1) x1.toNatClampNeg) = x3 then (
    if cpIn x1 9 then (
    if (S.1 (v + 2) x1.toNatClampNeg) = x2 then (
    some ((1 : Int32), S)) else (
    some ((0 : Int32), S))) else none) else (
    some ((0 : Int32), S))) else none
set_option maxRecDepth 100000 in
set_option maxHeartbeats 4000000 in
theorem wX10_joins_20 (C : cpCx p s m args meth c w A cX10_joins RX10 4) (hr : meth.sig.returnType = (some .boolean)) {r : Int32 × cpS} {v : Nat} (hv : cpVy v) (x1 : Int32) (x2 : Int32) (x3 : Int32) (S : cpS) (h : fX10_joins_20 v x1 x2 x3 S = some r) : cpJ p l e (cpRm 0) s m args below meth c (MQ below (va_Qi (fun x S' => (x, S') = r) (cpWorld w A) A) args s 0 0 A) w A 4 20 [some (.ref (w.2.1 v)), some (.int x1), some (.int x2), some (.int x3)] [] S := by
  rw [fX10_joins_20] at h
  refine cj_aload_n C (i := 0) dX10_joins_20 rfl rfl ?_
  refine cj_getR C (d := (v + 1)) (cpVy_o0 hv) rfl gfX10_15 dX10_joins_21 ?_
  refine cj_iload_n C (i := 1) dX10_joins_24 rfl rfl ?_
  refine cj_iaload C (cpVy_o1 hv) h dX10_joins_25 (fun h => ?_)
  refine cj_iload_n C (i := 3) dX10_joins_26 rfl rfl ?_
  refine cj_icmp_ne C (tgt := 44) dX10_joins_27 rfl h (fun _ h => ?_) (fun _ h => ?_)
  · refine cj_aload_n C (i := 0) dX10_joins_30 rfl rfl ?_
    refine cj_getR C (d := (v + 2)) (cpVy_o0 hv) rfl gfX10_19 dX10_joins_31 ?_
    refine cj_iload_n C (i := 1) dX10_joins_34 rfl rfl ?_
    refine cj_iaload C (cpVy_o2 hv) h dX10_joins_35 (fun h => ?_)
    refine cj_iload_n C (i := 2) dX10_joins_36 rfl rfl ?_
    refine cj_icmp_ne C (tgt := 44) dX10_joins_37 rfl h (fun _ h => ?_) (fun _ h => ?_)
    · refine cj_iconst C (v := (1 : Int32)) dX10_joins_40 rfl ?_
      refine cj_goto C (tgt := 45) dX10_joins_41 rfl ?_
      exact cj_zreturn C hr rfl h dX10_joins_45
    · refine cj_iconst C (v := (0 : Int32)) dX10_joins_44 rfl ?_
      exact cj_zreturn C hr rfl h dX10_joins_45
  · refine cj_iconst C (v := (0 : Int32)) dX10_joins_44 rfl ?_
    exact cj_zreturn C hr rfl h dX10_joins_45
def fX10_joins (v : Nat) (x1 : Int32) (x2 : Int32) (x3 : Int32) (S : cpS) : Option (Int32 × cpS) :=
    if cpIn x1 9 then (
    if (S.1 (v + 1) x1.toNatClampNeg) = x2 then (
    if cpIn x1 9 then (
    if (S.1 (v + 2) x1.toNatClampNeg) = x3 then (
    some ((1 : Int32), S)) else (
    fX10_joins_20 v x1 x2 x3 S)) else none) else (
    fX10_joins_20 v x1 x2 x3 S)) else none
set_option maxRecDepth 100000 in
set_option maxHeartbeats 4000000 in
theorem m_X10_joins (l : Launch) (w : cpW) (A : Nat → Prop) {v : Nat} (hv : cpVy v) (x1 : Int32) (x2 : Int32) (x3 : Int32) (S : cpS) (r : Int32 × cpS) (h : fX10_joins v x1 x2 x3 S = some r) : cpMi l yX10_joins cX10_joins 4 ((some .boolean)) 0 w A [.ref (w.2.1 v), .int x1, .int x2, .int x3] S r := by
  refine cpMi.of (lv := [some (.ref (w.2.1 v)), some (.int x1), some (.int x2), some (.int x3)]) (by decide) (Nat.le_of_ble_eq_true rfl) rfl (fun p e s m args below meth c C hr => ?_)
  replace C : cpCx p s m args meth c w A cX10_joins RX10 4 := C
  rw [fX10_joins] at h
  refine cj_aload_n C (i := 0) dX10_joins_0 rfl rfl ?_
  refine cj_getR C (d := (v + 1)) (cpVy_o0 hv) rfl gfX10_15 dX10_joins_1 ?_
  refine cj_iload_n C (i := 1) dX10_joins_4 rfl rfl ?_
  refine cj_iaload C (cpVy_o1 hv) h dX10_joins_5 (fun h => ?_)
  refine cj_iload_n C (i := 2) dX10_joins_6 rfl rfl ?_
  refine cj_icmp_ne C (tgt := 20) dX10_joins_7 rfl h (fun _ h => ?_) (fun _ h => ?_)
  · refine cj_aload_n C (i := 0) dX10_joins_10 rfl rfl ?_
    refine cj_getR C (d := (v + 2)) (cpVy_o0 hv) rfl gfX10_19 dX10_joins_11 ?_
    refine cj_iload_n C (i := 1) dX10_joins_14 rfl rfl ?_
    refine cj_iaload C (cpVy_o2 hv) h dX10_joins_15 (fun h => ?_)
    refine cj_iload_n C (i := 3) dX10_joins_16 rfl rfl ?_
    refine cj_icmp_eq C (tgt := 40) dX10_joins_17 rfl h (fun _ h => ?_) (fun _ h => ?_)
    · refine cj_iconst C (v := (1 : Int32)) dX10_joins_40 rfl ?_
      refine cj_goto C (tgt := 45) dX10_joins_41 rfl ?_
      exact cj_zreturn C hr rfl h dX10_joins_45
    · exact wX10_joins_20 C hr hv x1 x2 x3 S h
  · exact wX10_joins_20 C hr hv x1 x2 x3 S h
/-! X10_joined -/
def fX10_joined_2 (v : Nat) (x1 : Int32) (x2 : Int32) : Nat → Int32 → cpS → Option (Int32 × cpS)
  | 0, _, _ => none
  | n + 1, x3, S =>
    if (S.1 v 3) ≤ x3 then (
    some ((0 : Int32), S)) else (
    cpB (fX10_joins v x3 x1 x2 S) fun z1 S2 =>
    if z1 = 0 then (
    fX10_joined_2 v x1 x2 n (x3 + 1) S2) else (
    some ((1 : Int32), S2)))
set_option maxRecDepth 100000 in
set_option maxHeartbeats 4000000 in
theorem wX10_joined_2 (C : cpCx p s m args meth c w A cX10_joined RX10 4) (hr : meth.sig.returnType = (some .boolean)) {r : Int32 × cpS} {v : Nat} (hv : cpVy v) (x1 : Int32) (x2 : Int32) : ∀ (n : Nat) (x3 : Int32) (S : cpS), fX10_joined_2 v x1 x2 n x3 S = some r → cpJ p l e (cpRm 1) s m args below meth c (MQ below (va_Qi (fun x S' => (x, S') = r) (cpWorld w A) A) args s 0 0 A) w A 4 2 [some (.ref (w.2.1 v)), some (.int x1), some (.int x2), some (.int x3)] [] S := by
  intro n
  induction n with
  | zero => intro x3 S h; rw [fX10_joined_2] at h; cases h
  | succ n ih =>
    intro x3 S h
    rw [fX10_joined_2] at h
    refine cj_iload_n C (i := 3) dX10_joined_2 rfl rfl ?_
    refine cj_aload_n C (i := 0) dX10_joined_3 rfl rfl ?_
    refine cj_getI C (j := 3) (cpVy_o0 hv) rfl gfX10_59 dX10_joined_4 ?_
    refine cj_icmp_ge C (tgt := 28) dX10_joined_7 rfl h (fun _ h => ?_) (fun _ h => ?_)
    · refine cj_iconst C (v := (0 : Int32)) dX10_joined_28 rfl ?_
      exact cj_zreturn C hr rfl h dX10_joined_29
    · refine cj_aload_n C (i := 0) dX10_joined_10 rfl rfl ?_
      refine cj_iload_n C (i := 3) dX10_joined_11 rfl rfl ?_
      refine cj_iload_n C (i := 1) dX10_joined_12 rfl rfl ?_
      refine cj_iload_n C (i := 2) dX10_joined_13 rfl rfl ?_
      refine cj_callVi C (As := [.int x3, .int x1, .int x2]) (rest := []) qX10_joins mw_33_21 (cpVy_o0 hv) rfl rfl rfl (Nat.le_of_ble_eq_true rfl) (by decide) dX10_joined_14 h (fun _ _ hf => m_X10_joins l w A hv x3 x1 x2 S _ hf) (fun z1 S2 h => ?_)
      refine cj_if_eq C (tgt := 22) dX10_joined_17 rfl h (fun _ h => ?_) (fun _ h => ?_)
      · refine cj_iinc C (v := (x3 + 1)) (lv' := [some (.ref (w.2.1 v)), some (.int x1), some (.int x2), some (.int (x3 + 1))]) dX10_joined_22 rfl rfl (by decide) rfl rfl ?_
        refine cj_goto C (tgt := 2) dX10_joined_25 rfl ?_
        exact ih (x3 + 1) S2 h
      · refine cj_iconst C (v := (1 : Int32)) dX10_joined_20 rfl ?_
        exact cj_zreturn C hr rfl h dX10_joined_21
def fX10_joined (v : Nat) (x1 : Int32) (x2 : Int32) (S : cpS) : Option (Int32 × cpS) :=
    fX10_joined_2 v x1 x2 cpFu (0 : Int32) S
set_option maxRecDepth 100000 in
set_option maxHeartbeats 4000000 in
theorem m_X10_joined (l : Launch) (w : cpW) (A : Nat → Prop) {v : Nat} (hv : cpVy v) (x1 : Int32) (x2 : Int32) (S : cpS) (r : Int32 × cpS) (h : fX10_joined v x1 x2 S = some r) : cpMi l yX10_joined cX10_joined 4 ((some .boolean)) 1 w A [.ref (w.2.1 v), .int x1, .int x2] S r := by
  refine cpMi.of (lv := [some (.ref (w.2.1 v)), some (.int x1), some (.int x2), none]) (by decide) (Nat.le_of_ble_eq_true rfl) rfl (fun p e s m args below meth c C hr => ?_)
  replace C : cpCx p s m args meth c w A cX10_joined RX10 4 := C
  rw [fX10_joined] at h
  refine cj_iconst C (v := (0 : Int32)) dX10_joined_0 rfl ?_
  refine cj_istore_n C (i := 3) (lv' := [some (.ref (w.2.1 v)), some (.int x1), some (.int x2), some (.int (0 : Int32))]) dX10_joined_1 rfl (by decide) rfl rfl ?_
  exact wX10_joined_2 C hr hv x1 x2 cpFu (0 : Int32) S h
/-! X11_isIn -/
def fX11_isIn (x0 : Int32) (x1 : Int32) (S : cpS) : Option (Int32 × cpS) :=
    if ((cpShr x0 x1) &&& (1 : Int32)) = 0 then (
    some ((0 : Int32), S)) else (
    some ((1 : Int32), S))
set_option maxRecDepth 100000 in
set_option maxHeartbeats 4000000 in
theorem m_X11_isIn (l : Launch) (w : cpW) (A : Nat → Prop) (x0 : Int32) (x1 : Int32) (S : cpS) (r : Int32 × cpS) (h : fX11_isIn x0 x1 S = some r) : cpMi l yX11_isIn cX11_isIn 2 ((some .boolean)) 0 w A [.int x0, .int x1] S r := by
  refine cpMi.of (lv := [some (.int x0), some (.int x1)]) (by decide) (Nat.le_of_ble_eq_true rfl) rfl (fun p e s m args below meth c C hr => ?_)
  replace C : cpCx p s m args meth c w A cX11_isIn RX11 2 := C
  rw [fX11_isIn] at h
  refine cj_iload_n C (i := 0) dX11_isIn_0 rfl rfl ?_
  refine cj_iload_n C (i := 1) dX11_isIn_1 rfl rfl ?_
  refine ck_ishr C dX11_isIn_2 ?_
  refine cj_iconst C (v := (1 : Int32)) dX11_isIn_3 rfl ?_
  refine cj_iand C dX11_isIn_4 ?_
  refine cj_if_eq C (tgt := 12) dX11_isIn_5 rfl h (fun _ h => ?_) (fun _ h => ?_)
  · refine cj_iconst C (v := (0 : Int32)) dX11_isIn_12 rfl ?_
    exact cj_zreturn C hr rfl h dX11_isIn_13
  · refine cj_iconst C (v := (1 : Int32)) dX11_isIn_8 rfl ?_
    refine cj_goto C (tgt := 13) dX11_isIn_9 rfl ?_
    exact cj_zreturn C hr rfl h dX11_isIn_13
/-! X5_feuding -/
def fX5_feuding (v : Nat) (x1 : Int32) (x2 : Int32) (S : cpS) : Option (Int32 × cpS) :=
    if cpIn x1 8 then (
    cpB (fX11_isIn (S.1 (v + 3) x1.toNatClampNeg) x2 S) fun z1 S2 =>
    if cpBo z1 then some (z1, S2) else none) else none
set_option maxRecDepth 100000 in
set_option maxHeartbeats 4000000 in
theorem m_X5_feuding (l : Launch) (w : cpW) (A : Nat → Prop) {v : Nat} (hv : cpNw v) (x1 : Int32) (x2 : Int32) (S : cpS) (r : Int32 × cpS) (h : fX5_feuding v x1 x2 S = some r) : cpMi l yX5_feuding cX5_feuding 3 ((some .boolean)) 1 w A [.ref (w.2.1 v), .int x1, .int x2] S r := by
  refine cpMi.of (lv := [some (.ref (w.2.1 v)), some (.int x1), some (.int x2)]) (by decide) (Nat.le_of_ble_eq_true rfl) rfl (fun p e s m args below meth c C hr => ?_)
  replace C : cpCx p s m args meth c w A cX5_feuding RX5 3 := C
  rw [fX5_feuding] at h
  refine cj_aload_n C (i := 0) dX5_feuding_0 rfl rfl ?_
  refine cj_getR C (d := (v + 3)) (cpNw_o0 hv) rfl gfX5_18 dX5_feuding_1 ?_
  refine cj_iload_n C (i := 1) dX5_feuding_4 rfl rfl ?_
  refine cj_iaload C (cpNw_o3 hv) h dX5_feuding_5 (fun h => ?_)
  refine cj_iload_n C (i := 2) dX5_feuding_6 rfl rfl ?_
  refine cj_callNi C (As := [.int (S.1 (v + 3) x1.toNatClampNeg), .int x2]) (rest := []) qX11_isIn (List.mem_of_getElem? (i := 2) rfl) rfl rfl (Nat.le_of_ble_eq_true rfl) (by decide) dX5_feuding_7 h (fun _ _ hf => m_X11_isIn l w A (S.1 (v + 3) x1.toNatClampNeg) x2 S _ hf) (fun z1 S2 h => ?_)
  obtain ⟨hb, h⟩ := cpGuard h
  exact cj_zreturn C hr (cpBo_n hb) h dX5_feuding_10
/-! X10_distance -/
def fX10_distance (v : Nat) (x1 : Int32) (x2 : Int32) (S : cpS) : Option (Int32 × cpS) :=
    if cpIn ((x1 * (6 : Int32)) + x2) 36 then (
    some ((S.1 (v + 10) ((x1 * (6 : Int32)) + x2).toNatClampNeg), S)) else none
set_option maxRecDepth 100000 in
set_option maxHeartbeats 4000000 in
theorem m_X10_distance (l : Launch) (w : cpW) (A : Nat → Prop) {v : Nat} (hv : cpVy v) (x1 : Int32) (x2 : Int32) (S : cpS) (r : Int32 × cpS) (h : fX10_distance v x1 x2 S = some r) : cpMi l yX10_distance cX10_distance 3 ((some .int)) 0 w A [.ref (w.2.1 v), .int x1, .int x2] S r := by
  refine cpMi.of (lv := [some (.ref (w.2.1 v)), some (.int x1), some (.int x2)]) (by decide) (Nat.le_of_ble_eq_true rfl) rfl (fun p e s m args below meth c C hr => ?_)
  replace C : cpCx p s m args meth c w A cX10_distance RX10 3 := C
  rw [fX10_distance] at h
  refine cj_aload_n C (i := 0) dX10_distance_0 rfl rfl ?_
  refine cj_getR C (d := (v + 10)) (cpVy_o0 hv) rfl gfX10_43 dX10_distance_1 ?_
  refine cj_iload_n C (i := 1) dX10_distance_4 rfl rfl ?_
  refine cj_bipush C (v := (6 : Int32)) dX10_distance_5 rfl ?_
  refine cj_imul C dX10_distance_7 ?_
  refine cj_iload_n C (i := 2) dX10_distance_8 rfl rfl ?_
  refine cj_iadd C dX10_distance_9 ?_
  refine cj_iaload C (cpVy_o10 hv) h dX10_distance_10 (fun h => ?_)
  exact cj_ireturn C hr h dX10_distance_11
/-! X0_face -/
def fX0_face (x1 : Int32) (x2 : Int32) (x3 : Int32) (x4 : Int32) (x5 : Int32) (S : cpS) : Option (Unit × cpS) :=
    if cpIn x1 8 then (
    if cpIn x2 8 then (
    cpLt (cpI S 118 0 ((S.1 6 x1.toNatClampNeg) + (S.1 6 x2.toNatClampNeg))) fun S1 =>
    if cpIn x1 8 then (
    if cpIn x2 8 then (
    cpLt (cpI S1 118 5 (cpMin (S1.1 6 x1.toNatClampNeg) (S1.1 6 x2.toNatClampNeg))) fun S2 =>
    if cpIn x3 4 then (
    cpLt (cpI S2 118 1 (S2.1 9 x3.toNatClampNeg)) fun S3 =>
    if cpIn x1 8 then (
    cpB (fX10_distance 1 (S3.1 5 x1.toNatClampNeg) x4 S3) fun z4 S5 =>
    if cpIn x2 8 then (
    cpB (fX10_distance 1 (S5.1 5 x2.toNatClampNeg) x4 S5) fun z6 S7 =>
    cpLt (cpI S7 118 2 (z4 + z6)) fun S8 =>
    cpLt (cpI S8 118 4 x5) fun S9 =>
    some ((), S9)) else none) else none) else none) else none) else none) else none) else none
set_option maxRecDepth 100000 in
set_option maxHeartbeats 4000000 in
theorem m_X0_face (l : Launch) (w : cpW) (A : Nat → Prop) (x1 : Int32) (x2 : Int32) (x3 : Int32) (x4 : Int32) (x5 : Int32) (S : cpS) (r : Unit × cpS) (h : fX0_face x1 x2 x3 x4 x5 S = some r) : cpMv l yX0_face cX0_face 6 (none) 1 w A [.ref (w.2.1 117), .int x1, .int x2, .int x3, .int x4, .int x5] S r := by
  refine cpMv.of (lv := [some (.ref (w.2.1 117)), some (.int x1), some (.int x2), some (.int x3), some (.int x4), some (.int x5)]) (by decide) (Nat.le_of_ble_eq_true rfl) rfl (fun p e s m args below meth c C hr => ?_)
  replace C : cpCx p s m args meth c w A cX0_face RX0 6 := C
  rw [fX0_face] at h
  refine cj_aload_n C (i := 0) dX0_face_0 rfl rfl ?_
  refine cj_getR C (d := 118) o_117 rfl gfX0_11 dX0_face_1 ?_
  refine cj_iconst C (v := (0 : Int32)) dX0_face_4 rfl ?_
  refine cj_aload_n C (i := 0) dX0_face_5 rfl rfl ?_
  refine cj_getR C (d := 1) o_117 rfl gfX0_17 dX0_face_6 ?_
  refine cj_getR C (d := 6) o_1 rfl gfX0_100 dX0_face_9 ?_
  refine cj_iload_n C (i := 1) dX0_face_12 rfl rfl ?_
  refine cj_iaload C o_6 h dX0_face_13 (fun h => ?_)
  refine cj_aload_n C (i := 0) dX0_face_14 rfl rfl ?_
  refine cj_getR C (d := 1) o_117 rfl gfX0_17 dX0_face_15 ?_
  refine cj_getR C (d := 6) o_1 rfl gfX0_100 dX0_face_18 ?_
  refine cj_iload_n C (i := 2) dX0_face_21 rfl rfl ?_
  refine cj_iaload C o_6 h dX0_face_22 (fun h => ?_)
  refine cj_iadd C dX0_face_23 ?_
  refine cj_iastoreC C (j := 0) o_118 (by decide) (by decide) dX0_face_24 ?_
  refine cj_lets h (fun S1 h => ?_)
  refine cj_aload_n C (i := 0) dX0_face_25 rfl rfl ?_
  refine cj_getR C (d := 118) o_117 rfl gfX0_11 dX0_face_26 ?_
  refine cj_iconst C (v := (5 : Int32)) dX0_face_29 rfl ?_
  refine cj_aload_n C (i := 0) dX0_face_30 rfl rfl ?_
  refine cj_getR C (d := 1) o_117 rfl gfX0_17 dX0_face_31 ?_
  refine cj_getR C (d := 6) o_1 rfl gfX0_100 dX0_face_34 ?_
  refine cj_iload_n C (i := 1) dX0_face_37 rfl rfl ?_
  refine cj_iaload C o_6 h dX0_face_38 (fun h => ?_)
  refine cj_aload_n C (i := 0) dX0_face_39 rfl rfl ?_
  refine cj_getR C (d := 1) o_117 rfl gfX0_17 dX0_face_40 ?_
  refine cj_getR C (d := 6) o_1 rfl gfX0_100 dX0_face_43 ?_
  refine cj_iload_n C (i := 2) dX0_face_46 rfl rfl ?_
  refine cj_iaload C o_6 h dX0_face_47 (fun h => ?_)
  refine ck_mmin C mw_33_9 mw_12_17 mw_12_14 mw_12_18 (by decide) (Nat.le_of_ble_eq_true rfl) dX0_face_48 ?_
  refine cj_iastoreC C (j := 5) o_118 (by decide) (by decide) dX0_face_51 ?_
  refine cj_lets h (fun S2 h => ?_)
  refine cj_aload_n C (i := 0) dX0_face_52 rfl rfl ?_
  refine cj_getR C (d := 118) o_117 rfl gfX0_11 dX0_face_53 ?_
  refine cj_iconst C (v := (1 : Int32)) dX0_face_56 rfl ?_
  refine cj_aload_n C (i := 0) dX0_face_57 rfl rfl ?_
  refine cj_getR C (d := 1) o_117 rfl gfX0_17 dX0_face_58 ?_
  refine cj_getR C (d := 9) o_1 rfl gfX0_103 dX0_face_61 ?_
  refine cj_iload_n C (i := 3) dX0_face_64 rfl rfl ?_
  refine cj_iaload C o_9 h dX0_face_65 (fun h => ?_)
  refine cj_iastoreC C (j := 1) o_118 (by decide) (by decide) dX0_face_66 ?_
  refine cj_lets h (fun S3 h => ?_)
  refine cj_aload_n C (i := 0) dX0_face_67 rfl rfl ?_
  refine cj_getR C (d := 118) o_117 rfl gfX0_11 dX0_face_68 ?_
  refine cj_iconst C (v := (2 : Int32)) dX0_face_71 rfl ?_
  refine cj_aload_n C (i := 0) dX0_face_72 rfl rfl ?_
  refine cj_getR C (d := 1) o_117 rfl gfX0_17 dX0_face_73 ?_
  refine cj_aload_n C (i := 0) dX0_face_76 rfl rfl ?_
  refine cj_getR C (d := 1) o_117 rfl gfX0_17 dX0_face_77 ?_
  refine cj_getR C (d := 5) o_1 rfl gfX0_106 dX0_face_80 ?_
  refine cj_iload_n C (i := 1) dX0_face_83 rfl rfl ?_
  refine cj_iaload C o_5 h dX0_face_84 (fun h => ?_)
  refine cj_iload C dX0_face_85 rfl ?_
  refine cj_callVi C (As := [.int (S3.1 5 x1.toNatClampNeg), .int x4]) (rest := [.int (2 : Int32), .ref (w.2.1 118)]) qX10_distance mw_34_14 o_1 rfl rfl rfl (Nat.le_of_ble_eq_true rfl) (by decide) dX0_face_87 h (fun _ _ hf => m_X10_distance l w A kVy_1 (S3.1 5 x1.toNatClampNeg) x4 S3 _ hf) (fun z4 S5 h => ?_)
  refine cj_aload_n C (i := 0) dX0_face_90 rfl rfl ?_
  refine cj_getR C (d := 1) o_117 rfl gfX0_17 dX0_face_91 ?_
  refine cj_aload_n C (i := 0) dX0_face_94 rfl rfl ?_
  refine cj_getR C (d := 1) o_117 rfl gfX0_17 dX0_face_95 ?_
  refine cj_getR C (d := 5) o_1 rfl gfX0_106 dX0_face_98 ?_
  refine cj_iload_n C (i := 2) dX0_face_101 rfl rfl ?_
  refine cj_iaload C o_5 h dX0_face_102 (fun h => ?_)
  refine cj_iload C dX0_face_103 rfl ?_
  refine cj_callVi C (As := [.int (S5.1 5 x2.toNatClampNeg), .int x4]) (rest := [.int z4, .int (2 : Int32), .ref (w.2.1 118)]) qX10_distance mw_34_14 o_1 rfl rfl rfl (Nat.le_of_ble_eq_true rfl) (by decide) dX0_face_105 h (fun _ _ hf => m_X10_distance l w A kVy_1 (S5.1 5 x2.toNatClampNeg) x4 S5 _ hf) (fun z6 S7 h => ?_)
  refine cj_iadd C dX0_face_108 ?_
  refine cj_iastoreC C (j := 2) o_118 (by decide) (by decide) dX0_face_109 ?_
  refine cj_lets h (fun S8 h => ?_)
  refine cj_aload_n C (i := 0) dX0_face_110 rfl rfl ?_
  refine cj_getR C (d := 118) o_117 rfl gfX0_11 dX0_face_111 ?_
  refine cj_iconst C (v := (4 : Int32)) dX0_face_114 rfl ?_
  refine cj_iload C dX0_face_115 rfl ?_
  refine cj_iastoreC C (j := 4) o_118 (by decide) (by decide) dX0_face_117 ?_
  refine cj_lets h (fun S9 h => ?_)
  exact cj_vreturn C hr h dX0_face_118
/-! X3_joinedBy -/
def fX3_joinedBy (x0 : Int32) (S : cpS) : Option (Int32 × cpS) :=
    if x0 = (2008 : Int32) then (
    some ((1 : Int32), S)) else (
    if x0 = (2009 : Int32) then (
    some ((3 : Int32), S)) else (
    some ((2 : Int32), S)))
set_option maxRecDepth 100000 in
set_option maxHeartbeats 4000000 in
theorem m_X3_joinedBy (l : Launch) (w : cpW) (A : Nat → Prop) (x0 : Int32) (S : cpS) (r : Int32 × cpS) (h : fX3_joinedBy x0 S = some r) : cpMi l yX3_joinedBy cX3_joinedBy 1 ((some .int)) 0 w A [.int x0] S r := by
  refine cpMi.of (lv := [some (.int x0)]) (by decide) (Nat.le_of_ble_eq_true rfl) rfl (fun p e s m args below meth c C hr => ?_)
  replace C : cpCx p s m args meth c w A cX3_joinedBy RX3 1 := C
  rw [fX3_joinedBy] at h
  refine cj_iload_n C (i := 0) dX3_joinedBy_0 rfl rfl ?_
  refine cj_sipush C (v := (2008 : Int32)) dX3_joinedBy_1 rfl ?_
  refine cj_icmp_ne C (tgt := 9) dX3_joinedBy_4 rfl h (fun _ h => ?_) (fun _ h => ?_)
  · refine cj_iconst C (v := (1 : Int32)) dX3_joinedBy_7 rfl ?_
    exact cj_ireturn C hr h dX3_joinedBy_8
  · refine cj_iload_n C (i := 0) dX3_joinedBy_9 rfl rfl ?_
    refine cj_sipush C (v := (2009 : Int32)) dX3_joinedBy_10 rfl ?_
    refine cj_icmp_ne C (tgt := 20) dX3_joinedBy_13 rfl h (fun _ h => ?_) (fun _ h => ?_)
    · refine cj_iconst C (v := (3 : Int32)) dX3_joinedBy_16 rfl ?_
      refine cj_goto C (tgt := 21) dX3_joinedBy_17 rfl ?_
      exact cj_ireturn C hr h dX3_joinedBy_21
    · refine cj_iconst C (v := (2 : Int32)) dX3_joinedBy_20 rfl ?_
      exact cj_ireturn C hr h dX3_joinedBy_21
/-! X3_joinAbove -/
def fX3_joinAbove_173 (v : Nat) (x5 : Int64) (S : cpS) : Option (Int32 × cpS) :=
    if 0 ≤ (lg_cmp x5 (-1000000 : Int64)) then (
    if (lg_cmp x5 (1000000 : Int64)) ≤ 0 then (
    some ((Int64.toInt32 x5), S)) else (
    some ((1000000 : Int32), S))) else (
    some ((-1000000 : Int32), S))
set_option maxRecDepth 100000 in
set_option maxHeartbeats 4000000 in
theorem wX3_joinAbove_173 (C : cpCx p s m args meth c w A cX3_joinAbove RX3 7) (hr : meth.sig.returnType = (some .int)) {r : Int32 × cpS} {v : Nat} (hv : cpLw v) (x5 : Int64) (S : cpS) (h : fX3_joinAbove_173 v x5 S = some r) : cpJ p l e (cpRm 0) s m args below meth c (MQ below (va_Qi (fun x S' => (x, S') = r) (cpWorld w A) A) args s 0 0 A) w A 7 173 [none, none, none, none, none, some (.long x5), none] [] S := by
  rw [fX3_joinAbove_173] at h
  refine cj_lload C dX3_joinAbove_173 rfl ?_
  refine cj_ldc2 C (v := (-1000000 : Int64)) mw_35_4 dX3_joinAbove_175 ?_
  refine cj_lcmp C dX3_joinAbove_178 ?_
  refine cj_if_ge C (tgt := 185) dX3_joinAbove_179 rfl h (fun _ h => ?_) (fun _ h => ?_)
  · refine cj_lload C dX3_joinAbove_185 rfl ?_
    refine cj_ldc2 C (v := (1000000 : Int64)) mw_35_6 dX3_joinAbove_187 ?_
    refine cj_lcmp C dX3_joinAbove_190 ?_
    refine cj_if_le C (tgt := 199) dX3_joinAbove_191 rfl h (fun _ h => ?_) (fun _ h => ?_)
    · refine cj_lload C dX3_joinAbove_199 rfl ?_
      refine cj_l2i C dX3_joinAbove_201 ?_
      exact cj_ireturn C hr h dX3_joinAbove_202
    · refine cj_ldc C (v := (1000000 : Int32)) mw_35_7 dX3_joinAbove_194 ?_
      refine cj_goto C (tgt := 202) dX3_joinAbove_196 rfl ?_
      exact cj_ireturn C hr h dX3_joinAbove_202
  · refine cj_ldc C (v := (-1000000 : Int32)) mw_35_5 dX3_joinAbove_182 ?_
    exact cj_ireturn C hr h dX3_joinAbove_184
def fX3_joinAbove (v : Nat) (x1 : Int32) (x2 : Int32) (S : cpS) : Option (Int32 × cpS) :=
    if cpIn x1 102 then (
    cpLt (S.1 (v + 2) x1.toNatClampNeg) fun y1 =>
    if cpIn (x1 + (1 : Int32)) 102 then (
    cpLt (S.1 (v + 2) (x1 + (1 : Int32)).toNatClampNeg) fun y2 =>
    if x2 = (2000 : Int32) then (
    cpLt ((Int32.toInt64 y1) + (Int32.toInt64 y2)) fun y3 =>
    fX3_joinAbove_173 v y3 S) else (if x2 = (2001 : Int32) then (
    cpLt ((Int32.toInt64 y1) - (Int32.toInt64 y2)) fun y4 =>
    fX3_joinAbove_173 v y4 S) else (if x2 = (2002 : Int32) then (
    cpLt ((Int32.toInt64 y1) * (Int32.toInt64 y2)) fun y5 =>
    fX3_joinAbove_173 v y5 S) else (if x2 = (2003 : Int32) then (
    if y1 = y2 then (
    some ((1 : Int32), S)) else (
    some ((0 : Int32), S))) else (if x2 = (2004 : Int32) then (
    if y2 ≤ y1 then (
    some ((0 : Int32), S)) else (
    some ((1 : Int32), S))) else (if x2 = (2005 : Int32) then (
    if y1 ≤ y2 then (
    some ((0 : Int32), S)) else (
    some ((1 : Int32), S))) else (if x2 = (2006 : Int32) then (
    some ((y1 &&& y2), S)) else (if x2 = (2007 : Int32) then (
    some ((y1 ||| y2), S)) else (if x2 = (2008 : Int32) then (
    some (((1 : Int32) - y1), S)) else (
    if y1 = 0 then (
    if cpIn (x1 + (2 : Int32)) 102 then (
    some ((S.1 (v + 2) (x1 + (2 : Int32)).toNatClampNeg), S)) else none) else (
    some (y2, S)))))))))))) else none) else none
set_option maxRecDepth 100000 in
set_option maxHeartbeats 4000000 in
theorem m_X3_joinAbove (l : Launch) (w : cpW) (A : Nat → Prop) {v : Nat} (hv : cpLw v) (x1 : Int32) (x2 : Int32) (S : cpS) (r : Int32 × cpS) (h : fX3_joinAbove v x1 x2 S = some r) : cpMi l yX3_joinAbove cX3_joinAbove 7 ((some .int)) 0 w A [.ref (w.2.1 v), .int x1, .int x2] S r := by
  refine cpMi.of (lv := [some (.ref (w.2.1 v)), some (.int x1), some (.int x2), none, none, none, none]) (by decide) (Nat.le_of_ble_eq_true rfl) rfl (fun p e s m args below meth c C hr => ?_)
  replace C : cpCx p s m args meth c w A cX3_joinAbove RX3 7 := C
  rw [fX3_joinAbove] at h
  refine cj_aload_n C (i := 0) dX3_joinAbove_0 rfl rfl ?_
  refine cj_getR C (d := (v + 2)) (cpLw_o0 hv) rfl gfX3_15 dX3_joinAbove_1 ?_
  refine cj_iload_n C (i := 1) dX3_joinAbove_4 rfl rfl ?_
  refine cj_iaload C (cpLw_o2 hv) h dX3_joinAbove_5 (fun h => ?_)
  refine cj_let h (fun y1 h => ?_)
  refine cj_istore_n C (i := 3) (lv' := [some (.ref (w.2.1 v)), some (.int x1), some (.int x2), some (.int y1), none, none, none]) dX3_joinAbove_6 rfl (by decide) rfl rfl ?_
  refine cj_aload_n C (i := 0) dX3_joinAbove_7 rfl rfl ?_
  refine cj_getR C (d := (v + 2)) (cpLw_o0 hv) rfl gfX3_15 dX3_joinAbove_8 ?_
  refine cj_iload_n C (i := 1) dX3_joinAbove_11 rfl rfl ?_
  refine cj_iconst C (v := (1 : Int32)) dX3_joinAbove_12 rfl ?_
  refine cj_iadd C dX3_joinAbove_13 ?_
  refine cj_iaload C (cpLw_o2 hv) h dX3_joinAbove_14 (fun h => ?_)
  refine cj_let h (fun y2 h => ?_)
  refine cj_istore C (lv' := [some (.ref (w.2.1 v)), some (.int x1), some (.int x2), some (.int y1), some (.int y2), none, none]) dX3_joinAbove_15 (by decide) rfl rfl ?_
  refine cj_lconst C (v := (0 : Int64)) dX3_joinAbove_17 rfl ?_
  refine cj_lstore C (lv' := [some (.ref (w.2.1 v)), some (.int x1), some (.int x2), some (.int y1), some (.int y2), some (.long (0 : Int64)), none]) dX3_joinAbove_18 (by decide) rfl rfl ?_
  refine cj_iload_n C (i := 2) dX3_joinAbove_20 rfl rfl ?_
  by_cases hs0 : x2 = (2000 : Int32)
  · rw [if_pos hs0] at h
    refine cj_tableIn C (tgt := 72) dX3_joinAbove_21 (by rw [hs0]; decide) (by rw [hs0]; decide) (by rw [hs0]; rfl) rfl ?_
    refine cj_iload_n C (i := 3) dX3_joinAbove_72 rfl rfl ?_
    refine cj_i2l C dX3_joinAbove_73 ?_
    refine cj_iload C dX3_joinAbove_74 rfl ?_
    refine cj_i2l C dX3_joinAbove_76 ?_
    refine cj_ladd C dX3_joinAbove_77 ?_
    refine cj_letl h (fun y3 h => ?_)
    refine cj_lstore C (lv' := [some (.ref (w.2.1 v)), some (.int x1), some (.int x2), some (.int y1), some (.int y2), some (.long y3), none]) dX3_joinAbove_78 (by decide) rfl rfl ?_
    refine cj_goto C (tgt := 173) dX3_joinAbove_80 rfl ?_
    refine cj_weak C (lv' := [none, none, none, none, none, some (.long y3), none]) (cpSub_n (cpSub_n (cpSub_n (cpSub_n (cpSub_n (cpSub_s (cpSub_n cpSub_nil))))))) ?_
    exact wX3_joinAbove_173 C hr hv y3 S h
  rw [if_neg hs0] at h
  by_cases hs1 : x2 = (2001 : Int32)
  · rw [if_pos hs1] at h
    refine cj_tableIn C (tgt := 83) dX3_joinAbove_21 (by rw [hs1]; decide) (by rw [hs1]; decide) (by rw [hs1]; rfl) rfl ?_
    refine cj_iload_n C (i := 3) dX3_joinAbove_83 rfl rfl ?_
    refine cj_i2l C dX3_joinAbove_84 ?_
    refine cj_iload C dX3_joinAbove_85 rfl ?_
    refine cj_i2l C dX3_joinAbove_87 ?_
    refine cj_lsub C dX3_joinAbove_88 ?_
    refine cj_letl h (fun y4 h => ?_)
    refine cj_lstore C (lv' := [some (.ref (w.2.1 v)), some (.int x1), some (.int x2), some (.int y1), some (.int y2), some (.long y4), none]) dX3_joinAbove_89 (by decide) rfl rfl ?_
    refine cj_goto C (tgt := 173) dX3_joinAbove_91 rfl ?_
    refine cj_weak C (lv' := [none, none, none, none, none, some (.long y4), none]) (cpSub_n (cpSub_n (cpSub_n (cpSub_n (cpSub_n (cpSub_s (cpSub_n cpSub_nil))))))) ?_
    exact wX3_joinAbove_173 C hr hv y4 S h
  rw [if_neg hs1] at h
  by_cases hs2 : x2 = (2002 : Int32)
  · rw [if_pos hs2] at h
    refine cj_tableIn C (tgt := 94) dX3_joinAbove_21 (by rw [hs2]; decide) (by rw [hs2]; decide) (by rw [hs2]; rfl) rfl ?_
    refine cj_iload_n C (i := 3) dX3_joinAbove_94 rfl rfl ?_
    refine cj_i2l C dX3_joinAbove_95 ?_
    refine cj_iload C dX3_joinAbove_96 rfl ?_
    refine cj_i2l C dX3_joinAbove_98 ?_
    refine cj_lmul C dX3_joinAbove_99 ?_
    refine cj_letl h (fun y5 h => ?_)
    refine cj_lstore C (lv' := [some (.ref (w.2.1 v)), some (.int x1), some (.int x2), some (.int y1), some (.int y2), some (.long y5), none]) dX3_joinAbove_100 (by decide) rfl rfl ?_
    refine cj_goto C (tgt := 173) dX3_joinAbove_102 rfl ?_
    refine cj_weak C (lv' := [none, none, none, none, none, some (.long y5), none]) (cpSub_n (cpSub_n (cpSub_n (cpSub_n (cpSub_n (cpSub_s (cpSub_n cpSub_nil))))))) ?_
    exact wX3_joinAbove_173 C hr hv y5 S h
  rw [if_neg hs2] at h
  by_cases hs3 : x2 = (2003 : Int32)
  · rw [if_pos hs3] at h
    refine cj_tableIn C (tgt := 105) dX3_joinAbove_21 (by rw [hs3]; decide) (by rw [hs3]; decide) (by rw [hs3]; rfl) rfl ?_
    refine cj_iload_n C (i := 3) dX3_joinAbove_105 rfl rfl ?_
    refine cj_iload C dX3_joinAbove_106 rfl ?_
    refine cj_icmp_ne C (tgt := 115) dX3_joinAbove_108 rfl h (fun _ h => ?_) (fun _ h => ?_)
    · refine cj_iconst C (v := (1 : Int32)) dX3_joinAbove_111 rfl ?_
      refine cj_goto C (tgt := 116) dX3_joinAbove_112 rfl ?_
      exact cj_ireturn C hr h dX3_joinAbove_116
    · refine cj_iconst C (v := (0 : Int32)) dX3_joinAbove_115 rfl ?_
      exact cj_ireturn C hr h dX3_joinAbove_116
  rw [if_neg hs3] at h
  by_cases hs4 : x2 = (2004 : Int32)
  · rw [if_pos hs4] at h
    refine cj_tableIn C (tgt := 117) dX3_joinAbove_21 (by rw [hs4]; decide) (by rw [hs4]; decide) (by rw [hs4]; rfl) rfl ?_
    refine cj_iload_n C (i := 3) dX3_joinAbove_117 rfl rfl ?_
    refine cj_iload C dX3_joinAbove_118 rfl ?_
    refine cj_icmp_ge C (tgt := 127) dX3_joinAbove_120 rfl h (fun _ h => ?_) (fun _ h => ?_)
    · refine cj_iconst C (v := (0 : Int32)) dX3_joinAbove_127 rfl ?_
      exact cj_ireturn C hr h dX3_joinAbove_128
    · refine cj_iconst C (v := (1 : Int32)) dX3_joinAbove_123 rfl ?_
      refine cj_goto C (tgt := 128) dX3_joinAbove_124 rfl ?_
      exact cj_ireturn C hr h dX3_joinAbove_128
  rw [if_neg hs4] at h
  by_cases hs5 : x2 = (2005 : Int32)
  · rw [if_pos hs5] at h
    refine cj_tableIn C (tgt := 129) dX3_joinAbove_21 (by rw [hs5]; decide) (by rw [hs5]; decide) (by rw [hs5]; rfl) rfl ?_
    refine cj_iload_n C (i := 3) dX3_joinAbove_129 rfl rfl ?_
    refine cj_iload C dX3_joinAbove_130 rfl ?_
    refine cj_icmp_le C (tgt := 139) dX3_joinAbove_132 rfl h (fun _ h => ?_) (fun _ h => ?_)
    · refine cj_iconst C (v := (0 : Int32)) dX3_joinAbove_139 rfl ?_
      exact cj_ireturn C hr h dX3_joinAbove_140
    · refine cj_iconst C (v := (1 : Int32)) dX3_joinAbove_135 rfl ?_
      refine cj_goto C (tgt := 140) dX3_joinAbove_136 rfl ?_
      exact cj_ireturn C hr h dX3_joinAbove_140
  rw [if_neg hs5] at h
  by_cases hs6 : x2 = (2006 : Int32)
  · rw [if_pos hs6] at h
    refine cj_tableIn C (tgt := 141) dX3_joinAbove_21 (by rw [hs6]; decide) (by rw [hs6]; decide) (by rw [hs6]; rfl) rfl ?_
    refine cj_iload_n C (i := 3) dX3_joinAbove_141 rfl rfl ?_
    refine cj_iload C dX3_joinAbove_142 rfl ?_
    refine cj_iand C dX3_joinAbove_144 ?_
    exact cj_ireturn C hr h dX3_joinAbove_145
  rw [if_neg hs6] at h
  by_cases hs7 : x2 = (2007 : Int32)
  · rw [if_pos hs7] at h
    refine cj_tableIn C (tgt := 146) dX3_joinAbove_21 (by rw [hs7]; decide) (by rw [hs7]; decide) (by rw [hs7]; rfl) rfl ?_
    refine cj_iload_n C (i := 3) dX3_joinAbove_146 rfl rfl ?_
    refine cj_iload C dX3_joinAbove_147 rfl ?_
    refine cj_ior C dX3_joinAbove_149 ?_
    exact cj_ireturn C hr h dX3_joinAbove_150
  rw [if_neg hs7] at h
  by_cases hs8 : x2 = (2008 : Int32)
  · rw [if_pos hs8] at h
    refine cj_tableIn C (tgt := 151) dX3_joinAbove_21 (by rw [hs8]; decide) (by rw [hs8]; decide) (by rw [hs8]; rfl) rfl ?_
    refine cj_iconst C (v := (1 : Int32)) dX3_joinAbove_151 rfl ?_
    refine cj_iload_n C (i := 3) dX3_joinAbove_152 rfl rfl ?_
    refine cj_isub C dX3_joinAbove_153 ?_
    exact cj_ireturn C hr h dX3_joinAbove_154
  rw [if_neg hs8] at h
  refine cj_tableOut C (tgt := 155) dX3_joinAbove_21 (cpOut (by decide) (by decide) (fun k h1 h2 => ?_)) rfl ?_
  · rcases (show k = 2000 ∨ k = 2001 ∨ k = 2002 ∨ k = 2003 ∨ k = 2004 ∨ k = 2005 ∨ k = 2006 ∨ k = 2007 ∨ k = 2008 by omega) with rfl | rfl | rfl | rfl | rfl | rfl | rfl | rfl | rfl
    · exact hs0
    · exact hs1
    · exact hs2
    · exact hs3
    · exact hs4
    · exact hs5
    · exact hs6
    · exact hs7
    · exact hs8
  · refine cj_iload_n C (i := 3) dX3_joinAbove_155 rfl rfl ?_
    refine cj_if_eq C (tgt := 164) dX3_joinAbove_156 rfl h (fun _ h => ?_) (fun _ h => ?_)
    · refine cj_aload_n C (i := 0) dX3_joinAbove_164 rfl rfl ?_
      refine cj_getR C (d := (v + 2)) (cpLw_o0 hv) rfl gfX3_15 dX3_joinAbove_165 ?_
      refine cj_iload_n C (i := 1) dX3_joinAbove_168 rfl rfl ?_
      refine cj_iconst C (v := (2 : Int32)) dX3_joinAbove_169 rfl ?_
      refine cj_iadd C dX3_joinAbove_170 ?_
      refine cj_iaload C (cpLw_o2 hv) h dX3_joinAbove_171 (fun h => ?_)
      exact cj_ireturn C hr h dX3_joinAbove_172
    · refine cj_iload C dX3_joinAbove_159 rfl ?_
      refine cj_goto C (tgt := 172) dX3_joinAbove_161 rfl ?_
      exact cj_ireturn C hr h dX3_joinAbove_172
/-! X3_reckon -/
def fX3_reckon_39 (v : Nat) (x4 : Int32) : Nat → Int32 → Int32 → cpS → Option (Int32 × cpS)
  | 0, _, _, _ => none
  | n + 1, x5, x6, S =>
    if x4 ≤ x6 then (
    some ((S.1 (v + 2) 0), S)) else (
    if (900 : Int32) ≤ x6 then (
    some ((S.1 (v + 2) 0), S)) else (
    if (100 : Int32) ≤ x5 then (
    some ((S.1 (v + 2) 0), S)) else (
    if cpIn x6 900 then (
    cpLt (S.1 (v + 1) x6.toNatClampNeg) fun y1 =>
    if (1000 : Int32) ≤ y1 then (
    if (1006 : Int32) ≤ y1 then (
    cpB (fX3_joinedBy y1 S) fun z2 S3 =>
    cpLt (cpMax (0 : Int32) (x5 - z2)) fun y4 =>
    cpB (fX3_joinAbove v y4 y1 S3) fun z5 S6 =>
    if cpIn y4 102 then (
    cpLt (cpI S6 (v + 2) y4.toNatClampNeg z5) fun S7 =>
    fX3_reckon_39 v x4 n (y4 + 1) (x6 + 1) S7) else none) else (
    if cpIn (y1 - (1000 : Int32)) 6 then (
    if cpIn x5 102 then (
    cpLt (cpI S (v + 2) x5.toNatClampNeg (S.1 118 (y1 - (1000 : Int32)).toNatClampNeg)) fun S8 =>
    fX3_reckon_39 v x4 n (x5 + 1) (x6 + 1) S8) else none) else none)) else (
    if cpIn x5 102 then (
    cpLt (cpI S (v + 2) x5.toNatClampNeg y1) fun S9 =>
    fX3_reckon_39 v x4 n (x5 + 1) (x6 + 1) S9) else none)) else none)))
set_option maxRecDepth 100000 in
set_option maxHeartbeats 4000000 in
theorem wX3_reckon_39 (C : cpCx p s m args meth c w A cX3_reckon RX3 8) (hr : meth.sig.returnType = (some .int)) {r : Int32 × cpS} {v : Nat} (hv : cpLw v) (x4 : Int32) : ∀ (n : Nat) (x5 : Int32) (x6 : Int32) (S : cpS), fX3_reckon_39 v x4 n x5 x6 S = some r → cpJ p l e (cpRm 1) s m args below meth c (MQ below (va_Qi (fun x S' => (x, S') = r) (cpWorld w A) A) args s 0 0 A) w A 8 39 [some (.ref (w.2.1 v)), none, some (.ref (w.2.1 118)), none, some (.int x4), some (.int x5), some (.int x6), none] [] S := by
  intro n
  induction n with
  | zero => intro x5 x6 S h; rw [fX3_reckon_39] at h; cases h
  | succ n ih =>
    intro x5 x6 S h
    rw [fX3_reckon_39] at h
    refine cj_iload C dX3_reckon_39 rfl ?_
    refine cj_iload C dX3_reckon_41 rfl ?_
    refine cj_icmp_ge C (tgt := 154) dX3_reckon_43 rfl h (fun _ h => ?_) (fun _ h => ?_)
    · refine cj_aload_n C (i := 0) dX3_reckon_154 rfl rfl ?_
      refine cj_getR C (d := (v + 2)) (cpLw_o0 hv) rfl gfX3_15 dX3_reckon_155 ?_
      refine cj_iconst C (v := (0 : Int32)) dX3_reckon_158 rfl ?_
      refine cj_ialoadC C (j := 0) (cpLw_o2 hv) (by decide) (by decide) dX3_reckon_159 ?_
      exact cj_ireturn C hr h dX3_reckon_160
    · refine cj_iload C dX3_reckon_46 rfl ?_
      refine cj_sipush C (v := (900 : Int32)) dX3_reckon_48 rfl ?_
      refine cj_icmp_ge C (tgt := 154) dX3_reckon_51 rfl h (fun _ h => ?_) (fun _ h => ?_)
      · refine cj_aload_n C (i := 0) dX3_reckon_154 rfl rfl ?_
        refine cj_getR C (d := (v + 2)) (cpLw_o0 hv) rfl gfX3_15 dX3_reckon_155 ?_
        refine cj_iconst C (v := (0 : Int32)) dX3_reckon_158 rfl ?_
        refine cj_ialoadC C (j := 0) (cpLw_o2 hv) (by decide) (by decide) dX3_reckon_159 ?_
        exact cj_ireturn C hr h dX3_reckon_160
      · refine cj_iload C dX3_reckon_54 rfl ?_
        refine cj_bipush C (v := (100 : Int32)) dX3_reckon_56 rfl ?_
        refine cj_icmp_ge C (tgt := 154) dX3_reckon_58 rfl h (fun _ h => ?_) (fun _ h => ?_)
        · refine cj_aload_n C (i := 0) dX3_reckon_154 rfl rfl ?_
          refine cj_getR C (d := (v + 2)) (cpLw_o0 hv) rfl gfX3_15 dX3_reckon_155 ?_
          refine cj_iconst C (v := (0 : Int32)) dX3_reckon_158 rfl ?_
          refine cj_ialoadC C (j := 0) (cpLw_o2 hv) (by decide) (by decide) dX3_reckon_159 ?_
          exact cj_ireturn C hr h dX3_reckon_160
        · refine cj_aload_n C (i := 0) dX3_reckon_61 rfl rfl ?_
          refine cj_getR C (d := (v + 1)) (cpLw_o0 hv) rfl gfX3_9 dX3_reckon_62 ?_
          refine cj_iload C dX3_reckon_65 rfl ?_
          refine cj_iaload C (cpLw_o1 hv) h dX3_reckon_67 (fun h => ?_)
          refine cj_let h (fun y1 h => ?_)
          refine cj_istore C (lv' := [some (.ref (w.2.1 v)), none, some (.ref (w.2.1 118)), none, some (.int x4), some (.int x5), some (.int x6), some (.int y1)]) dX3_reckon_68 (by decide) rfl rfl ?_
          refine cj_iload C dX3_reckon_70 rfl ?_
          refine cj_sipush C (v := (1000 : Int32)) dX3_reckon_72 rfl ?_
          refine cj_icmp_ge C (tgt := 90) dX3_reckon_75 rfl h (fun _ h => ?_) (fun _ h => ?_)
          · refine cj_iload C dX3_reckon_90 rfl ?_
            refine cj_sipush C (v := (1006 : Int32)) dX3_reckon_92 rfl ?_
            refine cj_icmp_ge C (tgt := 116) dX3_reckon_95 rfl h (fun _ h => ?_) (fun _ h => ?_)
            · refine cj_iconst C (v := (0 : Int32)) dX3_reckon_116 rfl ?_
              refine cj_iload C dX3_reckon_117 rfl ?_
              refine cj_iload C dX3_reckon_119 rfl ?_
              refine cj_callSi C (As := [.int y1]) (rest := [.int x5, .int (0 : Int32)]) qX3_joinedBy mw_34_21 rfl rfl (Nat.le_of_ble_eq_true rfl) (by decide) dX3_reckon_121 h (fun _ _ hf => m_X3_joinedBy l w A y1 S _ hf) (fun z2 S3 h => ?_)
              refine cj_isub C dX3_reckon_124 ?_
              refine ck_mmax C mw_34_20 mw_12_13 mw_12_14 mw_12_15 (by decide) (Nat.le_of_ble_eq_true rfl) dX3_reckon_125 ?_
              refine cj_let h (fun y4 h => ?_)
              refine cj_istore C (lv' := [some (.ref (w.2.1 v)), none, some (.ref (w.2.1 118)), none, some (.int x4), some (.int y4), some (.int x6), some (.int y1)]) dX3_reckon_128 (by decide) rfl rfl ?_
              refine cj_aload_n C (i := 0) dX3_reckon_130 rfl rfl ?_
              refine cj_getR C (d := (v + 2)) (cpLw_o0 hv) rfl gfX3_15 dX3_reckon_131 ?_
              refine cj_iload C dX3_reckon_134 rfl ?_
              refine cj_aload_n C (i := 0) dX3_reckon_136 rfl rfl ?_
              refine cj_iload C dX3_reckon_137 rfl ?_
              refine cj_iload C dX3_reckon_139 rfl ?_
              refine cj_callVi C (As := [.int y4, .int y1]) (rest := [.int y4, .ref (w.2.1 (v + 2))]) qX3_joinAbove mw_35_0 (cpLw_o0 hv) rfl rfl rfl (Nat.le_of_ble_eq_true rfl) (by decide) dX3_reckon_141 h (fun _ _ hf => m_X3_joinAbove l w A hv y4 y1 S3 _ hf) (fun z5 S6 h => ?_)
              refine cj_iastore C (cpLw_o2 hv) h dX3_reckon_144 (fun h => ?_)
              refine cj_lets h (fun S7 h => ?_)
              refine cj_iinc C (v := (y4 + 1)) (lv' := [some (.ref (w.2.1 v)), none, some (.ref (w.2.1 118)), none, some (.int x4), some (.int (y4 + 1)), some (.int x6), some (.int y1)]) dX3_reckon_145 rfl rfl (by decide) rfl rfl ?_
              refine cj_iinc C (v := (x6 + 1)) (lv' := [some (.ref (w.2.1 v)), none, some (.ref (w.2.1 118)), none, some (.int x4), some (.int (y4 + 1)), some (.int (x6 + 1)), some (.int y1)]) dX3_reckon_148 rfl rfl (by decide) rfl rfl ?_
              refine cj_goto C (tgt := 39) dX3_reckon_151 rfl ?_
              refine cj_weak C (lv' := [some (.ref (w.2.1 v)), none, some (.ref (w.2.1 118)), none, some (.int x4), some (.int (y4 + 1)), some (.int (x6 + 1)), none]) (cpSub_s (cpSub_n (cpSub_s (cpSub_n (cpSub_s (cpSub_s (cpSub_s (cpSub_n cpSub_nil)))))))) ?_
              exact ih (y4 + 1) (x6 + 1) S7 h
            · refine cj_aload_n C (i := 0) dX3_reckon_98 rfl rfl ?_
              refine cj_getR C (d := (v + 2)) (cpLw_o0 hv) rfl gfX3_15 dX3_reckon_99 ?_
              refine cj_iload C dX3_reckon_102 rfl ?_
              refine cj_aload_n C (i := 2) dX3_reckon_104 rfl rfl ?_
              refine cj_iload C dX3_reckon_105 rfl ?_
              refine cj_sipush C (v := (1000 : Int32)) dX3_reckon_107 rfl ?_
              refine cj_isub C dX3_reckon_110 ?_
              refine cj_iaload C o_118 h dX3_reckon_111 (fun h => ?_)
              refine cj_iastore C (cpLw_o2 hv) h dX3_reckon_112 (fun h => ?_)
              refine cj_lets h (fun S8 h => ?_)
              refine cj_goto C (tgt := 145) dX3_reckon_113 rfl ?_
              refine cj_iinc C (v := (x5 + 1)) (lv' := [some (.ref (w.2.1 v)), none, some (.ref (w.2.1 118)), none, some (.int x4), some (.int (x5 + 1)), some (.int x6), some (.int y1)]) dX3_reckon_145 rfl rfl (by decide) rfl rfl ?_
              refine cj_iinc C (v := (x6 + 1)) (lv' := [some (.ref (w.2.1 v)), none, some (.ref (w.2.1 118)), none, some (.int x4), some (.int (x5 + 1)), some (.int (x6 + 1)), some (.int y1)]) dX3_reckon_148 rfl rfl (by decide) rfl rfl ?_
              refine cj_goto C (tgt := 39) dX3_reckon_151 rfl ?_
              refine cj_weak C (lv' := [some (.ref (w.2.1 v)), none, some (.ref (w.2.1 118)), none, some (.int x4), some (.int (x5 + 1)), some (.int (x6 + 1)), none]) (cpSub_s (cpSub_n (cpSub_s (cpSub_n (cpSub_s (cpSub_s (cpSub_s (cpSub_n cpSub_nil)))))))) ?_
              exact ih (x5 + 1) (x6 + 1) S8 h
          · refine cj_aload_n C (i := 0) dX3_reckon_78 rfl rfl ?_
            refine cj_getR C (d := (v + 2)) (cpLw_o0 hv) rfl gfX3_15 dX3_reckon_79 ?_
            refine cj_iload C dX3_reckon_82 rfl ?_
            refine cj_iload C dX3_reckon_84 rfl ?_
            refine cj_iastore C (cpLw_o2 hv) h dX3_reckon_86 (fun h => ?_)
            refine cj_lets h (fun S9 h => ?_)
            refine cj_goto C (tgt := 145) dX3_reckon_87 rfl ?_
            refine cj_iinc C (v := (x5 + 1)) (lv' := [some (.ref (w.2.1 v)), none, some (.ref (w.2.1 118)), none, some (.int x4), some (.int (x5 + 1)), some (.int x6), some (.int y1)]) dX3_reckon_145 rfl rfl (by decide) rfl rfl ?_
            refine cj_iinc C (v := (x6 + 1)) (lv' := [some (.ref (w.2.1 v)), none, some (.ref (w.2.1 118)), none, some (.int x4), some (.int (x5 + 1)), some (.int (x6 + 1)), some (.int y1)]) dX3_reckon_148 rfl rfl (by decide) rfl rfl ?_
            refine cj_goto C (tgt := 39) dX3_reckon_151 rfl ?_
            refine cj_weak C (lv' := [some (.ref (w.2.1 v)), none, some (.ref (w.2.1 118)), none, some (.int x4), some (.int (x5 + 1)), some (.int (x6 + 1)), none]) (cpSub_s (cpSub_n (cpSub_s (cpSub_n (cpSub_s (cpSub_s (cpSub_s (cpSub_n cpSub_nil)))))))) ?_
            exact ih (x5 + 1) (x6 + 1) S9 h
def fX3_reckon_15 (v : Nat) (x1 : Int32) (s0 : Int32) (S : cpS) : Option (Int32 × cpS) :=
    if x1 = 0 then (
    cpLt (S.1 v 5) fun y1 =>
    fX3_reckon_39 v y1 cpFu (0 : Int32) s0 S) else (
    cpLt (S.1 v 3) fun y2 =>
    fX3_reckon_39 v y2 cpFu (0 : Int32) s0 S)
set_option maxRecDepth 100000 in
set_option maxHeartbeats 4000000 in
theorem wX3_reckon_15 (C : cpCx p s m args meth c w A cX3_reckon RX3 8) (hr : meth.sig.returnType = (some .int)) {r : Int32 × cpS} {v : Nat} (hv : cpLw v) (x1 : Int32) (s0 : Int32) (S : cpS) (h : fX3_reckon_15 v x1 s0 S = some r) : cpJ p l e (cpRm 1) s m args below meth c (MQ below (va_Qi (fun x S' => (x, S') = r) (cpWorld w A) A) args s 0 0 A) w A 8 15 [some (.ref (w.2.1 v)), some (.int x1), some (.ref (w.2.1 118)), none, none, none, none, none] [.int s0] S := by
  rw [fX3_reckon_15] at h
  refine cj_istore_n C (i := 3) (lv' := [some (.ref (w.2.1 v)), some (.int x1), some (.ref (w.2.1 118)), some (.int s0), none, none, none, none]) dX3_reckon_15 rfl (by decide) rfl rfl ?_
  refine cj_iload_n C (i := 1) dX3_reckon_16 rfl rfl ?_
  refine cj_if_eq C (tgt := 27) dX3_reckon_17 rfl h (fun _ h => ?_) (fun _ h => ?_)
  · refine cj_aload_n C (i := 0) dX3_reckon_27 rfl rfl ?_
    refine cj_getI C (j := 5) (cpLw_o0 hv) rfl gfX3_31 dX3_reckon_28 ?_
    refine cj_let h (fun y1 h => ?_)
    refine cj_istore C (lv' := [some (.ref (w.2.1 v)), some (.int x1), some (.ref (w.2.1 118)), some (.int s0), some (.int y1), none, none, none]) dX3_reckon_31 (by decide) rfl rfl ?_
    refine cj_iconst C (v := (0 : Int32)) dX3_reckon_33 rfl ?_
    refine cj_istore C (lv' := [some (.ref (w.2.1 v)), some (.int x1), some (.ref (w.2.1 118)), some (.int s0), some (.int y1), some (.int (0 : Int32)), none, none]) dX3_reckon_34 (by decide) rfl rfl ?_
    refine cj_iload_n C (i := 3) dX3_reckon_36 rfl rfl ?_
    refine cj_istore C (lv' := [some (.ref (w.2.1 v)), some (.int x1), some (.ref (w.2.1 118)), some (.int s0), some (.int y1), some (.int (0 : Int32)), some (.int s0), none]) dX3_reckon_37 (by decide) rfl rfl ?_
    refine cj_weak C (lv' := [some (.ref (w.2.1 v)), none, some (.ref (w.2.1 118)), none, some (.int y1), some (.int (0 : Int32)), some (.int s0), none]) (cpSub_s (cpSub_n (cpSub_s (cpSub_n (cpSub_s (cpSub_s (cpSub_s (cpSub_n cpSub_nil)))))))) ?_
    exact wX3_reckon_39 C hr hv y1 cpFu (0 : Int32) s0 S h
  · refine cj_aload_n C (i := 0) dX3_reckon_20 rfl rfl ?_
    refine cj_getI C (j := 3) (cpLw_o0 hv) rfl gfX3_25 dX3_reckon_21 ?_
    refine cj_goto C (tgt := 31) dX3_reckon_24 rfl ?_
    refine cj_let h (fun y2 h => ?_)
    refine cj_istore C (lv' := [some (.ref (w.2.1 v)), some (.int x1), some (.ref (w.2.1 118)), some (.int s0), some (.int y2), none, none, none]) dX3_reckon_31 (by decide) rfl rfl ?_
    refine cj_iconst C (v := (0 : Int32)) dX3_reckon_33 rfl ?_
    refine cj_istore C (lv' := [some (.ref (w.2.1 v)), some (.int x1), some (.ref (w.2.1 118)), some (.int s0), some (.int y2), some (.int (0 : Int32)), none, none]) dX3_reckon_34 (by decide) rfl rfl ?_
    refine cj_iload_n C (i := 3) dX3_reckon_36 rfl rfl ?_
    refine cj_istore C (lv' := [some (.ref (w.2.1 v)), some (.int x1), some (.ref (w.2.1 118)), some (.int s0), some (.int y2), some (.int (0 : Int32)), some (.int s0), none]) dX3_reckon_37 (by decide) rfl rfl ?_
    refine cj_weak C (lv' := [some (.ref (w.2.1 v)), none, some (.ref (w.2.1 118)), none, some (.int y2), some (.int (0 : Int32)), some (.int s0), none]) (cpSub_s (cpSub_n (cpSub_s (cpSub_n (cpSub_s (cpSub_s (cpSub_s (cpSub_n cpSub_nil)))))))) ?_
    exact wX3_reckon_39 C hr hv y2 cpFu (0 : Int32) s0 S h
def fX3_reckon (v : Nat) (x1 : Int32) (S : cpS) : Option (Int32 × cpS) :=
    if x1 = 0 then (
    fX3_reckon_15 v x1 (S.1 v 4) S) else (
    fX3_reckon_15 v x1 (S.1 v 2) S)
set_option maxRecDepth 100000 in
set_option maxHeartbeats 4000000 in
theorem m_X3_reckon (l : Launch) (w : cpW) (A : Nat → Prop) {v : Nat} (hv : cpLw v) (x1 : Int32) (S : cpS) (r : Int32 × cpS) (h : fX3_reckon v x1 S = some r) : cpMi l yX3_reckon cX3_reckon 8 ((some .int)) 1 w A [.ref (w.2.1 v), .int x1, .ref (w.2.1 118)] S r := by
  refine cpMi.of (lv := [some (.ref (w.2.1 v)), some (.int x1), some (.ref (w.2.1 118)), none, none, none, none, none]) (by decide) (Nat.le_of_ble_eq_true rfl) rfl (fun p e s m args below meth c C hr => ?_)
  replace C : cpCx p s m args meth c w A cX3_reckon RX3 8 := C
  rw [fX3_reckon] at h
  refine cj_iload_n C (i := 1) dX3_reckon_0 rfl rfl ?_
  refine cj_if_eq C (tgt := 11) dX3_reckon_1 rfl h (fun _ h => ?_) (fun _ h => ?_)
  · refine cj_aload_n C (i := 0) dX3_reckon_11 rfl rfl ?_
    refine cj_getI C (j := 4) (cpLw_o0 hv) rfl gfX3_28 dX3_reckon_12 ?_
    exact wX3_reckon_15 C hr hv x1 (S.1 v 4) S h
  · refine cj_aload_n C (i := 0) dX3_reckon_4 rfl rfl ?_
    refine cj_getI C (j := 2) (cpLw_o0 hv) rfl gfX3_21 dX3_reckon_5 ?_
    refine cj_goto C (tgt := 15) dX3_reckon_8 rfl ?_
    exact wX3_reckon_15 C hr hv x1 (S.1 v 2) S h
/-! X0_roadTaken -/
def fX0_roadTaken_46 (x4 : Int32) (x5 : Int32) : Nat → Int32 → cpS → Option (Int32 × cpS)
  | 0, _, _ => none
  | n + 1, x7, S =>
    if (S.1 1 3) ≤ x7 then (
    some ((-4 : Int32), S)) else (
    cpB (fX10_joins 1 x7 x4 x5 S) fun z1 S2 =>
    if z1 = 0 then (
    fX0_roadTaken_46 x4 x5 n (x7 + 1) S2) else (
    if cpIn x7 9 then (
    cpLt (cpI S2 118 3 (S2.1 4 x7.toNatClampNeg)) fun S3 =>
    cpB (fX3_reckon 12 (1 : Int32) S3) fun z4 S5 =>
    if z4 = 0 then (
    fX0_roadTaken_46 x4 x5 n (x7 + 1) S5) else (
    some (x7, S5))) else none))
set_option maxRecDepth 100000 in
set_option maxHeartbeats 4000000 in
theorem wX0_roadTaken_46 (C : cpCx p s m args meth c w A cX0_roadTaken RX0 8) (hr : meth.sig.returnType = (some .int)) {r : Int32 × cpS} (x4 : Int32) (x5 : Int32) : ∀ (n : Nat) (x7 : Int32) (S : cpS), fX0_roadTaken_46 x4 x5 n x7 S = some r → cpJ p l e (cpRm 2) s m args below meth c (MQ below (va_Qi (fun x S' => (x, S') = r) (cpWorld w A) A) args s 0 0 A) w A 8 46 [some (.ref (w.2.1 117)), none, none, none, some (.int x4), some (.int x5), none, some (.int x7)] [] S := by
  intro n
  induction n with
  | zero => intro x7 S h; rw [fX0_roadTaken_46] at h; cases h
  | succ n ih =>
    intro x7 S h
    rw [fX0_roadTaken_46] at h
    refine cj_iload C dX0_roadTaken_46 rfl ?_
    refine cj_aload_n C (i := 0) dX0_roadTaken_48 rfl rfl ?_
    refine cj_getR C (d := 1) o_117 rfl gfX0_17 dX0_roadTaken_49 ?_
    refine cj_getI C (j := 3) o_1 rfl gfX0_77 dX0_roadTaken_52 ?_
    refine cj_icmp_ge C (tgt := 117) dX0_roadTaken_55 rfl h (fun _ h => ?_) (fun _ h => ?_)
    · refine cj_bipush C (v := (-4 : Int32)) dX0_roadTaken_117 rfl ?_
      exact cj_ireturn C hr h dX0_roadTaken_119
    · refine cj_aload_n C (i := 0) dX0_roadTaken_58 rfl rfl ?_
      refine cj_getR C (d := 1) o_117 rfl gfX0_17 dX0_roadTaken_59 ?_
      refine cj_iload C dX0_roadTaken_62 rfl ?_
      refine cj_iload C dX0_roadTaken_64 rfl ?_
      refine cj_iload C dX0_roadTaken_66 rfl ?_
      refine cj_callVi C (As := [.int x7, .int x4, .int x5]) (rest := []) qX10_joins mw_34_15 o_1 rfl rfl rfl (Nat.le_of_ble_eq_true rfl) (by decide) dX0_roadTaken_68 h (fun _ _ hf => m_X10_joins l w A kVy_1 x7 x4 x5 S _ hf) (fun z1 S2 h => ?_)
      refine cj_if_eq C (tgt := 111) dX0_roadTaken_71 rfl h (fun _ h => ?_) (fun _ h => ?_)
      · refine cj_iinc C (v := (x7 + 1)) (lv' := [some (.ref (w.2.1 117)), none, none, none, some (.int x4), some (.int x5), none, some (.int (x7 + 1))]) dX0_roadTaken_111 rfl rfl (by decide) rfl rfl ?_
        refine cj_goto C (tgt := 46) dX0_roadTaken_114 rfl ?_
        exact ih (x7 + 1) S2 h
      · refine cj_aload_n C (i := 0) dX0_roadTaken_74 rfl rfl ?_
        refine cj_getR C (d := 118) o_117 rfl gfX0_11 dX0_roadTaken_75 ?_
        refine cj_iconst C (v := (3 : Int32)) dX0_roadTaken_78 rfl ?_
        refine cj_aload_n C (i := 0) dX0_roadTaken_79 rfl rfl ?_
        refine cj_getR C (d := 1) o_117 rfl gfX0_17 dX0_roadTaken_80 ?_
        refine cj_getR C (d := 4) o_1 rfl gfX0_85 dX0_roadTaken_83 ?_
        refine cj_iload C dX0_roadTaken_86 rfl ?_
        refine cj_iaload C o_4 h dX0_roadTaken_88 (fun h => ?_)
        refine cj_iastoreC C (j := 3) o_118 (by decide) (by decide) dX0_roadTaken_89 ?_
        refine cj_lets h (fun S3 h => ?_)
        refine cj_aload_n C (i := 0) dX0_roadTaken_90 rfl rfl ?_
        refine cj_getR C (d := 1) o_117 rfl gfX0_17 dX0_roadTaken_91 ?_
        refine cj_getR C (d := 12) o_1 rfl gfX0_50 dX0_roadTaken_94 ?_
        refine cj_iconst C (v := (1 : Int32)) dX0_roadTaken_97 rfl ?_
        refine cj_aload_n C (i := 0) dX0_roadTaken_98 rfl rfl ?_
        refine cj_getR C (d := 118) o_117 rfl gfX0_11 dX0_roadTaken_99 ?_
        refine cj_callVi C (As := [.int (1 : Int32), .ref (w.2.1 118)]) (rest := []) qX3_reckon mw_34_16 o_12 rfl rfl rfl (Nat.le_of_ble_eq_true rfl) (by decide) dX0_roadTaken_102 h (fun _ _ hf => m_X3_reckon l w A kLw_12 (1 : Int32) S3 _ hf) (fun z4 S5 h => ?_)
        refine cj_if_eq C (tgt := 111) dX0_roadTaken_105 rfl h (fun _ h => ?_) (fun _ h => ?_)
        · refine cj_iinc C (v := (x7 + 1)) (lv' := [some (.ref (w.2.1 117)), none, none, none, some (.int x4), some (.int x5), none, some (.int (x7 + 1))]) dX0_roadTaken_111 rfl rfl (by decide) rfl rfl ?_
          refine cj_goto C (tgt := 46) dX0_roadTaken_114 rfl ?_
          exact ih (x7 + 1) S5 h
        · refine cj_iload C dX0_roadTaken_108 rfl ?_
          exact cj_ireturn C hr h dX0_roadTaken_110
def fX0_roadTaken (x1 : Int32) (x2 : Int32) (x3 : Int32) (x4 : Int32) (x5 : Int32) (x6 : Int32) (S : cpS) : Option (Int32 × cpS) :=
    cpB (fX10_joined 1 x4 x5 S) fun z1 S2 =>
    if z1 = 0 then (
    some ((-2 : Int32), S2)) else (
    cpB (fX5_feuding 57 x1 x2 S2) fun z3 S4 =>
    if z3 = 0 then (
    cpB (fX0_face x1 x2 x3 x4 x6 S4) fun _ S6 =>
    fX0_roadTaken_46 x4 x5 cpFu (0 : Int32) S6) else (
    some ((-3 : Int32), S4)))
set_option maxRecDepth 100000 in
set_option maxHeartbeats 4000000 in
theorem m_X0_roadTaken (l : Launch) (w : cpW) (A : Nat → Prop) (x1 : Int32) (x2 : Int32) (x3 : Int32) (x4 : Int32) (x5 : Int32) (x6 : Int32) (S : cpS) (r : Int32 × cpS) (h : fX0_roadTaken x1 x2 x3 x4 x5 x6 S = some r) : cpMi l yX0_roadTaken cX0_roadTaken 8 ((some .int)) 2 w A [.ref (w.2.1 117), .int x1, .int x2, .int x3, .int x4, .int x5, .int x6] S r := by
  refine cpMi.of (lv := [some (.ref (w.2.1 117)), some (.int x1), some (.int x2), some (.int x3), some (.int x4), some (.int x5), some (.int x6), none]) (by decide) (Nat.le_of_ble_eq_true rfl) rfl (fun p e s m args below meth c C hr => ?_)
  replace C : cpCx p s m args meth c w A cX0_roadTaken RX0 8 := C
  rw [fX0_roadTaken] at h
  refine cj_aload_n C (i := 0) dX0_roadTaken_0 rfl rfl ?_
  refine cj_getR C (d := 1) o_117 rfl gfX0_17 dX0_roadTaken_1 ?_
  refine cj_iload C dX0_roadTaken_4 rfl ?_
  refine cj_iload C dX0_roadTaken_6 rfl ?_
  refine cj_callVi C (As := [.int x4, .int x5]) (rest := []) qX10_joined mw_33_17 o_1 rfl rfl rfl (Nat.le_of_ble_eq_true rfl) (by decide) dX0_roadTaken_8 h (fun _ _ hf => m_X10_joined l w A kVy_1 x4 x5 S _ hf) (fun z1 S2 h => ?_)
  refine cj_if_ne C (tgt := 17) dX0_roadTaken_11 rfl h (fun _ h => ?_) (fun _ h => ?_)
  · refine cj_bipush C (v := (-2 : Int32)) dX0_roadTaken_14 rfl ?_
    exact cj_ireturn C hr h dX0_roadTaken_16
  · refine cj_aload_n C (i := 0) dX0_roadTaken_17 rfl rfl ?_
    refine cj_getR C (d := 57) o_117 rfl gfX0_21 dX0_roadTaken_18 ?_
    refine cj_iload_n C (i := 1) dX0_roadTaken_21 rfl rfl ?_
    refine cj_iload_n C (i := 2) dX0_roadTaken_22 rfl rfl ?_
    refine cj_callVi C (As := [.int x1, .int x2]) (rest := []) qX5_feuding mw_34_1 o_57 rfl rfl rfl (Nat.le_of_ble_eq_true rfl) (by decide) dX0_roadTaken_23 h (fun _ _ hf => m_X5_feuding l w A kNw_57 x1 x2 S2 _ hf) (fun z3 S4 h => ?_)
    refine cj_if_eq C (tgt := 32) dX0_roadTaken_26 rfl h (fun _ h => ?_) (fun _ h => ?_)
    · refine cj_aload_n C (i := 0) dX0_roadTaken_32 rfl rfl ?_
      refine cj_iload_n C (i := 1) dX0_roadTaken_33 rfl rfl ?_
      refine cj_iload_n C (i := 2) dX0_roadTaken_34 rfl rfl ?_
      refine cj_iload_n C (i := 3) dX0_roadTaken_35 rfl rfl ?_
      refine cj_iload C dX0_roadTaken_36 rfl ?_
      refine cj_iload C dX0_roadTaken_38 rfl ?_
      refine cj_callVv C (As := [.int x1, .int x2, .int x3, .int x4, .int x6]) (rest := []) qX0_face mw_34_7 o_117 rfl rfl rfl (Nat.le_of_ble_eq_true rfl) (by decide) dX0_roadTaken_40 h (fun _ _ hf => m_X0_face l w A x1 x2 x3 x4 x6 S4 _ hf) (fun z5 S6 h => ?_)
      refine cj_iconst C (v := (0 : Int32)) dX0_roadTaken_43 rfl ?_
      refine cj_istore C (lv' := [some (.ref (w.2.1 117)), some (.int x1), some (.int x2), some (.int x3), some (.int x4), some (.int x5), some (.int x6), some (.int (0 : Int32))]) dX0_roadTaken_44 (by decide) rfl rfl ?_
      refine cj_weak C (lv' := [some (.ref (w.2.1 117)), none, none, none, some (.int x4), some (.int x5), none, some (.int (0 : Int32))]) (cpSub_s (cpSub_n (cpSub_n (cpSub_n (cpSub_s (cpSub_s (cpSub_n (cpSub_s cpSub_nil)))))))) ?_
      exact wX0_roadTaken_46 C hr x4 x5 cpFu (0 : Int32) S6 h
    · refine cj_bipush C (v := (-3 : Int32)) dX0_roadTaken_29 rfl ?_
      exact cj_ireturn C hr h dX0_roadTaken_31
/-! X0_wearFrom -/
def fX0_wearFrom (x1 : Int32) (x2 : Int32) (x3 : Int32) (x4 : Int32) (x5 : Int32) (x6 : Int32) (S : cpS) : Option (Int32 × cpS) :=
    cpB (fX0_roadTaken x1 x2 x3 x4 x5 x6 S) fun z1 S2 =>
    if 0 ≤ z1 then (
    cpB (fX3_reckon 12 (0 : Int32) S2) fun z3 S4 =>
    some ((cpMax (0 : Int32) (cpMin (9 : Int32) z3)), S4)) else (
    some (z1, S2))
set_option maxRecDepth 100000 in
set_option maxHeartbeats 4000000 in
theorem m_X0_wearFrom (l : Launch) (w : cpW) (A : Nat → Prop) (x1 : Int32) (x2 : Int32) (x3 : Int32) (x4 : Int32) (x5 : Int32) (x6 : Int32) (S : cpS) (r : Int32 × cpS) (h : fX0_wearFrom x1 x2 x3 x4 x5 x6 S = some r) : cpMi l yX0_wearFrom cX0_wearFrom 8 ((some .int)) 3 w A [.ref (w.2.1 117), .int x1, .int x2, .int x3, .int x4, .int x5, .int x6] S r := by
  refine cpMi.of (lv := [some (.ref (w.2.1 117)), some (.int x1), some (.int x2), some (.int x3), some (.int x4), some (.int x5), some (.int x6), none]) (by decide) (Nat.le_of_ble_eq_true rfl) rfl (fun p e s m args below meth c C hr => ?_)
  replace C : cpCx p s m args meth c w A cX0_wearFrom RX0 8 := C
  rw [fX0_wearFrom] at h
  refine cj_aload_n C (i := 0) dX0_wearFrom_0 rfl rfl ?_
  refine cj_iload_n C (i := 1) dX0_wearFrom_1 rfl rfl ?_
  refine cj_iload_n C (i := 2) dX0_wearFrom_2 rfl rfl ?_
  refine cj_iload_n C (i := 3) dX0_wearFrom_3 rfl rfl ?_
  refine cj_iload C dX0_wearFrom_4 rfl ?_
  refine cj_iload C dX0_wearFrom_6 rfl ?_
  refine cj_iload C dX0_wearFrom_8 rfl ?_
  refine cj_callVi C (As := [.int x1, .int x2, .int x3, .int x4, .int x5, .int x6]) (rest := []) qX0_roadTaken mw_33_11 o_117 rfl rfl rfl (Nat.le_of_ble_eq_true rfl) (by decide) dX0_wearFrom_10 h (fun _ _ hf => m_X0_roadTaken l w A x1 x2 x3 x4 x5 x6 S _ hf) (fun z1 S2 h => ?_)
  refine cj_istore C (lv' := [some (.ref (w.2.1 117)), some (.int x1), some (.int x2), some (.int x3), some (.int x4), some (.int x5), some (.int x6), some (.int z1)]) dX0_wearFrom_13 (by decide) rfl rfl ?_
  refine cj_iload C dX0_wearFrom_15 rfl ?_
  refine cj_if_ge C (tgt := 23) dX0_wearFrom_17 rfl h (fun _ h => ?_) (fun _ h => ?_)
  · refine cj_iconst C (v := (0 : Int32)) dX0_wearFrom_23 rfl ?_
    refine cj_bipush C (v := (9 : Int32)) dX0_wearFrom_24 rfl ?_
    refine cj_aload_n C (i := 0) dX0_wearFrom_26 rfl rfl ?_
    refine cj_getR C (d := 1) o_117 rfl gfX0_17 dX0_wearFrom_27 ?_
    refine cj_getR C (d := 12) o_1 rfl gfX0_50 dX0_wearFrom_30 ?_
    refine cj_iconst C (v := (0 : Int32)) dX0_wearFrom_33 rfl ?_
    refine cj_aload_n C (i := 0) dX0_wearFrom_34 rfl rfl ?_
    refine cj_getR C (d := 118) o_117 rfl gfX0_11 dX0_wearFrom_35 ?_
    refine cj_callVi C (As := [.int (0 : Int32), .ref (w.2.1 118)]) (rest := [.int (9 : Int32), .int (0 : Int32)]) qX3_reckon mw_34_16 o_12 rfl rfl rfl (Nat.le_of_ble_eq_true rfl) (by decide) dX0_wearFrom_38 h (fun _ _ hf => m_X3_reckon l w A kLw_12 (0 : Int32) S2 _ hf) (fun z3 S4 h => ?_)
    refine ck_mmin C mw_33_9 mw_12_17 mw_12_14 mw_12_18 (by decide) (Nat.le_of_ble_eq_true rfl) dX0_wearFrom_41 ?_
    refine ck_mmax C mw_33_10 mw_12_13 mw_12_14 mw_12_15 (by decide) (Nat.le_of_ble_eq_true rfl) dX0_wearFrom_44 ?_
    exact cj_ireturn C hr h dX0_wearFrom_47
  · refine cj_iload C dX0_wearFrom_20 rfl ?_
    exact cj_ireturn C hr h dX0_wearFrom_22
/-! X0_wearAt -/
def fX0_wearAt (x1 : Int32) (x2 : Int32) (x3 : Int32) (x4 : Int32) (x5 : Int32) (S : cpS) : Option (Int32 × cpS) :=
    cpB (fX0_areTwo x1 x2 S) fun z1 S2 =>
    if z1 = 0 then (
    some ((-1 : Int32), S2)) else (
    cpB (fX10_hasCoin 1 x3 S2) fun z3 S4 =>
    if z3 = 0 then (
    some ((-1 : Int32), S4)) else (
    cpB (fX10_hasPlace 1 x4 S4) fun z5 S6 =>
    if z5 = 0 then (
    some ((-1 : Int32), S6)) else (
    if cpIn x3 4 then (
    cpB (fX0_wearFrom x1 x2 x3 (S6.1 58 x3.toNatClampNeg) x4 x5 S6) fun z7 S8 =>
    some (z7, S8)) else none)))
set_option maxRecDepth 100000 in
set_option maxHeartbeats 4000000 in
theorem m_X0_wearAt (l : Launch) (w : cpW) (A : Nat → Prop) (x1 : Int32) (x2 : Int32) (x3 : Int32) (x4 : Int32) (x5 : Int32) (S : cpS) (r : Int32 × cpS) (h : fX0_wearAt x1 x2 x3 x4 x5 S = some r) : cpMi l yX0_wearAt cX0_wearAt 6 ((some .int)) 4 w A [.ref (w.2.1 117), .int x1, .int x2, .int x3, .int x4, .int x5] S r := by
  refine cpMi.of (lv := [some (.ref (w.2.1 117)), some (.int x1), some (.int x2), some (.int x3), some (.int x4), some (.int x5)]) (by decide) (Nat.le_of_ble_eq_true rfl) rfl (fun p e s m args below meth c C hr => ?_)
  replace C : cpCx p s m args meth c w A cX0_wearAt RX0 6 := C
  rw [fX0_wearAt] at h
  refine cj_aload_n C (i := 0) dX0_wearAt_0 rfl rfl ?_
  refine cj_iload_n C (i := 1) dX0_wearAt_1 rfl rfl ?_
  refine cj_iload_n C (i := 2) dX0_wearAt_2 rfl rfl ?_
  refine cj_callVi C (As := [.int x1, .int x2]) (rest := []) qX0_areTwo mw_32_21 o_117 rfl rfl rfl (Nat.le_of_ble_eq_true rfl) (by decide) dX0_wearAt_3 h (fun _ _ hf => m_X0_areTwo l w A x1 x2 S _ hf) (fun z1 S2 h => ?_)
  refine cj_if_eq C (tgt := 32) dX0_wearAt_6 rfl h (fun _ h => ?_) (fun _ h => ?_)
  · refine cj_iconst C (v := (-1 : Int32)) dX0_wearAt_32 rfl ?_
    exact cj_ireturn C hr h dX0_wearAt_33
  · refine cj_aload_n C (i := 0) dX0_wearAt_9 rfl rfl ?_
    refine cj_getR C (d := 1) o_117 rfl gfX0_17 dX0_wearAt_10 ?_
    refine cj_iload_n C (i := 3) dX0_wearAt_13 rfl rfl ?_
    refine cj_callVi C (As := [.int x3]) (rest := []) qX10_hasCoin mw_33_2 o_1 rfl rfl rfl (Nat.le_of_ble_eq_true rfl) (by decide) dX0_wearAt_14 h (fun _ _ hf => m_X10_hasCoin l w A kVy_1 x3 S2 _ hf) (fun z3 S4 h => ?_)
    refine cj_if_eq C (tgt := 32) dX0_wearAt_17 rfl h (fun _ h => ?_) (fun _ h => ?_)
    · refine cj_iconst C (v := (-1 : Int32)) dX0_wearAt_32 rfl ?_
      exact cj_ireturn C hr h dX0_wearAt_33
    · refine cj_aload_n C (i := 0) dX0_wearAt_20 rfl rfl ?_
      refine cj_getR C (d := 1) o_117 rfl gfX0_17 dX0_wearAt_21 ?_
      refine cj_iload C dX0_wearAt_24 rfl ?_
      refine cj_callVi C (As := [.int x4]) (rest := []) qX10_hasPlace mw_33_3 o_1 rfl rfl rfl (Nat.le_of_ble_eq_true rfl) (by decide) dX0_wearAt_26 h (fun _ _ hf => m_X10_hasPlace l w A kVy_1 x4 S4 _ hf) (fun z5 S6 h => ?_)
      refine cj_if_ne C (tgt := 34) dX0_wearAt_29 rfl h (fun _ h => ?_) (fun _ h => ?_)
      · refine cj_iconst C (v := (-1 : Int32)) dX0_wearAt_32 rfl ?_
        exact cj_ireturn C hr h dX0_wearAt_33
      · refine cj_aload_n C (i := 0) dX0_wearAt_34 rfl rfl ?_
        refine cj_iload_n C (i := 1) dX0_wearAt_35 rfl rfl ?_
        refine cj_iload_n C (i := 2) dX0_wearAt_36 rfl rfl ?_
        refine cj_iload_n C (i := 3) dX0_wearAt_37 rfl rfl ?_
        refine cj_aload_n C (i := 0) dX0_wearAt_38 rfl rfl ?_
        refine cj_getR C (d := 57) o_117 rfl gfX0_21 dX0_wearAt_39 ?_
        refine cj_getR C (d := 58) o_57 rfl gfX0_38 dX0_wearAt_42 ?_
        refine cj_iload_n C (i := 3) dX0_wearAt_45 rfl rfl ?_
        refine cj_iaload C o_58 h dX0_wearAt_46 (fun h => ?_)
        refine cj_iload C dX0_wearAt_47 rfl ?_
        refine cj_iload C dX0_wearAt_49 rfl ?_
        refine cj_callVi C (As := [.int x1, .int x2, .int x3, .int (S6.1 58 x3.toNatClampNeg), .int x4, .int x5]) (rest := []) qX0_wearFrom mw_33_4 o_117 rfl rfl rfl (Nat.le_of_ble_eq_true rfl) (by decide) dX0_wearAt_51 h (fun _ _ hf => m_X0_wearFrom l w A x1 x2 x3 (S6.1 58 x3.toNatClampNeg) x4 x5 S6 _ hf) (fun z7 S8 h => ?_)
        exact cj_ireturn C hr h dX0_wearAt_54
/-! X0_someMayOn -/
def fX0_someMayOn_3 (x1 : Int32) (x2 : Int32) (x3 : Int32) : Nat → Int32 → cpS → Option (Int32 × cpS)
  | 0, _, _ => none
  | n + 1, x4, S =>
    if (28 : Int32) ≤ x4 then (
    some ((0 : Int32), S)) else (
    if cpIn x4 28 then (
    cpLt (cpLs x4.toNatClampNeg) fun y1 =>
    if cpIn x4 28 then (
    cpLt (cpOs x4.toNatClampNeg) fun y2 =>
    cpB (fX10_hasPerson 1 y2 S) fun z3 S4 =>
    if z3 = 0 then (
    fX0_someMayOn_3 x1 x2 x3 n (x4 + 1) S4) else (
    cpB (fX5_feuding 57 y1 y2 S4) fun z5 S6 =>
    if z5 = 0 then (
    cpB (fX0_face y1 y2 x1 x2 (S6.1 57 3) S6) fun _ S8 =>
    if cpIn x3 9 then (
    cpLt (cpI S8 118 3 (S8.1 4 x3.toNatClampNeg)) fun S9 =>
    cpB (fX3_reckon 12 (1 : Int32) S9) fun z10 S11 =>
    if z10 = 0 then (
    fX0_someMayOn_3 x1 x2 x3 n (x4 + 1) S11) else (
    some ((1 : Int32), S11))) else none) else (
    fX0_someMayOn_3 x1 x2 x3 n (x4 + 1) S6))) else none) else none)
set_option maxRecDepth 100000 in
set_option maxHeartbeats 4000000 in
theorem wX0_someMayOn_3 (C : cpCx p s m args meth c w A cX0_someMayOn RX0 7) (hr : meth.sig.returnType = (some .boolean)) {r : Int32 × cpS} (x1 : Int32) (x2 : Int32) (x3 : Int32) : ∀ (n : Nat) (x4 : Int32) (S : cpS), fX0_someMayOn_3 x1 x2 x3 n x4 S = some r → cpJ p l e (cpRm 2) s m args below meth c (MQ below (va_Qi (fun x S' => (x, S') = r) (cpWorld w A) A) args s 0 0 A) w A 7 3 [some (.ref (w.2.1 117)), some (.int x1), some (.int x2), some (.int x3), some (.int x4), none, none] [] S := by
  intro n
  induction n with
  | zero => intro x4 S h; rw [fX0_someMayOn_3] at h; cases h
  | succ n ih =>
    intro x4 S h
    rw [fX0_someMayOn_3] at h
    refine cj_iload C dX0_someMayOn_3 rfl ?_
    refine cj_bipush C (v := (28 : Int32)) dX0_someMayOn_5 rfl ?_
    refine cj_icmp_ge C (tgt := 110) dX0_someMayOn_7 rfl h (fun _ h => ?_) (fun _ h => ?_)
    · refine cj_iconst C (v := (0 : Int32)) dX0_someMayOn_110 rfl ?_
      exact cj_zreturn C hr rfl h dX0_someMayOn_111
    · refine cj_getsN0 C (List.mem_of_getElem? (i := 5) rfl) dX0_someMayOn_10 ?_
      refine cj_iload C dX0_someMayOn_13 rfl ?_
      refine cj_tab0 C h dX0_someMayOn_15 (fun h => ?_)
      refine cj_let h (fun y1 h => ?_)
      refine cj_istore C (lv' := [some (.ref (w.2.1 117)), some (.int x1), some (.int x2), some (.int x3), some (.int x4), some (.int y1), none]) dX0_someMayOn_16 (by decide) rfl rfl ?_
      refine cj_getsN1 C (List.mem_of_getElem? (i := 4) rfl) dX0_someMayOn_18 ?_
      refine cj_iload C dX0_someMayOn_21 rfl ?_
      refine cj_tab1 C h dX0_someMayOn_23 (fun h => ?_)
      refine cj_let h (fun y2 h => ?_)
      refine cj_istore C (lv' := [some (.ref (w.2.1 117)), some (.int x1), some (.int x2), some (.int x3), some (.int x4), some (.int y1), some (.int y2)]) dX0_someMayOn_24 (by decide) rfl rfl ?_
      refine cj_aload_n C (i := 0) dX0_someMayOn_26 rfl rfl ?_
      refine cj_getR C (d := 1) o_117 rfl gfX0_17 dX0_someMayOn_27 ?_
      refine cj_iload C dX0_someMayOn_30 rfl ?_
      refine cj_callVi C (As := [.int y2]) (rest := []) qX10_hasPerson mw_33_1 o_1 rfl rfl rfl (Nat.le_of_ble_eq_true rfl) (by decide) dX0_someMayOn_32 h (fun _ _ hf => m_X10_hasPerson l w A kVy_1 y2 S _ hf) (fun z3 S4 h => ?_)
      refine cj_if_eq C (tgt := 104) dX0_someMayOn_35 rfl h (fun _ h => ?_) (fun _ h => ?_)
      · refine cj_iinc C (v := (x4 + 1)) (lv' := [some (.ref (w.2.1 117)), some (.int x1), some (.int x2), some (.int x3), some (.int (x4 + 1)), some (.int y1), some (.int y2)]) dX0_someMayOn_104 rfl rfl (by decide) rfl rfl ?_
        refine cj_goto C (tgt := 3) dX0_someMayOn_107 rfl ?_
        refine cj_weak C (lv' := [some (.ref (w.2.1 117)), some (.int x1), some (.int x2), some (.int x3), some (.int (x4 + 1)), none, none]) (cpSub_s (cpSub_s (cpSub_s (cpSub_s (cpSub_s (cpSub_n (cpSub_n cpSub_nil))))))) ?_
        exact ih (x4 + 1) S4 h
      · refine cj_aload_n C (i := 0) dX0_someMayOn_38 rfl rfl ?_
        refine cj_getR C (d := 57) o_117 rfl gfX0_21 dX0_someMayOn_39 ?_
        refine cj_iload C dX0_someMayOn_42 rfl ?_
        refine cj_iload C dX0_someMayOn_44 rfl ?_
        refine cj_callVi C (As := [.int y1, .int y2]) (rest := []) qX5_feuding mw_34_1 o_57 rfl rfl rfl (Nat.le_of_ble_eq_true rfl) (by decide) dX0_someMayOn_46 h (fun _ _ hf => m_X5_feuding l w A kNw_57 y1 y2 S4 _ hf) (fun z5 S6 h => ?_)
        refine cj_if_ne C (tgt := 104) dX0_someMayOn_49 rfl h (fun _ h => ?_) (fun _ h => ?_)
        · refine cj_aload_n C (i := 0) dX0_someMayOn_52 rfl rfl ?_
          refine cj_iload C dX0_someMayOn_53 rfl ?_
          refine cj_iload C dX0_someMayOn_55 rfl ?_
          refine cj_iload_n C (i := 1) dX0_someMayOn_57 rfl rfl ?_
          refine cj_iload_n C (i := 2) dX0_someMayOn_58 rfl rfl ?_
          refine cj_aload_n C (i := 0) dX0_someMayOn_59 rfl rfl ?_
          refine cj_getR C (d := 57) o_117 rfl gfX0_21 dX0_someMayOn_60 ?_
          refine cj_getI C (j := 3) o_57 rfl gfX0_97 dX0_someMayOn_63 ?_
          refine cj_callVv C (As := [.int y1, .int y2, .int x1, .int x2, .int (S6.1 57 3)]) (rest := []) qX0_face mw_34_7 o_117 rfl rfl rfl (Nat.le_of_ble_eq_true rfl) (by decide) dX0_someMayOn_66 h (fun _ _ hf => m_X0_face l w A y1 y2 x1 x2 (S6.1 57 3) S6 _ hf) (fun z7 S8 h => ?_)
          refine cj_aload_n C (i := 0) dX0_someMayOn_69 rfl rfl ?_
          refine cj_getR C (d := 118) o_117 rfl gfX0_11 dX0_someMayOn_70 ?_
          refine cj_iconst C (v := (3 : Int32)) dX0_someMayOn_73 rfl ?_
          refine cj_aload_n C (i := 0) dX0_someMayOn_74 rfl rfl ?_
          refine cj_getR C (d := 1) o_117 rfl gfX0_17 dX0_someMayOn_75 ?_
          refine cj_getR C (d := 4) o_1 rfl gfX0_85 dX0_someMayOn_78 ?_
          refine cj_iload_n C (i := 3) dX0_someMayOn_81 rfl rfl ?_
          refine cj_iaload C o_4 h dX0_someMayOn_82 (fun h => ?_)
          refine cj_iastoreC C (j := 3) o_118 (by decide) (by decide) dX0_someMayOn_83 ?_
          refine cj_lets h (fun S9 h => ?_)
          refine cj_aload_n C (i := 0) dX0_someMayOn_84 rfl rfl ?_
          refine cj_getR C (d := 1) o_117 rfl gfX0_17 dX0_someMayOn_85 ?_
          refine cj_getR C (d := 12) o_1 rfl gfX0_50 dX0_someMayOn_88 ?_
          refine cj_iconst C (v := (1 : Int32)) dX0_someMayOn_91 rfl ?_
          refine cj_aload_n C (i := 0) dX0_someMayOn_92 rfl rfl ?_
          refine cj_getR C (d := 118) o_117 rfl gfX0_11 dX0_someMayOn_93 ?_
          refine cj_callVi C (As := [.int (1 : Int32), .ref (w.2.1 118)]) (rest := []) qX3_reckon mw_34_16 o_12 rfl rfl rfl (Nat.le_of_ble_eq_true rfl) (by decide) dX0_someMayOn_96 h (fun _ _ hf => m_X3_reckon l w A kLw_12 (1 : Int32) S9 _ hf) (fun z10 S11 h => ?_)
          refine cj_if_eq C (tgt := 104) dX0_someMayOn_99 rfl h (fun _ h => ?_) (fun _ h => ?_)
          · refine cj_iinc C (v := (x4 + 1)) (lv' := [some (.ref (w.2.1 117)), some (.int x1), some (.int x2), some (.int x3), some (.int (x4 + 1)), some (.int y1), some (.int y2)]) dX0_someMayOn_104 rfl rfl (by decide) rfl rfl ?_
            refine cj_goto C (tgt := 3) dX0_someMayOn_107 rfl ?_
            refine cj_weak C (lv' := [some (.ref (w.2.1 117)), some (.int x1), some (.int x2), some (.int x3), some (.int (x4 + 1)), none, none]) (cpSub_s (cpSub_s (cpSub_s (cpSub_s (cpSub_s (cpSub_n (cpSub_n cpSub_nil))))))) ?_
            exact ih (x4 + 1) S11 h
          · refine cj_iconst C (v := (1 : Int32)) dX0_someMayOn_102 rfl ?_
            exact cj_zreturn C hr rfl h dX0_someMayOn_103
        · refine cj_iinc C (v := (x4 + 1)) (lv' := [some (.ref (w.2.1 117)), some (.int x1), some (.int x2), some (.int x3), some (.int (x4 + 1)), some (.int y1), some (.int y2)]) dX0_someMayOn_104 rfl rfl (by decide) rfl rfl ?_
          refine cj_goto C (tgt := 3) dX0_someMayOn_107 rfl ?_
          refine cj_weak C (lv' := [some (.ref (w.2.1 117)), some (.int x1), some (.int x2), some (.int x3), some (.int (x4 + 1)), none, none]) (cpSub_s (cpSub_s (cpSub_s (cpSub_s (cpSub_s (cpSub_n (cpSub_n cpSub_nil))))))) ?_
          exact ih (x4 + 1) S6 h
def fX0_someMayOn (x1 : Int32) (x2 : Int32) (x3 : Int32) (S : cpS) : Option (Int32 × cpS) :=
    fX0_someMayOn_3 x1 x2 x3 cpFu (0 : Int32) S
set_option maxRecDepth 100000 in
set_option maxHeartbeats 4000000 in
theorem m_X0_someMayOn (l : Launch) (w : cpW) (A : Nat → Prop) (x1 : Int32) (x2 : Int32) (x3 : Int32) (S : cpS) (r : Int32 × cpS) (h : fX0_someMayOn x1 x2 x3 S = some r) : cpMi l yX0_someMayOn cX0_someMayOn 7 ((some .boolean)) 2 w A [.ref (w.2.1 117), .int x1, .int x2, .int x3] S r := by
  refine cpMi.of (lv := [some (.ref (w.2.1 117)), some (.int x1), some (.int x2), some (.int x3), none, none, none]) (by decide) (Nat.le_of_ble_eq_true rfl) rfl (fun p e s m args below meth c C hr => ?_)
  replace C : cpCx p s m args meth c w A cX0_someMayOn RX0 7 := C
  rw [fX0_someMayOn] at h
  refine cj_iconst C (v := (0 : Int32)) dX0_someMayOn_0 rfl ?_
  refine cj_istore C (lv' := [some (.ref (w.2.1 117)), some (.int x1), some (.int x2), some (.int x3), some (.int (0 : Int32)), none, none]) dX0_someMayOn_1 (by decide) rfl rfl ?_
  exact wX0_someMayOn_3 C hr x1 x2 x3 cpFu (0 : Int32) S h
/-! X0_quarrelNow -/
def fX0_quarrelNow (x1 : Int32) (x2 : Int32) (S : cpS) : Option (Int32 × cpS) :=
    cpB (fX0_areTwo x1 x2 S) fun z1 S2 =>
    if z1 = 0 then (
    some ((1 : Int32), S2)) else (
    if cpIn x1 8 then (
    if cpIn x1 8 then (
    cpLt (cpI S2 60 x1.toNatClampNeg ((S2.1 60 x1.toNatClampNeg) ^^^ (cpShl (1 : Int32) x2))) fun S3 =>
    if cpIn x2 8 then (
    if cpIn x2 8 then (
    cpLt (cpI S3 60 x2.toNatClampNeg ((S3.1 60 x2.toNatClampNeg) ^^^ (cpShl (1 : Int32) x1))) fun S4 =>
    some ((0 : Int32), S4)) else none) else none) else none) else none)
set_option maxRecDepth 100000 in
set_option maxHeartbeats 4000000 in
theorem m_X0_quarrelNow (l : Launch) (w : cpW) (A : Nat → Prop) (x1 : Int32) (x2 : Int32) (S : cpS) (r : Int32 × cpS) (h : fX0_quarrelNow x1 x2 S = some r) : cpMi l yX0_quarrelNow cX0_quarrelNow 3 ((some .int)) 2 w A [.ref (w.2.1 117), .int x1, .int x2] S r := by
  refine cpMi.of (lv := [some (.ref (w.2.1 117)), some (.int x1), some (.int x2)]) (by decide) (Nat.le_of_ble_eq_true rfl) rfl (fun p e s m args below meth c C hr => ?_)
  replace C : cpCx p s m args meth c w A cX0_quarrelNow RX0 3 := C
  rw [fX0_quarrelNow] at h
  refine cj_aload_n C (i := 0) dX0_quarrelNow_0 rfl rfl ?_
  refine cj_iload_n C (i := 1) dX0_quarrelNow_1 rfl rfl ?_
  refine cj_iload_n C (i := 2) dX0_quarrelNow_2 rfl rfl ?_
  refine cj_callVi C (As := [.int x1, .int x2]) (rest := []) qX0_areTwo mw_32_21 o_117 rfl rfl rfl (Nat.le_of_ble_eq_true rfl) (by decide) dX0_quarrelNow_3 h (fun _ _ hf => m_X0_areTwo l w A x1 x2 S _ hf) (fun z1 S2 h => ?_)
  refine cj_if_ne C (tgt := 11) dX0_quarrelNow_6 rfl h (fun _ h => ?_) (fun _ h => ?_)
  · refine cj_iconst C (v := (1 : Int32)) dX0_quarrelNow_9 rfl ?_
    exact cj_ireturn C hr h dX0_quarrelNow_10
  · refine cj_aload_n C (i := 0) dX0_quarrelNow_11 rfl rfl ?_
    refine cj_getR C (d := 57) o_117 rfl gfX0_21 dX0_quarrelNow_12 ?_
    refine cj_getR C (d := 60) o_57 rfl gfX0_112 dX0_quarrelNow_15 ?_
    refine cj_iload_n C (i := 1) dX0_quarrelNow_18 rfl rfl ?_
    refine cj_dup2 C dX0_quarrelNow_19 rfl rfl ?_
    refine cj_iaload C o_60 h dX0_quarrelNow_20 (fun h => ?_)
    refine cj_iconst C (v := (1 : Int32)) dX0_quarrelNow_21 rfl ?_
    refine cj_iload_n C (i := 2) dX0_quarrelNow_22 rfl rfl ?_
    refine ck_ishl C dX0_quarrelNow_23 ?_
    refine cj_ixor C dX0_quarrelNow_24 ?_
    refine cj_iastore C o_60 h dX0_quarrelNow_25 (fun h => ?_)
    refine cj_lets h (fun S3 h => ?_)
    refine cj_aload_n C (i := 0) dX0_quarrelNow_26 rfl rfl ?_
    refine cj_getR C (d := 57) o_117 rfl gfX0_21 dX0_quarrelNow_27 ?_
    refine cj_getR C (d := 60) o_57 rfl gfX0_112 dX0_quarrelNow_30 ?_
    refine cj_iload_n C (i := 2) dX0_quarrelNow_33 rfl rfl ?_
    refine cj_dup2 C dX0_quarrelNow_34 rfl rfl ?_
    refine cj_iaload C o_60 h dX0_quarrelNow_35 (fun h => ?_)
    refine cj_iconst C (v := (1 : Int32)) dX0_quarrelNow_36 rfl ?_
    refine cj_iload_n C (i := 1) dX0_quarrelNow_37 rfl rfl ?_
    refine ck_ishl C dX0_quarrelNow_38 ?_
    refine cj_ixor C dX0_quarrelNow_39 ?_
    refine cj_iastore C o_60 h dX0_quarrelNow_40 (fun h => ?_)
    refine cj_lets h (fun S4 h => ?_)
    refine cj_iconst C (v := (0 : Int32)) dX0_quarrelNow_41 rfl ?_
    exact cj_ireturn C hr h dX0_quarrelNow_42
/-! X0_hourNow -/
def fX0_hourNow (x1 : Int32) (S : cpS) : Option (Int32 × cpS) :=
    if x1 < 0 then (
    some ((1 : Int32), S)) else (
    if x1 < (10 : Int32) then (
    cpLt (cpI S 57 3 x1) fun S1 =>
    some ((0 : Int32), S1)) else (
    some ((1 : Int32), S)))
set_option maxRecDepth 100000 in
set_option maxHeartbeats 4000000 in
theorem m_X0_hourNow (l : Launch) (w : cpW) (A : Nat → Prop) (x1 : Int32) (S : cpS) (r : Int32 × cpS) (h : fX0_hourNow x1 S = some r) : cpMi l yX0_hourNow cX0_hourNow 2 ((some .int)) 0 w A [.ref (w.2.1 117), .int x1] S r := by
  refine cpMi.of (lv := [some (.ref (w.2.1 117)), some (.int x1)]) (by decide) (Nat.le_of_ble_eq_true rfl) rfl (fun p e s m args below meth c C hr => ?_)
  replace C : cpCx p s m args meth c w A cX0_hourNow RX0 2 := C
  rw [fX0_hourNow] at h
  refine cj_iload_n C (i := 1) dX0_hourNow_0 rfl rfl ?_
  refine cj_if_lt C (tgt := 10) dX0_hourNow_1 rfl h (fun _ h => ?_) (fun _ h => ?_)
  · refine cj_iconst C (v := (1 : Int32)) dX0_hourNow_10 rfl ?_
    exact cj_ireturn C hr h dX0_hourNow_11
  · refine cj_iload_n C (i := 1) dX0_hourNow_4 rfl rfl ?_
    refine cj_bipush C (v := (10 : Int32)) dX0_hourNow_5 rfl ?_
    refine cj_icmp_lt C (tgt := 12) dX0_hourNow_7 rfl h (fun _ h => ?_) (fun _ h => ?_)
    · refine cj_aload_n C (i := 0) dX0_hourNow_12 rfl rfl ?_
      refine cj_getR C (d := 57) o_117 rfl gfX0_21 dX0_hourNow_13 ?_
      refine cj_iload_n C (i := 1) dX0_hourNow_16 rfl rfl ?_
      refine cj_put C (j := 3) o_57 rfl pfX0_97 rfl rfl dX0_hourNow_17 ?_
      refine cj_lets h (fun S1 h => ?_)
      refine cj_iconst C (v := (0 : Int32)) dX0_hourNow_20 rfl ?_
      exact cj_ireturn C hr h dX0_hourNow_21
    · refine cj_iconst C (v := (1 : Int32)) dX0_hourNow_10 rfl ?_
      exact cj_ireturn C hr h dX0_hourNow_11
/-! X5_move -/
def fX5_move (v : Nat) (x1 : Int32) (x2 : Int32) (x3 : Int32) (S : cpS) : Option (Unit × cpS) :=
    if cpIn x1 4 then (
    cpLt (cpI S (v + 1) x1.toNatClampNeg x2) fun S1 =>
    if cpIn x1 4 then (
    if cpIn x1 4 then (
    cpLt (cpI S1 (v + 2) x1.toNatClampNeg ((S1.1 (v + 2) x1.toNatClampNeg) + x3)) fun S2 =>
    cpLt (cpI S2 v 4 ((S2.1 v 4) + (1 : Int32))) fun S3 =>
    some ((), S3)) else none) else none) else none
set_option maxRecDepth 100000 in
set_option maxHeartbeats 4000000 in
theorem m_X5_move (l : Launch) (w : cpW) (A : Nat → Prop) {v : Nat} (hv : cpNw v) (x1 : Int32) (x2 : Int32) (x3 : Int32) (S : cpS) (r : Unit × cpS) (h : fX5_move v x1 x2 x3 S = some r) : cpMv l yX5_move cX5_move 4 (none) 0 w A [.ref (w.2.1 v), .int x1, .int x2, .int x3] S r := by
  refine cpMv.of (lv := [some (.ref (w.2.1 v)), some (.int x1), some (.int x2), some (.int x3)]) (by decide) (Nat.le_of_ble_eq_true rfl) rfl (fun p e s m args below meth c C hr => ?_)
  replace C : cpCx p s m args meth c w A cX5_move RX5 4 := C
  rw [fX5_move] at h
  refine cj_aload_n C (i := 0) dX5_move_0 rfl rfl ?_
  refine cj_getR C (d := (v + 1)) (cpNw_o0 hv) rfl gfX5_9 dX5_move_1 ?_
  refine cj_iload_n C (i := 1) dX5_move_4 rfl rfl ?_
  refine cj_iload_n C (i := 2) dX5_move_5 rfl rfl ?_
  refine cj_iastore C (cpNw_o1 hv) h dX5_move_6 (fun h => ?_)
  refine cj_lets h (fun S1 h => ?_)
  refine cj_aload_n C (i := 0) dX5_move_7 rfl rfl ?_
  refine cj_getR C (d := (v + 2)) (cpNw_o0 hv) rfl gfX5_15 dX5_move_8 ?_
  refine cj_iload_n C (i := 1) dX5_move_11 rfl rfl ?_
  refine cj_dup2 C dX5_move_12 rfl rfl ?_
  refine cj_iaload C (cpNw_o2 hv) h dX5_move_13 (fun h => ?_)
  refine cj_iload_n C (i := 3) dX5_move_14 rfl rfl ?_
  refine cj_iadd C dX5_move_15 ?_
  refine cj_iastore C (cpNw_o2 hv) h dX5_move_16 (fun h => ?_)
  refine cj_lets h (fun S2 h => ?_)
  refine cj_aload_n C (i := 0) dX5_move_17 rfl rfl ?_
  refine cj_dup C dX5_move_18 rfl ?_
  refine cj_getI C (j := 4) (cpNw_o0 hv) rfl gfX5_46 dX5_move_19 ?_
  refine cj_iconst C (v := (1 : Int32)) dX5_move_22 rfl ?_
  refine cj_iadd C dX5_move_23 ?_
  refine cj_put C (j := 4) (cpNw_o0 hv) rfl pfX5_46 rfl rfl dX5_move_24 ?_
  refine cj_lets h (fun S3 h => ?_)
  exact cj_vreturn C hr h dX5_move_27
end CPV
