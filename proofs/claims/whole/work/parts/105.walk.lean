section CPV
variable {p : Program} {l : Launch} {e : Env} {s : State} {m : MethodId} {args : Array Value} {below : List Frame} {meth : Method} {c : Code} {w : cpW} {A : Nat → Prop}
/-! J0_checkIndex_df160 -/
def fJ0_checkIndex_df160 (x0 : Int32) (x1 : Int32) (S : cpS) : Option (Unit × cpS) :=
    cpB (fJ3_checkIndex_8e157 x0 x1 S) fun z1 S2 =>
    some ((), S2)
set_option maxRecDepth 100000 in
set_option maxHeartbeats 4000000 in
theorem m_J0_checkIndex_df160 (l : Launch) (w : cpW) (A : Nat → Prop) (x0 : Int32) (x1 : Int32) (S : cpS) (r : Unit × cpS) (h : fJ0_checkIndex_df160 x0 x1 S = some r) : cpMv l yJ0_checkIndex_df160 cJ0_checkIndex_df160 2 (none) 1 w A [.int x0, .int x1] S r := by
  refine cpMv.of (lv := [some (.int x0), some (.int x1)]) (by decide) (Nat.le_of_ble_eq_true rfl) rfl (fun p e s m args below meth c C hr => ?_)
  replace C : cpCx p s m args meth c w A cJ0_checkIndex_df160 RJ0 2 := C
  rw [fJ0_checkIndex_df160] at h
  refine cj_iload_n C (i := 0) dJ0_checkIndex_df160_0 rfl rfl ?_
  refine cj_iload_n C (i := 1) dJ0_checkIndex_df160_1 rfl rfl ?_
  refine cj_gstF C mw_13_20 dJ0_checkIndex_df160_2 ?_
  refine cj_callSi C (As := [.int x0, .int x1, va_rf w.2.2.2.2.2.2]) (rest := []) qJ3_checkIndex_8e157 mw_16_3 rfl rfl (Nat.le_of_ble_eq_true rfl) (by decide) dJ0_checkIndex_df160_5 h (fun _ _ hf => m_J3_checkIndex_8e157 l w A x0 x1 S _ hf) (fun z1 S2 h => ?_)
  refine cj_pop C dJ0_checkIndex_df160_8 rfl ?_
  exact cj_vreturn C hr h dJ0_checkIndex_df160_9
/-! J1_charAt_3b067 -/
def fJ1_charAt_3b067 (k0 : Nat) (x1 : Int32) (S : cpS) : Option (Int32 × cpS) :=
    cpB (fJ0_checkIndex_df160 x1 (nI (cpLen.getD k0 0)) S) fun _ S2 =>
    if cpIn x1 (cpLen.getD k0 0) then (
    if cpCh (cpi2c (((cpByt.getD k0 []).getD x1.toNatClampNeg 0) &&& (255 : Int32))) then some ((cpi2c (((cpByt.getD k0 []).getD x1.toNatClampNeg 0) &&& (255 : Int32))), S2) else none) else none
set_option maxRecDepth 100000 in
set_option maxHeartbeats 4000000 in
theorem m_J1_charAt_3b067 (l : Launch) (w : cpW) (A : Nat → Prop) {k0 : Nat} (hk0 : cpSg k0) (x1 : Int32) (S : cpS) (r : Int32 × cpS) (h : fJ1_charAt_3b067 k0 x1 S = some r) : cpMi l yJ1_charAt_3b067 cJ1_charAt_3b067 2 ((some .char)) 2 w A [.ref (w.2.2.2.2.2.1 k0), .int x1] S r := by
  refine cpMi.of (lv := [some (.ref (w.2.2.2.2.2.1 k0)), some (.int x1)]) (by decide) (Nat.le_of_ble_eq_true rfl) rfl (fun p e s m args below meth c C hr => ?_)
  replace C : cpCx p s m args meth c w A cJ1_charAt_3b067 RJ1 2 := C
  rw [fJ1_charAt_3b067] at h
  refine cj_iload_n C (i := 1) dJ1_charAt_3b067_0 rfl rfl ?_
  refine cj_aload_n C (i := 0) dJ1_charAt_3b067_1 rfl rfl ?_
  refine cj_byl C hk0 dJ1_charAt_3b067_2 ?_
  refine cj_callSv C (As := [.int x1, .int (nI (cpLen.getD k0 0))]) (rest := []) qJ0_checkIndex_df160 mw_16_0 rfl rfl (Nat.le_of_ble_eq_true rfl) (by decide) dJ1_charAt_3b067_3 h (fun _ _ hf => m_J0_checkIndex_df160 l w A x1 (nI (cpLen.getD k0 0)) S _ hf) (fun z1 S2 h => ?_)
  refine cj_aload_n C (i := 0) dJ1_charAt_3b067_6 rfl rfl ?_
  refine cj_iload_n C (i := 1) dJ1_charAt_3b067_7 rfl rfl ?_
  refine cj_byt C hk0 h dJ1_charAt_3b067_8 (fun h => ?_)
  refine cj_sipush C (v := (255 : Int32)) dJ1_charAt_3b067_9 rfl ?_
  refine cj_iand C dJ1_charAt_3b067_12 ?_
  refine ck_i2c C dJ1_charAt_3b067_13 ?_
  obtain ⟨hb, h⟩ := cpGuard h
  exact cj_zreturn C hr (cpCh_n hb) h dJ1_charAt_3b067_14
/-! J0_charAt_5068e -/
def fJ0_charAt_5068e (v : Nat) (x1 : Int32) (S : cpS) : Option (Int32 × cpS) :=
    cpB (fJ0_isLatin1_aae02 v S) fun z1 S2 =>
    if z1 = 0 then (
    none) else (
    cpB (fJ1_charAt_3b067 v x1 S2) fun z3 S4 =>
    if cpCh z3 then some (z3, S4) else none)
set_option maxRecDepth 100000 in
set_option maxHeartbeats 4000000 in
theorem m_J0_charAt_5068e (l : Launch) (w : cpW) (A : Nat → Prop) {v : Nat} (hv : cpSg v) (x1 : Int32) (S : cpS) (r : Int32 × cpS) (h : fJ0_charAt_5068e v x1 S = some r) : cpMi l yJ0_charAt_5068e cJ0_charAt_5068e 2 ((some .char)) 3 w A [.ref (w.2.2.2.2.1 v), .int x1] S r := by
  refine cpMi.of (lv := [some (.ref (w.2.2.2.2.1 v)), some (.int x1)]) (by decide) (Nat.le_of_ble_eq_true rfl) rfl (fun p e s m args below meth c C hr => ?_)
  replace C : cpCx p s m args meth c w A cJ0_charAt_5068e RJ0 2 := C
  rw [fJ0_charAt_5068e] at h
  refine cj_aload_n C (i := 0) dJ0_charAt_5068e_0 rfl rfl ?_
  refine cj_callTi C (As := []) (rest := []) qJ0_isLatin1_aae02 mw_11_18 hv rfl rfl rfl (Nat.le_of_ble_eq_true rfl) (by decide) dJ0_charAt_5068e_1 h (fun _ _ hf => m_J0_isLatin1_aae02 l w A hv S _ hf) (fun z1 S2 h => ?_)
  refine cj_if_eq C (tgt := 16) dJ0_charAt_5068e_4 rfl h (fun _ h => ?_) (fun _ h => ?_)
  · cases h
  · refine cj_aload_n C (i := 0) dJ0_charAt_5068e_7 rfl rfl ?_
    refine cj_strV C hv mw_11_17 dJ0_charAt_5068e_8 ?_
    refine cj_iload_n C (i := 1) dJ0_charAt_5068e_11 rfl rfl ?_
    refine cj_callSi C (As := [.ref (w.2.2.2.2.2.1 v), .int x1]) (rest := []) qJ1_charAt_3b067 mw_15_21 rfl rfl (Nat.le_of_ble_eq_true rfl) (by decide) dJ0_charAt_5068e_12 h (fun _ _ hf => m_J1_charAt_3b067 l w A hv x1 S2 _ hf) (fun z3 S4 h => ?_)
    obtain ⟨hb, h⟩ := cpGuard h
    exact cj_zreturn C hr (cpCh_n hb) h dJ0_charAt_5068e_15
/-! X7_isWord -/
def fX7_isWord_28 (k1 : Nat) : Nat → Int32 → cpS → Option (Int32 × cpS)
  | 0, _, _ => none
  | n + 1, x2, S =>
    cpB (fJ0_length_8abf5 k1 S) fun z1 S2 =>
    if z1 ≤ x2 then (
    some ((1 : Int32), S2)) else (
    if cpIn ((S2.1 115 7) + x2) 900 then (
    cpB (fJ0_charAt_5068e k1 x2 S2) fun z3 S4 =>
    if (S2.1 116 ((S2.1 115 7) + x2).toNatClampNeg) = z3 then (
    fX7_isWord_28 k1 n (x2 + 1) S4) else (
    some ((0 : Int32), S4))) else none)
set_option maxRecDepth 100000 in
set_option maxHeartbeats 4000000 in
theorem wX7_isWord_28 (C : cpCx p s m args meth c w A cX7_isWord RX7 3) (hr : meth.sig.returnType = (some .boolean)) {r : Int32 × cpS} {k1 : Nat} (hk1 : cpSg k1) : ∀ (n : Nat) (x2 : Int32) (S : cpS), fX7_isWord_28 k1 n x2 S = some r → cpJ p l e (cpRm 4) s m args below meth c (MQ below (va_Qi (fun x S' => (x, S') = r) (cpWorld w A) A) args s 0 0 A) w A 3 28 [some (.ref (w.2.1 115)), some (.ref (w.2.2.2.2.1 k1)), some (.int x2)] [] S := by
  intro n
  induction n with
  | zero => intro x2 S h; rw [fX7_isWord_28] at h; cases h
  | succ n ih =>
    intro x2 S h
    rw [fX7_isWord_28] at h
    refine cj_iload_n C (i := 2) dX7_isWord_28 rfl rfl ?_
    refine cj_aload_n C (i := 1) dX7_isWord_29 rfl rfl ?_
    refine cj_callTi C (As := []) (rest := [.int x2]) qJ0_length_8abf5 mw_15_16 hk1 rfl rfl rfl (Nat.le_of_ble_eq_true rfl) (by decide) dX7_isWord_30 h (fun _ _ hf => m_J0_length_8abf5 l w A hk1 S _ hf) (fun z1 S2 h => ?_)
    refine cj_icmp_ge C (tgt := 63) dX7_isWord_33 rfl h (fun _ h => ?_) (fun _ h => ?_)
    · refine cj_iconst C (v := (1 : Int32)) dX7_isWord_63 rfl ?_
      exact cj_zreturn C hr rfl h dX7_isWord_64
    · refine cj_aload_n C (i := 0) dX7_isWord_36 rfl rfl ?_
      refine cj_getR C (d := 116) o_115 rfl gfX7_9 dX7_isWord_37 ?_
      refine cj_aload_n C (i := 0) dX7_isWord_40 rfl rfl ?_
      refine cj_getI C (j := 7) o_115 rfl gfX7_248 dX7_isWord_41 ?_
      refine cj_iload_n C (i := 2) dX7_isWord_44 rfl rfl ?_
      refine cj_iadd C dX7_isWord_45 ?_
      refine cj_caload C o_116 h dX7_isWord_46 (fun h => ?_)
      refine cj_aload_n C (i := 1) dX7_isWord_47 rfl rfl ?_
      refine cj_iload_n C (i := 2) dX7_isWord_48 rfl rfl ?_
      refine cj_callTi C (As := [.int x2]) (rest := [.int (S2.1 116 ((S2.1 115 7) + x2).toNatClampNeg)]) qJ0_charAt_5068e mw_15_17 hk1 rfl rfl rfl (Nat.le_of_ble_eq_true rfl) (by decide) dX7_isWord_49 h (fun _ _ hf => m_J0_charAt_5068e l w A hk1 x2 S2 _ hf) (fun z3 S4 h => ?_)
      refine cj_icmp_eq C (tgt := 57) dX7_isWord_52 rfl h (fun _ h => ?_) (fun _ h => ?_)
      · refine cj_iinc C (v := (x2 + 1)) (lv' := [some (.ref (w.2.1 115)), some (.ref (w.2.2.2.2.1 k1)), some (.int (x2 + 1))]) dX7_isWord_57 rfl rfl (by decide) rfl rfl ?_
        refine cj_goto C (tgt := 28) dX7_isWord_60 rfl ?_
        exact ih (x2 + 1) S4 h
      · refine cj_iconst C (v := (0 : Int32)) dX7_isWord_55 rfl ?_
        exact cj_zreturn C hr rfl h dX7_isWord_56
def fX7_isWord (k1 : Nat) (S : cpS) : Option (Int32 × cpS) :=
    if (S.1 115 6) = (1 : Int32) then (
    cpB (fJ0_length_8abf5 k1 S) fun z1 S2 =>
    if ((S.1 115 8) - (S.1 115 7)) = z1 then (
    fX7_isWord_28 k1 cpFu (0 : Int32) S2) else (
    some ((0 : Int32), S2))) else (
    some ((0 : Int32), S))
set_option maxRecDepth 100000 in
set_option maxHeartbeats 4000000 in
theorem m_X7_isWord (l : Launch) (w : cpW) (A : Nat → Prop) {k1 : Nat} (hk1 : cpSg k1) (S : cpS) (r : Int32 × cpS) (h : fX7_isWord k1 S = some r) : cpMi l yX7_isWord cX7_isWord 3 ((some .boolean)) 4 w A [.ref (w.2.1 115), .ref (w.2.2.2.2.1 k1)] S r := by
  refine cpMi.of (lv := [some (.ref (w.2.1 115)), some (.ref (w.2.2.2.2.1 k1)), none]) (by decide) (Nat.le_of_ble_eq_true rfl) rfl (fun p e s m args below meth c C hr => ?_)
  replace C : cpCx p s m args meth c w A cX7_isWord RX7 3 := C
  rw [fX7_isWord] at h
  refine cj_aload_n C (i := 0) dX7_isWord_0 rfl rfl ?_
  refine cj_getI C (j := 6) o_115 rfl gfX7_48 dX7_isWord_1 ?_
  refine cj_iconst C (v := (1 : Int32)) dX7_isWord_4 rfl ?_
  refine cj_icmp_ne C (tgt := 24) dX7_isWord_5 rfl h (fun _ h => ?_) (fun _ h => ?_)
  · refine cj_aload_n C (i := 0) dX7_isWord_8 rfl rfl ?_
    refine cj_getI C (j := 8) o_115 rfl gfX7_32 dX7_isWord_9 ?_
    refine cj_aload_n C (i := 0) dX7_isWord_12 rfl rfl ?_
    refine cj_getI C (j := 7) o_115 rfl gfX7_248 dX7_isWord_13 ?_
    refine cj_isub C dX7_isWord_16 ?_
    refine cj_aload_n C (i := 1) dX7_isWord_17 rfl rfl ?_
    refine cj_callTi C (As := []) (rest := [.int ((S.1 115 8) - (S.1 115 7))]) qJ0_length_8abf5 mw_15_16 hk1 rfl rfl rfl (Nat.le_of_ble_eq_true rfl) (by decide) dX7_isWord_18 h (fun _ _ hf => m_J0_length_8abf5 l w A hk1 S _ hf) (fun z1 S2 h => ?_)
    refine cj_icmp_eq C (tgt := 26) dX7_isWord_21 rfl h (fun _ h => ?_) (fun _ h => ?_)
    · refine cj_iconst C (v := (0 : Int32)) dX7_isWord_26 rfl ?_
      refine cj_istore_n C (i := 2) (lv' := [some (.ref (w.2.1 115)), some (.ref (w.2.2.2.2.1 k1)), some (.int (0 : Int32))]) dX7_isWord_27 rfl (by decide) rfl rfl ?_
      exact wX7_isWord_28 C hr hk1 cpFu (0 : Int32) S2 h
    · refine cj_iconst C (v := (0 : Int32)) dX7_isWord_24 rfl ?_
      exact cj_zreturn C hr rfl h dX7_isWord_25
  · refine cj_iconst C (v := (0 : Int32)) dX7_isWord_24 rfl ?_
    exact cj_zreturn C hr rfl h dX7_isWord_25
/-! X7_refuse -/
def fX7_refuse (x1 : Int32) (S : cpS) : Option (Int32 × cpS) :=
    if (S.1 115 6) = (4 : Int32) then (
    cpLt (cpI S 115 3 (1 : Int32)) fun S1 =>
    cpLt (cpI S1 115 4 (S1.1 115 7)) fun S2 =>
    some ((0 : Int32), S2)) else (
    cpLt (cpI S 115 3 x1) fun S3 =>
    cpLt (cpI S3 115 4 (S3.1 115 7)) fun S4 =>
    some ((0 : Int32), S4))
set_option maxRecDepth 100000 in
set_option maxHeartbeats 4000000 in
theorem m_X7_refuse (l : Launch) (w : cpW) (A : Nat → Prop) (x1 : Int32) (S : cpS) (r : Int32 × cpS) (h : fX7_refuse x1 S = some r) : cpMi l yX7_refuse cX7_refuse 2 ((some .boolean)) 0 w A [.ref (w.2.1 115), .int x1] S r := by
  refine cpMi.of (lv := [some (.ref (w.2.1 115)), some (.int x1)]) (by decide) (Nat.le_of_ble_eq_true rfl) rfl (fun p e s m args below meth c C hr => ?_)
  replace C : cpCx p s m args meth c w A cX7_refuse RX7 2 := C
  rw [fX7_refuse] at h
  refine cj_aload_n C (i := 0) dX7_refuse_0 rfl rfl ?_
  refine cj_aload_n C (i := 0) dX7_refuse_1 rfl rfl ?_
  refine cj_getI C (j := 6) o_115 rfl gfX7_48 dX7_refuse_2 ?_
  refine cj_iconst C (v := (4 : Int32)) dX7_refuse_5 rfl ?_
  refine cj_icmp_ne C (tgt := 13) dX7_refuse_6 rfl h (fun _ h => ?_) (fun _ h => ?_)
  · refine cj_iconst C (v := (1 : Int32)) dX7_refuse_9 rfl ?_
    refine cj_goto C (tgt := 14) dX7_refuse_10 rfl ?_
    refine cj_put C (j := 3) o_115 rfl pfX7_35 rfl rfl dX7_refuse_14 ?_
    refine cj_lets h (fun S1 h => ?_)
    refine cj_aload_n C (i := 0) dX7_refuse_17 rfl rfl ?_
    refine cj_aload_n C (i := 0) dX7_refuse_18 rfl rfl ?_
    refine cj_getI C (j := 7) o_115 rfl gfX7_248 dX7_refuse_19 ?_
    refine cj_put C (j := 4) o_115 rfl pfX7_22 rfl rfl dX7_refuse_22 ?_
    refine cj_lets h (fun S2 h => ?_)
    refine cj_iconst C (v := (0 : Int32)) dX7_refuse_25 rfl ?_
    exact cj_zreturn C hr rfl h dX7_refuse_26
  · refine cj_iload_n C (i := 1) dX7_refuse_13 rfl rfl ?_
    refine cj_put C (j := 3) o_115 rfl pfX7_35 rfl rfl dX7_refuse_14 ?_
    refine cj_lets h (fun S3 h => ?_)
    refine cj_aload_n C (i := 0) dX7_refuse_17 rfl rfl ?_
    refine cj_aload_n C (i := 0) dX7_refuse_18 rfl rfl ?_
    refine cj_getI C (j := 7) o_115 rfl gfX7_248 dX7_refuse_19 ?_
    refine cj_put C (j := 4) o_115 rfl pfX7_22 rfl rfl dX7_refuse_22 ?_
    refine cj_lets h (fun S4 h => ?_)
    refine cj_iconst C (v := (0 : Int32)) dX7_refuse_25 rfl ?_
    exact cj_zreturn C hr rfl h dX7_refuse_26
/-! X7_takeWord -/
def fX7_takeWord (k1 : Nat) (S : cpS) : Option (Int32 × cpS) :=
    cpB (fX7_isWord k1 S) fun z1 S2 =>
    if z1 = 0 then (
    cpB (fX7_refuse (2 : Int32) S2) fun z3 S4 =>
    if cpBo z3 then some (z3, S4) else none) else (
    cpB (fX7_advance S2) fun _ S6 =>
    some ((1 : Int32), S6))
set_option maxRecDepth 100000 in
set_option maxHeartbeats 4000000 in
theorem m_X7_takeWord (l : Launch) (w : cpW) (A : Nat → Prop) {k1 : Nat} (hk1 : cpSg k1) (S : cpS) (r : Int32 × cpS) (h : fX7_takeWord k1 S = some r) : cpMi l yX7_takeWord cX7_takeWord 2 ((some .boolean)) 5 w A [.ref (w.2.1 115), .ref (w.2.2.2.2.1 k1)] S r := by
  refine cpMi.of (lv := [some (.ref (w.2.1 115)), some (.ref (w.2.2.2.2.1 k1))]) (by decide) (Nat.le_of_ble_eq_true rfl) rfl (fun p e s m args below meth c C hr => ?_)
  replace C : cpCx p s m args meth c w A cX7_takeWord RX7 2 := C
  rw [fX7_takeWord] at h
  refine cj_aload_n C (i := 0) dX7_takeWord_0 rfl rfl ?_
  refine cj_aload_n C (i := 1) dX7_takeWord_1 rfl rfl ?_
  refine cj_callVi C (As := [.ref (w.2.2.2.2.1 k1)]) (rest := []) qX7_isWord mw_15_12 o_115 rfl rfl rfl (Nat.le_of_ble_eq_true rfl) (by decide) dX7_takeWord_2 h (fun _ _ hf => m_X7_isWord l w A hk1 S _ hf) (fun z1 S2 h => ?_)
  refine cj_if_ne C (tgt := 14) dX7_takeWord_5 rfl h (fun _ h => ?_) (fun _ h => ?_)
  · refine cj_aload_n C (i := 0) dX7_takeWord_8 rfl rfl ?_
    refine cj_iconst C (v := (2 : Int32)) dX7_takeWord_9 rfl ?_
    refine cj_callVi C (As := [.int (2 : Int32)]) (rest := []) qX7_refuse mw_16_13 o_115 rfl rfl rfl (Nat.le_of_ble_eq_true rfl) (by decide) dX7_takeWord_10 h (fun _ _ hf => m_X7_refuse l w A (2 : Int32) S2 _ hf) (fun z3 S4 h => ?_)
    obtain ⟨hb, h⟩ := cpGuard h
    exact cj_zreturn C hr (cpBo_n hb) h dX7_takeWord_13
  · refine cj_aload_n C (i := 0) dX7_takeWord_14 rfl rfl ?_
    refine cj_callVv C (As := []) (rest := []) qX7_advance mw_11_2 o_115 rfl rfl rfl (Nat.le_of_ble_eq_true rfl) (by decide) dX7_takeWord_15 h (fun _ _ hf => m_X7_advance l w A S2 _ hf) (fun z5 S6 h => ?_)
    refine cj_iconst C (v := (1 : Int32)) dX7_takeWord_18 rfl ?_
    exact cj_zreturn C hr rfl h dX7_takeWord_19
/-! X7_takeNumber -/
def fX7_takeNumber (x1 : Int32) (x2 : Int32) (x3 : Int32) (S : cpS) : Option (Int32 × cpS) :=
    if (S.1 115 6) = (2 : Int32) then (
    if (S.1 115 9) < x1 then (
    cpB (fX7_refuse (3 : Int32) S) fun z1 S2 =>
    if cpBo z1 then some (z1, S2) else none) else (
    if x2 < (S.1 115 9) then (
    cpB (fX7_refuse (3 : Int32) S) fun z3 S4 =>
    if cpBo z3 then some (z3, S4) else none) else (
    if (S.1 115 9) = x3 then (
    cpB (fX7_refuse (3 : Int32) S) fun z5 S6 =>
    if cpBo z5 then some (z5, S6) else none) else (
    cpLt (cpI S 115 10 (S.1 115 9)) fun S7 =>
    cpB (fX7_advance S7) fun _ S9 =>
    some ((1 : Int32), S9))))) else (
    cpB (fX7_refuse (2 : Int32) S) fun z10 S11 =>
    if cpBo z10 then some (z10, S11) else none)
set_option maxRecDepth 100000 in
set_option maxHeartbeats 4000000 in
theorem m_X7_takeNumber (l : Launch) (w : cpW) (A : Nat → Prop) (x1 : Int32) (x2 : Int32) (x3 : Int32) (S : cpS) (r : Int32 × cpS) (h : fX7_takeNumber x1 x2 x3 S = some r) : cpMi l yX7_takeNumber cX7_takeNumber 4 ((some .boolean)) 5 w A [.ref (w.2.1 115), .int x1, .int x2, .int x3] S r := by
  refine cpMi.of (lv := [some (.ref (w.2.1 115)), some (.int x1), some (.int x2), some (.int x3)]) (by decide) (Nat.le_of_ble_eq_true rfl) rfl (fun p e s m args below meth c C hr => ?_)
  replace C : cpCx p s m args meth c w A cX7_takeNumber RX7 4 := C
  rw [fX7_takeNumber] at h
  refine cj_aload_n C (i := 0) dX7_takeNumber_0 rfl rfl ?_
  refine cj_getI C (j := 6) o_115 rfl gfX7_48 dX7_takeNumber_1 ?_
  refine cj_iconst C (v := (2 : Int32)) dX7_takeNumber_4 rfl ?_
  refine cj_icmp_eq C (tgt := 14) dX7_takeNumber_5 rfl h (fun _ h => ?_) (fun _ h => ?_)
  · refine cj_aload_n C (i := 0) dX7_takeNumber_14 rfl rfl ?_
    refine cj_getI C (j := 9) o_115 rfl gfX7_236 dX7_takeNumber_15 ?_
    refine cj_iload_n C (i := 1) dX7_takeNumber_18 rfl rfl ?_
    refine cj_icmp_lt C (tgt := 38) dX7_takeNumber_19 rfl h (fun _ h => ?_) (fun _ h => ?_)
    · refine cj_aload_n C (i := 0) dX7_takeNumber_38 rfl rfl ?_
      refine cj_iconst C (v := (3 : Int32)) dX7_takeNumber_39 rfl ?_
      refine cj_callVi C (As := [.int (3 : Int32)]) (rest := []) qX7_refuse mw_16_13 o_115 rfl rfl rfl (Nat.le_of_ble_eq_true rfl) (by decide) dX7_takeNumber_40 h (fun _ _ hf => m_X7_refuse l w A (3 : Int32) S _ hf) (fun z1 S2 h => ?_)
      obtain ⟨hb, h⟩ := cpGuard h
      exact cj_zreturn C hr (cpBo_n hb) h dX7_takeNumber_43
    · refine cj_aload_n C (i := 0) dX7_takeNumber_22 rfl rfl ?_
      refine cj_getI C (j := 9) o_115 rfl gfX7_236 dX7_takeNumber_23 ?_
      refine cj_iload_n C (i := 2) dX7_takeNumber_26 rfl rfl ?_
      refine cj_icmp_gt C (tgt := 38) dX7_takeNumber_27 rfl h (fun _ h => ?_) (fun _ h => ?_)
      · refine cj_aload_n C (i := 0) dX7_takeNumber_38 rfl rfl ?_
        refine cj_iconst C (v := (3 : Int32)) dX7_takeNumber_39 rfl ?_
        refine cj_callVi C (As := [.int (3 : Int32)]) (rest := []) qX7_refuse mw_16_13 o_115 rfl rfl rfl (Nat.le_of_ble_eq_true rfl) (by decide) dX7_takeNumber_40 h (fun _ _ hf => m_X7_refuse l w A (3 : Int32) S _ hf) (fun z3 S4 h => ?_)
        obtain ⟨hb, h⟩ := cpGuard h
        exact cj_zreturn C hr (cpBo_n hb) h dX7_takeNumber_43
      · refine cj_aload_n C (i := 0) dX7_takeNumber_30 rfl rfl ?_
        refine cj_getI C (j := 9) o_115 rfl gfX7_236 dX7_takeNumber_31 ?_
        refine cj_iload_n C (i := 3) dX7_takeNumber_34 rfl rfl ?_
        refine cj_icmp_ne C (tgt := 44) dX7_takeNumber_35 rfl h (fun _ h => ?_) (fun _ h => ?_)
        · refine cj_aload_n C (i := 0) dX7_takeNumber_38 rfl rfl ?_
          refine cj_iconst C (v := (3 : Int32)) dX7_takeNumber_39 rfl ?_
          refine cj_callVi C (As := [.int (3 : Int32)]) (rest := []) qX7_refuse mw_16_13 o_115 rfl rfl rfl (Nat.le_of_ble_eq_true rfl) (by decide) dX7_takeNumber_40 h (fun _ _ hf => m_X7_refuse l w A (3 : Int32) S _ hf) (fun z5 S6 h => ?_)
          obtain ⟨hb, h⟩ := cpGuard h
          exact cj_zreturn C hr (cpBo_n hb) h dX7_takeNumber_43
        · refine cj_aload_n C (i := 0) dX7_takeNumber_44 rfl rfl ?_
          refine cj_aload_n C (i := 0) dX7_takeNumber_45 rfl rfl ?_
          refine cj_getI C (j := 9) o_115 rfl gfX7_236 dX7_takeNumber_46 ?_
          refine cj_put C (j := 10) o_115 rfl pfX7_72 rfl rfl dX7_takeNumber_49 ?_
          refine cj_lets h (fun S7 h => ?_)
          refine cj_aload_n C (i := 0) dX7_takeNumber_52 rfl rfl ?_
          refine cj_callVv C (As := []) (rest := []) qX7_advance mw_11_2 o_115 rfl rfl rfl (Nat.le_of_ble_eq_true rfl) (by decide) dX7_takeNumber_53 h (fun _ _ hf => m_X7_advance l w A S7 _ hf) (fun z8 S9 h => ?_)
          refine cj_iconst C (v := (1 : Int32)) dX7_takeNumber_56 rfl ?_
          exact cj_zreturn C hr rfl h dX7_takeNumber_57
  · refine cj_aload_n C (i := 0) dX7_takeNumber_8 rfl rfl ?_
    refine cj_iconst C (v := (2 : Int32)) dX7_takeNumber_9 rfl ?_
    refine cj_callVi C (As := [.int (2 : Int32)]) (rest := []) qX7_refuse mw_16_13 o_115 rfl rfl rfl (Nat.le_of_ble_eq_true rfl) (by decide) dX7_takeNumber_10 h (fun _ _ hf => m_X7_refuse l w A (2 : Int32) S _ hf) (fun z10 S11 h => ?_)
    obtain ⟨hb, h⟩ := cpGuard h
    exact cj_zreturn C hr (cpBo_n hb) h dX7_takeNumber_13
/-! X7_isSign -/
def fX7_isSign (x1 : Int32) (S : cpS) : Option (Int32 × cpS) :=
    if (S.1 115 6) = (3 : Int32) then (
    if cpIn (S.1 115 7) 900 then (
    if (S.1 116 (S.1 115 7).toNatClampNeg) = x1 then (
    some ((1 : Int32), S)) else (
    some ((0 : Int32), S))) else none) else (
    some ((0 : Int32), S))
set_option maxRecDepth 100000 in
set_option maxHeartbeats 4000000 in
theorem m_X7_isSign (l : Launch) (w : cpW) (A : Nat → Prop) (x1 : Int32) (S : cpS) (r : Int32 × cpS) (h : fX7_isSign x1 S = some r) : cpMi l yX7_isSign cX7_isSign 2 ((some .boolean)) 0 w A [.ref (w.2.1 115), .int x1] S r := by
  refine cpMi.of (lv := [some (.ref (w.2.1 115)), some (.int x1)]) (by decide) (Nat.le_of_ble_eq_true rfl) rfl (fun p e s m args below meth c C hr => ?_)
  replace C : cpCx p s m args meth c w A cX7_isSign RX7 2 := C
  rw [fX7_isSign] at h
  refine cj_aload_n C (i := 0) dX7_isSign_0 rfl rfl ?_
  refine cj_getI C (j := 6) o_115 rfl gfX7_48 dX7_isSign_1 ?_
  refine cj_iconst C (v := (3 : Int32)) dX7_isSign_4 rfl ?_
  refine cj_icmp_ne C (tgt := 25) dX7_isSign_5 rfl h (fun _ h => ?_) (fun _ h => ?_)
  · refine cj_aload_n C (i := 0) dX7_isSign_8 rfl rfl ?_
    refine cj_getR C (d := 116) o_115 rfl gfX7_9 dX7_isSign_9 ?_
    refine cj_aload_n C (i := 0) dX7_isSign_12 rfl rfl ?_
    refine cj_getI C (j := 7) o_115 rfl gfX7_248 dX7_isSign_13 ?_
    refine cj_caload C o_116 h dX7_isSign_16 (fun h => ?_)
    refine cj_iload_n C (i := 1) dX7_isSign_17 rfl rfl ?_
    refine cj_icmp_ne C (tgt := 25) dX7_isSign_18 rfl h (fun _ h => ?_) (fun _ h => ?_)
    · refine cj_iconst C (v := (1 : Int32)) dX7_isSign_21 rfl ?_
      refine cj_goto C (tgt := 26) dX7_isSign_22 rfl ?_
      exact cj_zreturn C hr rfl h dX7_isSign_26
    · refine cj_iconst C (v := (0 : Int32)) dX7_isSign_25 rfl ?_
      exact cj_zreturn C hr rfl h dX7_isSign_26
  · refine cj_iconst C (v := (0 : Int32)) dX7_isSign_25 rfl ?_
    exact cj_zreturn C hr rfl h dX7_isSign_26
/-! X7_takeSign -/
def fX7_takeSign (x1 : Int32) (S : cpS) : Option (Int32 × cpS) :=
    cpB (fX7_isSign x1 S) fun z1 S2 =>
    if z1 = 0 then (
    cpB (fX7_refuse (2 : Int32) S2) fun z3 S4 =>
    if cpBo z3 then some (z3, S4) else none) else (
    cpB (fX7_advance S2) fun _ S6 =>
    some ((1 : Int32), S6))
set_option maxRecDepth 100000 in
set_option maxHeartbeats 4000000 in
theorem m_X7_takeSign (l : Launch) (w : cpW) (A : Nat → Prop) (x1 : Int32) (S : cpS) (r : Int32 × cpS) (h : fX7_takeSign x1 S = some r) : cpMi l yX7_takeSign cX7_takeSign 2 ((some .boolean)) 5 w A [.ref (w.2.1 115), .int x1] S r := by
  refine cpMi.of (lv := [some (.ref (w.2.1 115)), some (.int x1)]) (by decide) (Nat.le_of_ble_eq_true rfl) rfl (fun p e s m args below meth c C hr => ?_)
  replace C : cpCx p s m args meth c w A cX7_takeSign RX7 2 := C
  rw [fX7_takeSign] at h
  refine cj_aload_n C (i := 0) dX7_takeSign_0 rfl rfl ?_
  refine cj_iload_n C (i := 1) dX7_takeSign_1 rfl rfl ?_
  refine cj_callVi C (As := [.int x1]) (rest := []) qX7_isSign mw_17_6 o_115 rfl rfl rfl (Nat.le_of_ble_eq_true rfl) (by decide) dX7_takeSign_2 h (fun _ _ hf => m_X7_isSign l w A x1 S _ hf) (fun z1 S2 h => ?_)
  refine cj_if_ne C (tgt := 14) dX7_takeSign_5 rfl h (fun _ h => ?_) (fun _ h => ?_)
  · refine cj_aload_n C (i := 0) dX7_takeSign_8 rfl rfl ?_
    refine cj_iconst C (v := (2 : Int32)) dX7_takeSign_9 rfl ?_
    refine cj_callVi C (As := [.int (2 : Int32)]) (rest := []) qX7_refuse mw_16_13 o_115 rfl rfl rfl (Nat.le_of_ble_eq_true rfl) (by decide) dX7_takeSign_10 h (fun _ _ hf => m_X7_refuse l w A (2 : Int32) S2 _ hf) (fun z3 S4 h => ?_)
    obtain ⟨hb, h⟩ := cpGuard h
    exact cj_zreturn C hr (cpBo_n hb) h dX7_takeSign_13
  · refine cj_aload_n C (i := 0) dX7_takeSign_14 rfl rfl ?_
    refine cj_callVv C (As := []) (rest := []) qX7_advance mw_11_2 o_115 rfl rfl rfl (Nat.le_of_ble_eq_true rfl) (by decide) dX7_takeSign_15 h (fun _ _ hf => m_X7_advance l w A S2 _ hf) (fun z5 S6 h => ?_)
    refine cj_iconst C (v := (1 : Int32)) dX7_takeSign_18 rfl ?_
    exact cj_zreturn C hr rfl h dX7_takeSign_19
/-! X7_takeLineEnd -/
def fX7_takeLineEnd (S : cpS) : Option (Int32 × cpS) :=
    cpB (fX7_takeSign (59 : Int32) S) fun z1 S2 =>
    if z1 = 0 then (
    some ((0 : Int32), S2)) else (
    cpLt (cpI S2 15 2 ((S2.1 15 2) + (1 : Int32))) fun S3 =>
    some ((1 : Int32), S3))
set_option maxRecDepth 100000 in
set_option maxHeartbeats 4000000 in
theorem m_X7_takeLineEnd (l : Launch) (w : cpW) (A : Nat → Prop) (S : cpS) (r : Int32 × cpS) (h : fX7_takeLineEnd S = some r) : cpMi l yX7_takeLineEnd cX7_takeLineEnd 1 ((some .boolean)) 6 w A [.ref (w.2.1 115)] S r := by
  refine cpMi.of (lv := [some (.ref (w.2.1 115))]) (by decide) (Nat.le_of_ble_eq_true rfl) rfl (fun p e s m args below meth c C hr => ?_)
  replace C : cpCx p s m args meth c w A cX7_takeLineEnd RX7 1 := C
  rw [fX7_takeLineEnd] at h
  refine cj_aload_n C (i := 0) dX7_takeLineEnd_0 rfl rfl ?_
  refine cj_bipush C (v := (59 : Int32)) dX7_takeLineEnd_1 rfl ?_
  refine cj_callVi C (As := [.int (59 : Int32)]) (rest := []) qX7_takeSign mw_17_2 o_115 rfl rfl rfl (Nat.le_of_ble_eq_true rfl) (by decide) dX7_takeLineEnd_3 h (fun _ _ hf => m_X7_takeSign l w A (59 : Int32) S _ hf) (fun z1 S2 h => ?_)
  refine cj_if_ne C (tgt := 11) dX7_takeLineEnd_6 rfl h (fun _ h => ?_) (fun _ h => ?_)
  · refine cj_iconst C (v := (0 : Int32)) dX7_takeLineEnd_9 rfl ?_
    exact cj_zreturn C hr rfl h dX7_takeLineEnd_10
  · refine cj_aload_n C (i := 0) dX7_takeLineEnd_11 rfl rfl ?_
    refine cj_getR C (d := 15) o_115 rfl gfX7_18 dX7_takeLineEnd_12 ?_
    refine cj_dup C dX7_takeLineEnd_15 rfl ?_
    refine cj_getI C (j := 2) o_15 rfl gfX7_86 dX7_takeLineEnd_16 ?_
    refine cj_iconst C (v := (1 : Int32)) dX7_takeLineEnd_19 rfl ?_
    refine cj_iadd C dX7_takeLineEnd_20 ?_
    refine cj_put C (j := 2) o_15 rfl pfX7_86 rfl rfl dX7_takeLineEnd_21 ?_
    refine cj_lets h (fun S3 h => ?_)
    refine cj_iconst C (v := (1 : Int32)) dX7_takeLineEnd_24 rfl ?_
    exact cj_zreturn C hr rfl h dX7_takeLineEnd_25
/-! X7_readHead -/
def fX7_readHead (S : cpS) : Option (Int32 × cpS) :=
    cpB (fX7_takeWord 1 S) fun z1 S2 =>
    if z1 = 0 then (
    some ((0 : Int32), S2)) else (
    cpB (fX7_takeWord 2 S2) fun z3 S4 =>
    if z3 = 0 then (
    some ((0 : Int32), S4)) else (
    cpB (fX7_takeNumber (1 : Int32) (6 : Int32) (-1 : Int32) S4) fun z5 S6 =>
    if z5 = 0 then (
    some ((0 : Int32), S6)) else (
    cpLt (cpI S6 15 0 (S6.1 115 10)) fun S7 =>
    cpB (fX7_takeWord 3 S7) fun z8 S9 =>
    if z8 = 0 then (
    some ((0 : Int32), S9)) else (
    cpB (fX7_takeNumber (0 : Int32) (9 : Int32) (-1 : Int32) S9) fun z10 S11 =>
    if z10 = 0 then (
    some ((0 : Int32), S11)) else (
    cpLt (cpI S11 15 1 (S11.1 115 10)) fun S12 =>
    cpB (fX7_takeLineEnd S12) fun z13 S14 =>
    if cpBo z13 then some (z13, S14) else none)))))
set_option maxRecDepth 100000 in
set_option maxHeartbeats 4000000 in
theorem m_X7_readHead (l : Launch) (w : cpW) (A : Nat → Prop) (S : cpS) (r : Int32 × cpS) (h : fX7_readHead S = some r) : cpMi l yX7_readHead cX7_readHead 1 ((some .boolean)) 7 w A [.ref (w.2.1 115)] S r := by
  refine cpMi.of (lv := [some (.ref (w.2.1 115))]) (by decide) (Nat.le_of_ble_eq_true rfl) rfl (fun p e s m args below meth c C hr => ?_)
  replace C : cpCx p s m args meth c w A cX7_readHead RX7 1 := C
  rw [fX7_readHead] at h
  refine cj_aload_n C (i := 0) dX7_readHead_0 rfl rfl ?_
  refine cj_ldcS C (i := 1) (List.mem_of_getElem? (i := 1) rfl) dX7_readHead_1 ?_
  refine cj_callVi C (As := [.ref (w.2.2.2.2.1 1)]) (rest := []) qX7_takeWord mw_15_8 o_115 rfl rfl rfl (Nat.le_of_ble_eq_true rfl) (by decide) dX7_readHead_3 h (fun _ _ hf => m_X7_takeWord l w A (by decide) S _ hf) (fun z1 S2 h => ?_)
  refine cj_if_eq C (tgt := 29) dX7_readHead_6 rfl h (fun _ h => ?_) (fun _ h => ?_)
  · refine cj_iconst C (v := (0 : Int32)) dX7_readHead_29 rfl ?_
    exact cj_zreturn C hr rfl h dX7_readHead_30
  · refine cj_aload_n C (i := 0) dX7_readHead_9 rfl rfl ?_
    refine cj_ldcS C (i := 2) (List.mem_of_getElem? (i := 2) rfl) dX7_readHead_10 ?_
    refine cj_callVi C (As := [.ref (w.2.2.2.2.1 2)]) (rest := []) qX7_takeWord mw_15_8 o_115 rfl rfl rfl (Nat.le_of_ble_eq_true rfl) (by decide) dX7_readHead_12 h (fun _ _ hf => m_X7_takeWord l w A (by decide) S2 _ hf) (fun z3 S4 h => ?_)
    refine cj_if_eq C (tgt := 29) dX7_readHead_15 rfl h (fun _ h => ?_) (fun _ h => ?_)
    · refine cj_iconst C (v := (0 : Int32)) dX7_readHead_29 rfl ?_
      exact cj_zreturn C hr rfl h dX7_readHead_30
    · refine cj_aload_n C (i := 0) dX7_readHead_18 rfl rfl ?_
      refine cj_iconst C (v := (1 : Int32)) dX7_readHead_19 rfl ?_
      refine cj_bipush C (v := (6 : Int32)) dX7_readHead_20 rfl ?_
      refine cj_iconst C (v := (-1 : Int32)) dX7_readHead_22 rfl ?_
      refine cj_callVi C (As := [.int (1 : Int32), .int (6 : Int32), .int (-1 : Int32)]) (rest := []) qX7_takeNumber mw_16_17 o_115 rfl rfl rfl (Nat.le_of_ble_eq_true rfl) (by decide) dX7_readHead_23 h (fun _ _ hf => m_X7_takeNumber l w A (1 : Int32) (6 : Int32) (-1 : Int32) S4 _ hf) (fun z5 S6 h => ?_)
      refine cj_if_ne C (tgt := 31) dX7_readHead_26 rfl h (fun _ h => ?_) (fun _ h => ?_)
      · refine cj_iconst C (v := (0 : Int32)) dX7_readHead_29 rfl ?_
        exact cj_zreturn C hr rfl h dX7_readHead_30
      · refine cj_aload_n C (i := 0) dX7_readHead_31 rfl rfl ?_
        refine cj_getR C (d := 15) o_115 rfl gfX7_18 dX7_readHead_32 ?_
        refine cj_aload_n C (i := 0) dX7_readHead_35 rfl rfl ?_
        refine cj_getI C (j := 10) o_115 rfl gfX7_72 dX7_readHead_36 ?_
        refine cj_put C (j := 0) o_15 rfl pfX7_75 rfl rfl dX7_readHead_39 ?_
        refine cj_lets h (fun S7 h => ?_)
        refine cj_aload_n C (i := 0) dX7_readHead_42 rfl rfl ?_
        refine cj_ldcS C (i := 3) (List.mem_of_getElem? (i := 3) rfl) dX7_readHead_43 ?_
        refine cj_callVi C (As := [.ref (w.2.2.2.2.1 3)]) (rest := []) qX7_takeWord mw_15_8 o_115 rfl rfl rfl (Nat.le_of_ble_eq_true rfl) (by decide) dX7_readHead_45 h (fun _ _ hf => m_X7_takeWord l w A (by decide) S7 _ hf) (fun z8 S9 h => ?_)
        refine cj_if_eq C (tgt := 62) dX7_readHead_48 rfl h (fun _ h => ?_) (fun _ h => ?_)
        · refine cj_iconst C (v := (0 : Int32)) dX7_readHead_62 rfl ?_
          exact cj_zreturn C hr rfl h dX7_readHead_63
        · refine cj_aload_n C (i := 0) dX7_readHead_51 rfl rfl ?_
          refine cj_iconst C (v := (0 : Int32)) dX7_readHead_52 rfl ?_
          refine cj_bipush C (v := (9 : Int32)) dX7_readHead_53 rfl ?_
          refine cj_iconst C (v := (-1 : Int32)) dX7_readHead_55 rfl ?_
          refine cj_callVi C (As := [.int (0 : Int32), .int (9 : Int32), .int (-1 : Int32)]) (rest := []) qX7_takeNumber mw_16_17 o_115 rfl rfl rfl (Nat.le_of_ble_eq_true rfl) (by decide) dX7_readHead_56 h (fun _ _ hf => m_X7_takeNumber l w A (0 : Int32) (9 : Int32) (-1 : Int32) S9 _ hf) (fun z10 S11 h => ?_)
          refine cj_if_ne C (tgt := 64) dX7_readHead_59 rfl h (fun _ h => ?_) (fun _ h => ?_)
          · refine cj_iconst C (v := (0 : Int32)) dX7_readHead_62 rfl ?_
            exact cj_zreturn C hr rfl h dX7_readHead_63
          · refine cj_aload_n C (i := 0) dX7_readHead_64 rfl rfl ?_
            refine cj_getR C (d := 15) o_115 rfl gfX7_18 dX7_readHead_65 ?_
            refine cj_aload_n C (i := 0) dX7_readHead_68 rfl rfl ?_
            refine cj_getI C (j := 10) o_115 rfl gfX7_72 dX7_readHead_69 ?_
            refine cj_put C (j := 1) o_15 rfl pfX7_79 rfl rfl dX7_readHead_72 ?_
            refine cj_lets h (fun S12 h => ?_)
            refine cj_aload_n C (i := 0) dX7_readHead_75 rfl rfl ?_
            refine cj_callVi C (As := []) (rest := []) qX7_takeLineEnd mw_16_21 o_115 rfl rfl rfl (Nat.le_of_ble_eq_true rfl) (by decide) dX7_readHead_76 h (fun _ _ hf => m_X7_takeLineEnd l w A S12 _ hf) (fun z13 S14 h => ?_)
            obtain ⟨hb, h⟩ := cpGuard h
            exact cj_zreturn C hr (cpBo_n hb) h dX7_readHead_79
/-! X7_readRoad -/
def fX7_readRoad (S : cpS) : Option (Int32 × cpS) :=
    cpLt (S.1 15 3) fun y1 =>
    if y1 < (9 : Int32) then (
    cpB (fX7_advance S) fun _ S3 =>
    cpB (fX7_takeNumber (0 : Int32) ((S3.1 15 0) - (1 : Int32)) (-1 : Int32) S3) fun z4 S5 =>
    if z4 = 0 then (
    some ((0 : Int32), S5)) else (
    if cpIn y1 9 then (
    cpLt (cpI S5 16 y1.toNatClampNeg (S5.1 115 10)) fun S6 =>
    cpB (fX7_takeNumber (0 : Int32) ((S6.1 15 0) - (1 : Int32)) (S6.1 115 10) S6) fun z7 S8 =>
    if z7 = 0 then (
    some ((0 : Int32), S8)) else (
    if cpIn y1 9 then (
    cpLt (cpI S8 17 y1.toNatClampNeg (S8.1 115 10)) fun S9 =>
    cpB (fX7_takeWord 5 S9) fun z10 S11 =>
    if z10 = 0 then (
    some ((0 : Int32), S11)) else (
    cpB (fX7_takeNumber (1 : Int32) (9 : Int32) (-1 : Int32) S11) fun z12 S13 =>
    if z12 = 0 then (
    some ((0 : Int32), S13)) else (
    if cpIn y1 9 then (
    cpLt (cpI S13 18 y1.toNatClampNeg (S13.1 115 10)) fun S14 =>
    cpLt (cpI S14 15 3 ((S14.1 15 3) + (1 : Int32))) fun S15 =>
    some ((1 : Int32), S15)) else none))) else none)) else none)) else (
    cpB (fX7_refuse (4 : Int32) S) fun z16 S17 =>
    if cpBo z16 then some (z16, S17) else none)
set_option maxRecDepth 100000 in
set_option maxHeartbeats 4000000 in
theorem m_X7_readRoad (l : Launch) (w : cpW) (A : Nat → Prop) (S : cpS) (r : Int32 × cpS) (h : fX7_readRoad S = some r) : cpMi l yX7_readRoad cX7_readRoad 2 ((some .boolean)) 6 w A [.ref (w.2.1 115)] S r := by
  refine cpMi.of (lv := [some (.ref (w.2.1 115)), none]) (by decide) (Nat.le_of_ble_eq_true rfl) rfl (fun p e s m args below meth c C hr => ?_)
  replace C : cpCx p s m args meth c w A cX7_readRoad RX7 2 := C
  rw [fX7_readRoad] at h
  refine cj_aload_n C (i := 0) dX7_readRoad_0 rfl rfl ?_
  refine cj_getR C (d := 15) o_115 rfl gfX7_18 dX7_readRoad_1 ?_
  refine cj_getI C (j := 3) o_15 rfl gfX7_126 dX7_readRoad_4 ?_
  refine cj_let h (fun y1 h => ?_)
  refine cj_istore_n C (i := 1) (lv' := [some (.ref (w.2.1 115)), some (.int y1)]) dX7_readRoad_7 rfl (by decide) rfl rfl ?_
  refine cj_iload_n C (i := 1) dX7_readRoad_8 rfl rfl ?_
  refine cj_bipush C (v := (9 : Int32)) dX7_readRoad_9 rfl ?_
  refine cj_icmp_lt C (tgt := 20) dX7_readRoad_11 rfl h (fun _ h => ?_) (fun _ h => ?_)
  · refine cj_aload_n C (i := 0) dX7_readRoad_20 rfl rfl ?_
    refine cj_callVv C (As := []) (rest := []) qX7_advance mw_11_2 o_115 rfl rfl rfl (Nat.le_of_ble_eq_true rfl) (by decide) dX7_readRoad_21 h (fun _ _ hf => m_X7_advance l w A S _ hf) (fun z2 S3 h => ?_)
    refine cj_aload_n C (i := 0) dX7_readRoad_24 rfl rfl ?_
    refine cj_iconst C (v := (0 : Int32)) dX7_readRoad_25 rfl ?_
    refine cj_aload_n C (i := 0) dX7_readRoad_26 rfl rfl ?_
    refine cj_getR C (d := 15) o_115 rfl gfX7_18 dX7_readRoad_27 ?_
    refine cj_getI C (j := 0) o_15 rfl gfX7_75 dX7_readRoad_30 ?_
    refine cj_iconst C (v := (1 : Int32)) dX7_readRoad_33 rfl ?_
    refine cj_isub C dX7_readRoad_34 ?_
    refine cj_iconst C (v := (-1 : Int32)) dX7_readRoad_35 rfl ?_
    refine cj_callVi C (As := [.int (0 : Int32), .int ((S3.1 15 0) - (1 : Int32)), .int (-1 : Int32)]) (rest := []) qX7_takeNumber mw_16_17 o_115 rfl rfl rfl (Nat.le_of_ble_eq_true rfl) (by decide) dX7_readRoad_36 h (fun _ _ hf => m_X7_takeNumber l w A (0 : Int32) ((S3.1 15 0) - (1 : Int32)) (-1 : Int32) S3 _ hf) (fun z4 S5 h => ?_)
    refine cj_if_ne C (tgt := 44) dX7_readRoad_39 rfl h (fun _ h => ?_) (fun _ h => ?_)
    · refine cj_iconst C (v := (0 : Int32)) dX7_readRoad_42 rfl ?_
      exact cj_zreturn C hr rfl h dX7_readRoad_43
    · refine cj_aload_n C (i := 0) dX7_readRoad_44 rfl rfl ?_
      refine cj_getR C (d := 15) o_115 rfl gfX7_18 dX7_readRoad_45 ?_
      refine cj_getR C (d := 16) o_15 rfl gfX7_129 dX7_readRoad_48 ?_
      refine cj_iload_n C (i := 1) dX7_readRoad_51 rfl rfl ?_
      refine cj_aload_n C (i := 0) dX7_readRoad_52 rfl rfl ?_
      refine cj_getI C (j := 10) o_115 rfl gfX7_72 dX7_readRoad_53 ?_
      refine cj_iastore C o_16 h dX7_readRoad_56 (fun h => ?_)
      refine cj_lets h (fun S6 h => ?_)
      refine cj_aload_n C (i := 0) dX7_readRoad_57 rfl rfl ?_
      refine cj_iconst C (v := (0 : Int32)) dX7_readRoad_58 rfl ?_
      refine cj_aload_n C (i := 0) dX7_readRoad_59 rfl rfl ?_
      refine cj_getR C (d := 15) o_115 rfl gfX7_18 dX7_readRoad_60 ?_
      refine cj_getI C (j := 0) o_15 rfl gfX7_75 dX7_readRoad_63 ?_
      refine cj_iconst C (v := (1 : Int32)) dX7_readRoad_66 rfl ?_
      refine cj_isub C dX7_readRoad_67 ?_
      refine cj_aload_n C (i := 0) dX7_readRoad_68 rfl rfl ?_
      refine cj_getI C (j := 10) o_115 rfl gfX7_72 dX7_readRoad_69 ?_
      refine cj_callVi C (As := [.int (0 : Int32), .int ((S6.1 15 0) - (1 : Int32)), .int (S6.1 115 10)]) (rest := []) qX7_takeNumber mw_16_17 o_115 rfl rfl rfl (Nat.le_of_ble_eq_true rfl) (by decide) dX7_readRoad_72 h (fun _ _ hf => m_X7_takeNumber l w A (0 : Int32) ((S6.1 15 0) - (1 : Int32)) (S6.1 115 10) S6 _ hf) (fun z7 S8 h => ?_)
      refine cj_if_ne C (tgt := 80) dX7_readRoad_75 rfl h (fun _ h => ?_) (fun _ h => ?_)
      · refine cj_iconst C (v := (0 : Int32)) dX7_readRoad_78 rfl ?_
        exact cj_zreturn C hr rfl h dX7_readRoad_79
      · refine cj_aload_n C (i := 0) dX7_readRoad_80 rfl rfl ?_
        refine cj_getR C (d := 15) o_115 rfl gfX7_18 dX7_readRoad_81 ?_
        refine cj_getR C (d := 17) o_15 rfl gfX7_133 dX7_readRoad_84 ?_
        refine cj_iload_n C (i := 1) dX7_readRoad_87 rfl rfl ?_
        refine cj_aload_n C (i := 0) dX7_readRoad_88 rfl rfl ?_
        refine cj_getI C (j := 10) o_115 rfl gfX7_72 dX7_readRoad_89 ?_
        refine cj_iastore C o_17 h dX7_readRoad_92 (fun h => ?_)
        refine cj_lets h (fun S9 h => ?_)
        refine cj_aload_n C (i := 0) dX7_readRoad_93 rfl rfl ?_
        refine cj_ldcS C (i := 5) (List.mem_of_getElem? (i := 5) rfl) dX7_readRoad_94 ?_
        refine cj_callVi C (As := [.ref (w.2.2.2.2.1 5)]) (rest := []) qX7_takeWord mw_15_8 o_115 rfl rfl rfl (Nat.le_of_ble_eq_true rfl) (by decide) dX7_readRoad_96 h (fun _ _ hf => m_X7_takeWord l w A (by decide) S9 _ hf) (fun z10 S11 h => ?_)
        refine cj_if_eq C (tgt := 113) dX7_readRoad_99 rfl h (fun _ h => ?_) (fun _ h => ?_)
        · refine cj_iconst C (v := (0 : Int32)) dX7_readRoad_113 rfl ?_
          exact cj_zreturn C hr rfl h dX7_readRoad_114
        · refine cj_aload_n C (i := 0) dX7_readRoad_102 rfl rfl ?_
          refine cj_iconst C (v := (1 : Int32)) dX7_readRoad_103 rfl ?_
          refine cj_bipush C (v := (9 : Int32)) dX7_readRoad_104 rfl ?_
          refine cj_iconst C (v := (-1 : Int32)) dX7_readRoad_106 rfl ?_
          refine cj_callVi C (As := [.int (1 : Int32), .int (9 : Int32), .int (-1 : Int32)]) (rest := []) qX7_takeNumber mw_16_17 o_115 rfl rfl rfl (Nat.le_of_ble_eq_true rfl) (by decide) dX7_readRoad_107 h (fun _ _ hf => m_X7_takeNumber l w A (1 : Int32) (9 : Int32) (-1 : Int32) S11 _ hf) (fun z12 S13 h => ?_)
          refine cj_if_ne C (tgt := 115) dX7_readRoad_110 rfl h (fun _ h => ?_) (fun _ h => ?_)
          · refine cj_iconst C (v := (0 : Int32)) dX7_readRoad_113 rfl ?_
            exact cj_zreturn C hr rfl h dX7_readRoad_114
          · refine cj_aload_n C (i := 0) dX7_readRoad_115 rfl rfl ?_
            refine cj_getR C (d := 15) o_115 rfl gfX7_18 dX7_readRoad_116 ?_
            refine cj_getR C (d := 18) o_15 rfl gfX7_138 dX7_readRoad_119 ?_
            refine cj_iload_n C (i := 1) dX7_readRoad_122 rfl rfl ?_
            refine cj_aload_n C (i := 0) dX7_readRoad_123 rfl rfl ?_
            refine cj_getI C (j := 10) o_115 rfl gfX7_72 dX7_readRoad_124 ?_
            refine cj_iastore C o_18 h dX7_readRoad_127 (fun h => ?_)
            refine cj_lets h (fun S14 h => ?_)
            refine cj_aload_n C (i := 0) dX7_readRoad_128 rfl rfl ?_
            refine cj_getR C (d := 15) o_115 rfl gfX7_18 dX7_readRoad_129 ?_
            refine cj_dup C dX7_readRoad_132 rfl ?_
            refine cj_getI C (j := 3) o_15 rfl gfX7_126 dX7_readRoad_133 ?_
            refine cj_iconst C (v := (1 : Int32)) dX7_readRoad_136 rfl ?_
            refine cj_iadd C dX7_readRoad_137 ?_
            refine cj_put C (j := 3) o_15 rfl pfX7_126 rfl rfl dX7_readRoad_138 ?_
            refine cj_lets h (fun S15 h => ?_)
            refine cj_iconst C (v := (1 : Int32)) dX7_readRoad_141 rfl ?_
            exact cj_zreturn C hr rfl h dX7_readRoad_142
  · refine cj_aload_n C (i := 0) dX7_readRoad_14 rfl rfl ?_
    refine cj_iconst C (v := (4 : Int32)) dX7_readRoad_15 rfl ?_
    refine cj_callVi C (As := [.int (4 : Int32)]) (rest := []) qX7_refuse mw_16_13 o_115 rfl rfl rfl (Nat.le_of_ble_eq_true rfl) (by decide) dX7_readRoad_16 h (fun _ _ hf => m_X7_refuse l w A (4 : Int32) S _ hf) (fun z16 S17 h => ?_)
    obtain ⟨hb, h⟩ := cpGuard h
    exact cj_zreturn C hr (cpBo_n hb) h dX7_readRoad_19
/-! X7_readPerson -/
def fX7_readPerson (S : cpS) : Option (Int32 × cpS) :=
    cpLt (S.1 15 7) fun y1 =>
    if y1 < (8 : Int32) then (
    cpB (fX7_advance S) fun _ S3 =>
    cpB (fX7_takeWord 7 S3) fun z4 S5 =>
    if z4 = 0 then (
    some ((0 : Int32), S5)) else (
    cpB (fX7_takeNumber (0 : Int32) ((S5.1 15 0) - (1 : Int32)) (-1 : Int32) S5) fun z6 S7 =>
    if z6 = 0 then (
    some ((0 : Int32), S7)) else (
    if cpIn y1 8 then (
    cpLt (cpI S7 19 y1.toNatClampNeg (S7.1 115 10)) fun S8 =>
    cpB (fX7_takeWord 8 S8) fun z9 S10 =>
    if z9 = 0 then (
    some ((0 : Int32), S10)) else (
    cpB (fX7_takeNumber (0 : Int32) (9 : Int32) (-1 : Int32) S10) fun z11 S12 =>
    if z11 = 0 then (
    some ((0 : Int32), S12)) else (
    if cpIn y1 8 then (
    cpLt (cpI S12 20 y1.toNatClampNeg (S12.1 115 10)) fun S13 =>
    cpLt (cpI S13 15 7 ((S13.1 15 7) + (1 : Int32))) fun S14 =>
    some ((1 : Int32), S14)) else none))) else none))) else (
    cpB (fX7_refuse (4 : Int32) S) fun z15 S16 =>
    if cpBo z15 then some (z15, S16) else none)
set_option maxRecDepth 100000 in
set_option maxHeartbeats 4000000 in
theorem m_X7_readPerson (l : Launch) (w : cpW) (A : Nat → Prop) (S : cpS) (r : Int32 × cpS) (h : fX7_readPerson S = some r) : cpMi l yX7_readPerson cX7_readPerson 2 ((some .boolean)) 6 w A [.ref (w.2.1 115)] S r := by
  refine cpMi.of (lv := [some (.ref (w.2.1 115)), none]) (by decide) (Nat.le_of_ble_eq_true rfl) rfl (fun p e s m args below meth c C hr => ?_)
  replace C : cpCx p s m args meth c w A cX7_readPerson RX7 2 := C
  rw [fX7_readPerson] at h
  refine cj_aload_n C (i := 0) dX7_readPerson_0 rfl rfl ?_
  refine cj_getR C (d := 15) o_115 rfl gfX7_18 dX7_readPerson_1 ?_
  refine cj_getI C (j := 7) o_15 rfl gfX7_141 dX7_readPerson_4 ?_
  refine cj_let h (fun y1 h => ?_)
  refine cj_istore_n C (i := 1) (lv' := [some (.ref (w.2.1 115)), some (.int y1)]) dX7_readPerson_7 rfl (by decide) rfl rfl ?_
  refine cj_iload_n C (i := 1) dX7_readPerson_8 rfl rfl ?_
  refine cj_bipush C (v := (8 : Int32)) dX7_readPerson_9 rfl ?_
  refine cj_icmp_lt C (tgt := 20) dX7_readPerson_11 rfl h (fun _ h => ?_) (fun _ h => ?_)
  · refine cj_aload_n C (i := 0) dX7_readPerson_20 rfl rfl ?_
    refine cj_callVv C (As := []) (rest := []) qX7_advance mw_11_2 o_115 rfl rfl rfl (Nat.le_of_ble_eq_true rfl) (by decide) dX7_readPerson_21 h (fun _ _ hf => m_X7_advance l w A S _ hf) (fun z2 S3 h => ?_)
    refine cj_aload_n C (i := 0) dX7_readPerson_24 rfl rfl ?_
    refine cj_ldcS C (i := 7) (List.mem_of_getElem? (i := 7) rfl) dX7_readPerson_25 ?_
    refine cj_callVi C (As := [.ref (w.2.2.2.2.1 7)]) (rest := []) qX7_takeWord mw_15_8 o_115 rfl rfl rfl (Nat.le_of_ble_eq_true rfl) (by decide) dX7_readPerson_27 h (fun _ _ hf => m_X7_takeWord l w A (by decide) S3 _ hf) (fun z4 S5 h => ?_)
    refine cj_if_eq C (tgt := 51) dX7_readPerson_30 rfl h (fun _ h => ?_) (fun _ h => ?_)
    · refine cj_iconst C (v := (0 : Int32)) dX7_readPerson_51 rfl ?_
      exact cj_zreturn C hr rfl h dX7_readPerson_52
    · refine cj_aload_n C (i := 0) dX7_readPerson_33 rfl rfl ?_
      refine cj_iconst C (v := (0 : Int32)) dX7_readPerson_34 rfl ?_
      refine cj_aload_n C (i := 0) dX7_readPerson_35 rfl rfl ?_
      refine cj_getR C (d := 15) o_115 rfl gfX7_18 dX7_readPerson_36 ?_
      refine cj_getI C (j := 0) o_15 rfl gfX7_75 dX7_readPerson_39 ?_
      refine cj_iconst C (v := (1 : Int32)) dX7_readPerson_42 rfl ?_
      refine cj_isub C dX7_readPerson_43 ?_
      refine cj_iconst C (v := (-1 : Int32)) dX7_readPerson_44 rfl ?_
      refine cj_callVi C (As := [.int (0 : Int32), .int ((S5.1 15 0) - (1 : Int32)), .int (-1 : Int32)]) (rest := []) qX7_takeNumber mw_16_17 o_115 rfl rfl rfl (Nat.le_of_ble_eq_true rfl) (by decide) dX7_readPerson_45 h (fun _ _ hf => m_X7_takeNumber l w A (0 : Int32) ((S5.1 15 0) - (1 : Int32)) (-1 : Int32) S5 _ hf) (fun z6 S7 h => ?_)
      refine cj_if_ne C (tgt := 53) dX7_readPerson_48 rfl h (fun _ h => ?_) (fun _ h => ?_)
      · refine cj_iconst C (v := (0 : Int32)) dX7_readPerson_51 rfl ?_
        exact cj_zreturn C hr rfl h dX7_readPerson_52
      · refine cj_aload_n C (i := 0) dX7_readPerson_53 rfl rfl ?_
        refine cj_getR C (d := 15) o_115 rfl gfX7_18 dX7_readPerson_54 ?_
        refine cj_getR C (d := 19) o_15 rfl gfX7_146 dX7_readPerson_57 ?_
        refine cj_iload_n C (i := 1) dX7_readPerson_60 rfl rfl ?_
        refine cj_aload_n C (i := 0) dX7_readPerson_61 rfl rfl ?_
        refine cj_getI C (j := 10) o_115 rfl gfX7_72 dX7_readPerson_62 ?_
        refine cj_iastore C o_19 h dX7_readPerson_65 (fun h => ?_)
        refine cj_lets h (fun S8 h => ?_)
        refine cj_aload_n C (i := 0) dX7_readPerson_66 rfl rfl ?_
        refine cj_ldcS C (i := 8) (List.mem_of_getElem? (i := 8) rfl) dX7_readPerson_67 ?_
        refine cj_callVi C (As := [.ref (w.2.2.2.2.1 8)]) (rest := []) qX7_takeWord mw_15_8 o_115 rfl rfl rfl (Nat.le_of_ble_eq_true rfl) (by decide) dX7_readPerson_69 h (fun _ _ hf => m_X7_takeWord l w A (by decide) S8 _ hf) (fun z9 S10 h => ?_)
        refine cj_if_eq C (tgt := 86) dX7_readPerson_72 rfl h (fun _ h => ?_) (fun _ h => ?_)
        · refine cj_iconst C (v := (0 : Int32)) dX7_readPerson_86 rfl ?_
          exact cj_zreturn C hr rfl h dX7_readPerson_87
        · refine cj_aload_n C (i := 0) dX7_readPerson_75 rfl rfl ?_
          refine cj_iconst C (v := (0 : Int32)) dX7_readPerson_76 rfl ?_
          refine cj_bipush C (v := (9 : Int32)) dX7_readPerson_77 rfl ?_
          refine cj_iconst C (v := (-1 : Int32)) dX7_readPerson_79 rfl ?_
          refine cj_callVi C (As := [.int (0 : Int32), .int (9 : Int32), .int (-1 : Int32)]) (rest := []) qX7_takeNumber mw_16_17 o_115 rfl rfl rfl (Nat.le_of_ble_eq_true rfl) (by decide) dX7_readPerson_80 h (fun _ _ hf => m_X7_takeNumber l w A (0 : Int32) (9 : Int32) (-1 : Int32) S10 _ hf) (fun z11 S12 h => ?_)
          refine cj_if_ne C (tgt := 88) dX7_readPerson_83 rfl h (fun _ h => ?_) (fun _ h => ?_)
          · refine cj_iconst C (v := (0 : Int32)) dX7_readPerson_86 rfl ?_
            exact cj_zreturn C hr rfl h dX7_readPerson_87
          · refine cj_aload_n C (i := 0) dX7_readPerson_88 rfl rfl ?_
            refine cj_getR C (d := 15) o_115 rfl gfX7_18 dX7_readPerson_89 ?_
            refine cj_getR C (d := 20) o_15 rfl gfX7_151 dX7_readPerson_92 ?_
            refine cj_iload_n C (i := 1) dX7_readPerson_95 rfl rfl ?_
            refine cj_aload_n C (i := 0) dX7_readPerson_96 rfl rfl ?_
            refine cj_getI C (j := 10) o_115 rfl gfX7_72 dX7_readPerson_97 ?_
            refine cj_iastore C o_20 h dX7_readPerson_100 (fun h => ?_)
            refine cj_lets h (fun S13 h => ?_)
            refine cj_aload_n C (i := 0) dX7_readPerson_101 rfl rfl ?_
            refine cj_getR C (d := 15) o_115 rfl gfX7_18 dX7_readPerson_102 ?_
            refine cj_dup C dX7_readPerson_105 rfl ?_
            refine cj_getI C (j := 7) o_15 rfl gfX7_141 dX7_readPerson_106 ?_
            refine cj_iconst C (v := (1 : Int32)) dX7_readPerson_109 rfl ?_
            refine cj_iadd C dX7_readPerson_110 ?_
            refine cj_put C (j := 7) o_15 rfl pfX7_141 rfl rfl dX7_readPerson_111 ?_
            refine cj_lets h (fun S14 h => ?_)
            refine cj_iconst C (v := (1 : Int32)) dX7_readPerson_114 rfl ?_
            exact cj_zreturn C hr rfl h dX7_readPerson_115
  · refine cj_aload_n C (i := 0) dX7_readPerson_14 rfl rfl ?_
    refine cj_iconst C (v := (4 : Int32)) dX7_readPerson_15 rfl ?_
    refine cj_callVi C (As := [.int (4 : Int32)]) (rest := []) qX7_refuse mw_16_13 o_115 rfl rfl rfl (Nat.le_of_ble_eq_true rfl) (by decide) dX7_readPerson_16 h (fun _ _ hf => m_X7_refuse l w A (4 : Int32) S _ hf) (fun z15 S16 h => ?_)
    obtain ⟨hb, h⟩ := cpGuard h
    exact cj_zreturn C hr (cpBo_n hb) h dX7_readPerson_19
/-! X7_readQuarrel -/
def fX7_readQuarrel (S : cpS) : Option (Int32 × cpS) :=
    cpB (fX7_advance S) fun _ S2 =>
    cpB (fX7_takeNumber (0 : Int32) ((S2.1 15 7) - (1 : Int32)) (-1 : Int32) S2) fun z3 S4 =>
    if z3 = 0 then (
    some ((0 : Int32), S4)) else (
    cpLt (S4.1 115 10) fun y5 =>
    cpB (fX7_takeNumber (0 : Int32) ((S4.1 15 7) - (1 : Int32)) y5 S4) fun z6 S7 =>
    if z6 = 0 then (
    some ((0 : Int32), S7)) else (
    if cpIn y5 8 then (
    if cpIn y5 8 then (
    cpLt (cpI S7 21 y5.toNatClampNeg ((S7.1 21 y5.toNatClampNeg) ||| (cpShl (1 : Int32) (S7.1 115 10)))) fun S8 =>
    if cpIn (S8.1 115 10) 8 then (
    if cpIn (S8.1 115 10) 8 then (
    cpLt (cpI S8 21 (S8.1 115 10).toNatClampNeg ((S8.1 21 (S8.1 115 10).toNatClampNeg) ||| (cpShl (1 : Int32) y5))) fun S9 =>
    some ((1 : Int32), S9)) else none) else none) else none) else none))
set_option maxRecDepth 100000 in
set_option maxHeartbeats 4000000 in
theorem m_X7_readQuarrel (l : Launch) (w : cpW) (A : Nat → Prop) (S : cpS) (r : Int32 × cpS) (h : fX7_readQuarrel S = some r) : cpMi l yX7_readQuarrel cX7_readQuarrel 2 ((some .boolean)) 6 w A [.ref (w.2.1 115)] S r := by
  refine cpMi.of (lv := [some (.ref (w.2.1 115)), none]) (by decide) (Nat.le_of_ble_eq_true rfl) rfl (fun p e s m args below meth c C hr => ?_)
  replace C : cpCx p s m args meth c w A cX7_readQuarrel RX7 2 := C
  rw [fX7_readQuarrel] at h
  refine cj_aload_n C (i := 0) dX7_readQuarrel_0 rfl rfl ?_
  refine cj_callVv C (As := []) (rest := []) qX7_advance mw_11_2 o_115 rfl rfl rfl (Nat.le_of_ble_eq_true rfl) (by decide) dX7_readQuarrel_1 h (fun _ _ hf => m_X7_advance l w A S _ hf) (fun z1 S2 h => ?_)
  refine cj_aload_n C (i := 0) dX7_readQuarrel_4 rfl rfl ?_
  refine cj_iconst C (v := (0 : Int32)) dX7_readQuarrel_5 rfl ?_
  refine cj_aload_n C (i := 0) dX7_readQuarrel_6 rfl rfl ?_
  refine cj_getR C (d := 15) o_115 rfl gfX7_18 dX7_readQuarrel_7 ?_
  refine cj_getI C (j := 7) o_15 rfl gfX7_141 dX7_readQuarrel_10 ?_
  refine cj_iconst C (v := (1 : Int32)) dX7_readQuarrel_13 rfl ?_
  refine cj_isub C dX7_readQuarrel_14 ?_
  refine cj_iconst C (v := (-1 : Int32)) dX7_readQuarrel_15 rfl ?_
  refine cj_callVi C (As := [.int (0 : Int32), .int ((S2.1 15 7) - (1 : Int32)), .int (-1 : Int32)]) (rest := []) qX7_takeNumber mw_16_17 o_115 rfl rfl rfl (Nat.le_of_ble_eq_true rfl) (by decide) dX7_readQuarrel_16 h (fun _ _ hf => m_X7_takeNumber l w A (0 : Int32) ((S2.1 15 7) - (1 : Int32)) (-1 : Int32) S2 _ hf) (fun z3 S4 h => ?_)
  refine cj_if_ne C (tgt := 24) dX7_readQuarrel_19 rfl h (fun _ h => ?_) (fun _ h => ?_)
  · refine cj_iconst C (v := (0 : Int32)) dX7_readQuarrel_22 rfl ?_
    exact cj_zreturn C hr rfl h dX7_readQuarrel_23
  · refine cj_aload_n C (i := 0) dX7_readQuarrel_24 rfl rfl ?_
    refine cj_getI C (j := 10) o_115 rfl gfX7_72 dX7_readQuarrel_25 ?_
    refine cj_let h (fun y5 h => ?_)
    refine cj_istore_n C (i := 1) (lv' := [some (.ref (w.2.1 115)), some (.int y5)]) dX7_readQuarrel_28 rfl (by decide) rfl rfl ?_
    refine cj_aload_n C (i := 0) dX7_readQuarrel_29 rfl rfl ?_
    refine cj_iconst C (v := (0 : Int32)) dX7_readQuarrel_30 rfl ?_
    refine cj_aload_n C (i := 0) dX7_readQuarrel_31 rfl rfl ?_
    refine cj_getR C (d := 15) o_115 rfl gfX7_18 dX7_readQuarrel_32 ?_
    refine cj_getI C (j := 7) o_15 rfl gfX7_141 dX7_readQuarrel_35 ?_
    refine cj_iconst C (v := (1 : Int32)) dX7_readQuarrel_38 rfl ?_
    refine cj_isub C dX7_readQuarrel_39 ?_
    refine cj_iload_n C (i := 1) dX7_readQuarrel_40 rfl rfl ?_
    refine cj_callVi C (As := [.int (0 : Int32), .int ((S4.1 15 7) - (1 : Int32)), .int y5]) (rest := []) qX7_takeNumber mw_16_17 o_115 rfl rfl rfl (Nat.le_of_ble_eq_true rfl) (by decide) dX7_readQuarrel_41 h (fun _ _ hf => m_X7_takeNumber l w A (0 : Int32) ((S4.1 15 7) - (1 : Int32)) y5 S4 _ hf) (fun z6 S7 h => ?_)
    refine cj_if_ne C (tgt := 49) dX7_readQuarrel_44 rfl h (fun _ h => ?_) (fun _ h => ?_)
    · refine cj_iconst C (v := (0 : Int32)) dX7_readQuarrel_47 rfl ?_
      exact cj_zreturn C hr rfl h dX7_readQuarrel_48
    · refine cj_aload_n C (i := 0) dX7_readQuarrel_49 rfl rfl ?_
      refine cj_getR C (d := 15) o_115 rfl gfX7_18 dX7_readQuarrel_50 ?_
      refine cj_getR C (d := 21) o_15 rfl gfX7_154 dX7_readQuarrel_53 ?_
      refine cj_iload_n C (i := 1) dX7_readQuarrel_56 rfl rfl ?_
      refine cj_dup2 C dX7_readQuarrel_57 rfl rfl ?_
      refine cj_iaload C o_21 h dX7_readQuarrel_58 (fun h => ?_)
      refine cj_iconst C (v := (1 : Int32)) dX7_readQuarrel_59 rfl ?_
      refine cj_aload_n C (i := 0) dX7_readQuarrel_60 rfl rfl ?_
      refine cj_getI C (j := 10) o_115 rfl gfX7_72 dX7_readQuarrel_61 ?_
      refine ck_ishl C dX7_readQuarrel_64 ?_
      refine cj_ior C dX7_readQuarrel_65 ?_
      refine cj_iastore C o_21 h dX7_readQuarrel_66 (fun h => ?_)
      refine cj_lets h (fun S8 h => ?_)
      refine cj_aload_n C (i := 0) dX7_readQuarrel_67 rfl rfl ?_
      refine cj_getR C (d := 15) o_115 rfl gfX7_18 dX7_readQuarrel_68 ?_
      refine cj_getR C (d := 21) o_15 rfl gfX7_154 dX7_readQuarrel_71 ?_
      refine cj_aload_n C (i := 0) dX7_readQuarrel_74 rfl rfl ?_
      refine cj_getI C (j := 10) o_115 rfl gfX7_72 dX7_readQuarrel_75 ?_
      refine cj_dup2 C dX7_readQuarrel_78 rfl rfl ?_
      refine cj_iaload C o_21 h dX7_readQuarrel_79 (fun h => ?_)
      refine cj_iconst C (v := (1 : Int32)) dX7_readQuarrel_80 rfl ?_
      refine cj_iload_n C (i := 1) dX7_readQuarrel_81 rfl rfl ?_
      refine ck_ishl C dX7_readQuarrel_82 ?_
      refine cj_ior C dX7_readQuarrel_83 ?_
      refine cj_iastore C o_21 h dX7_readQuarrel_84 (fun h => ?_)
      refine cj_lets h (fun S9 h => ?_)
      refine cj_iconst C (v := (1 : Int32)) dX7_readQuarrel_85 rfl ?_
      exact cj_zreturn C hr rfl h dX7_readQuarrel_86
/-! X7_readCoin -/
def fX7_readCoin (S : cpS) : Option (Int32 × cpS) :=
    cpLt (S.1 15 11) fun y1 =>
    if y1 < (4 : Int32) then (
    cpB (fX7_advance S) fun _ S3 =>
    cpB (fX7_takeWord 7 S3) fun z4 S5 =>
    if z4 = 0 then (
    some ((0 : Int32), S5)) else (
    cpB (fX7_takeNumber (0 : Int32) ((S5.1 15 0) - (1 : Int32)) (-1 : Int32) S5) fun z6 S7 =>
    if z6 = 0 then (
    some ((0 : Int32), S7)) else (
    if cpIn y1 4 then (
    cpLt (cpI S7 22 y1.toNatClampNeg (S7.1 115 10)) fun S8 =>
    cpB (fX7_takeWord 11 S8) fun z9 S10 =>
    if z9 = 0 then (
    some ((0 : Int32), S10)) else (
    cpB (fX7_takeNumber (0 : Int32) (99 : Int32) (-1 : Int32) S10) fun z11 S12 =>
    if z11 = 0 then (
    some ((0 : Int32), S12)) else (
    if cpIn y1 4 then (
    cpLt (cpI S12 23 y1.toNatClampNeg (S12.1 115 10)) fun S13 =>
    cpB (fX7_takeWord 12 S13) fun z14 S15 =>
    if z14 = 0 then (
    some ((0 : Int32), S15)) else (
    cpB (fX7_takeNumber (0 : Int32) (99 : Int32) (-1 : Int32) S15) fun z16 S17 =>
    if z16 = 0 then (
    some ((0 : Int32), S17)) else (
    if cpIn y1 4 then (
    cpLt (cpI S17 24 y1.toNatClampNeg (S17.1 115 10)) fun S18 =>
    cpLt (cpI S18 15 11 ((S18.1 15 11) + (1 : Int32))) fun S19 =>
    some ((1 : Int32), S19)) else none))) else none))) else none))) else (
    cpB (fX7_refuse (4 : Int32) S) fun z20 S21 =>
    if cpBo z20 then some (z20, S21) else none)
set_option maxRecDepth 100000 in
set_option maxHeartbeats 4000000 in
theorem m_X7_readCoin (l : Launch) (w : cpW) (A : Nat → Prop) (S : cpS) (r : Int32 × cpS) (h : fX7_readCoin S = some r) : cpMi l yX7_readCoin cX7_readCoin 2 ((some .boolean)) 6 w A [.ref (w.2.1 115)] S r := by
  refine cpMi.of (lv := [some (.ref (w.2.1 115)), none]) (by decide) (Nat.le_of_ble_eq_true rfl) rfl (fun p e s m args below meth c C hr => ?_)
  replace C : cpCx p s m args meth c w A cX7_readCoin RX7 2 := C
  rw [fX7_readCoin] at h
  refine cj_aload_n C (i := 0) dX7_readCoin_0 rfl rfl ?_
  refine cj_getR C (d := 15) o_115 rfl gfX7_18 dX7_readCoin_1 ?_
  refine cj_getI C (j := 11) o_15 rfl gfX7_157 dX7_readCoin_4 ?_
  refine cj_let h (fun y1 h => ?_)
  refine cj_istore_n C (i := 1) (lv' := [some (.ref (w.2.1 115)), some (.int y1)]) dX7_readCoin_7 rfl (by decide) rfl rfl ?_
  refine cj_iload_n C (i := 1) dX7_readCoin_8 rfl rfl ?_
  refine cj_iconst C (v := (4 : Int32)) dX7_readCoin_9 rfl ?_
  refine cj_icmp_lt C (tgt := 19) dX7_readCoin_10 rfl h (fun _ h => ?_) (fun _ h => ?_)
  · refine cj_aload_n C (i := 0) dX7_readCoin_19 rfl rfl ?_
    refine cj_callVv C (As := []) (rest := []) qX7_advance mw_11_2 o_115 rfl rfl rfl (Nat.le_of_ble_eq_true rfl) (by decide) dX7_readCoin_20 h (fun _ _ hf => m_X7_advance l w A S _ hf) (fun z2 S3 h => ?_)
    refine cj_aload_n C (i := 0) dX7_readCoin_23 rfl rfl ?_
    refine cj_ldcS C (i := 7) (List.mem_of_getElem? (i := 7) rfl) dX7_readCoin_24 ?_
    refine cj_callVi C (As := [.ref (w.2.2.2.2.1 7)]) (rest := []) qX7_takeWord mw_15_8 o_115 rfl rfl rfl (Nat.le_of_ble_eq_true rfl) (by decide) dX7_readCoin_26 h (fun _ _ hf => m_X7_takeWord l w A (by decide) S3 _ hf) (fun z4 S5 h => ?_)
    refine cj_if_eq C (tgt := 50) dX7_readCoin_29 rfl h (fun _ h => ?_) (fun _ h => ?_)
    · refine cj_iconst C (v := (0 : Int32)) dX7_readCoin_50 rfl ?_
      exact cj_zreturn C hr rfl h dX7_readCoin_51
    · refine cj_aload_n C (i := 0) dX7_readCoin_32 rfl rfl ?_
      refine cj_iconst C (v := (0 : Int32)) dX7_readCoin_33 rfl ?_
      refine cj_aload_n C (i := 0) dX7_readCoin_34 rfl rfl ?_
      refine cj_getR C (d := 15) o_115 rfl gfX7_18 dX7_readCoin_35 ?_
      refine cj_getI C (j := 0) o_15 rfl gfX7_75 dX7_readCoin_38 ?_
      refine cj_iconst C (v := (1 : Int32)) dX7_readCoin_41 rfl ?_
      refine cj_isub C dX7_readCoin_42 ?_
      refine cj_iconst C (v := (-1 : Int32)) dX7_readCoin_43 rfl ?_
      refine cj_callVi C (As := [.int (0 : Int32), .int ((S5.1 15 0) - (1 : Int32)), .int (-1 : Int32)]) (rest := []) qX7_takeNumber mw_16_17 o_115 rfl rfl rfl (Nat.le_of_ble_eq_true rfl) (by decide) dX7_readCoin_44 h (fun _ _ hf => m_X7_takeNumber l w A (0 : Int32) ((S5.1 15 0) - (1 : Int32)) (-1 : Int32) S5 _ hf) (fun z6 S7 h => ?_)
      refine cj_if_ne C (tgt := 52) dX7_readCoin_47 rfl h (fun _ h => ?_) (fun _ h => ?_)
      · refine cj_iconst C (v := (0 : Int32)) dX7_readCoin_50 rfl ?_
        exact cj_zreturn C hr rfl h dX7_readCoin_51
      · refine cj_aload_n C (i := 0) dX7_readCoin_52 rfl rfl ?_
        refine cj_getR C (d := 15) o_115 rfl gfX7_18 dX7_readCoin_53 ?_
        refine cj_getR C (d := 22) o_15 rfl gfX7_160 dX7_readCoin_56 ?_
        refine cj_iload_n C (i := 1) dX7_readCoin_59 rfl rfl ?_
        refine cj_aload_n C (i := 0) dX7_readCoin_60 rfl rfl ?_
        refine cj_getI C (j := 10) o_115 rfl gfX7_72 dX7_readCoin_61 ?_
        refine cj_iastore C o_22 h dX7_readCoin_64 (fun h => ?_)
        refine cj_lets h (fun S8 h => ?_)
        refine cj_aload_n C (i := 0) dX7_readCoin_65 rfl rfl ?_
        refine cj_ldcS C (i := 11) (List.mem_of_getElem? (i := 11) rfl) dX7_readCoin_66 ?_
        refine cj_callVi C (As := [.ref (w.2.2.2.2.1 11)]) (rest := []) qX7_takeWord mw_15_8 o_115 rfl rfl rfl (Nat.le_of_ble_eq_true rfl) (by decide) dX7_readCoin_68 h (fun _ _ hf => m_X7_takeWord l w A (by decide) S8 _ hf) (fun z9 S10 h => ?_)
        refine cj_if_eq C (tgt := 85) dX7_readCoin_71 rfl h (fun _ h => ?_) (fun _ h => ?_)
        · refine cj_iconst C (v := (0 : Int32)) dX7_readCoin_85 rfl ?_
          exact cj_zreturn C hr rfl h dX7_readCoin_86
        · refine cj_aload_n C (i := 0) dX7_readCoin_74 rfl rfl ?_
          refine cj_iconst C (v := (0 : Int32)) dX7_readCoin_75 rfl ?_
          refine cj_bipush C (v := (99 : Int32)) dX7_readCoin_76 rfl ?_
          refine cj_iconst C (v := (-1 : Int32)) dX7_readCoin_78 rfl ?_
          refine cj_callVi C (As := [.int (0 : Int32), .int (99 : Int32), .int (-1 : Int32)]) (rest := []) qX7_takeNumber mw_16_17 o_115 rfl rfl rfl (Nat.le_of_ble_eq_true rfl) (by decide) dX7_readCoin_79 h (fun _ _ hf => m_X7_takeNumber l w A (0 : Int32) (99 : Int32) (-1 : Int32) S10 _ hf) (fun z11 S12 h => ?_)
          refine cj_if_ne C (tgt := 87) dX7_readCoin_82 rfl h (fun _ h => ?_) (fun _ h => ?_)
          · refine cj_iconst C (v := (0 : Int32)) dX7_readCoin_85 rfl ?_
            exact cj_zreturn C hr rfl h dX7_readCoin_86
          · refine cj_aload_n C (i := 0) dX7_readCoin_87 rfl rfl ?_
            refine cj_getR C (d := 15) o_115 rfl gfX7_18 dX7_readCoin_88 ?_
            refine cj_getR C (d := 23) o_15 rfl gfX7_165 dX7_readCoin_91 ?_
            refine cj_iload_n C (i := 1) dX7_readCoin_94 rfl rfl ?_
            refine cj_aload_n C (i := 0) dX7_readCoin_95 rfl rfl ?_
            refine cj_getI C (j := 10) o_115 rfl gfX7_72 dX7_readCoin_96 ?_
            refine cj_iastore C o_23 h dX7_readCoin_99 (fun h => ?_)
            refine cj_lets h (fun S13 h => ?_)
            refine cj_aload_n C (i := 0) dX7_readCoin_100 rfl rfl ?_
            refine cj_ldcS C (i := 12) (List.mem_of_getElem? (i := 12) rfl) dX7_readCoin_101 ?_
            refine cj_callVi C (As := [.ref (w.2.2.2.2.1 12)]) (rest := []) qX7_takeWord mw_15_8 o_115 rfl rfl rfl (Nat.le_of_ble_eq_true rfl) (by decide) dX7_readCoin_103 h (fun _ _ hf => m_X7_takeWord l w A (by decide) S13 _ hf) (fun z14 S15 h => ?_)
            refine cj_if_eq C (tgt := 120) dX7_readCoin_106 rfl h (fun _ h => ?_) (fun _ h => ?_)
            · refine cj_iconst C (v := (0 : Int32)) dX7_readCoin_120 rfl ?_
              exact cj_zreturn C hr rfl h dX7_readCoin_121
            · refine cj_aload_n C (i := 0) dX7_readCoin_109 rfl rfl ?_
              refine cj_iconst C (v := (0 : Int32)) dX7_readCoin_110 rfl ?_
              refine cj_bipush C (v := (99 : Int32)) dX7_readCoin_111 rfl ?_
              refine cj_iconst C (v := (-1 : Int32)) dX7_readCoin_113 rfl ?_
              refine cj_callVi C (As := [.int (0 : Int32), .int (99 : Int32), .int (-1 : Int32)]) (rest := []) qX7_takeNumber mw_16_17 o_115 rfl rfl rfl (Nat.le_of_ble_eq_true rfl) (by decide) dX7_readCoin_114 h (fun _ _ hf => m_X7_takeNumber l w A (0 : Int32) (99 : Int32) (-1 : Int32) S15 _ hf) (fun z16 S17 h => ?_)
              refine cj_if_ne C (tgt := 122) dX7_readCoin_117 rfl h (fun _ h => ?_) (fun _ h => ?_)
              · refine cj_iconst C (v := (0 : Int32)) dX7_readCoin_120 rfl ?_
                exact cj_zreturn C hr rfl h dX7_readCoin_121
              · refine cj_aload_n C (i := 0) dX7_readCoin_122 rfl rfl ?_
                refine cj_getR C (d := 15) o_115 rfl gfX7_18 dX7_readCoin_123 ?_
                refine cj_getR C (d := 24) o_15 rfl gfX7_169 dX7_readCoin_126 ?_
                refine cj_iload_n C (i := 1) dX7_readCoin_129 rfl rfl ?_
                refine cj_aload_n C (i := 0) dX7_readCoin_130 rfl rfl ?_
                refine cj_getI C (j := 10) o_115 rfl gfX7_72 dX7_readCoin_131 ?_
                refine cj_iastore C o_24 h dX7_readCoin_134 (fun h => ?_)
                refine cj_lets h (fun S18 h => ?_)
                refine cj_aload_n C (i := 0) dX7_readCoin_135 rfl rfl ?_
                refine cj_getR C (d := 15) o_115 rfl gfX7_18 dX7_readCoin_136 ?_
                refine cj_dup C dX7_readCoin_139 rfl ?_
                refine cj_getI C (j := 11) o_15 rfl gfX7_157 dX7_readCoin_140 ?_
                refine cj_iconst C (v := (1 : Int32)) dX7_readCoin_143 rfl ?_
                refine cj_iadd C dX7_readCoin_144 ?_
                refine cj_put C (j := 11) o_15 rfl pfX7_157 rfl rfl dX7_readCoin_145 ?_
                refine cj_lets h (fun S19 h => ?_)
                refine cj_iconst C (v := (1 : Int32)) dX7_readCoin_148 rfl ?_
                exact cj_zreturn C hr rfl h dX7_readCoin_149
  · refine cj_aload_n C (i := 0) dX7_readCoin_13 rfl rfl ?_
    refine cj_iconst C (v := (4 : Int32)) dX7_readCoin_14 rfl ?_
    refine cj_callVi C (As := [.int (4 : Int32)]) (rest := []) qX7_refuse mw_16_13 o_115 rfl rfl rfl (Nat.le_of_ble_eq_true rfl) (by decide) dX7_readCoin_15 h (fun _ _ hf => m_X7_refuse l w A (4 : Int32) S _ hf) (fun z20 S21 h => ?_)
    obtain ⟨hb, h⟩ := cpGuard h
    exact cj_zreturn C hr (cpBo_n hb) h dX7_readCoin_18
/-! X7_readTruth -/
def fX7_readTruth_12 (rec : Nat → Int32 → cpS → Option (Int32 × cpS)) (x1 : Int32) : Nat → Int32 → cpS → Option (Int32 × cpS)
  | 0, _, _ => none
  | n + 1, x2, S =>
    if (900 : Int32) ≤ x2 then (
    some ((1 : Int32), S)) else (
    cpB (fX7_isWord 22 S) fun z1 S2 =>
    if z1 = 0 then (
    some ((1 : Int32), S2)) else (
    cpB (fX7_advance S2) fun _ S4 =>
    cpB (rec 1 x1 S4) fun z5 S6 =>
    if z5 = 0 then (
    some ((0 : Int32), S6)) else (
    cpB (fX3_append 26 (2007 : Int32) S6) fun _ S8 =>
    fX7_readTruth_12 rec x1 n (x2 + 1) S8)))
set_option maxRecDepth 100000 in
set_option maxHeartbeats 4000000 in
theorem wX7_readTruth_12 (C : cpCx p s m args meth c w A cX7_readTruth RX7 3) (hr : meth.sig.returnType = (some .boolean)) {r : Int32 × cpS} {rec : Nat → Int32 → cpS → Option (Int32 × cpS)} {dz : Nat} (hz : 6 ≤ dz) (hrec0 : ∀ (x1 : Int32) (S : cpS) (r : Int32 × cpS), rec 0 x1 S = some r → cpMi l yX7_readTruth cX7_readTruth 3 ((some .boolean)) dz w A [.ref (w.2.1 115), .int x1] S r) (hrec1 : ∀ (x1 : Int32) (S : cpS) (r : Int32 × cpS), rec 1 x1 S = some r → cpMi l yX7_readBoth cX7_readBoth 3 ((some .boolean)) dz w A [.ref (w.2.1 115), .int x1] S r) (hrec2 : ∀ (x1 : Int32) (S : cpS) (r : Int32 × cpS), rec 2 x1 S = some r → cpMi l yX7_readUnit cX7_readUnit 2 ((some .boolean)) dz w A [.ref (w.2.1 115), .int x1] S r) (hrec3 : ∀ (x1 : Int32) (S : cpS) (r : Int32 × cpS), rec 3 x1 S = some r → cpMi l yX7_readComparison cX7_readComparison 3 ((some .boolean)) dz w A [.ref (w.2.1 115), .int x1] S r) (hrec4 : ∀ (x1 : Int32) (S : cpS) (r : Int32 × cpS), rec 4 x1 S = some r → cpMi l yX7_readSum cX7_readSum 4 ((some .boolean)) dz w A [.ref (w.2.1 115), .int x1] S r) (hrec5 : ∀ (x1 : Int32) (S : cpS) (r : Int32 × cpS), rec 5 x1 S = some r → cpMi l yX7_readTerm cX7_readTerm 3 ((some .boolean)) dz w A [.ref (w.2.1 115), .int x1] S r) (hrec6 : ∀ (x1 : Int32) (S : cpS) (r : Int32 × cpS), rec 6 x1 S = some r → cpMi l yX7_readAtom cX7_readAtom 3 ((some .boolean)) dz w A [.ref (w.2.1 115), .int x1] S r) (hrec7 : ∀ (x1 : Int32) (S : cpS) (r : Int32 × cpS), rec 7 x1 S = some r → cpMi l yX7_readChoice cX7_readChoice 2 ((some .boolean)) dz w A [.ref (w.2.1 115), .int x1] S r) (x1 : Int32) : ∀ (n : Nat) (x2 : Int32) (S : cpS), fX7_readTruth_12 rec x1 n x2 S = some r → cpJ p l e (cpRm (dz + 1)) s m args below meth c (MQ below (va_Qi (fun x S' => (x, S') = r) (cpWorld w A) A) args s 0 0 A) w A 3 12 [some (.ref (w.2.1 115)), some (.int x1), some (.int x2)] [] S := by
  intro n
  induction n with
  | zero => intro x2 S h; rw [fX7_readTruth_12] at h; cases h
  | succ n ih =>
    intro x2 S h
    rw [fX7_readTruth_12] at h
    refine cj_iload_n C (i := 2) dX7_readTruth_12 rfl rfl ?_
    refine cj_sipush C (v := (900 : Int32)) dX7_readTruth_13 rfl ?_
    refine cj_icmp_ge C (tgt := 61) dX7_readTruth_16 rfl h (fun _ h => ?_) (fun _ h => ?_)
    · refine cj_iconst C (v := (1 : Int32)) dX7_readTruth_61 rfl ?_
      exact cj_zreturn C hr rfl h dX7_readTruth_62
    · refine cj_aload_n C (i := 0) dX7_readTruth_19 rfl rfl ?_
      refine cj_ldcS C (i := 22) (List.mem_of_getElem? (i := 22) rfl) dX7_readTruth_20 ?_
      refine cj_callVi C (As := [.ref (w.2.2.2.2.1 22)]) (rest := []) qX7_isWord mw_15_12 o_115 rfl rfl rfl (Nat.le_of_ble_eq_true rfl) (by omega) dX7_readTruth_22 h (fun _ _ hf => m_X7_isWord l w A (by decide) S _ hf) (fun z1 S2 h => ?_)
      refine cj_if_eq C (tgt := 61) dX7_readTruth_25 rfl h (fun _ h => ?_) (fun _ h => ?_)
      · refine cj_iconst C (v := (1 : Int32)) dX7_readTruth_61 rfl ?_
        exact cj_zreturn C hr rfl h dX7_readTruth_62
      · refine cj_aload_n C (i := 0) dX7_readTruth_28 rfl rfl ?_
        refine cj_callVv C (As := []) (rest := []) qX7_advance mw_11_2 o_115 rfl rfl rfl (Nat.le_of_ble_eq_true rfl) (by omega) dX7_readTruth_29 h (fun _ _ hf => m_X7_advance l w A S2 _ hf) (fun z3 S4 h => ?_)
        refine cj_aload_n C (i := 0) dX7_readTruth_32 rfl rfl ?_
        refine cj_iload_n C (i := 1) dX7_readTruth_33 rfl rfl ?_
        refine cj_callVi C (As := [.int x1]) (rest := []) qX7_readBoth mw_19_8 o_115 rfl rfl rfl (Nat.le_of_ble_eq_true rfl) (by omega) dX7_readTruth_34 h (fun _ _ hf => hrec1 x1 S4 _ hf) (fun z5 S6 h => ?_)
        refine cj_if_ne C (tgt := 42) dX7_readTruth_37 rfl h (fun _ h => ?_) (fun _ h => ?_)
        · refine cj_iconst C (v := (0 : Int32)) dX7_readTruth_40 rfl ?_
          exact cj_zreturn C hr rfl h dX7_readTruth_41
        · refine cj_aload_n C (i := 0) dX7_readTruth_42 rfl rfl ?_
          refine cj_getR C (d := 15) o_115 rfl gfX7_18 dX7_readTruth_43 ?_
          refine cj_getR C (d := 26) o_15 rfl gfX7_175 dX7_readTruth_46 ?_
          refine cj_sipush C (v := (2007 : Int32)) dX7_readTruth_49 rfl ?_
          refine cj_callVv C (As := [.int (2007 : Int32)]) (rest := []) qX3_append mw_19_11 o_26 rfl rfl rfl (Nat.le_of_ble_eq_true rfl) (by omega) dX7_readTruth_52 h (fun _ _ hf => m_X3_append l w A kLw_26 (2007 : Int32) S6 _ hf) (fun z7 S8 h => ?_)
          refine cj_iinc C (v := (x2 + 1)) (lv' := [some (.ref (w.2.1 115)), some (.int x1), some (.int (x2 + 1))]) dX7_readTruth_55 rfl rfl (by decide) rfl rfl ?_
          refine cj_goto C (tgt := 12) dX7_readTruth_58 rfl ?_
          exact ih (x2 + 1) S8 h
def fX7_readTruth (rec : Nat → Int32 → cpS → Option (Int32 × cpS)) (x1 : Int32) (S : cpS) : Option (Int32 × cpS) :=
    cpB (rec 1 x1 S) fun z1 S2 =>
    if z1 = 0 then (
    some ((0 : Int32), S2)) else (
    fX7_readTruth_12 rec x1 cpFu (0 : Int32) S2)
set_option maxRecDepth 100000 in
set_option maxHeartbeats 4000000 in
theorem m_X7_readTruth (l : Launch) (w : cpW) (A : Nat → Prop) {rec : Nat → Int32 → cpS → Option (Int32 × cpS)} {dz : Nat} (hz : 6 ≤ dz) (hrec0 : ∀ (x1 : Int32) (S : cpS) (r : Int32 × cpS), rec 0 x1 S = some r → cpMi l yX7_readTruth cX7_readTruth 3 ((some .boolean)) dz w A [.ref (w.2.1 115), .int x1] S r) (hrec1 : ∀ (x1 : Int32) (S : cpS) (r : Int32 × cpS), rec 1 x1 S = some r → cpMi l yX7_readBoth cX7_readBoth 3 ((some .boolean)) dz w A [.ref (w.2.1 115), .int x1] S r) (hrec2 : ∀ (x1 : Int32) (S : cpS) (r : Int32 × cpS), rec 2 x1 S = some r → cpMi l yX7_readUnit cX7_readUnit 2 ((some .boolean)) dz w A [.ref (w.2.1 115), .int x1] S r) (hrec3 : ∀ (x1 : Int32) (S : cpS) (r : Int32 × cpS), rec 3 x1 S = some r → cpMi l yX7_readComparison cX7_readComparison 3 ((some .boolean)) dz w A [.ref (w.2.1 115), .int x1] S r) (hrec4 : ∀ (x1 : Int32) (S : cpS) (r : Int32 × cpS), rec 4 x1 S = some r → cpMi l yX7_readSum cX7_readSum 4 ((some .boolean)) dz w A [.ref (w.2.1 115), .int x1] S r) (hrec5 : ∀ (x1 : Int32) (S : cpS) (r : Int32 × cpS), rec 5 x1 S = some r → cpMi l yX7_readTerm cX7_readTerm 3 ((some .boolean)) dz w A [.ref (w.2.1 115), .int x1] S r) (hrec6 : ∀ (x1 : Int32) (S : cpS) (r : Int32 × cpS), rec 6 x1 S = some r → cpMi l yX7_readAtom cX7_readAtom 3 ((some .boolean)) dz w A [.ref (w.2.1 115), .int x1] S r) (hrec7 : ∀ (x1 : Int32) (S : cpS) (r : Int32 × cpS), rec 7 x1 S = some r → cpMi l yX7_readChoice cX7_readChoice 2 ((some .boolean)) dz w A [.ref (w.2.1 115), .int x1] S r) (x1 : Int32) (S : cpS) (r : Int32 × cpS) (h : fX7_readTruth rec x1 S = some r) : cpMi l yX7_readTruth cX7_readTruth 3 ((some .boolean)) (dz + 1) w A [.ref (w.2.1 115), .int x1] S r := by
  refine cpMi.of (lv := [some (.ref (w.2.1 115)), some (.int x1), none]) (by decide) (Nat.le_of_ble_eq_true rfl) rfl (fun p e s m args below meth c C hr => ?_)
  replace C : cpCx p s m args meth c w A cX7_readTruth RX7 3 := C
  rw [fX7_readTruth] at h
  refine cj_aload_n C (i := 0) dX7_readTruth_0 rfl rfl ?_
  refine cj_iload_n C (i := 1) dX7_readTruth_1 rfl rfl ?_
  refine cj_callVi C (As := [.int x1]) (rest := []) qX7_readBoth mw_19_8 o_115 rfl rfl rfl (Nat.le_of_ble_eq_true rfl) (by omega) dX7_readTruth_2 h (fun _ _ hf => hrec1 x1 S _ hf) (fun z1 S2 h => ?_)
  refine cj_if_ne C (tgt := 10) dX7_readTruth_5 rfl h (fun _ h => ?_) (fun _ h => ?_)
  · refine cj_iconst C (v := (0 : Int32)) dX7_readTruth_8 rfl ?_
    exact cj_zreturn C hr rfl h dX7_readTruth_9
  · refine cj_iconst C (v := (0 : Int32)) dX7_readTruth_10 rfl ?_
    refine cj_istore_n C (i := 2) (lv' := [some (.ref (w.2.1 115)), some (.int x1), some (.int (0 : Int32))]) dX7_readTruth_11 rfl (by decide) rfl rfl ?_
    exact wX7_readTruth_12 C hr hz hrec0 hrec1 hrec2 hrec3 hrec4 hrec5 hrec6 hrec7 x1 cpFu (0 : Int32) S2 h
/-! X7_readBoth -/
def fX7_readBoth_12 (rec : Nat → Int32 → cpS → Option (Int32 × cpS)) (x1 : Int32) : Nat → Int32 → cpS → Option (Int32 × cpS)
  | 0, _, _ => none
  | n + 1, x2, S =>
    if (900 : Int32) ≤ x2 then (
    some ((1 : Int32), S)) else (
    cpB (fX7_isWord 21 S) fun z1 S2 =>
    if z1 = 0 then (
    some ((1 : Int32), S2)) else (
    cpB (fX7_advance S2) fun _ S4 =>
    cpB (rec 2 x1 S4) fun z5 S6 =>
    if z5 = 0 then (
    some ((0 : Int32), S6)) else (
    cpB (fX3_append 26 (2006 : Int32) S6) fun _ S8 =>
    fX7_readBoth_12 rec x1 n (x2 + 1) S8)))
set_option maxRecDepth 100000 in
set_option maxHeartbeats 4000000 in
theorem wX7_readBoth_12 (C : cpCx p s m args meth c w A cX7_readBoth RX7 3) (hr : meth.sig.returnType = (some .boolean)) {r : Int32 × cpS} {rec : Nat → Int32 → cpS → Option (Int32 × cpS)} {dz : Nat} (hz : 6 ≤ dz) (hrec0 : ∀ (x1 : Int32) (S : cpS) (r : Int32 × cpS), rec 0 x1 S = some r → cpMi l yX7_readTruth cX7_readTruth 3 ((some .boolean)) dz w A [.ref (w.2.1 115), .int x1] S r) (hrec1 : ∀ (x1 : Int32) (S : cpS) (r : Int32 × cpS), rec 1 x1 S = some r → cpMi l yX7_readBoth cX7_readBoth 3 ((some .boolean)) dz w A [.ref (w.2.1 115), .int x1] S r) (hrec2 : ∀ (x1 : Int32) (S : cpS) (r : Int32 × cpS), rec 2 x1 S = some r → cpMi l yX7_readUnit cX7_readUnit 2 ((some .boolean)) dz w A [.ref (w.2.1 115), .int x1] S r) (hrec3 : ∀ (x1 : Int32) (S : cpS) (r : Int32 × cpS), rec 3 x1 S = some r → cpMi l yX7_readComparison cX7_readComparison 3 ((some .boolean)) dz w A [.ref (w.2.1 115), .int x1] S r) (hrec4 : ∀ (x1 : Int32) (S : cpS) (r : Int32 × cpS), rec 4 x1 S = some r → cpMi l yX7_readSum cX7_readSum 4 ((some .boolean)) dz w A [.ref (w.2.1 115), .int x1] S r) (hrec5 : ∀ (x1 : Int32) (S : cpS) (r : Int32 × cpS), rec 5 x1 S = some r → cpMi l yX7_readTerm cX7_readTerm 3 ((some .boolean)) dz w A [.ref (w.2.1 115), .int x1] S r) (hrec6 : ∀ (x1 : Int32) (S : cpS) (r : Int32 × cpS), rec 6 x1 S = some r → cpMi l yX7_readAtom cX7_readAtom 3 ((some .boolean)) dz w A [.ref (w.2.1 115), .int x1] S r) (hrec7 : ∀ (x1 : Int32) (S : cpS) (r : Int32 × cpS), rec 7 x1 S = some r → cpMi l yX7_readChoice cX7_readChoice 2 ((some .boolean)) dz w A [.ref (w.2.1 115), .int x1] S r) (x1 : Int32) : ∀ (n : Nat) (x2 : Int32) (S : cpS), fX7_readBoth_12 rec x1 n x2 S = some r → cpJ p l e (cpRm (dz + 1)) s m args below meth c (MQ below (va_Qi (fun x S' => (x, S') = r) (cpWorld w A) A) args s 0 0 A) w A 3 12 [some (.ref (w.2.1 115)), some (.int x1), some (.int x2)] [] S := by
  intro n
  induction n with
  | zero => intro x2 S h; rw [fX7_readBoth_12] at h; cases h
  | succ n ih =>
    intro x2 S h
    rw [fX7_readBoth_12] at h
    refine cj_iload_n C (i := 2) dX7_readBoth_12 rfl rfl ?_
    refine cj_sipush C (v := (900 : Int32)) dX7_readBoth_13 rfl ?_
    refine cj_icmp_ge C (tgt := 61) dX7_readBoth_16 rfl h (fun _ h => ?_) (fun _ h => ?_)
    · refine cj_iconst C (v := (1 : Int32)) dX7_readBoth_61 rfl ?_
      exact cj_zreturn C hr rfl h dX7_readBoth_62
    · refine cj_aload_n C (i := 0) dX7_readBoth_19 rfl rfl ?_
      refine cj_ldcS C (i := 21) (List.mem_of_getElem? (i := 21) rfl) dX7_readBoth_20 ?_
      refine cj_callVi C (As := [.ref (w.2.2.2.2.1 21)]) (rest := []) qX7_isWord mw_15_12 o_115 rfl rfl rfl (Nat.le_of_ble_eq_true rfl) (by omega) dX7_readBoth_22 h (fun _ _ hf => m_X7_isWord l w A (by decide) S _ hf) (fun z1 S2 h => ?_)
      refine cj_if_eq C (tgt := 61) dX7_readBoth_25 rfl h (fun _ h => ?_) (fun _ h => ?_)
      · refine cj_iconst C (v := (1 : Int32)) dX7_readBoth_61 rfl ?_
        exact cj_zreturn C hr rfl h dX7_readBoth_62
      · refine cj_aload_n C (i := 0) dX7_readBoth_28 rfl rfl ?_
        refine cj_callVv C (As := []) (rest := []) qX7_advance mw_11_2 o_115 rfl rfl rfl (Nat.le_of_ble_eq_true rfl) (by omega) dX7_readBoth_29 h (fun _ _ hf => m_X7_advance l w A S2 _ hf) (fun z3 S4 h => ?_)
        refine cj_aload_n C (i := 0) dX7_readBoth_32 rfl rfl ?_
        refine cj_iload_n C (i := 1) dX7_readBoth_33 rfl rfl ?_
        refine cj_callVi C (As := [.int x1]) (rest := []) qX7_readUnit mw_20_7 o_115 rfl rfl rfl (Nat.le_of_ble_eq_true rfl) (by omega) dX7_readBoth_34 h (fun _ _ hf => hrec2 x1 S4 _ hf) (fun z5 S6 h => ?_)
        refine cj_if_ne C (tgt := 42) dX7_readBoth_37 rfl h (fun _ h => ?_) (fun _ h => ?_)
        · refine cj_iconst C (v := (0 : Int32)) dX7_readBoth_40 rfl ?_
          exact cj_zreturn C hr rfl h dX7_readBoth_41
        · refine cj_aload_n C (i := 0) dX7_readBoth_42 rfl rfl ?_
          refine cj_getR C (d := 15) o_115 rfl gfX7_18 dX7_readBoth_43 ?_
          refine cj_getR C (d := 26) o_15 rfl gfX7_175 dX7_readBoth_46 ?_
          refine cj_sipush C (v := (2006 : Int32)) dX7_readBoth_49 rfl ?_
          refine cj_callVv C (As := [.int (2006 : Int32)]) (rest := []) qX3_append mw_19_11 o_26 rfl rfl rfl (Nat.le_of_ble_eq_true rfl) (by omega) dX7_readBoth_52 h (fun _ _ hf => m_X3_append l w A kLw_26 (2006 : Int32) S6 _ hf) (fun z7 S8 h => ?_)
          refine cj_iinc C (v := (x2 + 1)) (lv' := [some (.ref (w.2.1 115)), some (.int x1), some (.int (x2 + 1))]) dX7_readBoth_55 rfl rfl (by decide) rfl rfl ?_
          refine cj_goto C (tgt := 12) dX7_readBoth_58 rfl ?_
          exact ih (x2 + 1) S8 h
def fX7_readBoth (rec : Nat → Int32 → cpS → Option (Int32 × cpS)) (x1 : Int32) (S : cpS) : Option (Int32 × cpS) :=
    cpB (rec 2 x1 S) fun z1 S2 =>
    if z1 = 0 then (
    some ((0 : Int32), S2)) else (
    fX7_readBoth_12 rec x1 cpFu (0 : Int32) S2)
set_option maxRecDepth 100000 in
set_option maxHeartbeats 4000000 in
theorem m_X7_readBoth (l : Launch) (w : cpW) (A : Nat → Prop) {rec : Nat → Int32 → cpS → Option (Int32 × cpS)} {dz : Nat} (hz : 6 ≤ dz) (hrec0 : ∀ (x1 : Int32) (S : cpS) (r : Int32 × cpS), rec 0 x1 S = some r → cpMi l yX7_readTruth cX7_readTruth 3 ((some .boolean)) dz w A [.ref (w.2.1 115), .int x1] S r) (hrec1 : ∀ (x1 : Int32) (S : cpS) (r : Int32 × cpS), rec 1 x1 S = some r → cpMi l yX7_readBoth cX7_readBoth 3 ((some .boolean)) dz w A [.ref (w.2.1 115), .int x1] S r) (hrec2 : ∀ (x1 : Int32) (S : cpS) (r : Int32 × cpS), rec 2 x1 S = some r → cpMi l yX7_readUnit cX7_readUnit 2 ((some .boolean)) dz w A [.ref (w.2.1 115), .int x1] S r) (hrec3 : ∀ (x1 : Int32) (S : cpS) (r : Int32 × cpS), rec 3 x1 S = some r → cpMi l yX7_readComparison cX7_readComparison 3 ((some .boolean)) dz w A [.ref (w.2.1 115), .int x1] S r) (hrec4 : ∀ (x1 : Int32) (S : cpS) (r : Int32 × cpS), rec 4 x1 S = some r → cpMi l yX7_readSum cX7_readSum 4 ((some .boolean)) dz w A [.ref (w.2.1 115), .int x1] S r) (hrec5 : ∀ (x1 : Int32) (S : cpS) (r : Int32 × cpS), rec 5 x1 S = some r → cpMi l yX7_readTerm cX7_readTerm 3 ((some .boolean)) dz w A [.ref (w.2.1 115), .int x1] S r) (hrec6 : ∀ (x1 : Int32) (S : cpS) (r : Int32 × cpS), rec 6 x1 S = some r → cpMi l yX7_readAtom cX7_readAtom 3 ((some .boolean)) dz w A [.ref (w.2.1 115), .int x1] S r) (hrec7 : ∀ (x1 : Int32) (S : cpS) (r : Int32 × cpS), rec 7 x1 S = some r → cpMi l yX7_readChoice cX7_readChoice 2 ((some .boolean)) dz w A [.ref (w.2.1 115), .int x1] S r) (x1 : Int32) (S : cpS) (r : Int32 × cpS) (h : fX7_readBoth rec x1 S = some r) : cpMi l yX7_readBoth cX7_readBoth 3 ((some .boolean)) (dz + 1) w A [.ref (w.2.1 115), .int x1] S r := by
  refine cpMi.of (lv := [some (.ref (w.2.1 115)), some (.int x1), none]) (by decide) (Nat.le_of_ble_eq_true rfl) rfl (fun p e s m args below meth c C hr => ?_)
  replace C : cpCx p s m args meth c w A cX7_readBoth RX7 3 := C
  rw [fX7_readBoth] at h
  refine cj_aload_n C (i := 0) dX7_readBoth_0 rfl rfl ?_
  refine cj_iload_n C (i := 1) dX7_readBoth_1 rfl rfl ?_
  refine cj_callVi C (As := [.int x1]) (rest := []) qX7_readUnit mw_20_7 o_115 rfl rfl rfl (Nat.le_of_ble_eq_true rfl) (by omega) dX7_readBoth_2 h (fun _ _ hf => hrec2 x1 S _ hf) (fun z1 S2 h => ?_)
  refine cj_if_ne C (tgt := 10) dX7_readBoth_5 rfl h (fun _ h => ?_) (fun _ h => ?_)
  · refine cj_iconst C (v := (0 : Int32)) dX7_readBoth_8 rfl ?_
    exact cj_zreturn C hr rfl h dX7_readBoth_9
  · refine cj_iconst C (v := (0 : Int32)) dX7_readBoth_10 rfl ?_
    refine cj_istore_n C (i := 2) (lv' := [some (.ref (w.2.1 115)), some (.int x1), some (.int (0 : Int32))]) dX7_readBoth_11 rfl (by decide) rfl rfl ?_
    exact wX7_readBoth_12 C hr hz hrec0 hrec1 hrec2 hrec3 hrec4 hrec5 hrec6 hrec7 x1 cpFu (0 : Int32) S2 h
/-! X7_enter -/
def fX7_enter (x1 : Int32) (S : cpS) : Option (Int32 × cpS) :=
    if x1 < (6 : Int32) then (
    cpB (fX7_advance S) fun _ S2 =>
    some ((1 : Int32), S2)) else (
    cpB (fX7_refuse (4 : Int32) S) fun z3 S4 =>
    if cpBo z3 then some (z3, S4) else none)
set_option maxRecDepth 100000 in
set_option maxHeartbeats 4000000 in
theorem m_X7_enter (l : Launch) (w : cpW) (A : Nat → Prop) (x1 : Int32) (S : cpS) (r : Int32 × cpS) (h : fX7_enter x1 S = some r) : cpMi l yX7_enter cX7_enter 2 ((some .boolean)) 5 w A [.ref (w.2.1 115), .int x1] S r := by
  refine cpMi.of (lv := [some (.ref (w.2.1 115)), some (.int x1)]) (by decide) (Nat.le_of_ble_eq_true rfl) rfl (fun p e s m args below meth c C hr => ?_)
  replace C : cpCx p s m args meth c w A cX7_enter RX7 2 := C
  rw [fX7_enter] at h
  refine cj_iload_n C (i := 1) dX7_enter_0 rfl rfl ?_
  refine cj_bipush C (v := (6 : Int32)) dX7_enter_1 rfl ?_
  refine cj_icmp_lt C (tgt := 12) dX7_enter_3 rfl h (fun _ h => ?_) (fun _ h => ?_)
  · refine cj_aload_n C (i := 0) dX7_enter_12 rfl rfl ?_
    refine cj_callVv C (As := []) (rest := []) qX7_advance mw_11_2 o_115 rfl rfl rfl (Nat.le_of_ble_eq_true rfl) (by decide) dX7_enter_13 h (fun _ _ hf => m_X7_advance l w A S _ hf) (fun z1 S2 h => ?_)
    refine cj_iconst C (v := (1 : Int32)) dX7_enter_16 rfl ?_
    exact cj_zreturn C hr rfl h dX7_enter_17
  · refine cj_aload_n C (i := 0) dX7_enter_6 rfl rfl ?_
    refine cj_iconst C (v := (4 : Int32)) dX7_enter_7 rfl ?_
    refine cj_callVi C (As := [.int (4 : Int32)]) (rest := []) qX7_refuse mw_16_13 o_115 rfl rfl rfl (Nat.le_of_ble_eq_true rfl) (by decide) dX7_enter_8 h (fun _ _ hf => m_X7_refuse l w A (4 : Int32) S _ hf) (fun z3 S4 h => ?_)
    obtain ⟨hb, h⟩ := cpGuard h
    exact cj_zreturn C hr (cpBo_n hb) h dX7_enter_11
/-! X7_readUnit -/
def fX7_readUnit (rec : Nat → Int32 → cpS → Option (Int32 × cpS)) (x1 : Int32) (S : cpS) : Option (Int32 × cpS) :=
    cpB (fX7_isWord 14 S) fun z1 S2 =>
    if z1 = 0 then (
    cpB (fX7_isSign (91 : Int32) S2) fun z3 S4 =>
    if z3 = 0 then (
    cpB (rec 3 x1 S4) fun z5 S6 =>
    if cpBo z5 then some (z5, S6) else none) else (
    cpB (fX7_enter x1 S4) fun z7 S8 =>
    if z7 = 0 then (
    some ((0 : Int32), S8)) else (
    cpB (rec 0 (x1 + (1 : Int32)) S8) fun z9 S10 =>
    if z9 = 0 then (
    some ((0 : Int32), S10)) else (
    cpB (fX7_takeSign (93 : Int32) S10) fun z11 S12 =>
    if z11 = 0 then (
    some ((0 : Int32), S12)) else (
    some ((1 : Int32), S12)))))) else (
    cpB (fX7_enter x1 S2) fun z13 S14 =>
    if z13 = 0 then (
    some ((0 : Int32), S14)) else (
    cpB (rec 2 (x1 + (1 : Int32)) S14) fun z15 S16 =>
    if z15 = 0 then (
    some ((0 : Int32), S16)) else (
    cpB (fX3_append 26 (2008 : Int32) S16) fun _ S18 =>
    some ((1 : Int32), S18))))
set_option maxRecDepth 100000 in
set_option maxHeartbeats 4000000 in
theorem m_X7_readUnit (l : Launch) (w : cpW) (A : Nat → Prop) {rec : Nat → Int32 → cpS → Option (Int32 × cpS)} {dz : Nat} (hz : 6 ≤ dz) (hrec0 : ∀ (x1 : Int32) (S : cpS) (r : Int32 × cpS), rec 0 x1 S = some r → cpMi l yX7_readTruth cX7_readTruth 3 ((some .boolean)) dz w A [.ref (w.2.1 115), .int x1] S r) (hrec1 : ∀ (x1 : Int32) (S : cpS) (r : Int32 × cpS), rec 1 x1 S = some r → cpMi l yX7_readBoth cX7_readBoth 3 ((some .boolean)) dz w A [.ref (w.2.1 115), .int x1] S r) (hrec2 : ∀ (x1 : Int32) (S : cpS) (r : Int32 × cpS), rec 2 x1 S = some r → cpMi l yX7_readUnit cX7_readUnit 2 ((some .boolean)) dz w A [.ref (w.2.1 115), .int x1] S r) (hrec3 : ∀ (x1 : Int32) (S : cpS) (r : Int32 × cpS), rec 3 x1 S = some r → cpMi l yX7_readComparison cX7_readComparison 3 ((some .boolean)) dz w A [.ref (w.2.1 115), .int x1] S r) (hrec4 : ∀ (x1 : Int32) (S : cpS) (r : Int32 × cpS), rec 4 x1 S = some r → cpMi l yX7_readSum cX7_readSum 4 ((some .boolean)) dz w A [.ref (w.2.1 115), .int x1] S r) (hrec5 : ∀ (x1 : Int32) (S : cpS) (r : Int32 × cpS), rec 5 x1 S = some r → cpMi l yX7_readTerm cX7_readTerm 3 ((some .boolean)) dz w A [.ref (w.2.1 115), .int x1] S r) (hrec6 : ∀ (x1 : Int32) (S : cpS) (r : Int32 × cpS), rec 6 x1 S = some r → cpMi l yX7_readAtom cX7_readAtom 3 ((some .boolean)) dz w A [.ref (w.2.1 115), .int x1] S r) (hrec7 : ∀ (x1 : Int32) (S : cpS) (r : Int32 × cpS), rec 7 x1 S = some r → cpMi l yX7_readChoice cX7_readChoice 2 ((some .boolean)) dz w A [.ref (w.2.1 115), .int x1] S r) (x1 : Int32) (S : cpS) (r : Int32 × cpS) (h : fX7_readUnit rec x1 S = some r) : cpMi l yX7_readUnit cX7_readUnit 2 ((some .boolean)) (dz + 1) w A [.ref (w.2.1 115), .int x1] S r := by
  refine cpMi.of (lv := [some (.ref (w.2.1 115)), some (.int x1)]) (by decide) (Nat.le_of_ble_eq_true rfl) rfl (fun p e s m args below meth c C hr => ?_)
  replace C : cpCx p s m args meth c w A cX7_readUnit RX7 2 := C
  rw [fX7_readUnit] at h
  refine cj_aload_n C (i := 0) dX7_readUnit_0 rfl rfl ?_
  refine cj_ldcS C (i := 14) (List.mem_of_getElem? (i := 14) rfl) dX7_readUnit_1 ?_
  refine cj_callVi C (As := [.ref (w.2.2.2.2.1 14)]) (rest := []) qX7_isWord mw_15_12 o_115 rfl rfl rfl (Nat.le_of_ble_eq_true rfl) (by omega) dX7_readUnit_3 h (fun _ _ hf => m_X7_isWord l w A (by decide) S _ hf) (fun z1 S2 h => ?_)
  refine cj_if_eq C (tgt := 44) dX7_readUnit_6 rfl h (fun _ h => ?_) (fun _ h => ?_)
  · refine cj_aload_n C (i := 0) dX7_readUnit_44 rfl rfl ?_
    refine cj_bipush C (v := (91 : Int32)) dX7_readUnit_45 rfl ?_
    refine cj_callVi C (As := [.int (91 : Int32)]) (rest := []) qX7_isSign mw_17_6 o_115 rfl rfl rfl (Nat.le_of_ble_eq_true rfl) (by omega) dX7_readUnit_47 h (fun _ _ hf => m_X7_isSign l w A (91 : Int32) S2 _ hf) (fun z3 S4 h => ?_)
    refine cj_if_eq C (tgt := 86) dX7_readUnit_50 rfl h (fun _ h => ?_) (fun _ h => ?_)
    · refine cj_aload_n C (i := 0) dX7_readUnit_86 rfl rfl ?_
      refine cj_iload_n C (i := 1) dX7_readUnit_87 rfl rfl ?_
      refine cj_callVi C (As := [.int x1]) (rest := []) qX7_readComparison mw_20_21 o_115 rfl rfl rfl (Nat.le_of_ble_eq_true rfl) (by omega) dX7_readUnit_88 h (fun _ _ hf => hrec3 x1 S4 _ hf) (fun z5 S6 h => ?_)
      obtain ⟨hb, h⟩ := cpGuard h
      exact cj_zreturn C hr (cpBo_n hb) h dX7_readUnit_91
    · refine cj_aload_n C (i := 0) dX7_readUnit_53 rfl rfl ?_
      refine cj_iload_n C (i := 1) dX7_readUnit_54 rfl rfl ?_
      refine cj_callVi C (As := [.int x1]) (rest := []) qX7_enter mw_19_16 o_115 rfl rfl rfl (Nat.le_of_ble_eq_true rfl) (by omega) dX7_readUnit_55 h (fun _ _ hf => m_X7_enter l w A x1 S4 _ hf) (fun z7 S8 h => ?_)
      refine cj_if_eq C (tgt := 84) dX7_readUnit_58 rfl h (fun _ h => ?_) (fun _ h => ?_)
      · refine cj_iconst C (v := (0 : Int32)) dX7_readUnit_84 rfl ?_
        exact cj_zreturn C hr rfl h dX7_readUnit_85
      · refine cj_aload_n C (i := 0) dX7_readUnit_61 rfl rfl ?_
        refine cj_iload_n C (i := 1) dX7_readUnit_62 rfl rfl ?_
        refine cj_iconst C (v := (1 : Int32)) dX7_readUnit_63 rfl ?_
        refine cj_iadd C dX7_readUnit_64 ?_
        refine cj_callVi C (As := [.int (x1 + (1 : Int32))]) (rest := []) qX7_readTruth mw_19_4 o_115 rfl rfl rfl (Nat.le_of_ble_eq_true rfl) (by omega) dX7_readUnit_65 h (fun _ _ hf => hrec0 (x1 + (1 : Int32)) S8 _ hf) (fun z9 S10 h => ?_)
        refine cj_if_eq C (tgt := 84) dX7_readUnit_68 rfl h (fun _ h => ?_) (fun _ h => ?_)
        · refine cj_iconst C (v := (0 : Int32)) dX7_readUnit_84 rfl ?_
          exact cj_zreturn C hr rfl h dX7_readUnit_85
        · refine cj_aload_n C (i := 0) dX7_readUnit_71 rfl rfl ?_
          refine cj_bipush C (v := (93 : Int32)) dX7_readUnit_72 rfl ?_
          refine cj_callVi C (As := [.int (93 : Int32)]) (rest := []) qX7_takeSign mw_17_2 o_115 rfl rfl rfl (Nat.le_of_ble_eq_true rfl) (by omega) dX7_readUnit_74 h (fun _ _ hf => m_X7_takeSign l w A (93 : Int32) S10 _ hf) (fun z11 S12 h => ?_)
          refine cj_if_eq C (tgt := 84) dX7_readUnit_77 rfl h (fun _ h => ?_) (fun _ h => ?_)
          · refine cj_iconst C (v := (0 : Int32)) dX7_readUnit_84 rfl ?_
            exact cj_zreturn C hr rfl h dX7_readUnit_85
          · refine cj_iconst C (v := (1 : Int32)) dX7_readUnit_80 rfl ?_
            refine cj_goto C (tgt := 85) dX7_readUnit_81 rfl ?_
            exact cj_zreturn C hr rfl h dX7_readUnit_85
  · refine cj_aload_n C (i := 0) dX7_readUnit_9 rfl rfl ?_
    refine cj_iload_n C (i := 1) dX7_readUnit_10 rfl rfl ?_
    refine cj_callVi C (As := [.int x1]) (rest := []) qX7_enter mw_19_16 o_115 rfl rfl rfl (Nat.le_of_ble_eq_true rfl) (by omega) dX7_readUnit_11 h (fun _ _ hf => m_X7_enter l w A x1 S2 _ hf) (fun z13 S14 h => ?_)
    refine cj_if_eq C (tgt := 27) dX7_readUnit_14 rfl h (fun _ h => ?_) (fun _ h => ?_)
    · refine cj_iconst C (v := (0 : Int32)) dX7_readUnit_27 rfl ?_
      exact cj_zreturn C hr rfl h dX7_readUnit_28
    · refine cj_aload_n C (i := 0) dX7_readUnit_17 rfl rfl ?_
      refine cj_iload_n C (i := 1) dX7_readUnit_18 rfl rfl ?_
      refine cj_iconst C (v := (1 : Int32)) dX7_readUnit_19 rfl ?_
      refine cj_iadd C dX7_readUnit_20 ?_
      refine cj_callVi C (As := [.int (x1 + (1 : Int32))]) (rest := []) qX7_readUnit mw_20_7 o_115 rfl rfl rfl (Nat.le_of_ble_eq_true rfl) (by omega) dX7_readUnit_21 h (fun _ _ hf => hrec2 (x1 + (1 : Int32)) S14 _ hf) (fun z15 S16 h => ?_)
      refine cj_if_ne C (tgt := 29) dX7_readUnit_24 rfl h (fun _ h => ?_) (fun _ h => ?_)
      · refine cj_iconst C (v := (0 : Int32)) dX7_readUnit_27 rfl ?_
        exact cj_zreturn C hr rfl h dX7_readUnit_28
      · refine cj_aload_n C (i := 0) dX7_readUnit_29 rfl rfl ?_
        refine cj_getR C (d := 15) o_115 rfl gfX7_18 dX7_readUnit_30 ?_
        refine cj_getR C (d := 26) o_15 rfl gfX7_175 dX7_readUnit_33 ?_
        refine cj_sipush C (v := (2008 : Int32)) dX7_readUnit_36 rfl ?_
        refine cj_callVv C (As := [.int (2008 : Int32)]) (rest := []) qX3_append mw_19_11 o_26 rfl rfl rfl (Nat.le_of_ble_eq_true rfl) (by omega) dX7_readUnit_39 h (fun _ _ hf => m_X3_append l w A kLw_26 (2008 : Int32) S16 _ hf) (fun z17 S18 h => ?_)
        refine cj_iconst C (v := (1 : Int32)) dX7_readUnit_42 rfl ?_
        exact cj_zreturn C hr rfl h dX7_readUnit_43
end CPV
