section CPV
variable {p : Program} {l : Launch} {e : Env} {s : State} {m : MethodId} {args : Array Value} {below : List Frame} {meth : Method} {c : Code} {w : cpW} {A : Nat → Prop}
/-! X7_readComparison -/
def fX7_readComparison_64 (rec : Nat → Int32 → cpS → Option (Int32 × cpS)) (x1 : Int32) (x2 : Int32) (S : cpS) : Option (Int32 × cpS) :=
    cpB (fX7_advance S) fun _ S2 =>
    cpB (rec 4 x1 S2) fun z3 S4 =>
    if z3 = 0 then (
    some ((0 : Int32), S4)) else (
    cpB (fX3_append 26 x2 S4) fun _ S6 =>
    some ((1 : Int32), S6))
set_option maxRecDepth 100000 in
set_option maxHeartbeats 4000000 in
theorem wX7_readComparison_64 (C : cpCx p s m args meth c w A cX7_readComparison RX7 3) (hr : meth.sig.returnType = (some .boolean)) {r : Int32 × cpS} {rec : Nat → Int32 → cpS → Option (Int32 × cpS)} {dz : Nat} (hz : 6 ≤ dz) (hrec0 : ∀ (x1 : Int32) (S : cpS) (r : Int32 × cpS), rec 0 x1 S = some r → cpMi l yX7_readTruth cX7_readTruth 3 ((some .boolean)) dz w A [.ref (w.2.1 115), .int x1] S r) (hrec1 : ∀ (x1 : Int32) (S : cpS) (r : Int32 × cpS), rec 1 x1 S = some r → cpMi l yX7_readBoth cX7_readBoth 3 ((some .boolean)) dz w A [.ref (w.2.1 115), .int x1] S r) (hrec2 : ∀ (x1 : Int32) (S : cpS) (r : Int32 × cpS), rec 2 x1 S = some r → cpMi l yX7_readUnit cX7_readUnit 2 ((some .boolean)) dz w A [.ref (w.2.1 115), .int x1] S r) (hrec3 : ∀ (x1 : Int32) (S : cpS) (r : Int32 × cpS), rec 3 x1 S = some r → cpMi l yX7_readComparison cX7_readComparison 3 ((some .boolean)) dz w A [.ref (w.2.1 115), .int x1] S r) (hrec4 : ∀ (x1 : Int32) (S : cpS) (r : Int32 × cpS), rec 4 x1 S = some r → cpMi l yX7_readSum cX7_readSum 4 ((some .boolean)) dz w A [.ref (w.2.1 115), .int x1] S r) (hrec5 : ∀ (x1 : Int32) (S : cpS) (r : Int32 × cpS), rec 5 x1 S = some r → cpMi l yX7_readTerm cX7_readTerm 3 ((some .boolean)) dz w A [.ref (w.2.1 115), .int x1] S r) (hrec6 : ∀ (x1 : Int32) (S : cpS) (r : Int32 × cpS), rec 6 x1 S = some r → cpMi l yX7_readAtom cX7_readAtom 3 ((some .boolean)) dz w A [.ref (w.2.1 115), .int x1] S r) (hrec7 : ∀ (x1 : Int32) (S : cpS) (r : Int32 × cpS), rec 7 x1 S = some r → cpMi l yX7_readChoice cX7_readChoice 2 ((some .boolean)) dz w A [.ref (w.2.1 115), .int x1] S r) (x1 : Int32) (x2 : Int32) (S : cpS) (h : fX7_readComparison_64 rec x1 x2 S = some r) : cpJ p l e (cpRm (dz + 1)) s m args below meth c (MQ below (va_Qi (fun x S' => (x, S') = r) (cpWorld w A) A) args s 0 0 A) w A 3 64 [some (.ref (w.2.1 115)), some (.int x1), some (.int x2)] [] S := by
  rw [fX7_readComparison_64] at h
  refine cj_aload_n C (i := 0) dX7_readComparison_64 rfl rfl ?_
  refine cj_callVv C (As := []) (rest := []) qX7_advance mw_11_2 o_115 rfl rfl rfl (Nat.le_of_ble_eq_true rfl) (by omega) dX7_readComparison_65 h (fun _ _ hf => m_X7_advance l w A S _ hf) (fun z1 S2 h => ?_)
  refine cj_aload_n C (i := 0) dX7_readComparison_68 rfl rfl ?_
  refine cj_iload_n C (i := 1) dX7_readComparison_69 rfl rfl ?_
  refine cj_callVi C (As := [.int x1]) (rest := []) qX7_readSum mw_19_20 o_115 rfl rfl rfl (Nat.le_of_ble_eq_true rfl) (by omega) dX7_readComparison_70 h (fun _ _ hf => hrec4 x1 S2 _ hf) (fun z3 S4 h => ?_)
  refine cj_if_ne C (tgt := 78) dX7_readComparison_73 rfl h (fun _ h => ?_) (fun _ h => ?_)
  · refine cj_iconst C (v := (0 : Int32)) dX7_readComparison_76 rfl ?_
    exact cj_zreturn C hr rfl h dX7_readComparison_77
  · refine cj_aload_n C (i := 0) dX7_readComparison_78 rfl rfl ?_
    refine cj_getR C (d := 15) o_115 rfl gfX7_18 dX7_readComparison_79 ?_
    refine cj_getR C (d := 26) o_15 rfl gfX7_175 dX7_readComparison_82 ?_
    refine cj_iload_n C (i := 2) dX7_readComparison_85 rfl rfl ?_
    refine cj_callVv C (As := [.int x2]) (rest := []) qX3_append mw_19_11 o_26 rfl rfl rfl (Nat.le_of_ble_eq_true rfl) (by omega) dX7_readComparison_86 h (fun _ _ hf => m_X3_append l w A kLw_26 x2 S4 _ hf) (fun z5 S6 h => ?_)
    refine cj_iconst C (v := (1 : Int32)) dX7_readComparison_89 rfl ?_
    exact cj_zreturn C hr rfl h dX7_readComparison_90
def fX7_readComparison (rec : Nat → Int32 → cpS → Option (Int32 × cpS)) (x1 : Int32) (S : cpS) : Option (Int32 × cpS) :=
    cpB (rec 4 x1 S) fun z1 S2 =>
    if z1 = 0 then (
    some ((0 : Int32), S2)) else (
    cpB (fX7_isSign (61 : Int32) S2) fun z3 S4 =>
    if z3 = 0 then (
    cpB (fX7_isSign (60 : Int32) S4) fun z5 S6 =>
    if z5 = 0 then (
    cpB (fX7_isSign (62 : Int32) S6) fun z7 S8 =>
    if z7 = 0 then (
    cpB (fX7_refuse (2 : Int32) S8) fun z9 S10 =>
    if cpBo z9 then some (z9, S10) else none) else (
    fX7_readComparison_64 rec x1 (2005 : Int32) S8)) else (
    fX7_readComparison_64 rec x1 (2004 : Int32) S6)) else (
    fX7_readComparison_64 rec x1 (2003 : Int32) S4))
set_option maxRecDepth 100000 in
set_option maxHeartbeats 4000000 in
theorem m_X7_readComparison (l : Launch) (w : cpW) (A : Nat → Prop) {rec : Nat → Int32 → cpS → Option (Int32 × cpS)} {dz : Nat} (hz : 6 ≤ dz) (hrec0 : ∀ (x1 : Int32) (S : cpS) (r : Int32 × cpS), rec 0 x1 S = some r → cpMi l yX7_readTruth cX7_readTruth 3 ((some .boolean)) dz w A [.ref (w.2.1 115), .int x1] S r) (hrec1 : ∀ (x1 : Int32) (S : cpS) (r : Int32 × cpS), rec 1 x1 S = some r → cpMi l yX7_readBoth cX7_readBoth 3 ((some .boolean)) dz w A [.ref (w.2.1 115), .int x1] S r) (hrec2 : ∀ (x1 : Int32) (S : cpS) (r : Int32 × cpS), rec 2 x1 S = some r → cpMi l yX7_readUnit cX7_readUnit 2 ((some .boolean)) dz w A [.ref (w.2.1 115), .int x1] S r) (hrec3 : ∀ (x1 : Int32) (S : cpS) (r : Int32 × cpS), rec 3 x1 S = some r → cpMi l yX7_readComparison cX7_readComparison 3 ((some .boolean)) dz w A [.ref (w.2.1 115), .int x1] S r) (hrec4 : ∀ (x1 : Int32) (S : cpS) (r : Int32 × cpS), rec 4 x1 S = some r → cpMi l yX7_readSum cX7_readSum 4 ((some .boolean)) dz w A [.ref (w.2.1 115), .int x1] S r) (hrec5 : ∀ (x1 : Int32) (S : cpS) (r : Int32 × cpS), rec 5 x1 S = some r → cpMi l yX7_readTerm cX7_readTerm 3 ((some .boolean)) dz w A [.ref (w.2.1 115), .int x1] S r) (hrec6 : ∀ (x1 : Int32) (S : cpS) (r : Int32 × cpS), rec 6 x1 S = some r → cpMi l yX7_readAtom cX7_readAtom 3 ((some .boolean)) dz w A [.ref (w.2.1 115), .int x1] S r) (hrec7 : ∀ (x1 : Int32) (S : cpS) (r : Int32 × cpS), rec 7 x1 S = some r → cpMi l yX7_readChoice cX7_readChoice 2 ((some .boolean)) dz w A [.ref (w.2.1 115), .int x1] S r) (x1 : Int32) (S : cpS) (r : Int32 × cpS) (h : fX7_readComparison rec x1 S = some r) : cpMi l yX7_readComparison cX7_readComparison 3 ((some .boolean)) (dz + 1) w A [.ref (w.2.1 115), .int x1] S r := by
  refine cpMi.of (lv := [some (.ref (w.2.1 115)), some (.int x1), none]) (by decide) (Nat.le_of_ble_eq_true rfl) rfl (fun p e s m args below meth c C hr => ?_)
  replace C : cpCx p s m args meth c w A cX7_readComparison RX7 3 := C
  rw [fX7_readComparison] at h
  refine cj_aload_n C (i := 0) dX7_readComparison_0 rfl rfl ?_
  refine cj_iload_n C (i := 1) dX7_readComparison_1 rfl rfl ?_
  refine cj_callVi C (As := [.int x1]) (rest := []) qX7_readSum mw_19_20 o_115 rfl rfl rfl (Nat.le_of_ble_eq_true rfl) (by omega) dX7_readComparison_2 h (fun _ _ hf => hrec4 x1 S _ hf) (fun z1 S2 h => ?_)
  refine cj_if_ne C (tgt := 10) dX7_readComparison_5 rfl h (fun _ h => ?_) (fun _ h => ?_)
  · refine cj_iconst C (v := (0 : Int32)) dX7_readComparison_8 rfl ?_
    exact cj_zreturn C hr rfl h dX7_readComparison_9
  · refine cj_aload_n C (i := 0) dX7_readComparison_10 rfl rfl ?_
    refine cj_bipush C (v := (61 : Int32)) dX7_readComparison_11 rfl ?_
    refine cj_callVi C (As := [.int (61 : Int32)]) (rest := []) qX7_isSign mw_17_6 o_115 rfl rfl rfl (Nat.le_of_ble_eq_true rfl) (by omega) dX7_readComparison_13 h (fun _ _ hf => m_X7_isSign l w A (61 : Int32) S2 _ hf) (fun z3 S4 h => ?_)
    refine cj_if_eq C (tgt := 26) dX7_readComparison_16 rfl h (fun _ h => ?_) (fun _ h => ?_)
    · refine cj_aload_n C (i := 0) dX7_readComparison_26 rfl rfl ?_
      refine cj_bipush C (v := (60 : Int32)) dX7_readComparison_27 rfl ?_
      refine cj_callVi C (As := [.int (60 : Int32)]) (rest := []) qX7_isSign mw_17_6 o_115 rfl rfl rfl (Nat.le_of_ble_eq_true rfl) (by omega) dX7_readComparison_29 h (fun _ _ hf => m_X7_isSign l w A (60 : Int32) S4 _ hf) (fun z5 S6 h => ?_)
      refine cj_if_eq C (tgt := 42) dX7_readComparison_32 rfl h (fun _ h => ?_) (fun _ h => ?_)
      · refine cj_aload_n C (i := 0) dX7_readComparison_42 rfl rfl ?_
        refine cj_bipush C (v := (62 : Int32)) dX7_readComparison_43 rfl ?_
        refine cj_callVi C (As := [.int (62 : Int32)]) (rest := []) qX7_isSign mw_17_6 o_115 rfl rfl rfl (Nat.le_of_ble_eq_true rfl) (by omega) dX7_readComparison_45 h (fun _ _ hf => m_X7_isSign l w A (62 : Int32) S6 _ hf) (fun z7 S8 h => ?_)
        refine cj_if_eq C (tgt := 58) dX7_readComparison_48 rfl h (fun _ h => ?_) (fun _ h => ?_)
        · refine cj_aload_n C (i := 0) dX7_readComparison_58 rfl rfl ?_
          refine cj_iconst C (v := (2 : Int32)) dX7_readComparison_59 rfl ?_
          refine cj_callVi C (As := [.int (2 : Int32)]) (rest := []) qX7_refuse mw_16_13 o_115 rfl rfl rfl (Nat.le_of_ble_eq_true rfl) (by omega) dX7_readComparison_60 h (fun _ _ hf => m_X7_refuse l w A (2 : Int32) S8 _ hf) (fun z9 S10 h => ?_)
          obtain ⟨hb, h⟩ := cpGuard h
          exact cj_zreturn C hr (cpBo_n hb) h dX7_readComparison_63
        · refine cj_sipush C (v := (2005 : Int32)) dX7_readComparison_51 rfl ?_
          refine cj_istore_n C (i := 2) (lv' := [some (.ref (w.2.1 115)), some (.int x1), some (.int (2005 : Int32))]) dX7_readComparison_54 rfl (by decide) rfl rfl ?_
          refine cj_goto C (tgt := 64) dX7_readComparison_55 rfl ?_
          exact wX7_readComparison_64 C hr hz hrec0 hrec1 hrec2 hrec3 hrec4 hrec5 hrec6 hrec7 x1 (2005 : Int32) S8 h
      · refine cj_sipush C (v := (2004 : Int32)) dX7_readComparison_35 rfl ?_
        refine cj_istore_n C (i := 2) (lv' := [some (.ref (w.2.1 115)), some (.int x1), some (.int (2004 : Int32))]) dX7_readComparison_38 rfl (by decide) rfl rfl ?_
        refine cj_goto C (tgt := 64) dX7_readComparison_39 rfl ?_
        exact wX7_readComparison_64 C hr hz hrec0 hrec1 hrec2 hrec3 hrec4 hrec5 hrec6 hrec7 x1 (2004 : Int32) S6 h
    · refine cj_sipush C (v := (2003 : Int32)) dX7_readComparison_19 rfl ?_
      refine cj_istore_n C (i := 2) (lv' := [some (.ref (w.2.1 115)), some (.int x1), some (.int (2003 : Int32))]) dX7_readComparison_22 rfl (by decide) rfl rfl ?_
      refine cj_goto C (tgt := 64) dX7_readComparison_23 rfl ?_
      exact wX7_readComparison_64 C hr hz hrec0 hrec1 hrec2 hrec3 hrec4 hrec5 hrec6 hrec7 x1 (2003 : Int32) S4 h
/-! X7_readSum -/
def fX7_readSum_55 (rec : Nat → Int32 → cpS → Option (Int32 × cpS)) (x1 : Int32) (x2 : Int32) (s0 : Int32) (k12 : Int32 → cpS → Option (Int32 × cpS)) (S : cpS) : Option (Int32 × cpS) :=
    cpB (fX7_advance S) fun _ S2 =>
    cpB (rec 5 x1 S2) fun z3 S4 =>
    if z3 = 0 then (
    some ((0 : Int32), S4)) else (
    cpB (fX3_append 26 s0 S4) fun _ S6 =>
    k12 (x2 + 1) S6)
set_option maxRecDepth 100000 in
set_option maxHeartbeats 4000000 in
theorem wX7_readSum_55 (C : cpCx p s m args meth c w A cX7_readSum RX7 4) (hr : meth.sig.returnType = (some .boolean)) {r : Int32 × cpS} {rec : Nat → Int32 → cpS → Option (Int32 × cpS)} {dz : Nat} (hz : 6 ≤ dz) (hrec0 : ∀ (x1 : Int32) (S : cpS) (r : Int32 × cpS), rec 0 x1 S = some r → cpMi l yX7_readTruth cX7_readTruth 3 ((some .boolean)) dz w A [.ref (w.2.1 115), .int x1] S r) (hrec1 : ∀ (x1 : Int32) (S : cpS) (r : Int32 × cpS), rec 1 x1 S = some r → cpMi l yX7_readBoth cX7_readBoth 3 ((some .boolean)) dz w A [.ref (w.2.1 115), .int x1] S r) (hrec2 : ∀ (x1 : Int32) (S : cpS) (r : Int32 × cpS), rec 2 x1 S = some r → cpMi l yX7_readUnit cX7_readUnit 2 ((some .boolean)) dz w A [.ref (w.2.1 115), .int x1] S r) (hrec3 : ∀ (x1 : Int32) (S : cpS) (r : Int32 × cpS), rec 3 x1 S = some r → cpMi l yX7_readComparison cX7_readComparison 3 ((some .boolean)) dz w A [.ref (w.2.1 115), .int x1] S r) (hrec4 : ∀ (x1 : Int32) (S : cpS) (r : Int32 × cpS), rec 4 x1 S = some r → cpMi l yX7_readSum cX7_readSum 4 ((some .boolean)) dz w A [.ref (w.2.1 115), .int x1] S r) (hrec5 : ∀ (x1 : Int32) (S : cpS) (r : Int32 × cpS), rec 5 x1 S = some r → cpMi l yX7_readTerm cX7_readTerm 3 ((some .boolean)) dz w A [.ref (w.2.1 115), .int x1] S r) (hrec6 : ∀ (x1 : Int32) (S : cpS) (r : Int32 × cpS), rec 6 x1 S = some r → cpMi l yX7_readAtom cX7_readAtom 3 ((some .boolean)) dz w A [.ref (w.2.1 115), .int x1] S r) (hrec7 : ∀ (x1 : Int32) (S : cpS) (r : Int32 × cpS), rec 7 x1 S = some r → cpMi l yX7_readChoice cX7_readChoice 2 ((some .boolean)) dz w A [.ref (w.2.1 115), .int x1] S r) (x1 : Int32) (x2 : Int32) (s0 : Int32) {k12 : Int32 → cpS → Option (Int32 × cpS)} (hk12 : ∀ (x2 : Int32) (S : cpS), k12 x2 S = some r → cpJ p l e (cpRm (dz + 1)) s m args below meth c (MQ below (va_Qi (fun x S' => (x, S') = r) (cpWorld w A) A) args s 0 0 A) w A 4 12 [some (.ref (w.2.1 115)), some (.int x1), some (.int x2), none] [] S) (S : cpS) (h : fX7_readSum_55 rec x1 x2 s0 k12 S = some r) : cpJ p l e (cpRm (dz + 1)) s m args below meth c (MQ below (va_Qi (fun x S' => (x, S') = r) (cpWorld w A) A) args s 0 0 A) w A 4 55 [some (.ref (w.2.1 115)), some (.int x1), some (.int x2), none] [.int s0] S := by
  rw [fX7_readSum_55] at h
  refine cj_istore_n C (i := 3) (lv' := [some (.ref (w.2.1 115)), some (.int x1), some (.int x2), some (.int s0)]) dX7_readSum_55 rfl (by decide) rfl rfl ?_
  refine cj_aload_n C (i := 0) dX7_readSum_56 rfl rfl ?_
  refine cj_callVv C (As := []) (rest := []) qX7_advance mw_11_2 o_115 rfl rfl rfl (Nat.le_of_ble_eq_true rfl) (by omega) dX7_readSum_57 h (fun _ _ hf => m_X7_advance l w A S _ hf) (fun z1 S2 h => ?_)
  refine cj_aload_n C (i := 0) dX7_readSum_60 rfl rfl ?_
  refine cj_iload_n C (i := 1) dX7_readSum_61 rfl rfl ?_
  refine cj_callVi C (As := [.int x1]) (rest := []) qX7_readTerm mw_20_13 o_115 rfl rfl rfl (Nat.le_of_ble_eq_true rfl) (by omega) dX7_readSum_62 h (fun _ _ hf => hrec5 x1 S2 _ hf) (fun z3 S4 h => ?_)
  refine cj_if_ne C (tgt := 70) dX7_readSum_65 rfl h (fun _ h => ?_) (fun _ h => ?_)
  · refine cj_iconst C (v := (0 : Int32)) dX7_readSum_68 rfl ?_
    exact cj_zreturn C hr rfl h dX7_readSum_69
  · refine cj_aload_n C (i := 0) dX7_readSum_70 rfl rfl ?_
    refine cj_getR C (d := 15) o_115 rfl gfX7_18 dX7_readSum_71 ?_
    refine cj_getR C (d := 26) o_15 rfl gfX7_175 dX7_readSum_74 ?_
    refine cj_iload_n C (i := 3) dX7_readSum_77 rfl rfl ?_
    refine cj_callVv C (As := [.int s0]) (rest := []) qX3_append mw_19_11 o_26 rfl rfl rfl (Nat.le_of_ble_eq_true rfl) (by omega) dX7_readSum_78 h (fun _ _ hf => m_X3_append l w A kLw_26 s0 S4 _ hf) (fun z5 S6 h => ?_)
    refine cj_iinc C (v := (x2 + 1)) (lv' := [some (.ref (w.2.1 115)), some (.int x1), some (.int (x2 + 1)), some (.int s0)]) dX7_readSum_81 rfl rfl (by decide) rfl rfl ?_
    refine cj_goto C (tgt := 12) dX7_readSum_84 rfl ?_
    refine cj_weak C (lv' := [some (.ref (w.2.1 115)), some (.int x1), some (.int (x2 + 1)), none]) (cpSub_s (cpSub_s (cpSub_s (cpSub_n cpSub_nil)))) ?_
    exact hk12 (x2 + 1) S6 h
def fX7_readSum_37 (rec : Nat → Int32 → cpS → Option (Int32 × cpS)) (x1 : Int32) (x2 : Int32) (k12 : Int32 → cpS → Option (Int32 × cpS)) (S : cpS) : Option (Int32 × cpS) :=
    cpB (fX7_isSign (43 : Int32) S) fun z1 S2 =>
    if z1 = 0 then (
    fX7_readSum_55 rec x1 x2 (2001 : Int32) k12 S2) else (
    fX7_readSum_55 rec x1 x2 (2000 : Int32) k12 S2)
set_option maxRecDepth 100000 in
set_option maxHeartbeats 4000000 in
theorem wX7_readSum_37 (C : cpCx p s m args meth c w A cX7_readSum RX7 4) (hr : meth.sig.returnType = (some .boolean)) {r : Int32 × cpS} {rec : Nat → Int32 → cpS → Option (Int32 × cpS)} {dz : Nat} (hz : 6 ≤ dz) (hrec0 : ∀ (x1 : Int32) (S : cpS) (r : Int32 × cpS), rec 0 x1 S = some r → cpMi l yX7_readTruth cX7_readTruth 3 ((some .boolean)) dz w A [.ref (w.2.1 115), .int x1] S r) (hrec1 : ∀ (x1 : Int32) (S : cpS) (r : Int32 × cpS), rec 1 x1 S = some r → cpMi l yX7_readBoth cX7_readBoth 3 ((some .boolean)) dz w A [.ref (w.2.1 115), .int x1] S r) (hrec2 : ∀ (x1 : Int32) (S : cpS) (r : Int32 × cpS), rec 2 x1 S = some r → cpMi l yX7_readUnit cX7_readUnit 2 ((some .boolean)) dz w A [.ref (w.2.1 115), .int x1] S r) (hrec3 : ∀ (x1 : Int32) (S : cpS) (r : Int32 × cpS), rec 3 x1 S = some r → cpMi l yX7_readComparison cX7_readComparison 3 ((some .boolean)) dz w A [.ref (w.2.1 115), .int x1] S r) (hrec4 : ∀ (x1 : Int32) (S : cpS) (r : Int32 × cpS), rec 4 x1 S = some r → cpMi l yX7_readSum cX7_readSum 4 ((some .boolean)) dz w A [.ref (w.2.1 115), .int x1] S r) (hrec5 : ∀ (x1 : Int32) (S : cpS) (r : Int32 × cpS), rec 5 x1 S = some r → cpMi l yX7_readTerm cX7_readTerm 3 ((some .boolean)) dz w A [.ref (w.2.1 115), .int x1] S r) (hrec6 : ∀ (x1 : Int32) (S : cpS) (r : Int32 × cpS), rec 6 x1 S = some r → cpMi l yX7_readAtom cX7_readAtom 3 ((some .boolean)) dz w A [.ref (w.2.1 115), .int x1] S r) (hrec7 : ∀ (x1 : Int32) (S : cpS) (r : Int32 × cpS), rec 7 x1 S = some r → cpMi l yX7_readChoice cX7_readChoice 2 ((some .boolean)) dz w A [.ref (w.2.1 115), .int x1] S r) (x1 : Int32) (x2 : Int32) {k12 : Int32 → cpS → Option (Int32 × cpS)} (hk12 : ∀ (x2 : Int32) (S : cpS), k12 x2 S = some r → cpJ p l e (cpRm (dz + 1)) s m args below meth c (MQ below (va_Qi (fun x S' => (x, S') = r) (cpWorld w A) A) args s 0 0 A) w A 4 12 [some (.ref (w.2.1 115)), some (.int x1), some (.int x2), none] [] S) (S : cpS) (h : fX7_readSum_37 rec x1 x2 k12 S = some r) : cpJ p l e (cpRm (dz + 1)) s m args below meth c (MQ below (va_Qi (fun x S' => (x, S') = r) (cpWorld w A) A) args s 0 0 A) w A 4 37 [some (.ref (w.2.1 115)), some (.int x1), some (.int x2), none] [] S := by
  rw [fX7_readSum_37] at h
  refine cj_aload_n C (i := 0) dX7_readSum_37 rfl rfl ?_
  refine cj_bipush C (v := (43 : Int32)) dX7_readSum_38 rfl ?_
  refine cj_callVi C (As := [.int (43 : Int32)]) (rest := []) qX7_isSign mw_17_6 o_115 rfl rfl rfl (Nat.le_of_ble_eq_true rfl) (by omega) dX7_readSum_40 h (fun _ _ hf => m_X7_isSign l w A (43 : Int32) S _ hf) (fun z1 S2 h => ?_)
  refine cj_if_eq C (tgt := 52) dX7_readSum_43 rfl h (fun _ h => ?_) (fun _ h => ?_)
  · refine cj_sipush C (v := (2001 : Int32)) dX7_readSum_52 rfl ?_
    exact wX7_readSum_55 C hr hz hrec0 hrec1 hrec2 hrec3 hrec4 hrec5 hrec6 hrec7 x1 x2 (2001 : Int32) hk12 S2 h
  · refine cj_sipush C (v := (2000 : Int32)) dX7_readSum_46 rfl ?_
    refine cj_goto C (tgt := 55) dX7_readSum_49 rfl ?_
    exact wX7_readSum_55 C hr hz hrec0 hrec1 hrec2 hrec3 hrec4 hrec5 hrec6 hrec7 x1 x2 (2000 : Int32) hk12 S2 h
def fX7_readSum_12 (rec : Nat → Int32 → cpS → Option (Int32 × cpS)) (x1 : Int32) : Nat → Int32 → cpS → Option (Int32 × cpS)
  | 0, _, _ => none
  | n + 1, x2, S =>
    if (900 : Int32) ≤ x2 then (
    some ((1 : Int32), S)) else (
    cpB (fX7_isSign (43 : Int32) S) fun z1 S2 =>
    if z1 = 0 then (
    cpB (fX7_isSign (45 : Int32) S2) fun z3 S4 =>
    if z3 = 0 then (
    some ((1 : Int32), S4)) else (
    fX7_readSum_37 rec x1 x2 (fX7_readSum_12 rec x1 n) S4)) else (
    fX7_readSum_37 rec x1 x2 (fX7_readSum_12 rec x1 n) S2))
set_option maxRecDepth 100000 in
set_option maxHeartbeats 4000000 in
theorem wX7_readSum_12 (C : cpCx p s m args meth c w A cX7_readSum RX7 4) (hr : meth.sig.returnType = (some .boolean)) {r : Int32 × cpS} {rec : Nat → Int32 → cpS → Option (Int32 × cpS)} {dz : Nat} (hz : 6 ≤ dz) (hrec0 : ∀ (x1 : Int32) (S : cpS) (r : Int32 × cpS), rec 0 x1 S = some r → cpMi l yX7_readTruth cX7_readTruth 3 ((some .boolean)) dz w A [.ref (w.2.1 115), .int x1] S r) (hrec1 : ∀ (x1 : Int32) (S : cpS) (r : Int32 × cpS), rec 1 x1 S = some r → cpMi l yX7_readBoth cX7_readBoth 3 ((some .boolean)) dz w A [.ref (w.2.1 115), .int x1] S r) (hrec2 : ∀ (x1 : Int32) (S : cpS) (r : Int32 × cpS), rec 2 x1 S = some r → cpMi l yX7_readUnit cX7_readUnit 2 ((some .boolean)) dz w A [.ref (w.2.1 115), .int x1] S r) (hrec3 : ∀ (x1 : Int32) (S : cpS) (r : Int32 × cpS), rec 3 x1 S = some r → cpMi l yX7_readComparison cX7_readComparison 3 ((some .boolean)) dz w A [.ref (w.2.1 115), .int x1] S r) (hrec4 : ∀ (x1 : Int32) (S : cpS) (r : Int32 × cpS), rec 4 x1 S = some r → cpMi l yX7_readSum cX7_readSum 4 ((some .boolean)) dz w A [.ref (w.2.1 115), .int x1] S r) (hrec5 : ∀ (x1 : Int32) (S : cpS) (r : Int32 × cpS), rec 5 x1 S = some r → cpMi l yX7_readTerm cX7_readTerm 3 ((some .boolean)) dz w A [.ref (w.2.1 115), .int x1] S r) (hrec6 : ∀ (x1 : Int32) (S : cpS) (r : Int32 × cpS), rec 6 x1 S = some r → cpMi l yX7_readAtom cX7_readAtom 3 ((some .boolean)) dz w A [.ref (w.2.1 115), .int x1] S r) (hrec7 : ∀ (x1 : Int32) (S : cpS) (r : Int32 × cpS), rec 7 x1 S = some r → cpMi l yX7_readChoice cX7_readChoice 2 ((some .boolean)) dz w A [.ref (w.2.1 115), .int x1] S r) (x1 : Int32) : ∀ (n : Nat) (x2 : Int32) (S : cpS), fX7_readSum_12 rec x1 n x2 S = some r → cpJ p l e (cpRm (dz + 1)) s m args below meth c (MQ below (va_Qi (fun x S' => (x, S') = r) (cpWorld w A) A) args s 0 0 A) w A 4 12 [some (.ref (w.2.1 115)), some (.int x1), some (.int x2), none] [] S := by
  intro n
  induction n with
  | zero => intro x2 S h; rw [fX7_readSum_12] at h; cases h
  | succ n ih =>
    intro x2 S h
    rw [fX7_readSum_12] at h
    refine cj_iload_n C (i := 2) dX7_readSum_12 rfl rfl ?_
    refine cj_sipush C (v := (900 : Int32)) dX7_readSum_13 rfl ?_
    refine cj_icmp_ge C (tgt := 87) dX7_readSum_16 rfl h (fun _ h => ?_) (fun _ h => ?_)
    · refine cj_iconst C (v := (1 : Int32)) dX7_readSum_87 rfl ?_
      exact cj_zreturn C hr rfl h dX7_readSum_88
    · refine cj_aload_n C (i := 0) dX7_readSum_19 rfl rfl ?_
      refine cj_bipush C (v := (43 : Int32)) dX7_readSum_20 rfl ?_
      refine cj_callVi C (As := [.int (43 : Int32)]) (rest := []) qX7_isSign mw_17_6 o_115 rfl rfl rfl (Nat.le_of_ble_eq_true rfl) (by omega) dX7_readSum_22 h (fun _ _ hf => m_X7_isSign l w A (43 : Int32) S _ hf) (fun z1 S2 h => ?_)
      refine cj_if_ne C (tgt := 37) dX7_readSum_25 rfl h (fun _ h => ?_) (fun _ h => ?_)
      · refine cj_aload_n C (i := 0) dX7_readSum_28 rfl rfl ?_
        refine cj_bipush C (v := (45 : Int32)) dX7_readSum_29 rfl ?_
        refine cj_callVi C (As := [.int (45 : Int32)]) (rest := []) qX7_isSign mw_17_6 o_115 rfl rfl rfl (Nat.le_of_ble_eq_true rfl) (by omega) dX7_readSum_31 h (fun _ _ hf => m_X7_isSign l w A (45 : Int32) S2 _ hf) (fun z3 S4 h => ?_)
        refine cj_if_eq C (tgt := 87) dX7_readSum_34 rfl h (fun _ h => ?_) (fun _ h => ?_)
        · refine cj_iconst C (v := (1 : Int32)) dX7_readSum_87 rfl ?_
          exact cj_zreturn C hr rfl h dX7_readSum_88
        · exact wX7_readSum_37 C hr hz hrec0 hrec1 hrec2 hrec3 hrec4 hrec5 hrec6 hrec7 x1 x2 ih S4 h
      · exact wX7_readSum_37 C hr hz hrec0 hrec1 hrec2 hrec3 hrec4 hrec5 hrec6 hrec7 x1 x2 ih S2 h
def fX7_readSum (rec : Nat → Int32 → cpS → Option (Int32 × cpS)) (x1 : Int32) (S : cpS) : Option (Int32 × cpS) :=
    cpB (rec 5 x1 S) fun z1 S2 =>
    if z1 = 0 then (
    some ((0 : Int32), S2)) else (
    fX7_readSum_12 rec x1 cpFu (0 : Int32) S2)
set_option maxRecDepth 100000 in
set_option maxHeartbeats 4000000 in
theorem m_X7_readSum (l : Launch) (w : cpW) (A : Nat → Prop) {rec : Nat → Int32 → cpS → Option (Int32 × cpS)} {dz : Nat} (hz : 6 ≤ dz) (hrec0 : ∀ (x1 : Int32) (S : cpS) (r : Int32 × cpS), rec 0 x1 S = some r → cpMi l yX7_readTruth cX7_readTruth 3 ((some .boolean)) dz w A [.ref (w.2.1 115), .int x1] S r) (hrec1 : ∀ (x1 : Int32) (S : cpS) (r : Int32 × cpS), rec 1 x1 S = some r → cpMi l yX7_readBoth cX7_readBoth 3 ((some .boolean)) dz w A [.ref (w.2.1 115), .int x1] S r) (hrec2 : ∀ (x1 : Int32) (S : cpS) (r : Int32 × cpS), rec 2 x1 S = some r → cpMi l yX7_readUnit cX7_readUnit 2 ((some .boolean)) dz w A [.ref (w.2.1 115), .int x1] S r) (hrec3 : ∀ (x1 : Int32) (S : cpS) (r : Int32 × cpS), rec 3 x1 S = some r → cpMi l yX7_readComparison cX7_readComparison 3 ((some .boolean)) dz w A [.ref (w.2.1 115), .int x1] S r) (hrec4 : ∀ (x1 : Int32) (S : cpS) (r : Int32 × cpS), rec 4 x1 S = some r → cpMi l yX7_readSum cX7_readSum 4 ((some .boolean)) dz w A [.ref (w.2.1 115), .int x1] S r) (hrec5 : ∀ (x1 : Int32) (S : cpS) (r : Int32 × cpS), rec 5 x1 S = some r → cpMi l yX7_readTerm cX7_readTerm 3 ((some .boolean)) dz w A [.ref (w.2.1 115), .int x1] S r) (hrec6 : ∀ (x1 : Int32) (S : cpS) (r : Int32 × cpS), rec 6 x1 S = some r → cpMi l yX7_readAtom cX7_readAtom 3 ((some .boolean)) dz w A [.ref (w.2.1 115), .int x1] S r) (hrec7 : ∀ (x1 : Int32) (S : cpS) (r : Int32 × cpS), rec 7 x1 S = some r → cpMi l yX7_readChoice cX7_readChoice 2 ((some .boolean)) dz w A [.ref (w.2.1 115), .int x1] S r) (x1 : Int32) (S : cpS) (r : Int32 × cpS) (h : fX7_readSum rec x1 S = some r) : cpMi l yX7_readSum cX7_readSum 4 ((some .boolean)) (dz + 1) w A [.ref (w.2.1 115), .int x1] S r := by
  refine cpMi.of (lv := [some (.ref (w.2.1 115)), some (.int x1), none, none]) (by decide) (Nat.le_of_ble_eq_true rfl) rfl (fun p e s m args below meth c C hr => ?_)
  replace C : cpCx p s m args meth c w A cX7_readSum RX7 4 := C
  rw [fX7_readSum] at h
  refine cj_aload_n C (i := 0) dX7_readSum_0 rfl rfl ?_
  refine cj_iload_n C (i := 1) dX7_readSum_1 rfl rfl ?_
  refine cj_callVi C (As := [.int x1]) (rest := []) qX7_readTerm mw_20_13 o_115 rfl rfl rfl (Nat.le_of_ble_eq_true rfl) (by omega) dX7_readSum_2 h (fun _ _ hf => hrec5 x1 S _ hf) (fun z1 S2 h => ?_)
  refine cj_if_ne C (tgt := 10) dX7_readSum_5 rfl h (fun _ h => ?_) (fun _ h => ?_)
  · refine cj_iconst C (v := (0 : Int32)) dX7_readSum_8 rfl ?_
    exact cj_zreturn C hr rfl h dX7_readSum_9
  · refine cj_iconst C (v := (0 : Int32)) dX7_readSum_10 rfl ?_
    refine cj_istore_n C (i := 2) (lv' := [some (.ref (w.2.1 115)), some (.int x1), some (.int (0 : Int32)), none]) dX7_readSum_11 rfl (by decide) rfl rfl ?_
    exact wX7_readSum_12 C hr hz hrec0 hrec1 hrec2 hrec3 hrec4 hrec5 hrec6 hrec7 x1 cpFu (0 : Int32) S2 h
/-! X7_readTerm -/
def fX7_readTerm_12 (rec : Nat → Int32 → cpS → Option (Int32 × cpS)) (x1 : Int32) : Nat → Int32 → cpS → Option (Int32 × cpS)
  | 0, _, _ => none
  | n + 1, x2, S =>
    if (900 : Int32) ≤ x2 then (
    some ((1 : Int32), S)) else (
    cpB (fX7_isSign (42 : Int32) S) fun z1 S2 =>
    if z1 = 0 then (
    some ((1 : Int32), S2)) else (
    cpB (fX7_advance S2) fun _ S4 =>
    cpB (rec 6 x1 S4) fun z5 S6 =>
    if z5 = 0 then (
    some ((0 : Int32), S6)) else (
    cpB (fX3_append 26 (2002 : Int32) S6) fun _ S8 =>
    fX7_readTerm_12 rec x1 n (x2 + 1) S8)))
set_option maxRecDepth 100000 in
set_option maxHeartbeats 4000000 in
theorem wX7_readTerm_12 (C : cpCx p s m args meth c w A cX7_readTerm RX7 3) (hr : meth.sig.returnType = (some .boolean)) {r : Int32 × cpS} {rec : Nat → Int32 → cpS → Option (Int32 × cpS)} {dz : Nat} (hz : 6 ≤ dz) (hrec0 : ∀ (x1 : Int32) (S : cpS) (r : Int32 × cpS), rec 0 x1 S = some r → cpMi l yX7_readTruth cX7_readTruth 3 ((some .boolean)) dz w A [.ref (w.2.1 115), .int x1] S r) (hrec1 : ∀ (x1 : Int32) (S : cpS) (r : Int32 × cpS), rec 1 x1 S = some r → cpMi l yX7_readBoth cX7_readBoth 3 ((some .boolean)) dz w A [.ref (w.2.1 115), .int x1] S r) (hrec2 : ∀ (x1 : Int32) (S : cpS) (r : Int32 × cpS), rec 2 x1 S = some r → cpMi l yX7_readUnit cX7_readUnit 2 ((some .boolean)) dz w A [.ref (w.2.1 115), .int x1] S r) (hrec3 : ∀ (x1 : Int32) (S : cpS) (r : Int32 × cpS), rec 3 x1 S = some r → cpMi l yX7_readComparison cX7_readComparison 3 ((some .boolean)) dz w A [.ref (w.2.1 115), .int x1] S r) (hrec4 : ∀ (x1 : Int32) (S : cpS) (r : Int32 × cpS), rec 4 x1 S = some r → cpMi l yX7_readSum cX7_readSum 4 ((some .boolean)) dz w A [.ref (w.2.1 115), .int x1] S r) (hrec5 : ∀ (x1 : Int32) (S : cpS) (r : Int32 × cpS), rec 5 x1 S = some r → cpMi l yX7_readTerm cX7_readTerm 3 ((some .boolean)) dz w A [.ref (w.2.1 115), .int x1] S r) (hrec6 : ∀ (x1 : Int32) (S : cpS) (r : Int32 × cpS), rec 6 x1 S = some r → cpMi l yX7_readAtom cX7_readAtom 3 ((some .boolean)) dz w A [.ref (w.2.1 115), .int x1] S r) (hrec7 : ∀ (x1 : Int32) (S : cpS) (r : Int32 × cpS), rec 7 x1 S = some r → cpMi l yX7_readChoice cX7_readChoice 2 ((some .boolean)) dz w A [.ref (w.2.1 115), .int x1] S r) (x1 : Int32) : ∀ (n : Nat) (x2 : Int32) (S : cpS), fX7_readTerm_12 rec x1 n x2 S = some r → cpJ p l e (cpRm (dz + 1)) s m args below meth c (MQ below (va_Qi (fun x S' => (x, S') = r) (cpWorld w A) A) args s 0 0 A) w A 3 12 [some (.ref (w.2.1 115)), some (.int x1), some (.int x2)] [] S := by
  intro n
  induction n with
  | zero => intro x2 S h; rw [fX7_readTerm_12] at h; cases h
  | succ n ih =>
    intro x2 S h
    rw [fX7_readTerm_12] at h
    refine cj_iload_n C (i := 2) dX7_readTerm_12 rfl rfl ?_
    refine cj_sipush C (v := (900 : Int32)) dX7_readTerm_13 rfl ?_
    refine cj_icmp_ge C (tgt := 61) dX7_readTerm_16 rfl h (fun _ h => ?_) (fun _ h => ?_)
    · refine cj_iconst C (v := (1 : Int32)) dX7_readTerm_61 rfl ?_
      exact cj_zreturn C hr rfl h dX7_readTerm_62
    · refine cj_aload_n C (i := 0) dX7_readTerm_19 rfl rfl ?_
      refine cj_bipush C (v := (42 : Int32)) dX7_readTerm_20 rfl ?_
      refine cj_callVi C (As := [.int (42 : Int32)]) (rest := []) qX7_isSign mw_17_6 o_115 rfl rfl rfl (Nat.le_of_ble_eq_true rfl) (by omega) dX7_readTerm_22 h (fun _ _ hf => m_X7_isSign l w A (42 : Int32) S _ hf) (fun z1 S2 h => ?_)
      refine cj_if_eq C (tgt := 61) dX7_readTerm_25 rfl h (fun _ h => ?_) (fun _ h => ?_)
      · refine cj_iconst C (v := (1 : Int32)) dX7_readTerm_61 rfl ?_
        exact cj_zreturn C hr rfl h dX7_readTerm_62
      · refine cj_aload_n C (i := 0) dX7_readTerm_28 rfl rfl ?_
        refine cj_callVv C (As := []) (rest := []) qX7_advance mw_11_2 o_115 rfl rfl rfl (Nat.le_of_ble_eq_true rfl) (by omega) dX7_readTerm_29 h (fun _ _ hf => m_X7_advance l w A S2 _ hf) (fun z3 S4 h => ?_)
        refine cj_aload_n C (i := 0) dX7_readTerm_32 rfl rfl ?_
        refine cj_iload_n C (i := 1) dX7_readTerm_33 rfl rfl ?_
        refine cj_callVi C (As := [.int x1]) (rest := []) qX7_readAtom mw_20_17 o_115 rfl rfl rfl (Nat.le_of_ble_eq_true rfl) (by omega) dX7_readTerm_34 h (fun _ _ hf => hrec6 x1 S4 _ hf) (fun z5 S6 h => ?_)
        refine cj_if_ne C (tgt := 42) dX7_readTerm_37 rfl h (fun _ h => ?_) (fun _ h => ?_)
        · refine cj_iconst C (v := (0 : Int32)) dX7_readTerm_40 rfl ?_
          exact cj_zreturn C hr rfl h dX7_readTerm_41
        · refine cj_aload_n C (i := 0) dX7_readTerm_42 rfl rfl ?_
          refine cj_getR C (d := 15) o_115 rfl gfX7_18 dX7_readTerm_43 ?_
          refine cj_getR C (d := 26) o_15 rfl gfX7_175 dX7_readTerm_46 ?_
          refine cj_sipush C (v := (2002 : Int32)) dX7_readTerm_49 rfl ?_
          refine cj_callVv C (As := [.int (2002 : Int32)]) (rest := []) qX3_append mw_19_11 o_26 rfl rfl rfl (Nat.le_of_ble_eq_true rfl) (by omega) dX7_readTerm_52 h (fun _ _ hf => m_X3_append l w A kLw_26 (2002 : Int32) S6 _ hf) (fun z7 S8 h => ?_)
          refine cj_iinc C (v := (x2 + 1)) (lv' := [some (.ref (w.2.1 115)), some (.int x1), some (.int (x2 + 1))]) dX7_readTerm_55 rfl rfl (by decide) rfl rfl ?_
          refine cj_goto C (tgt := 12) dX7_readTerm_58 rfl ?_
          exact ih (x2 + 1) S8 h
def fX7_readTerm (rec : Nat → Int32 → cpS → Option (Int32 × cpS)) (x1 : Int32) (S : cpS) : Option (Int32 × cpS) :=
    cpB (rec 6 x1 S) fun z1 S2 =>
    if z1 = 0 then (
    some ((0 : Int32), S2)) else (
    fX7_readTerm_12 rec x1 cpFu (0 : Int32) S2)
set_option maxRecDepth 100000 in
set_option maxHeartbeats 4000000 in
theorem m_X7_readTerm (l : Launch) (w : cpW) (A : Nat → Prop) {rec : Nat → Int32 → cpS → Option (Int32 × cpS)} {dz : Nat} (hz : 6 ≤ dz) (hrec0 : ∀ (x1 : Int32) (S : cpS) (r : Int32 × cpS), rec 0 x1 S = some r → cpMi l yX7_readTruth cX7_readTruth 3 ((some .boolean)) dz w A [.ref (w.2.1 115), .int x1] S r) (hrec1 : ∀ (x1 : Int32) (S : cpS) (r : Int32 × cpS), rec 1 x1 S = some r → cpMi l yX7_readBoth cX7_readBoth 3 ((some .boolean)) dz w A [.ref (w.2.1 115), .int x1] S r) (hrec2 : ∀ (x1 : Int32) (S : cpS) (r : Int32 × cpS), rec 2 x1 S = some r → cpMi l yX7_readUnit cX7_readUnit 2 ((some .boolean)) dz w A [.ref (w.2.1 115), .int x1] S r) (hrec3 : ∀ (x1 : Int32) (S : cpS) (r : Int32 × cpS), rec 3 x1 S = some r → cpMi l yX7_readComparison cX7_readComparison 3 ((some .boolean)) dz w A [.ref (w.2.1 115), .int x1] S r) (hrec4 : ∀ (x1 : Int32) (S : cpS) (r : Int32 × cpS), rec 4 x1 S = some r → cpMi l yX7_readSum cX7_readSum 4 ((some .boolean)) dz w A [.ref (w.2.1 115), .int x1] S r) (hrec5 : ∀ (x1 : Int32) (S : cpS) (r : Int32 × cpS), rec 5 x1 S = some r → cpMi l yX7_readTerm cX7_readTerm 3 ((some .boolean)) dz w A [.ref (w.2.1 115), .int x1] S r) (hrec6 : ∀ (x1 : Int32) (S : cpS) (r : Int32 × cpS), rec 6 x1 S = some r → cpMi l yX7_readAtom cX7_readAtom 3 ((some .boolean)) dz w A [.ref (w.2.1 115), .int x1] S r) (hrec7 : ∀ (x1 : Int32) (S : cpS) (r : Int32 × cpS), rec 7 x1 S = some r → cpMi l yX7_readChoice cX7_readChoice 2 ((some .boolean)) dz w A [.ref (w.2.1 115), .int x1] S r) (x1 : Int32) (S : cpS) (r : Int32 × cpS) (h : fX7_readTerm rec x1 S = some r) : cpMi l yX7_readTerm cX7_readTerm 3 ((some .boolean)) (dz + 1) w A [.ref (w.2.1 115), .int x1] S r := by
  refine cpMi.of (lv := [some (.ref (w.2.1 115)), some (.int x1), none]) (by decide) (Nat.le_of_ble_eq_true rfl) rfl (fun p e s m args below meth c C hr => ?_)
  replace C : cpCx p s m args meth c w A cX7_readTerm RX7 3 := C
  rw [fX7_readTerm] at h
  refine cj_aload_n C (i := 0) dX7_readTerm_0 rfl rfl ?_
  refine cj_iload_n C (i := 1) dX7_readTerm_1 rfl rfl ?_
  refine cj_callVi C (As := [.int x1]) (rest := []) qX7_readAtom mw_20_17 o_115 rfl rfl rfl (Nat.le_of_ble_eq_true rfl) (by omega) dX7_readTerm_2 h (fun _ _ hf => hrec6 x1 S _ hf) (fun z1 S2 h => ?_)
  refine cj_if_ne C (tgt := 10) dX7_readTerm_5 rfl h (fun _ h => ?_) (fun _ h => ?_)
  · refine cj_iconst C (v := (0 : Int32)) dX7_readTerm_8 rfl ?_
    exact cj_zreturn C hr rfl h dX7_readTerm_9
  · refine cj_iconst C (v := (0 : Int32)) dX7_readTerm_10 rfl ?_
    refine cj_istore_n C (i := 2) (lv' := [some (.ref (w.2.1 115)), some (.int x1), some (.int (0 : Int32))]) dX7_readTerm_11 rfl (by decide) rfl rfl ?_
    exact wX7_readTerm_12 C hr hz hrec0 hrec1 hrec2 hrec3 hrec4 hrec5 hrec6 hrec7 x1 cpFu (0 : Int32) S2 h
/-! X7_factNamed -/
def fX7_factNamed (S : cpS) : Option (Int32 × cpS) :=
    cpB (fX7_isWord 8 S) fun z1 S2 =>
    if z1 = 0 then (
    cpB (fX7_isWord 11 S2) fun z3 S4 =>
    if z3 = 0 then (
    cpB (fX7_isWord 19 S4) fun z5 S6 =>
    if z5 = 0 then (
    cpB (fX7_isWord 5 S6) fun z7 S8 =>
    if z7 = 0 then (
    cpB (fX7_isWord 3 S8) fun z9 S10 =>
    if z9 = 0 then (
    if (S10.1 115 11) = 0 then (
    some ((-1 : Int32), S10)) else (
    cpB (fX7_isWord 20 S10) fun z11 S12 =>
    if z11 = 0 then (
    some ((-1 : Int32), S12)) else (
    some ((5 : Int32), S12)))) else (
    some ((4 : Int32), S10))) else (
    some ((3 : Int32), S8))) else (
    some ((2 : Int32), S6))) else (
    some ((1 : Int32), S4))) else (
    some ((0 : Int32), S2))
set_option maxRecDepth 100000 in
set_option maxHeartbeats 4000000 in
theorem m_X7_factNamed (l : Launch) (w : cpW) (A : Nat → Prop) (S : cpS) (r : Int32 × cpS) (h : fX7_factNamed S = some r) : cpMi l yX7_factNamed cX7_factNamed 1 ((some .int)) 5 w A [.ref (w.2.1 115)] S r := by
  refine cpMi.of (lv := [some (.ref (w.2.1 115))]) (by decide) (Nat.le_of_ble_eq_true rfl) rfl (fun p e s m args below meth c C hr => ?_)
  replace C : cpCx p s m args meth c w A cX7_factNamed RX7 1 := C
  rw [fX7_factNamed] at h
  refine cj_aload_n C (i := 0) dX7_factNamed_0 rfl rfl ?_
  refine cj_ldcS C (i := 8) (List.mem_of_getElem? (i := 8) rfl) dX7_factNamed_1 ?_
  refine cj_callVi C (As := [.ref (w.2.2.2.2.1 8)]) (rest := []) qX7_isWord mw_15_12 o_115 rfl rfl rfl (Nat.le_of_ble_eq_true rfl) (by decide) dX7_factNamed_3 h (fun _ _ hf => m_X7_isWord l w A (by decide) S _ hf) (fun z1 S2 h => ?_)
  refine cj_if_eq C (tgt := 11) dX7_factNamed_6 rfl h (fun _ h => ?_) (fun _ h => ?_)
  · refine cj_aload_n C (i := 0) dX7_factNamed_11 rfl rfl ?_
    refine cj_ldcS C (i := 11) (List.mem_of_getElem? (i := 11) rfl) dX7_factNamed_12 ?_
    refine cj_callVi C (As := [.ref (w.2.2.2.2.1 11)]) (rest := []) qX7_isWord mw_15_12 o_115 rfl rfl rfl (Nat.le_of_ble_eq_true rfl) (by decide) dX7_factNamed_14 h (fun _ _ hf => m_X7_isWord l w A (by decide) S2 _ hf) (fun z3 S4 h => ?_)
    refine cj_if_eq C (tgt := 22) dX7_factNamed_17 rfl h (fun _ h => ?_) (fun _ h => ?_)
    · refine cj_aload_n C (i := 0) dX7_factNamed_22 rfl rfl ?_
      refine cj_ldcS C (i := 19) (List.mem_of_getElem? (i := 19) rfl) dX7_factNamed_23 ?_
      refine cj_callVi C (As := [.ref (w.2.2.2.2.1 19)]) (rest := []) qX7_isWord mw_15_12 o_115 rfl rfl rfl (Nat.le_of_ble_eq_true rfl) (by decide) dX7_factNamed_25 h (fun _ _ hf => m_X7_isWord l w A (by decide) S4 _ hf) (fun z5 S6 h => ?_)
      refine cj_if_eq C (tgt := 33) dX7_factNamed_28 rfl h (fun _ h => ?_) (fun _ h => ?_)
      · refine cj_aload_n C (i := 0) dX7_factNamed_33 rfl rfl ?_
        refine cj_ldcS C (i := 5) (List.mem_of_getElem? (i := 5) rfl) dX7_factNamed_34 ?_
        refine cj_callVi C (As := [.ref (w.2.2.2.2.1 5)]) (rest := []) qX7_isWord mw_15_12 o_115 rfl rfl rfl (Nat.le_of_ble_eq_true rfl) (by decide) dX7_factNamed_36 h (fun _ _ hf => m_X7_isWord l w A (by decide) S6 _ hf) (fun z7 S8 h => ?_)
        refine cj_if_eq C (tgt := 44) dX7_factNamed_39 rfl h (fun _ h => ?_) (fun _ h => ?_)
        · refine cj_aload_n C (i := 0) dX7_factNamed_44 rfl rfl ?_
          refine cj_ldcS C (i := 3) (List.mem_of_getElem? (i := 3) rfl) dX7_factNamed_45 ?_
          refine cj_callVi C (As := [.ref (w.2.2.2.2.1 3)]) (rest := []) qX7_isWord mw_15_12 o_115 rfl rfl rfl (Nat.le_of_ble_eq_true rfl) (by decide) dX7_factNamed_47 h (fun _ _ hf => m_X7_isWord l w A (by decide) S8 _ hf) (fun z9 S10 h => ?_)
          refine cj_if_eq C (tgt := 55) dX7_factNamed_50 rfl h (fun _ h => ?_) (fun _ h => ?_)
          · refine cj_aload_n C (i := 0) dX7_factNamed_55 rfl rfl ?_
            refine cj_getI C (j := 11) o_115 rfl gfX7_171 dX7_factNamed_56 ?_
            refine cj_if_eq C (tgt := 75) dX7_factNamed_59 rfl h (fun _ h => ?_) (fun _ h => ?_)
            · refine cj_iconst C (v := (-1 : Int32)) dX7_factNamed_75 rfl ?_
              exact cj_ireturn C hr h dX7_factNamed_76
            · refine cj_aload_n C (i := 0) dX7_factNamed_62 rfl rfl ?_
              refine cj_ldcS C (i := 20) (List.mem_of_getElem? (i := 20) rfl) dX7_factNamed_63 ?_
              refine cj_callVi C (As := [.ref (w.2.2.2.2.1 20)]) (rest := []) qX7_isWord mw_15_12 o_115 rfl rfl rfl (Nat.le_of_ble_eq_true rfl) (by decide) dX7_factNamed_65 h (fun _ _ hf => m_X7_isWord l w A (by decide) S10 _ hf) (fun z11 S12 h => ?_)
              refine cj_if_eq C (tgt := 75) dX7_factNamed_68 rfl h (fun _ h => ?_) (fun _ h => ?_)
              · refine cj_iconst C (v := (-1 : Int32)) dX7_factNamed_75 rfl ?_
                exact cj_ireturn C hr h dX7_factNamed_76
              · refine cj_iconst C (v := (5 : Int32)) dX7_factNamed_71 rfl ?_
                refine cj_goto C (tgt := 76) dX7_factNamed_72 rfl ?_
                exact cj_ireturn C hr h dX7_factNamed_76
          · refine cj_iconst C (v := (4 : Int32)) dX7_factNamed_53 rfl ?_
            exact cj_ireturn C hr h dX7_factNamed_54
        · refine cj_iconst C (v := (3 : Int32)) dX7_factNamed_42 rfl ?_
          exact cj_ireturn C hr h dX7_factNamed_43
      · refine cj_iconst C (v := (2 : Int32)) dX7_factNamed_31 rfl ?_
        exact cj_ireturn C hr h dX7_factNamed_32
    · refine cj_iconst C (v := (1 : Int32)) dX7_factNamed_20 rfl ?_
      exact cj_ireturn C hr h dX7_factNamed_21
  · refine cj_iconst C (v := (0 : Int32)) dX7_factNamed_9 rfl ?_
    exact cj_ireturn C hr h dX7_factNamed_10
/-! X7_readAtom -/
def fX7_readAtom_99 (rec : Nat → Int32 → cpS → Option (Int32 × cpS)) (x2 : Int32) (S : cpS) : Option (Int32 × cpS) :=
    if (S.1 115 6) = (2 : Int32) then (
    cpB (fX3_append 26 (S.1 115 9) S) fun _ S2 =>
    cpB (fX7_advance S2) fun _ S4 =>
    some ((1 : Int32), S4)) else (
    cpB (fX3_append 26 ((1000 : Int32) + x2) S) fun _ S6 =>
    cpB (fX7_advance S6) fun _ S8 =>
    some ((1 : Int32), S8))
set_option maxRecDepth 100000 in
set_option maxHeartbeats 4000000 in
theorem wX7_readAtom_99 (C : cpCx p s m args meth c w A cX7_readAtom RX7 3) (hr : meth.sig.returnType = (some .boolean)) {r : Int32 × cpS} {rec : Nat → Int32 → cpS → Option (Int32 × cpS)} {dz : Nat} (hz : 6 ≤ dz) (hrec0 : ∀ (x1 : Int32) (S : cpS) (r : Int32 × cpS), rec 0 x1 S = some r → cpMi l yX7_readTruth cX7_readTruth 3 ((some .boolean)) dz w A [.ref (w.2.1 115), .int x1] S r) (hrec1 : ∀ (x1 : Int32) (S : cpS) (r : Int32 × cpS), rec 1 x1 S = some r → cpMi l yX7_readBoth cX7_readBoth 3 ((some .boolean)) dz w A [.ref (w.2.1 115), .int x1] S r) (hrec2 : ∀ (x1 : Int32) (S : cpS) (r : Int32 × cpS), rec 2 x1 S = some r → cpMi l yX7_readUnit cX7_readUnit 2 ((some .boolean)) dz w A [.ref (w.2.1 115), .int x1] S r) (hrec3 : ∀ (x1 : Int32) (S : cpS) (r : Int32 × cpS), rec 3 x1 S = some r → cpMi l yX7_readComparison cX7_readComparison 3 ((some .boolean)) dz w A [.ref (w.2.1 115), .int x1] S r) (hrec4 : ∀ (x1 : Int32) (S : cpS) (r : Int32 × cpS), rec 4 x1 S = some r → cpMi l yX7_readSum cX7_readSum 4 ((some .boolean)) dz w A [.ref (w.2.1 115), .int x1] S r) (hrec5 : ∀ (x1 : Int32) (S : cpS) (r : Int32 × cpS), rec 5 x1 S = some r → cpMi l yX7_readTerm cX7_readTerm 3 ((some .boolean)) dz w A [.ref (w.2.1 115), .int x1] S r) (hrec6 : ∀ (x1 : Int32) (S : cpS) (r : Int32 × cpS), rec 6 x1 S = some r → cpMi l yX7_readAtom cX7_readAtom 3 ((some .boolean)) dz w A [.ref (w.2.1 115), .int x1] S r) (hrec7 : ∀ (x1 : Int32) (S : cpS) (r : Int32 × cpS), rec 7 x1 S = some r → cpMi l yX7_readChoice cX7_readChoice 2 ((some .boolean)) dz w A [.ref (w.2.1 115), .int x1] S r) (x2 : Int32) (S : cpS) (h : fX7_readAtom_99 rec x2 S = some r) : cpJ p l e (cpRm (dz + 1)) s m args below meth c (MQ below (va_Qi (fun x S' => (x, S') = r) (cpWorld w A) A) args s 0 0 A) w A 3 99 [some (.ref (w.2.1 115)), none, some (.int x2)] [] S := by
  rw [fX7_readAtom_99] at h
  refine cj_aload_n C (i := 0) dX7_readAtom_99 rfl rfl ?_
  refine cj_getR C (d := 15) o_115 rfl gfX7_18 dX7_readAtom_100 ?_
  refine cj_getR C (d := 26) o_15 rfl gfX7_175 dX7_readAtom_103 ?_
  refine cj_aload_n C (i := 0) dX7_readAtom_106 rfl rfl ?_
  refine cj_getI C (j := 6) o_115 rfl gfX7_48 dX7_readAtom_107 ?_
  refine cj_iconst C (v := (2 : Int32)) dX7_readAtom_110 rfl ?_
  refine cj_icmp_ne C (tgt := 121) dX7_readAtom_111 rfl h (fun _ h => ?_) (fun _ h => ?_)
  · refine cj_aload_n C (i := 0) dX7_readAtom_114 rfl rfl ?_
    refine cj_getI C (j := 9) o_115 rfl gfX7_236 dX7_readAtom_115 ?_
    refine cj_goto C (tgt := 126) dX7_readAtom_118 rfl ?_
    refine cj_callVv C (As := [.int (S.1 115 9)]) (rest := []) qX3_append mw_19_11 o_26 rfl rfl rfl (Nat.le_of_ble_eq_true rfl) (by omega) dX7_readAtom_126 h (fun _ _ hf => m_X3_append l w A kLw_26 (S.1 115 9) S _ hf) (fun z1 S2 h => ?_)
    refine cj_aload_n C (i := 0) dX7_readAtom_129 rfl rfl ?_
    refine cj_callVv C (As := []) (rest := []) qX7_advance mw_11_2 o_115 rfl rfl rfl (Nat.le_of_ble_eq_true rfl) (by omega) dX7_readAtom_130 h (fun _ _ hf => m_X7_advance l w A S2 _ hf) (fun z3 S4 h => ?_)
    refine cj_iconst C (v := (1 : Int32)) dX7_readAtom_133 rfl ?_
    exact cj_zreturn C hr rfl h dX7_readAtom_134
  · refine cj_sipush C (v := (1000 : Int32)) dX7_readAtom_121 rfl ?_
    refine cj_iload_n C (i := 2) dX7_readAtom_124 rfl rfl ?_
    refine cj_iadd C dX7_readAtom_125 ?_
    refine cj_callVv C (As := [.int ((1000 : Int32) + x2)]) (rest := []) qX3_append mw_19_11 o_26 rfl rfl rfl (Nat.le_of_ble_eq_true rfl) (by omega) dX7_readAtom_126 h (fun _ _ hf => m_X3_append l w A kLw_26 ((1000 : Int32) + x2) S _ hf) (fun z5 S6 h => ?_)
    refine cj_aload_n C (i := 0) dX7_readAtom_129 rfl rfl ?_
    refine cj_callVv C (As := []) (rest := []) qX7_advance mw_11_2 o_115 rfl rfl rfl (Nat.le_of_ble_eq_true rfl) (by omega) dX7_readAtom_130 h (fun _ _ hf => m_X7_advance l w A S6 _ hf) (fun z7 S8 h => ?_)
    refine cj_iconst C (v := (1 : Int32)) dX7_readAtom_133 rfl ?_
    exact cj_zreturn C hr rfl h dX7_readAtom_134
def fX7_readAtom (rec : Nat → Int32 → cpS → Option (Int32 × cpS)) (x1 : Int32) (S : cpS) : Option (Int32 × cpS) :=
    cpB (fX7_isSign (40 : Int32) S) fun z1 S2 =>
    if z1 = 0 then (
    cpB (fX7_isWord 15 S2) fun z3 S4 =>
    if z3 = 0 then (
    cpB (fX7_factNamed S4) fun z5 S6 =>
    if (S6.1 115 6) = (2 : Int32) then (
    fX7_readAtom_99 rec z5 S6) else (
    if z5 = (-1 : Int32) then (
    cpB (fX7_refuse (2 : Int32) S6) fun z7 S8 =>
    if cpBo z7 then some (z7, S8) else none) else (
    fX7_readAtom_99 rec z5 S6))) else (
    cpB (fX7_enter x1 S4) fun z9 S10 =>
    if z9 = 0 then (
    some ((0 : Int32), S10)) else (
    cpB (rec 7 (x1 + (1 : Int32)) S10) fun z11 S12 =>
    if z11 = 0 then (
    some ((0 : Int32), S12)) else (
    some ((1 : Int32), S12))))) else (
    cpB (fX7_enter x1 S2) fun z13 S14 =>
    if z13 = 0 then (
    some ((0 : Int32), S14)) else (
    cpB (rec 4 (x1 + (1 : Int32)) S14) fun z15 S16 =>
    if z15 = 0 then (
    some ((0 : Int32), S16)) else (
    cpB (fX7_takeSign (41 : Int32) S16) fun z17 S18 =>
    if z17 = 0 then (
    some ((0 : Int32), S18)) else (
    some ((1 : Int32), S18)))))
set_option maxRecDepth 100000 in
set_option maxHeartbeats 4000000 in
theorem m_X7_readAtom (l : Launch) (w : cpW) (A : Nat → Prop) {rec : Nat → Int32 → cpS → Option (Int32 × cpS)} {dz : Nat} (hz : 6 ≤ dz) (hrec0 : ∀ (x1 : Int32) (S : cpS) (r : Int32 × cpS), rec 0 x1 S = some r → cpMi l yX7_readTruth cX7_readTruth 3 ((some .boolean)) dz w A [.ref (w.2.1 115), .int x1] S r) (hrec1 : ∀ (x1 : Int32) (S : cpS) (r : Int32 × cpS), rec 1 x1 S = some r → cpMi l yX7_readBoth cX7_readBoth 3 ((some .boolean)) dz w A [.ref (w.2.1 115), .int x1] S r) (hrec2 : ∀ (x1 : Int32) (S : cpS) (r : Int32 × cpS), rec 2 x1 S = some r → cpMi l yX7_readUnit cX7_readUnit 2 ((some .boolean)) dz w A [.ref (w.2.1 115), .int x1] S r) (hrec3 : ∀ (x1 : Int32) (S : cpS) (r : Int32 × cpS), rec 3 x1 S = some r → cpMi l yX7_readComparison cX7_readComparison 3 ((some .boolean)) dz w A [.ref (w.2.1 115), .int x1] S r) (hrec4 : ∀ (x1 : Int32) (S : cpS) (r : Int32 × cpS), rec 4 x1 S = some r → cpMi l yX7_readSum cX7_readSum 4 ((some .boolean)) dz w A [.ref (w.2.1 115), .int x1] S r) (hrec5 : ∀ (x1 : Int32) (S : cpS) (r : Int32 × cpS), rec 5 x1 S = some r → cpMi l yX7_readTerm cX7_readTerm 3 ((some .boolean)) dz w A [.ref (w.2.1 115), .int x1] S r) (hrec6 : ∀ (x1 : Int32) (S : cpS) (r : Int32 × cpS), rec 6 x1 S = some r → cpMi l yX7_readAtom cX7_readAtom 3 ((some .boolean)) dz w A [.ref (w.2.1 115), .int x1] S r) (hrec7 : ∀ (x1 : Int32) (S : cpS) (r : Int32 × cpS), rec 7 x1 S = some r → cpMi l yX7_readChoice cX7_readChoice 2 ((some .boolean)) dz w A [.ref (w.2.1 115), .int x1] S r) (x1 : Int32) (S : cpS) (r : Int32 × cpS) (h : fX7_readAtom rec x1 S = some r) : cpMi l yX7_readAtom cX7_readAtom 3 ((some .boolean)) (dz + 1) w A [.ref (w.2.1 115), .int x1] S r := by
  refine cpMi.of (lv := [some (.ref (w.2.1 115)), some (.int x1), none]) (by decide) (Nat.le_of_ble_eq_true rfl) rfl (fun p e s m args below meth c C hr => ?_)
  replace C : cpCx p s m args meth c w A cX7_readAtom RX7 3 := C
  rw [fX7_readAtom] at h
  refine cj_aload_n C (i := 0) dX7_readAtom_0 rfl rfl ?_
  refine cj_bipush C (v := (40 : Int32)) dX7_readAtom_1 rfl ?_
  refine cj_callVi C (As := [.int (40 : Int32)]) (rest := []) qX7_isSign mw_17_6 o_115 rfl rfl rfl (Nat.le_of_ble_eq_true rfl) (by omega) dX7_readAtom_3 h (fun _ _ hf => m_X7_isSign l w A (40 : Int32) S _ hf) (fun z1 S2 h => ?_)
  refine cj_if_eq C (tgt := 42) dX7_readAtom_6 rfl h (fun _ h => ?_) (fun _ h => ?_)
  · refine cj_aload_n C (i := 0) dX7_readAtom_42 rfl rfl ?_
    refine cj_ldcS C (i := 15) (List.mem_of_getElem? (i := 15) rfl) dX7_readAtom_43 ?_
    refine cj_callVi C (As := [.ref (w.2.2.2.2.1 15)]) (rest := []) qX7_isWord mw_15_12 o_115 rfl rfl rfl (Nat.le_of_ble_eq_true rfl) (by omega) dX7_readAtom_45 h (fun _ _ hf => m_X7_isWord l w A (by decide) S2 _ hf) (fun z3 S4 h => ?_)
    refine cj_if_eq C (tgt := 75) dX7_readAtom_48 rfl h (fun _ h => ?_) (fun _ h => ?_)
    · refine cj_aload_n C (i := 0) dX7_readAtom_75 rfl rfl ?_
      refine cj_callVi C (As := []) (rest := []) qX7_factNamed mw_20_2 o_115 rfl rfl rfl (Nat.le_of_ble_eq_true rfl) (by omega) dX7_readAtom_76 h (fun _ _ hf => m_X7_factNamed l w A S4 _ hf) (fun z5 S6 h => ?_)
      refine cj_istore_n C (i := 2) (lv' := [some (.ref (w.2.1 115)), some (.int x1), some (.int z5)]) dX7_readAtom_79 rfl (by decide) rfl rfl ?_
      refine cj_aload_n C (i := 0) dX7_readAtom_80 rfl rfl ?_
      refine cj_getI C (j := 6) o_115 rfl gfX7_48 dX7_readAtom_81 ?_
      refine cj_iconst C (v := (2 : Int32)) dX7_readAtom_84 rfl ?_
      refine cj_icmp_eq C (tgt := 99) dX7_readAtom_85 rfl h (fun _ h => ?_) (fun _ h => ?_)
      · refine cj_weak C (lv' := [some (.ref (w.2.1 115)), none, some (.int z5)]) (cpSub_s (cpSub_n (cpSub_s cpSub_nil))) ?_
        exact wX7_readAtom_99 C hr hz hrec0 hrec1 hrec2 hrec3 hrec4 hrec5 hrec6 hrec7 z5 S6 h
      · refine cj_iload_n C (i := 2) dX7_readAtom_88 rfl rfl ?_
        refine cj_iconst C (v := (-1 : Int32)) dX7_readAtom_89 rfl ?_
        refine cj_icmp_ne C (tgt := 99) dX7_readAtom_90 rfl h (fun _ h => ?_) (fun _ h => ?_)
        · refine cj_aload_n C (i := 0) dX7_readAtom_93 rfl rfl ?_
          refine cj_iconst C (v := (2 : Int32)) dX7_readAtom_94 rfl ?_
          refine cj_callVi C (As := [.int (2 : Int32)]) (rest := []) qX7_refuse mw_16_13 o_115 rfl rfl rfl (Nat.le_of_ble_eq_true rfl) (by omega) dX7_readAtom_95 h (fun _ _ hf => m_X7_refuse l w A (2 : Int32) S6 _ hf) (fun z7 S8 h => ?_)
          obtain ⟨hb, h⟩ := cpGuard h
          exact cj_zreturn C hr (cpBo_n hb) h dX7_readAtom_98
        · refine cj_weak C (lv' := [some (.ref (w.2.1 115)), none, some (.int z5)]) (cpSub_s (cpSub_n (cpSub_s cpSub_nil))) ?_
          exact wX7_readAtom_99 C hr hz hrec0 hrec1 hrec2 hrec3 hrec4 hrec5 hrec6 hrec7 z5 S6 h
    · refine cj_aload_n C (i := 0) dX7_readAtom_51 rfl rfl ?_
      refine cj_iload_n C (i := 1) dX7_readAtom_52 rfl rfl ?_
      refine cj_callVi C (As := [.int x1]) (rest := []) qX7_enter mw_19_16 o_115 rfl rfl rfl (Nat.le_of_ble_eq_true rfl) (by omega) dX7_readAtom_53 h (fun _ _ hf => m_X7_enter l w A x1 S4 _ hf) (fun z9 S10 h => ?_)
      refine cj_if_eq C (tgt := 73) dX7_readAtom_56 rfl h (fun _ h => ?_) (fun _ h => ?_)
      · refine cj_iconst C (v := (0 : Int32)) dX7_readAtom_73 rfl ?_
        exact cj_zreturn C hr rfl h dX7_readAtom_74
      · refine cj_aload_n C (i := 0) dX7_readAtom_59 rfl rfl ?_
        refine cj_iload_n C (i := 1) dX7_readAtom_60 rfl rfl ?_
        refine cj_iconst C (v := (1 : Int32)) dX7_readAtom_61 rfl ?_
        refine cj_iadd C dX7_readAtom_62 ?_
        refine cj_callVi C (As := [.int (x1 + (1 : Int32))]) (rest := []) qX7_readChoice mw_19_23 o_115 rfl rfl rfl (Nat.le_of_ble_eq_true rfl) (by omega) dX7_readAtom_63 h (fun _ _ hf => hrec7 (x1 + (1 : Int32)) S10 _ hf) (fun z11 S12 h => ?_)
        refine cj_if_eq C (tgt := 73) dX7_readAtom_66 rfl h (fun _ h => ?_) (fun _ h => ?_)
        · refine cj_iconst C (v := (0 : Int32)) dX7_readAtom_73 rfl ?_
          exact cj_zreturn C hr rfl h dX7_readAtom_74
        · refine cj_iconst C (v := (1 : Int32)) dX7_readAtom_69 rfl ?_
          refine cj_goto C (tgt := 74) dX7_readAtom_70 rfl ?_
          exact cj_zreturn C hr rfl h dX7_readAtom_74
  · refine cj_aload_n C (i := 0) dX7_readAtom_9 rfl rfl ?_
    refine cj_iload_n C (i := 1) dX7_readAtom_10 rfl rfl ?_
    refine cj_callVi C (As := [.int x1]) (rest := []) qX7_enter mw_19_16 o_115 rfl rfl rfl (Nat.le_of_ble_eq_true rfl) (by omega) dX7_readAtom_11 h (fun _ _ hf => m_X7_enter l w A x1 S2 _ hf) (fun z13 S14 h => ?_)
    refine cj_if_eq C (tgt := 40) dX7_readAtom_14 rfl h (fun _ h => ?_) (fun _ h => ?_)
    · refine cj_iconst C (v := (0 : Int32)) dX7_readAtom_40 rfl ?_
      exact cj_zreturn C hr rfl h dX7_readAtom_41
    · refine cj_aload_n C (i := 0) dX7_readAtom_17 rfl rfl ?_
      refine cj_iload_n C (i := 1) dX7_readAtom_18 rfl rfl ?_
      refine cj_iconst C (v := (1 : Int32)) dX7_readAtom_19 rfl ?_
      refine cj_iadd C dX7_readAtom_20 ?_
      refine cj_callVi C (As := [.int (x1 + (1 : Int32))]) (rest := []) qX7_readSum mw_19_20 o_115 rfl rfl rfl (Nat.le_of_ble_eq_true rfl) (by omega) dX7_readAtom_21 h (fun _ _ hf => hrec4 (x1 + (1 : Int32)) S14 _ hf) (fun z15 S16 h => ?_)
      refine cj_if_eq C (tgt := 40) dX7_readAtom_24 rfl h (fun _ h => ?_) (fun _ h => ?_)
      · refine cj_iconst C (v := (0 : Int32)) dX7_readAtom_40 rfl ?_
        exact cj_zreturn C hr rfl h dX7_readAtom_41
      · refine cj_aload_n C (i := 0) dX7_readAtom_27 rfl rfl ?_
        refine cj_bipush C (v := (41 : Int32)) dX7_readAtom_28 rfl ?_
        refine cj_callVi C (As := [.int (41 : Int32)]) (rest := []) qX7_takeSign mw_17_2 o_115 rfl rfl rfl (Nat.le_of_ble_eq_true rfl) (by omega) dX7_readAtom_30 h (fun _ _ hf => m_X7_takeSign l w A (41 : Int32) S16 _ hf) (fun z17 S18 h => ?_)
        refine cj_if_eq C (tgt := 40) dX7_readAtom_33 rfl h (fun _ h => ?_) (fun _ h => ?_)
        · refine cj_iconst C (v := (0 : Int32)) dX7_readAtom_40 rfl ?_
          exact cj_zreturn C hr rfl h dX7_readAtom_41
        · refine cj_iconst C (v := (1 : Int32)) dX7_readAtom_36 rfl ?_
          refine cj_goto C (tgt := 41) dX7_readAtom_37 rfl ?_
          exact cj_zreturn C hr rfl h dX7_readAtom_41
/-! X7_readChoice -/
def fX7_readChoice (rec : Nat → Int32 → cpS → Option (Int32 × cpS)) (x1 : Int32) (S : cpS) : Option (Int32 × cpS) :=
    cpB (rec 0 x1 S) fun z1 S2 =>
    if z1 = 0 then (
    some ((0 : Int32), S2)) else (
    cpB (fX7_takeWord 16 S2) fun z3 S4 =>
    if z3 = 0 then (
    some ((0 : Int32), S4)) else (
    cpB (rec 4 x1 S4) fun z5 S6 =>
    if z5 = 0 then (
    some ((0 : Int32), S6)) else (
    cpB (fX7_takeWord 17 S6) fun z7 S8 =>
    if z7 = 0 then (
    some ((0 : Int32), S8)) else (
    cpB (rec 4 x1 S8) fun z9 S10 =>
    if z9 = 0 then (
    some ((0 : Int32), S10)) else (
    cpB (fX7_takeWord 18 S10) fun z11 S12 =>
    if z11 = 0 then (
    some ((0 : Int32), S12)) else (
    cpB (fX3_append 26 (2009 : Int32) S12) fun _ S14 =>
    some ((1 : Int32), S14)))))))
set_option maxRecDepth 100000 in
set_option maxHeartbeats 4000000 in
theorem m_X7_readChoice (l : Launch) (w : cpW) (A : Nat → Prop) {rec : Nat → Int32 → cpS → Option (Int32 × cpS)} {dz : Nat} (hz : 6 ≤ dz) (hrec0 : ∀ (x1 : Int32) (S : cpS) (r : Int32 × cpS), rec 0 x1 S = some r → cpMi l yX7_readTruth cX7_readTruth 3 ((some .boolean)) dz w A [.ref (w.2.1 115), .int x1] S r) (hrec1 : ∀ (x1 : Int32) (S : cpS) (r : Int32 × cpS), rec 1 x1 S = some r → cpMi l yX7_readBoth cX7_readBoth 3 ((some .boolean)) dz w A [.ref (w.2.1 115), .int x1] S r) (hrec2 : ∀ (x1 : Int32) (S : cpS) (r : Int32 × cpS), rec 2 x1 S = some r → cpMi l yX7_readUnit cX7_readUnit 2 ((some .boolean)) dz w A [.ref (w.2.1 115), .int x1] S r) (hrec3 : ∀ (x1 : Int32) (S : cpS) (r : Int32 × cpS), rec 3 x1 S = some r → cpMi l yX7_readComparison cX7_readComparison 3 ((some .boolean)) dz w A [.ref (w.2.1 115), .int x1] S r) (hrec4 : ∀ (x1 : Int32) (S : cpS) (r : Int32 × cpS), rec 4 x1 S = some r → cpMi l yX7_readSum cX7_readSum 4 ((some .boolean)) dz w A [.ref (w.2.1 115), .int x1] S r) (hrec5 : ∀ (x1 : Int32) (S : cpS) (r : Int32 × cpS), rec 5 x1 S = some r → cpMi l yX7_readTerm cX7_readTerm 3 ((some .boolean)) dz w A [.ref (w.2.1 115), .int x1] S r) (hrec6 : ∀ (x1 : Int32) (S : cpS) (r : Int32 × cpS), rec 6 x1 S = some r → cpMi l yX7_readAtom cX7_readAtom 3 ((some .boolean)) dz w A [.ref (w.2.1 115), .int x1] S r) (hrec7 : ∀ (x1 : Int32) (S : cpS) (r : Int32 × cpS), rec 7 x1 S = some r → cpMi l yX7_readChoice cX7_readChoice 2 ((some .boolean)) dz w A [.ref (w.2.1 115), .int x1] S r) (x1 : Int32) (S : cpS) (r : Int32 × cpS) (h : fX7_readChoice rec x1 S = some r) : cpMi l yX7_readChoice cX7_readChoice 2 ((some .boolean)) (dz + 1) w A [.ref (w.2.1 115), .int x1] S r := by
  refine cpMi.of (lv := [some (.ref (w.2.1 115)), some (.int x1)]) (by decide) (Nat.le_of_ble_eq_true rfl) rfl (fun p e s m args below meth c C hr => ?_)
  replace C : cpCx p s m args meth c w A cX7_readChoice RX7 2 := C
  rw [fX7_readChoice] at h
  refine cj_aload_n C (i := 0) dX7_readChoice_0 rfl rfl ?_
  refine cj_iload_n C (i := 1) dX7_readChoice_1 rfl rfl ?_
  refine cj_callVi C (As := [.int x1]) (rest := []) qX7_readTruth mw_19_4 o_115 rfl rfl rfl (Nat.le_of_ble_eq_true rfl) (by omega) dX7_readChoice_2 h (fun _ _ hf => hrec0 x1 S _ hf) (fun z1 S2 h => ?_)
  refine cj_if_eq C (tgt := 25) dX7_readChoice_5 rfl h (fun _ h => ?_) (fun _ h => ?_)
  · refine cj_iconst C (v := (0 : Int32)) dX7_readChoice_25 rfl ?_
    exact cj_zreturn C hr rfl h dX7_readChoice_26
  · refine cj_aload_n C (i := 0) dX7_readChoice_8 rfl rfl ?_
    refine cj_ldcS C (i := 16) (List.mem_of_getElem? (i := 16) rfl) dX7_readChoice_9 ?_
    refine cj_callVi C (As := [.ref (w.2.2.2.2.1 16)]) (rest := []) qX7_takeWord mw_15_8 o_115 rfl rfl rfl (Nat.le_of_ble_eq_true rfl) (by omega) dX7_readChoice_11 h (fun _ _ hf => m_X7_takeWord l w A (by decide) S2 _ hf) (fun z3 S4 h => ?_)
    refine cj_if_eq C (tgt := 25) dX7_readChoice_14 rfl h (fun _ h => ?_) (fun _ h => ?_)
    · refine cj_iconst C (v := (0 : Int32)) dX7_readChoice_25 rfl ?_
      exact cj_zreturn C hr rfl h dX7_readChoice_26
    · refine cj_aload_n C (i := 0) dX7_readChoice_17 rfl rfl ?_
      refine cj_iload_n C (i := 1) dX7_readChoice_18 rfl rfl ?_
      refine cj_callVi C (As := [.int x1]) (rest := []) qX7_readSum mw_19_20 o_115 rfl rfl rfl (Nat.le_of_ble_eq_true rfl) (by omega) dX7_readChoice_19 h (fun _ _ hf => hrec4 x1 S4 _ hf) (fun z5 S6 h => ?_)
      refine cj_if_ne C (tgt := 27) dX7_readChoice_22 rfl h (fun _ h => ?_) (fun _ h => ?_)
      · refine cj_iconst C (v := (0 : Int32)) dX7_readChoice_25 rfl ?_
        exact cj_zreturn C hr rfl h dX7_readChoice_26
      · refine cj_aload_n C (i := 0) dX7_readChoice_27 rfl rfl ?_
        refine cj_ldcS C (i := 17) (List.mem_of_getElem? (i := 17) rfl) dX7_readChoice_28 ?_
        refine cj_callVi C (As := [.ref (w.2.2.2.2.1 17)]) (rest := []) qX7_takeWord mw_15_8 o_115 rfl rfl rfl (Nat.le_of_ble_eq_true rfl) (by omega) dX7_readChoice_30 h (fun _ _ hf => m_X7_takeWord l w A (by decide) S6 _ hf) (fun z7 S8 h => ?_)
        refine cj_if_eq C (tgt := 53) dX7_readChoice_33 rfl h (fun _ h => ?_) (fun _ h => ?_)
        · refine cj_iconst C (v := (0 : Int32)) dX7_readChoice_53 rfl ?_
          exact cj_zreturn C hr rfl h dX7_readChoice_54
        · refine cj_aload_n C (i := 0) dX7_readChoice_36 rfl rfl ?_
          refine cj_iload_n C (i := 1) dX7_readChoice_37 rfl rfl ?_
          refine cj_callVi C (As := [.int x1]) (rest := []) qX7_readSum mw_19_20 o_115 rfl rfl rfl (Nat.le_of_ble_eq_true rfl) (by omega) dX7_readChoice_38 h (fun _ _ hf => hrec4 x1 S8 _ hf) (fun z9 S10 h => ?_)
          refine cj_if_eq C (tgt := 53) dX7_readChoice_41 rfl h (fun _ h => ?_) (fun _ h => ?_)
          · refine cj_iconst C (v := (0 : Int32)) dX7_readChoice_53 rfl ?_
            exact cj_zreturn C hr rfl h dX7_readChoice_54
          · refine cj_aload_n C (i := 0) dX7_readChoice_44 rfl rfl ?_
            refine cj_ldcS C (i := 18) (List.mem_of_getElem? (i := 18) rfl) dX7_readChoice_45 ?_
            refine cj_callVi C (As := [.ref (w.2.2.2.2.1 18)]) (rest := []) qX7_takeWord mw_15_8 o_115 rfl rfl rfl (Nat.le_of_ble_eq_true rfl) (by omega) dX7_readChoice_47 h (fun _ _ hf => m_X7_takeWord l w A (by decide) S10 _ hf) (fun z11 S12 h => ?_)
            refine cj_if_ne C (tgt := 55) dX7_readChoice_50 rfl h (fun _ h => ?_) (fun _ h => ?_)
            · refine cj_iconst C (v := (0 : Int32)) dX7_readChoice_53 rfl ?_
              exact cj_zreturn C hr rfl h dX7_readChoice_54
            · refine cj_aload_n C (i := 0) dX7_readChoice_55 rfl rfl ?_
              refine cj_getR C (d := 15) o_115 rfl gfX7_18 dX7_readChoice_56 ?_
              refine cj_getR C (d := 26) o_15 rfl gfX7_175 dX7_readChoice_59 ?_
              refine cj_sipush C (v := (2009 : Int32)) dX7_readChoice_62 rfl ?_
              refine cj_callVv C (As := [.int (2009 : Int32)]) (rest := []) qX3_append mw_19_11 o_26 rfl rfl rfl (Nat.le_of_ble_eq_true rfl) (by omega) dX7_readChoice_65 h (fun _ _ hf => m_X3_append l w A kLw_26 (2009 : Int32) S12 _ hf) (fun z13 S14 h => ?_)
              refine cj_iconst C (v := (1 : Int32)) dX7_readChoice_68 rfl ?_
              exact cj_zreturn C hr rfl h dX7_readChoice_69
def fX7_rec : Nat → Nat → Int32 → cpS → Option (Int32 × cpS)
  | 0, _, _, _ => none
  | n + 1, t, x1, S => if t = 0 then fX7_readTruth (fX7_rec n) x1 S else if t = 1 then fX7_readBoth (fX7_rec n) x1 S else if t = 2 then fX7_readUnit (fX7_rec n) x1 S else if t = 3 then fX7_readComparison (fX7_rec n) x1 S else if t = 4 then fX7_readSum (fX7_rec n) x1 S else if t = 5 then fX7_readTerm (fX7_rec n) x1 S else if t = 6 then fX7_readAtom (fX7_rec n) x1 S else if t = 7 then fX7_readChoice (fX7_rec n) x1 S else none
theorem m_X7_rec (l : Launch) (w : cpW) (A : Nat → Prop) : ∀ n : Nat, (∀ (x1 : Int32) (S : cpS) (r : Int32 × cpS), fX7_rec n 0 x1 S = some r → cpMi l yX7_readTruth cX7_readTruth 3 ((some .boolean)) (6 + n) w A [.ref (w.2.1 115), .int x1] S r) ∧ (∀ (x1 : Int32) (S : cpS) (r : Int32 × cpS), fX7_rec n 1 x1 S = some r → cpMi l yX7_readBoth cX7_readBoth 3 ((some .boolean)) (6 + n) w A [.ref (w.2.1 115), .int x1] S r) ∧ (∀ (x1 : Int32) (S : cpS) (r : Int32 × cpS), fX7_rec n 2 x1 S = some r → cpMi l yX7_readUnit cX7_readUnit 2 ((some .boolean)) (6 + n) w A [.ref (w.2.1 115), .int x1] S r) ∧ (∀ (x1 : Int32) (S : cpS) (r : Int32 × cpS), fX7_rec n 3 x1 S = some r → cpMi l yX7_readComparison cX7_readComparison 3 ((some .boolean)) (6 + n) w A [.ref (w.2.1 115), .int x1] S r) ∧ (∀ (x1 : Int32) (S : cpS) (r : Int32 × cpS), fX7_rec n 4 x1 S = some r → cpMi l yX7_readSum cX7_readSum 4 ((some .boolean)) (6 + n) w A [.ref (w.2.1 115), .int x1] S r) ∧ (∀ (x1 : Int32) (S : cpS) (r : Int32 × cpS), fX7_rec n 5 x1 S = some r → cpMi l yX7_readTerm cX7_readTerm 3 ((some .boolean)) (6 + n) w A [.ref (w.2.1 115), .int x1] S r) ∧ (∀ (x1 : Int32) (S : cpS) (r : Int32 × cpS), fX7_rec n 6 x1 S = some r → cpMi l yX7_readAtom cX7_readAtom 3 ((some .boolean)) (6 + n) w A [.ref (w.2.1 115), .int x1] S r) ∧ (∀ (x1 : Int32) (S : cpS) (r : Int32 × cpS), fX7_rec n 7 x1 S = some r → cpMi l yX7_readChoice cX7_readChoice 2 ((some .boolean)) (6 + n) w A [.ref (w.2.1 115), .int x1] S r) := by
  intro n
  induction n with
  | zero => exact ⟨(fun x1 S r h => (by rw [fX7_rec] at h; cases h)), (fun x1 S r h => (by rw [fX7_rec] at h; cases h)), (fun x1 S r h => (by rw [fX7_rec] at h; cases h)), (fun x1 S r h => (by rw [fX7_rec] at h; cases h)), (fun x1 S r h => (by rw [fX7_rec] at h; cases h)), (fun x1 S r h => (by rw [fX7_rec] at h; cases h)), (fun x1 S r h => (by rw [fX7_rec] at h; cases h)), (fun x1 S r h => (by rw [fX7_rec] at h; cases h))⟩
  | succ n ih =>
    obtain ⟨h0, h1, h2, h3, h4, h5, h6, h7⟩ := ih
    exact ⟨(fun x1 S r h => m_X7_readTruth l w A (dz := 6 + n) (by omega) h0 h1 h2 h3 h4 h5 h6 h7 x1 S r (by rw [fX7_rec] at h; exact h)),
      (fun x1 S r h => m_X7_readBoth l w A (dz := 6 + n) (by omega) h0 h1 h2 h3 h4 h5 h6 h7 x1 S r (by rw [fX7_rec] at h; exact h)),
      (fun x1 S r h => m_X7_readUnit l w A (dz := 6 + n) (by omega) h0 h1 h2 h3 h4 h5 h6 h7 x1 S r (by rw [fX7_rec] at h; exact h)),
      (fun x1 S r h => m_X7_readComparison l w A (dz := 6 + n) (by omega) h0 h1 h2 h3 h4 h5 h6 h7 x1 S r (by rw [fX7_rec] at h; exact h)),
      (fun x1 S r h => m_X7_readSum l w A (dz := 6 + n) (by omega) h0 h1 h2 h3 h4 h5 h6 h7 x1 S r (by rw [fX7_rec] at h; exact h)),
      (fun x1 S r h => m_X7_readTerm l w A (dz := 6 + n) (by omega) h0 h1 h2 h3 h4 h5 h6 h7 x1 S r (by rw [fX7_rec] at h; exact h)),
      (fun x1 S r h => m_X7_readAtom l w A (dz := 6 + n) (by omega) h0 h1 h2 h3 h4 h5 h6 h7 x1 S r (by rw [fX7_rec] at h; exact h)),
      (fun x1 S r h => m_X7_readChoice l w A (dz := 6 + n) (by omega) h0 h1 h2 h3 h4 h5 h6 h7 x1 S r (by rw [fX7_rec] at h; exact h))⟩
/-! X7_readMay -/
def fX7_readMay (S : cpS) : Option (Int32 × cpS) :=
    cpB (fX7_advance S) fun _ S2 =>
    cpLt (cpI S2 115 11 (0 : Int32)) fun S3 =>
    cpB (fX3_codeSoFar 26 S3) fun z4 S5 =>
    cpB (fX7_takeSign (58 : Int32) S5) fun z6 S7 =>
    if z6 = 0 then (
    some ((0 : Int32), S7)) else (
    cpB (fX7_rec 80 0 (0 : Int32) S7) fun z8 S9 =>
    if z8 = 0 then (
    some ((0 : Int32), S9)) else (
    cpB (fX3_closeMay 26 z4 S9) fun _ S11 =>
    some ((1 : Int32), S11)))
set_option maxRecDepth 100000 in
set_option maxHeartbeats 4000000 in
theorem m_X7_readMay (l : Launch) (w : cpW) (A : Nat → Prop) (S : cpS) (r : Int32 × cpS) (h : fX7_readMay S = some r) : cpMi l yX7_readMay cX7_readMay 2 ((some .boolean)) 87 w A [.ref (w.2.1 115)] S r := by
  refine cpMi.of (lv := [some (.ref (w.2.1 115)), none]) (by decide) (Nat.le_of_ble_eq_true rfl) rfl (fun p e s m args below meth c C hr => ?_)
  replace C : cpCx p s m args meth c w A cX7_readMay RX7 2 := C
  rw [fX7_readMay] at h
  refine cj_aload_n C (i := 0) dX7_readMay_0 rfl rfl ?_
  refine cj_callVv C (As := []) (rest := []) qX7_advance mw_11_2 o_115 rfl rfl rfl (Nat.le_of_ble_eq_true rfl) (by decide) dX7_readMay_1 h (fun _ _ hf => m_X7_advance l w A S _ hf) (fun z1 S2 h => ?_)
  refine cj_aload_n C (i := 0) dX7_readMay_4 rfl rfl ?_
  refine cj_iconst C (v := (0 : Int32)) dX7_readMay_5 rfl ?_
  refine cj_put C (j := 11) o_115 rfl pfX7_171 rfl rfl dX7_readMay_6 ?_
  refine cj_lets h (fun S3 h => ?_)
  refine cj_aload_n C (i := 0) dX7_readMay_9 rfl rfl ?_
  refine cj_getR C (d := 15) o_115 rfl gfX7_18 dX7_readMay_10 ?_
  refine cj_getR C (d := 26) o_15 rfl gfX7_175 dX7_readMay_13 ?_
  refine cj_callVi C (As := []) (rest := []) qX3_codeSoFar mw_19_0 o_26 rfl rfl rfl (Nat.le_of_ble_eq_true rfl) (by decide) dX7_readMay_16 h (fun _ _ hf => m_X3_codeSoFar l w A kLw_26 S3 _ hf) (fun z4 S5 h => ?_)
  refine cj_istore_n C (i := 1) (lv' := [some (.ref (w.2.1 115)), some (.int z4)]) dX7_readMay_19 rfl (by decide) rfl rfl ?_
  refine cj_aload_n C (i := 0) dX7_readMay_20 rfl rfl ?_
  refine cj_bipush C (v := (58 : Int32)) dX7_readMay_21 rfl ?_
  refine cj_callVi C (As := [.int (58 : Int32)]) (rest := []) qX7_takeSign mw_17_2 o_115 rfl rfl rfl (Nat.le_of_ble_eq_true rfl) (by decide) dX7_readMay_23 h (fun _ _ hf => m_X7_takeSign l w A (58 : Int32) S5 _ hf) (fun z6 S7 h => ?_)
  refine cj_if_eq C (tgt := 37) dX7_readMay_26 rfl h (fun _ h => ?_) (fun _ h => ?_)
  · refine cj_iconst C (v := (0 : Int32)) dX7_readMay_37 rfl ?_
    exact cj_zreturn C hr rfl h dX7_readMay_38
  · refine cj_aload_n C (i := 0) dX7_readMay_29 rfl rfl ?_
    refine cj_iconst C (v := (0 : Int32)) dX7_readMay_30 rfl ?_
    refine cj_callVi C (As := [.int (0 : Int32)]) (rest := []) qX7_readTruth mw_19_4 o_115 rfl rfl rfl (Nat.le_of_ble_eq_true rfl) (by decide) dX7_readMay_31 h (fun _ _ hf => (m_X7_rec l w A 80).1 (0 : Int32) S7 _ hf) (fun z8 S9 h => ?_)
    refine cj_if_ne C (tgt := 39) dX7_readMay_34 rfl h (fun _ h => ?_) (fun _ h => ?_)
    · refine cj_iconst C (v := (0 : Int32)) dX7_readMay_37 rfl ?_
      exact cj_zreturn C hr rfl h dX7_readMay_38
    · refine cj_aload_n C (i := 0) dX7_readMay_39 rfl rfl ?_
      refine cj_getR C (d := 15) o_115 rfl gfX7_18 dX7_readMay_40 ?_
      refine cj_getR C (d := 26) o_15 rfl gfX7_175 dX7_readMay_43 ?_
      refine cj_iload_n C (i := 1) dX7_readMay_46 rfl rfl ?_
      refine cj_callVv C (As := [.int z4]) (rest := []) qX3_closeMay mw_21_0 o_26 rfl rfl rfl (Nat.le_of_ble_eq_true rfl) (by decide) dX7_readMay_47 h (fun _ _ hf => m_X3_closeMay l w A kLw_26 z4 S9 _ hf) (fun z10 S11 h => ?_)
      refine cj_iconst C (v := (1 : Int32)) dX7_readMay_50 rfl ?_
      exact cj_zreturn C hr rfl h dX7_readMay_51
/-! X7_readWears -/
def fX7_readWears (S : cpS) : Option (Int32 × cpS) :=
    cpB (fX7_advance S) fun _ S2 =>
    cpLt (cpI S2 115 11 (1 : Int32)) fun S3 =>
    cpB (fX3_codeSoFar 26 S3) fun z4 S5 =>
    cpB (fX7_takeSign (58 : Int32) S5) fun z6 S7 =>
    if z6 = 0 then (
    some ((0 : Int32), S7)) else (
    cpB (fX7_rec 80 4 (0 : Int32) S7) fun z8 S9 =>
    if z8 = 0 then (
    some ((0 : Int32), S9)) else (
    cpB (fX3_closeWears 26 z4 S9) fun _ S11 =>
    some ((1 : Int32), S11)))
set_option maxRecDepth 100000 in
set_option maxHeartbeats 4000000 in
theorem m_X7_readWears (l : Launch) (w : cpW) (A : Nat → Prop) (S : cpS) (r : Int32 × cpS) (h : fX7_readWears S = some r) : cpMi l yX7_readWears cX7_readWears 2 ((some .boolean)) 87 w A [.ref (w.2.1 115)] S r := by
  refine cpMi.of (lv := [some (.ref (w.2.1 115)), none]) (by decide) (Nat.le_of_ble_eq_true rfl) rfl (fun p e s m args below meth c C hr => ?_)
  replace C : cpCx p s m args meth c w A cX7_readWears RX7 2 := C
  rw [fX7_readWears] at h
  refine cj_aload_n C (i := 0) dX7_readWears_0 rfl rfl ?_
  refine cj_callVv C (As := []) (rest := []) qX7_advance mw_11_2 o_115 rfl rfl rfl (Nat.le_of_ble_eq_true rfl) (by decide) dX7_readWears_1 h (fun _ _ hf => m_X7_advance l w A S _ hf) (fun z1 S2 h => ?_)
  refine cj_aload_n C (i := 0) dX7_readWears_4 rfl rfl ?_
  refine cj_iconst C (v := (1 : Int32)) dX7_readWears_5 rfl ?_
  refine cj_put C (j := 11) o_115 rfl pfX7_171 rfl rfl dX7_readWears_6 ?_
  refine cj_lets h (fun S3 h => ?_)
  refine cj_aload_n C (i := 0) dX7_readWears_9 rfl rfl ?_
  refine cj_getR C (d := 15) o_115 rfl gfX7_18 dX7_readWears_10 ?_
  refine cj_getR C (d := 26) o_15 rfl gfX7_175 dX7_readWears_13 ?_
  refine cj_callVi C (As := []) (rest := []) qX3_codeSoFar mw_19_0 o_26 rfl rfl rfl (Nat.le_of_ble_eq_true rfl) (by decide) dX7_readWears_16 h (fun _ _ hf => m_X3_codeSoFar l w A kLw_26 S3 _ hf) (fun z4 S5 h => ?_)
  refine cj_istore_n C (i := 1) (lv' := [some (.ref (w.2.1 115)), some (.int z4)]) dX7_readWears_19 rfl (by decide) rfl rfl ?_
  refine cj_aload_n C (i := 0) dX7_readWears_20 rfl rfl ?_
  refine cj_bipush C (v := (58 : Int32)) dX7_readWears_21 rfl ?_
  refine cj_callVi C (As := [.int (58 : Int32)]) (rest := []) qX7_takeSign mw_17_2 o_115 rfl rfl rfl (Nat.le_of_ble_eq_true rfl) (by decide) dX7_readWears_23 h (fun _ _ hf => m_X7_takeSign l w A (58 : Int32) S5 _ hf) (fun z6 S7 h => ?_)
  refine cj_if_eq C (tgt := 37) dX7_readWears_26 rfl h (fun _ h => ?_) (fun _ h => ?_)
  · refine cj_iconst C (v := (0 : Int32)) dX7_readWears_37 rfl ?_
    exact cj_zreturn C hr rfl h dX7_readWears_38
  · refine cj_aload_n C (i := 0) dX7_readWears_29 rfl rfl ?_
    refine cj_iconst C (v := (0 : Int32)) dX7_readWears_30 rfl ?_
    refine cj_callVi C (As := [.int (0 : Int32)]) (rest := []) qX7_readSum mw_19_20 o_115 rfl rfl rfl (Nat.le_of_ble_eq_true rfl) (by decide) dX7_readWears_31 h (fun _ _ hf => (m_X7_rec l w A 80).2.2.2.2.1 (0 : Int32) S7 _ hf) (fun z8 S9 h => ?_)
    refine cj_if_ne C (tgt := 39) dX7_readWears_34 rfl h (fun _ h => ?_) (fun _ h => ?_)
    · refine cj_iconst C (v := (0 : Int32)) dX7_readWears_37 rfl ?_
      exact cj_zreturn C hr rfl h dX7_readWears_38
    · refine cj_aload_n C (i := 0) dX7_readWears_39 rfl rfl ?_
      refine cj_getR C (d := 15) o_115 rfl gfX7_18 dX7_readWears_40 ?_
      refine cj_getR C (d := 26) o_15 rfl gfX7_175 dX7_readWears_43 ?_
      refine cj_iload_n C (i := 1) dX7_readWears_46 rfl rfl ?_
      refine cj_callVv C (As := [.int z4]) (rest := []) qX3_closeWears mw_21_8 o_26 rfl rfl rfl (Nat.le_of_ble_eq_true rfl) (by decide) dX7_readWears_47 h (fun _ _ hf => m_X3_closeWears l w A kLw_26 z4 S9 _ hf) (fun z10 S11 h => ?_)
      refine cj_iconst C (v := (1 : Int32)) dX7_readWears_50 rfl ?_
      exact cj_zreturn C hr rfl h dX7_readWears_51
/-! X7_readLine -/
def fX7_readLine (S : cpS) : Option (Int32 × cpS) :=
    cpB (fX7_isWord 4 S) fun z1 S2 =>
    if z1 = 0 then (
    cpB (fX7_isWord 6 S2) fun z3 S4 =>
    if z3 = 0 then (
    cpB (fX7_isWord 9 S4) fun z5 S6 =>
    if z5 = 0 then (
    cpB (fX7_isWord 10 S6) fun z7 S8 =>
    if z7 = 0 then (
    cpB (fX7_isWord 13 S8) fun z9 S10 =>
    if z9 = 0 then (
    cpB (fX7_isWord 23 S10) fun z11 S12 =>
    if z11 = 0 then (
    cpB (fX7_refuse (2 : Int32) S12) fun z13 S14 =>
    if cpBo z13 then some (z13, S14) else none) else (
    cpB (fX7_readWears S12) fun z15 S16 =>
    if cpBo z15 then some (z15, S16) else none)) else (
    cpB (fX7_readMay S10) fun z17 S18 =>
    if cpBo z17 then some (z17, S18) else none)) else (
    cpB (fX7_readCoin S8) fun z19 S20 =>
    if cpBo z19 then some (z19, S20) else none)) else (
    cpB (fX7_readQuarrel S6) fun z21 S22 =>
    if cpBo z21 then some (z21, S22) else none)) else (
    cpB (fX7_readPerson S4) fun z23 S24 =>
    if cpBo z23 then some (z23, S24) else none)) else (
    cpB (fX7_readRoad S2) fun z25 S26 =>
    if cpBo z25 then some (z25, S26) else none)
set_option maxRecDepth 100000 in
set_option maxHeartbeats 4000000 in
theorem m_X7_readLine (l : Launch) (w : cpW) (A : Nat → Prop) (S : cpS) (r : Int32 × cpS) (h : fX7_readLine S = some r) : cpMi l yX7_readLine cX7_readLine 1 ((some .boolean)) 88 w A [.ref (w.2.1 115)] S r := by
  refine cpMi.of (lv := [some (.ref (w.2.1 115))]) (by decide) (Nat.le_of_ble_eq_true rfl) rfl (fun p e s m args below meth c C hr => ?_)
  replace C : cpCx p s m args meth c w A cX7_readLine RX7 1 := C
  rw [fX7_readLine] at h
  refine cj_aload_n C (i := 0) dX7_readLine_0 rfl rfl ?_
  refine cj_ldcS C (i := 4) (List.mem_of_getElem? (i := 4) rfl) dX7_readLine_1 ?_
  refine cj_callVi C (As := [.ref (w.2.2.2.2.1 4)]) (rest := []) qX7_isWord mw_15_12 o_115 rfl rfl rfl (Nat.le_of_ble_eq_true rfl) (by decide) dX7_readLine_3 h (fun _ _ hf => m_X7_isWord l w A (by decide) S _ hf) (fun z1 S2 h => ?_)
  refine cj_if_eq C (tgt := 14) dX7_readLine_6 rfl h (fun _ h => ?_) (fun _ h => ?_)
  · refine cj_aload_n C (i := 0) dX7_readLine_14 rfl rfl ?_
    refine cj_ldcS C (i := 6) (List.mem_of_getElem? (i := 6) rfl) dX7_readLine_15 ?_
    refine cj_callVi C (As := [.ref (w.2.2.2.2.1 6)]) (rest := []) qX7_isWord mw_15_12 o_115 rfl rfl rfl (Nat.le_of_ble_eq_true rfl) (by decide) dX7_readLine_17 h (fun _ _ hf => m_X7_isWord l w A (by decide) S2 _ hf) (fun z3 S4 h => ?_)
    refine cj_if_eq C (tgt := 28) dX7_readLine_20 rfl h (fun _ h => ?_) (fun _ h => ?_)
    · refine cj_aload_n C (i := 0) dX7_readLine_28 rfl rfl ?_
      refine cj_ldcS C (i := 9) (List.mem_of_getElem? (i := 9) rfl) dX7_readLine_29 ?_
      refine cj_callVi C (As := [.ref (w.2.2.2.2.1 9)]) (rest := []) qX7_isWord mw_15_12 o_115 rfl rfl rfl (Nat.le_of_ble_eq_true rfl) (by decide) dX7_readLine_31 h (fun _ _ hf => m_X7_isWord l w A (by decide) S4 _ hf) (fun z5 S6 h => ?_)
      refine cj_if_eq C (tgt := 42) dX7_readLine_34 rfl h (fun _ h => ?_) (fun _ h => ?_)
      · refine cj_aload_n C (i := 0) dX7_readLine_42 rfl rfl ?_
        refine cj_ldcS C (i := 10) (List.mem_of_getElem? (i := 10) rfl) dX7_readLine_43 ?_
        refine cj_callVi C (As := [.ref (w.2.2.2.2.1 10)]) (rest := []) qX7_isWord mw_15_12 o_115 rfl rfl rfl (Nat.le_of_ble_eq_true rfl) (by decide) dX7_readLine_45 h (fun _ _ hf => m_X7_isWord l w A (by decide) S6 _ hf) (fun z7 S8 h => ?_)
        refine cj_if_eq C (tgt := 56) dX7_readLine_48 rfl h (fun _ h => ?_) (fun _ h => ?_)
        · refine cj_aload_n C (i := 0) dX7_readLine_56 rfl rfl ?_
          refine cj_ldcS C (i := 13) (List.mem_of_getElem? (i := 13) rfl) dX7_readLine_57 ?_
          refine cj_callVi C (As := [.ref (w.2.2.2.2.1 13)]) (rest := []) qX7_isWord mw_15_12 o_115 rfl rfl rfl (Nat.le_of_ble_eq_true rfl) (by decide) dX7_readLine_59 h (fun _ _ hf => m_X7_isWord l w A (by decide) S8 _ hf) (fun z9 S10 h => ?_)
          refine cj_if_eq C (tgt := 70) dX7_readLine_62 rfl h (fun _ h => ?_) (fun _ h => ?_)
          · refine cj_aload_n C (i := 0) dX7_readLine_70 rfl rfl ?_
            refine cj_ldcS C (i := 23) (List.mem_of_getElem? (i := 23) rfl) dX7_readLine_71 ?_
            refine cj_callVi C (As := [.ref (w.2.2.2.2.1 23)]) (rest := []) qX7_isWord mw_15_12 o_115 rfl rfl rfl (Nat.le_of_ble_eq_true rfl) (by decide) dX7_readLine_73 h (fun _ _ hf => m_X7_isWord l w A (by decide) S10 _ hf) (fun z11 S12 h => ?_)
            refine cj_if_eq C (tgt := 86) dX7_readLine_76 rfl h (fun _ h => ?_) (fun _ h => ?_)
            · refine cj_aload_n C (i := 0) dX7_readLine_86 rfl rfl ?_
              refine cj_iconst C (v := (2 : Int32)) dX7_readLine_87 rfl ?_
              refine cj_callVi C (As := [.int (2 : Int32)]) (rest := []) qX7_refuse mw_16_13 o_115 rfl rfl rfl (Nat.le_of_ble_eq_true rfl) (by decide) dX7_readLine_88 h (fun _ _ hf => m_X7_refuse l w A (2 : Int32) S12 _ hf) (fun z13 S14 h => ?_)
              obtain ⟨hb, h⟩ := cpGuard h
              exact cj_zreturn C hr (cpBo_n hb) h dX7_readLine_91
            · refine cj_aload_n C (i := 0) dX7_readLine_79 rfl rfl ?_
              refine cj_callVi C (As := []) (rest := []) qX7_readWears mw_21_4 o_115 rfl rfl rfl (Nat.le_of_ble_eq_true rfl) (by decide) dX7_readLine_80 h (fun _ _ hf => m_X7_readWears l w A S12 _ hf) (fun z15 S16 h => ?_)
              refine cj_goto C (tgt := 91) dX7_readLine_83 rfl ?_
              obtain ⟨hb, h⟩ := cpGuard h
              exact cj_zreturn C hr (cpBo_n hb) h dX7_readLine_91
          · refine cj_aload_n C (i := 0) dX7_readLine_65 rfl rfl ?_
            refine cj_callVi C (As := []) (rest := []) qX7_readMay mw_18_18 o_115 rfl rfl rfl (Nat.le_of_ble_eq_true rfl) (by decide) dX7_readLine_66 h (fun _ _ hf => m_X7_readMay l w A S10 _ hf) (fun z17 S18 h => ?_)
            obtain ⟨hb, h⟩ := cpGuard h
            exact cj_zreturn C hr (cpBo_n hb) h dX7_readLine_69
        · refine cj_aload_n C (i := 0) dX7_readLine_51 rfl rfl ?_
          refine cj_callVi C (As := []) (rest := []) qX7_readCoin mw_18_10 o_115 rfl rfl rfl (Nat.le_of_ble_eq_true rfl) (by decide) dX7_readLine_52 h (fun _ _ hf => m_X7_readCoin l w A S8 _ hf) (fun z19 S20 h => ?_)
          obtain ⟨hb, h⟩ := cpGuard h
          exact cj_zreturn C hr (cpBo_n hb) h dX7_readLine_55
      · refine cj_aload_n C (i := 0) dX7_readLine_37 rfl rfl ?_
        refine cj_callVi C (As := []) (rest := []) qX7_readQuarrel mw_18_5 o_115 rfl rfl rfl (Nat.le_of_ble_eq_true rfl) (by decide) dX7_readLine_38 h (fun _ _ hf => m_X7_readQuarrel l w A S6 _ hf) (fun z21 S22 h => ?_)
        obtain ⟨hb, h⟩ := cpGuard h
        exact cj_zreturn C hr (cpBo_n hb) h dX7_readLine_41
    · refine cj_aload_n C (i := 0) dX7_readLine_23 rfl rfl ?_
      refine cj_callVi C (As := []) (rest := []) qX7_readPerson mw_17_22 o_115 rfl rfl rfl (Nat.le_of_ble_eq_true rfl) (by decide) dX7_readLine_24 h (fun _ _ hf => m_X7_readPerson l w A S4 _ hf) (fun z23 S24 h => ?_)
      obtain ⟨hb, h⟩ := cpGuard h
      exact cj_zreturn C hr (cpBo_n hb) h dX7_readLine_27
  · refine cj_aload_n C (i := 0) dX7_readLine_9 rfl rfl ?_
    refine cj_callVi C (As := []) (rest := []) qX7_readRoad mw_17_14 o_115 rfl rfl rfl (Nat.le_of_ble_eq_true rfl) (by decide) dX7_readLine_10 h (fun _ _ hf => m_X7_readRoad l w A S2 _ hf) (fun z25 S26 h => ?_)
    obtain ⟨hb, h⟩ := cpGuard h
    exact cj_zreturn C hr (cpBo_n hb) h dX7_readLine_13
/-! X10_shorten -/
def fX10_shorten (v : Nat) (x1 : Int32) (x2 : Int32) (x3 : Int32) (S : cpS) : Option (Unit × cpS) :=
    cpB (fX10_distance v x1 x2 S) fun z1 S2 =>
    if z1 ≤ x3 then (
    some ((), S2)) else (
    if cpIn ((x1 * (6 : Int32)) + x2) 36 then (
    cpLt (cpI S2 (v + 10) ((x1 * (6 : Int32)) + x2).toNatClampNeg x3) fun S3 =>
    some ((), S3)) else none)
set_option maxRecDepth 100000 in
set_option maxHeartbeats 4000000 in
theorem m_X10_shorten (l : Launch) (w : cpW) (A : Nat → Prop) {v : Nat} (hv : cpVy v) (x1 : Int32) (x2 : Int32) (x3 : Int32) (S : cpS) (r : Unit × cpS) (h : fX10_shorten v x1 x2 x3 S = some r) : cpMv l yX10_shorten cX10_shorten 4 (none) 1 w A [.ref (w.2.1 v), .int x1, .int x2, .int x3] S r := by
  refine cpMv.of (lv := [some (.ref (w.2.1 v)), some (.int x1), some (.int x2), some (.int x3)]) (by decide) (Nat.le_of_ble_eq_true rfl) rfl (fun p e s m args below meth c C hr => ?_)
  replace C : cpCx p s m args meth c w A cX10_shorten RX10 4 := C
  rw [fX10_shorten] at h
  refine cj_iload_n C (i := 3) dX10_shorten_0 rfl rfl ?_
  refine cj_aload_n C (i := 0) dX10_shorten_1 rfl rfl ?_
  refine cj_iload_n C (i := 1) dX10_shorten_2 rfl rfl ?_
  refine cj_iload_n C (i := 2) dX10_shorten_3 rfl rfl ?_
  refine cj_callVi C (As := [.int x1, .int x2]) (rest := [.int x3]) qX10_distance mw_21_20 (cpVy_o0 hv) rfl rfl rfl (Nat.le_of_ble_eq_true rfl) (by decide) dX10_shorten_4 h (fun _ _ hf => m_X10_distance l w A hv x1 x2 S _ hf) (fun z1 S2 h => ?_)
  refine cj_icmp_ge C (tgt := 22) dX10_shorten_7 rfl h (fun _ h => ?_) (fun _ h => ?_)
  · exact cj_vreturn C hr h dX10_shorten_22
  · refine cj_aload_n C (i := 0) dX10_shorten_10 rfl rfl ?_
    refine cj_getR C (d := (v + 10)) (cpVy_o0 hv) rfl gfX10_43 dX10_shorten_11 ?_
    refine cj_iload_n C (i := 1) dX10_shorten_14 rfl rfl ?_
    refine cj_bipush C (v := (6 : Int32)) dX10_shorten_15 rfl ?_
    refine cj_imul C dX10_shorten_17 ?_
    refine cj_iload_n C (i := 2) dX10_shorten_18 rfl rfl ?_
    refine cj_iadd C dX10_shorten_19 ?_
    refine cj_iload_n C (i := 3) dX10_shorten_20 rfl rfl ?_
    refine cj_iastore C (cpVy_o10 hv) h dX10_shorten_21 (fun h => ?_)
    refine cj_lets h (fun S3 h => ?_)
    exact cj_vreturn C hr h dX10_shorten_22
/-! X10_measureDistances -/
def fX10_measureDistances_117 (v : Nat) (x1 : Int32) (x2 : Int32) (k97 : Int32 → cpS → Option (Unit × cpS)) (k107 : Int32 → cpS → Option (Unit × cpS)) : Nat → Int32 → cpS → Option (Unit × cpS)
  | 0, _, _ => none
  | n + 1, x3, S =>
    if (S.1 v 0) ≤ x3 then (
    k107 (x2 + 1) S) else (
    cpB (fX10_distance v x2 x1 S) fun z1 S2 =>
    cpB (fX10_distance v x1 x3 S2) fun z3 S4 =>
    cpB (fX10_shorten v x2 x3 (z1 + z3) S4) fun _ S6 =>
    fX10_measureDistances_117 v x1 x2 k97 k107 n (x3 + 1) S6)
set_option maxRecDepth 100000 in
set_option maxHeartbeats 4000000 in
theorem wX10_measureDistances_117 (C : cpCx p s m args meth c w A cX10_measureDistances RX10 4) (hr : meth.sig.returnType = none) {r : Unit × cpS} {v : Nat} (hv : cpVy v) (x1 : Int32) (x2 : Int32) {k97 : Int32 → cpS → Option (Unit × cpS)} (hk97 : ∀ (x1 : Int32) (S : cpS), k97 x1 S = some r → cpJ p l e (cpRm 2) s m args below meth c (MQ below (va_Qv (fun S' => ((), S') = r) (cpWorld w A) A) args s 0 0 A) w A 4 97 [some (.ref (w.2.1 v)), some (.int x1), none, none] [] S) {k107 : Int32 → cpS → Option (Unit × cpS)} (hk107 : ∀ (x2 : Int32) (S : cpS), k107 x2 S = some r → cpJ p l e (cpRm 2) s m args below meth c (MQ below (va_Qv (fun S' => ((), S') = r) (cpWorld w A) A) args s 0 0 A) w A 4 107 [some (.ref (w.2.1 v)), some (.int x1), some (.int x2), none] [] S) : ∀ (n : Nat) (x3 : Int32) (S : cpS), fX10_measureDistances_117 v x1 x2 k97 k107 n x3 S = some r → cpJ p l e (cpRm 2) s m args below meth c (MQ below (va_Qv (fun S' => ((), S') = r) (cpWorld w A) A) args s 0 0 A) w A 4 117 [some (.ref (w.2.1 v)), some (.int x1), some (.int x2), some (.int x3)] [] S := by
  intro n
  induction n with
  | zero => intro x3 S h; rw [fX10_measureDistances_117] at h; cases h
  | succ n ih =>
    intro x3 S h
    rw [fX10_measureDistances_117] at h
    refine cj_iload_n C (i := 3) dX10_measureDistances_117 rfl rfl ?_
    refine cj_aload_n C (i := 0) dX10_measureDistances_118 rfl rfl ?_
    refine cj_getI C (j := 0) (cpVy_o0 hv) rfl gfX10_9 dX10_measureDistances_119 ?_
    refine cj_icmp_ge C (tgt := 150) dX10_measureDistances_122 rfl h (fun _ h => ?_) (fun _ h => ?_)
    · refine cj_iinc C (v := (x2 + 1)) (lv' := [some (.ref (w.2.1 v)), some (.int x1), some (.int (x2 + 1)), some (.int x3)]) dX10_measureDistances_150 rfl rfl (by decide) rfl rfl ?_
      refine cj_goto C (tgt := 107) dX10_measureDistances_153 rfl ?_
      refine cj_weak C (lv' := [some (.ref (w.2.1 v)), some (.int x1), some (.int (x2 + 1)), none]) (cpSub_s (cpSub_s (cpSub_s (cpSub_n cpSub_nil)))) ?_
      exact hk107 (x2 + 1) S h
    · refine cj_aload_n C (i := 0) dX10_measureDistances_125 rfl rfl ?_
      refine cj_iload_n C (i := 2) dX10_measureDistances_126 rfl rfl ?_
      refine cj_iload_n C (i := 3) dX10_measureDistances_127 rfl rfl ?_
      refine cj_aload_n C (i := 0) dX10_measureDistances_128 rfl rfl ?_
      refine cj_iload_n C (i := 2) dX10_measureDistances_129 rfl rfl ?_
      refine cj_iload_n C (i := 1) dX10_measureDistances_130 rfl rfl ?_
      refine cj_callVi C (As := [.int x2, .int x1]) (rest := [.int x3, .int x2, .ref (w.2.1 v)]) qX10_distance mw_21_20 (cpVy_o0 hv) rfl rfl rfl (Nat.le_of_ble_eq_true rfl) (by decide) dX10_measureDistances_131 h (fun _ _ hf => m_X10_distance l w A hv x2 x1 S _ hf) (fun z1 S2 h => ?_)
      refine cj_aload_n C (i := 0) dX10_measureDistances_134 rfl rfl ?_
      refine cj_iload_n C (i := 1) dX10_measureDistances_135 rfl rfl ?_
      refine cj_iload_n C (i := 3) dX10_measureDistances_136 rfl rfl ?_
      refine cj_callVi C (As := [.int x1, .int x3]) (rest := [.int z1, .int x3, .int x2, .ref (w.2.1 v)]) qX10_distance mw_21_20 (cpVy_o0 hv) rfl rfl rfl (Nat.le_of_ble_eq_true rfl) (by decide) dX10_measureDistances_137 h (fun _ _ hf => m_X10_distance l w A hv x1 x3 S2 _ hf) (fun z3 S4 h => ?_)
      refine cj_iadd C dX10_measureDistances_140 ?_
      refine cj_callVv C (As := [.int x2, .int x3, .int (z1 + z3)]) (rest := []) qX10_shorten mw_21_16 (cpVy_o0 hv) rfl rfl rfl (Nat.le_of_ble_eq_true rfl) (by decide) dX10_measureDistances_141 h (fun _ _ hf => m_X10_shorten l w A hv x2 x3 (z1 + z3) S4 _ hf) (fun z5 S6 h => ?_)
      refine cj_iinc C (v := (x3 + 1)) (lv' := [some (.ref (w.2.1 v)), some (.int x1), some (.int x2), some (.int (x3 + 1))]) dX10_measureDistances_144 rfl rfl (by decide) rfl rfl ?_
      refine cj_goto C (tgt := 117) dX10_measureDistances_147 rfl ?_
      exact ih (x3 + 1) S6 h
def fX10_measureDistances_107 (v : Nat) (x1 : Int32) (k97 : Int32 → cpS → Option (Unit × cpS)) : Nat → Int32 → cpS → Option (Unit × cpS)
  | 0, _, _ => none
  | n + 1, x2, S =>
    if (S.1 v 0) ≤ x2 then (
    k97 (x1 + 1) S) else (
    fX10_measureDistances_117 v x1 x2 k97 (fX10_measureDistances_107 v x1 k97 n) cpFu (0 : Int32) S)
set_option maxRecDepth 100000 in
set_option maxHeartbeats 4000000 in
theorem wX10_measureDistances_107 (C : cpCx p s m args meth c w A cX10_measureDistances RX10 4) (hr : meth.sig.returnType = none) {r : Unit × cpS} {v : Nat} (hv : cpVy v) (x1 : Int32) {k97 : Int32 → cpS → Option (Unit × cpS)} (hk97 : ∀ (x1 : Int32) (S : cpS), k97 x1 S = some r → cpJ p l e (cpRm 2) s m args below meth c (MQ below (va_Qv (fun S' => ((), S') = r) (cpWorld w A) A) args s 0 0 A) w A 4 97 [some (.ref (w.2.1 v)), some (.int x1), none, none] [] S) : ∀ (n : Nat) (x2 : Int32) (S : cpS), fX10_measureDistances_107 v x1 k97 n x2 S = some r → cpJ p l e (cpRm 2) s m args below meth c (MQ below (va_Qv (fun S' => ((), S') = r) (cpWorld w A) A) args s 0 0 A) w A 4 107 [some (.ref (w.2.1 v)), some (.int x1), some (.int x2), none] [] S := by
  intro n
  induction n with
  | zero => intro x2 S h; rw [fX10_measureDistances_107] at h; cases h
  | succ n ih =>
    intro x2 S h
    rw [fX10_measureDistances_107] at h
    refine cj_iload_n C (i := 2) dX10_measureDistances_107 rfl rfl ?_
    refine cj_aload_n C (i := 0) dX10_measureDistances_108 rfl rfl ?_
    refine cj_getI C (j := 0) (cpVy_o0 hv) rfl gfX10_9 dX10_measureDistances_109 ?_
    refine cj_icmp_ge C (tgt := 156) dX10_measureDistances_112 rfl h (fun _ h => ?_) (fun _ h => ?_)
    · refine cj_iinc C (v := (x1 + 1)) (lv' := [some (.ref (w.2.1 v)), some (.int (x1 + 1)), some (.int x2), none]) dX10_measureDistances_156 rfl rfl (by decide) rfl rfl ?_
      refine cj_goto C (tgt := 97) dX10_measureDistances_159 rfl ?_
      refine cj_weak C (lv' := [some (.ref (w.2.1 v)), some (.int (x1 + 1)), none, none]) (cpSub_s (cpSub_s (cpSub_n (cpSub_n cpSub_nil)))) ?_
      exact hk97 (x1 + 1) S h
    · refine cj_iconst C (v := (0 : Int32)) dX10_measureDistances_115 rfl ?_
      refine cj_istore_n C (i := 3) (lv' := [some (.ref (w.2.1 v)), some (.int x1), some (.int x2), some (.int (0 : Int32))]) dX10_measureDistances_116 rfl (by decide) rfl rfl ?_
      exact wX10_measureDistances_117 C hr hv x1 x2 hk97 ih cpFu (0 : Int32) S h
def fX10_measureDistances_97 (v : Nat) : Nat → Int32 → cpS → Option (Unit × cpS)
  | 0, _, _ => none
  | n + 1, x1, S =>
    if (S.1 v 0) ≤ x1 then (
    some ((), S)) else (
    fX10_measureDistances_107 v x1 (fX10_measureDistances_97 v n) cpFu (0 : Int32) S)
set_option maxRecDepth 100000 in
set_option maxHeartbeats 4000000 in
theorem wX10_measureDistances_97 (C : cpCx p s m args meth c w A cX10_measureDistances RX10 4) (hr : meth.sig.returnType = none) {r : Unit × cpS} {v : Nat} (hv : cpVy v) : ∀ (n : Nat) (x1 : Int32) (S : cpS), fX10_measureDistances_97 v n x1 S = some r → cpJ p l e (cpRm 2) s m args below meth c (MQ below (va_Qv (fun S' => ((), S') = r) (cpWorld w A) A) args s 0 0 A) w A 4 97 [some (.ref (w.2.1 v)), some (.int x1), none, none] [] S := by
  intro n
  induction n with
  | zero => intro x1 S h; rw [fX10_measureDistances_97] at h; cases h
  | succ n ih =>
    intro x1 S h
    rw [fX10_measureDistances_97] at h
    refine cj_iload_n C (i := 1) dX10_measureDistances_97 rfl rfl ?_
    refine cj_aload_n C (i := 0) dX10_measureDistances_98 rfl rfl ?_
    refine cj_getI C (j := 0) (cpVy_o0 hv) rfl gfX10_9 dX10_measureDistances_99 ?_
    refine cj_icmp_ge C (tgt := 162) dX10_measureDistances_102 rfl h (fun _ h => ?_) (fun _ h => ?_)
    · exact cj_vreturn C hr h dX10_measureDistances_162
    · refine cj_iconst C (v := (0 : Int32)) dX10_measureDistances_105 rfl ?_
      refine cj_istore_n C (i := 2) (lv' := [some (.ref (w.2.1 v)), some (.int x1), some (.int (0 : Int32)), none]) dX10_measureDistances_106 rfl (by decide) rfl rfl ?_
      exact wX10_measureDistances_107 C hr hv x1 ih cpFu (0 : Int32) S h
def fX10_measureDistances_37 (v : Nat) : Nat → Int32 → cpS → Option (Unit × cpS)
  | 0, _, _ => none
  | n + 1, x1, S =>
    if (S.1 v 3) ≤ x1 then (
    fX10_measureDistances_97 v cpFu (0 : Int32) S) else (
    if cpIn x1 9 then (
    if cpIn x1 9 then (
    if cpIn x1 9 then (
    cpB (fX10_shorten v (S.1 (v + 1) x1.toNatClampNeg) (S.1 (v + 2) x1.toNatClampNeg) (S.1 (v + 3) x1.toNatClampNeg) S) fun _ S2 =>
    if cpIn x1 9 then (
    if cpIn x1 9 then (
    if cpIn x1 9 then (
    cpB (fX10_shorten v (S2.1 (v + 2) x1.toNatClampNeg) (S2.1 (v + 1) x1.toNatClampNeg) (S2.1 (v + 3) x1.toNatClampNeg) S2) fun _ S4 =>
    fX10_measureDistances_37 v n (x1 + 1) S4) else none) else none) else none) else none) else none) else none)
set_option maxRecDepth 100000 in
set_option maxHeartbeats 4000000 in
theorem wX10_measureDistances_37 (C : cpCx p s m args meth c w A cX10_measureDistances RX10 4) (hr : meth.sig.returnType = none) {r : Unit × cpS} {v : Nat} (hv : cpVy v) : ∀ (n : Nat) (x1 : Int32) (S : cpS), fX10_measureDistances_37 v n x1 S = some r → cpJ p l e (cpRm 2) s m args below meth c (MQ below (va_Qv (fun S' => ((), S') = r) (cpWorld w A) A) args s 0 0 A) w A 4 37 [some (.ref (w.2.1 v)), some (.int x1), none, none] [] S := by
  intro n
  induction n with
  | zero => intro x1 S h; rw [fX10_measureDistances_37] at h; cases h
  | succ n ih =>
    intro x1 S h
    rw [fX10_measureDistances_37] at h
    refine cj_iload_n C (i := 1) dX10_measureDistances_37 rfl rfl ?_
    refine cj_aload_n C (i := 0) dX10_measureDistances_38 rfl rfl ?_
    refine cj_getI C (j := 3) (cpVy_o0 hv) rfl gfX10_59 dX10_measureDistances_39 ?_
    refine cj_icmp_ge C (tgt := 95) dX10_measureDistances_42 rfl h (fun _ h => ?_) (fun _ h => ?_)
    · refine cj_iconst C (v := (0 : Int32)) dX10_measureDistances_95 rfl ?_
      refine cj_istore_n C (i := 1) (lv' := [some (.ref (w.2.1 v)), some (.int (0 : Int32)), none, none]) dX10_measureDistances_96 rfl (by decide) rfl rfl ?_
      exact wX10_measureDistances_97 C hr hv cpFu (0 : Int32) S h
    · refine cj_aload_n C (i := 0) dX10_measureDistances_45 rfl rfl ?_
      refine cj_aload_n C (i := 0) dX10_measureDistances_46 rfl rfl ?_
      refine cj_getR C (d := (v + 1)) (cpVy_o0 hv) rfl gfX10_15 dX10_measureDistances_47 ?_
      refine cj_iload_n C (i := 1) dX10_measureDistances_50 rfl rfl ?_
      refine cj_iaload C (cpVy_o1 hv) h dX10_measureDistances_51 (fun h => ?_)
      refine cj_aload_n C (i := 0) dX10_measureDistances_52 rfl rfl ?_
      refine cj_getR C (d := (v + 2)) (cpVy_o0 hv) rfl gfX10_19 dX10_measureDistances_53 ?_
      refine cj_iload_n C (i := 1) dX10_measureDistances_56 rfl rfl ?_
      refine cj_iaload C (cpVy_o2 hv) h dX10_measureDistances_57 (fun h => ?_)
      refine cj_aload_n C (i := 0) dX10_measureDistances_58 rfl rfl ?_
      refine cj_getR C (d := (v + 3)) (cpVy_o0 hv) rfl gfX10_22 dX10_measureDistances_59 ?_
      refine cj_iload_n C (i := 1) dX10_measureDistances_62 rfl rfl ?_
      refine cj_iaload C (cpVy_o3 hv) h dX10_measureDistances_63 (fun h => ?_)
      refine cj_callVv C (As := [.int (S.1 (v + 1) x1.toNatClampNeg), .int (S.1 (v + 2) x1.toNatClampNeg), .int (S.1 (v + 3) x1.toNatClampNeg)]) (rest := []) qX10_shorten mw_21_16 (cpVy_o0 hv) rfl rfl rfl (Nat.le_of_ble_eq_true rfl) (by decide) dX10_measureDistances_64 h (fun _ _ hf => m_X10_shorten l w A hv (S.1 (v + 1) x1.toNatClampNeg) (S.1 (v + 2) x1.toNatClampNeg) (S.1 (v + 3) x1.toNatClampNeg) S _ hf) (fun z1 S2 h => ?_)
      refine cj_aload_n C (i := 0) dX10_measureDistances_67 rfl rfl ?_
      refine cj_aload_n C (i := 0) dX10_measureDistances_68 rfl rfl ?_
      refine cj_getR C (d := (v + 2)) (cpVy_o0 hv) rfl gfX10_19 dX10_measureDistances_69 ?_
      refine cj_iload_n C (i := 1) dX10_measureDistances_72 rfl rfl ?_
      refine cj_iaload C (cpVy_o2 hv) h dX10_measureDistances_73 (fun h => ?_)
      refine cj_aload_n C (i := 0) dX10_measureDistances_74 rfl rfl ?_
      refine cj_getR C (d := (v + 1)) (cpVy_o0 hv) rfl gfX10_15 dX10_measureDistances_75 ?_
      refine cj_iload_n C (i := 1) dX10_measureDistances_78 rfl rfl ?_
      refine cj_iaload C (cpVy_o1 hv) h dX10_measureDistances_79 (fun h => ?_)
      refine cj_aload_n C (i := 0) dX10_measureDistances_80 rfl rfl ?_
      refine cj_getR C (d := (v + 3)) (cpVy_o0 hv) rfl gfX10_22 dX10_measureDistances_81 ?_
      refine cj_iload_n C (i := 1) dX10_measureDistances_84 rfl rfl ?_
      refine cj_iaload C (cpVy_o3 hv) h dX10_measureDistances_85 (fun h => ?_)
      refine cj_callVv C (As := [.int (S2.1 (v + 2) x1.toNatClampNeg), .int (S2.1 (v + 1) x1.toNatClampNeg), .int (S2.1 (v + 3) x1.toNatClampNeg)]) (rest := []) qX10_shorten mw_21_16 (cpVy_o0 hv) rfl rfl rfl (Nat.le_of_ble_eq_true rfl) (by decide) dX10_measureDistances_86 h (fun _ _ hf => m_X10_shorten l w A hv (S2.1 (v + 2) x1.toNatClampNeg) (S2.1 (v + 1) x1.toNatClampNeg) (S2.1 (v + 3) x1.toNatClampNeg) S2 _ hf) (fun z3 S4 h => ?_)
      refine cj_iinc C (v := (x1 + 1)) (lv' := [some (.ref (w.2.1 v)), some (.int (x1 + 1)), none, none]) dX10_measureDistances_89 rfl rfl (by decide) rfl rfl ?_
      refine cj_goto C (tgt := 37) dX10_measureDistances_92 rfl ?_
      exact ih (x1 + 1) S4 h
def fX10_measureDistances_11 (v : Nat) : Nat → Int32 → cpS → Option (Unit × cpS)
  | 0, _, _ => none
  | n + 1, x1, S =>
    if (6 : Int32) ≤ x1 then (
    fX10_measureDistances_37 v cpFu (0 : Int32) S) else (
    if cpIn ((x1 * (6 : Int32)) + x1) 36 then (
    cpLt (cpI S (v + 10) ((x1 * (6 : Int32)) + x1).toNatClampNeg (0 : Int32)) fun S1 =>
    fX10_measureDistances_11 v n (x1 + 1) S1) else none)
set_option maxRecDepth 100000 in
set_option maxHeartbeats 4000000 in
theorem wX10_measureDistances_11 (C : cpCx p s m args meth c w A cX10_measureDistances RX10 4) (hr : meth.sig.returnType = none) {r : Unit × cpS} {v : Nat} (hv : cpVy v) : ∀ (n : Nat) (x1 : Int32) (S : cpS), fX10_measureDistances_11 v n x1 S = some r → cpJ p l e (cpRm 2) s m args below meth c (MQ below (va_Qv (fun S' => ((), S') = r) (cpWorld w A) A) args s 0 0 A) w A 4 11 [some (.ref (w.2.1 v)), some (.int x1), none, none] [] S := by
  intro n
  induction n with
  | zero => intro x1 S h; rw [fX10_measureDistances_11] at h; cases h
  | succ n ih =>
    intro x1 S h
    rw [fX10_measureDistances_11] at h
    refine cj_iload_n C (i := 1) dX10_measureDistances_11 rfl rfl ?_
    refine cj_bipush C (v := (6 : Int32)) dX10_measureDistances_12 rfl ?_
    refine cj_icmp_ge C (tgt := 35) dX10_measureDistances_14 rfl h (fun _ h => ?_) (fun _ h => ?_)
    · refine cj_iconst C (v := (0 : Int32)) dX10_measureDistances_35 rfl ?_
      refine cj_istore_n C (i := 1) (lv' := [some (.ref (w.2.1 v)), some (.int (0 : Int32)), none, none]) dX10_measureDistances_36 rfl (by decide) rfl rfl ?_
      exact wX10_measureDistances_37 C hr hv cpFu (0 : Int32) S h
    · refine cj_aload_n C (i := 0) dX10_measureDistances_17 rfl rfl ?_
      refine cj_getR C (d := (v + 10)) (cpVy_o0 hv) rfl gfX10_43 dX10_measureDistances_18 ?_
      refine cj_iload_n C (i := 1) dX10_measureDistances_21 rfl rfl ?_
      refine cj_bipush C (v := (6 : Int32)) dX10_measureDistances_22 rfl ?_
      refine cj_imul C dX10_measureDistances_24 ?_
      refine cj_iload_n C (i := 1) dX10_measureDistances_25 rfl rfl ?_
      refine cj_iadd C dX10_measureDistances_26 ?_
      refine cj_iconst C (v := (0 : Int32)) dX10_measureDistances_27 rfl ?_
      refine cj_iastore C (cpVy_o10 hv) h dX10_measureDistances_28 (fun h => ?_)
      refine cj_lets h (fun S1 h => ?_)
      refine cj_iinc C (v := (x1 + 1)) (lv' := [some (.ref (w.2.1 v)), some (.int (x1 + 1)), none, none]) dX10_measureDistances_29 rfl rfl (by decide) rfl rfl ?_
      refine cj_goto C (tgt := 11) dX10_measureDistances_32 rfl ?_
      exact ih (x1 + 1) S1 h
def fX10_measureDistances (v : Nat) (S : cpS) : Option (Unit × cpS) :=
    cpB (fJ7_fill_53178 (v + 10) 36 (99 : Int32) S) fun _ S2 =>
    fX10_measureDistances_11 v cpFu (0 : Int32) S2
set_option maxRecDepth 100000 in
set_option maxHeartbeats 4000000 in
theorem m_X10_measureDistances (l : Launch) (w : cpW) (A : Nat → Prop) {v : Nat} (hv : cpVy v) (S : cpS) (r : Unit × cpS) (h : fX10_measureDistances v S = some r) : cpMv l yX10_measureDistances cX10_measureDistances 4 (none) 2 w A [.ref (w.2.1 v)] S r := by
  refine cpMv.of (lv := [some (.ref (w.2.1 v)), none, none, none]) (by decide) (Nat.le_of_ble_eq_true rfl) rfl (fun p e s m args below meth c C hr => ?_)
  replace C : cpCx p s m args meth c w A cX10_measureDistances RX10 4 := C
  rw [fX10_measureDistances] at h
  refine cj_aload_n C (i := 0) dX10_measureDistances_0 rfl rfl ?_
  refine cj_getR C (d := (v + 10)) (cpVy_o0 hv) rfl gfX10_43 dX10_measureDistances_1 ?_
  refine cj_bipush C (v := (99 : Int32)) dX10_measureDistances_4 rfl ?_
  refine cj_callSv C (As := [.ref (w.2.1 (v + 10)), .int (99 : Int32)]) (rest := []) qJ7_fill_53178 mw_10_21 rfl rfl (Nat.le_of_ble_eq_true rfl) (by decide) dX10_measureDistances_6 h (fun _ _ hf => m_J7_fill_53178 l w A (cpVy_o10 hv) (99 : Int32) S _ hf) (fun z1 S2 h => ?_)
  refine cj_iconst C (v := (0 : Int32)) dX10_measureDistances_9 rfl ?_
  refine cj_istore_n C (i := 1) (lv' := [some (.ref (w.2.1 v)), some (.int (0 : Int32)), none, none]) dX10_measureDistances_10 rfl (by decide) rfl rfl ?_
  exact wX10_measureDistances_11 C hr hv cpFu (0 : Int32) S2 h
/-! X7_readText -/
def fX7_readText_38 : Nat → Int32 → Int32 → cpS → Option (Int32 × cpS)
  | 0, _, _, _ => none
  | n + 1, x2, x3, S =>
    if (900 : Int32) ≤ x3 then (
    cpB (fX10_measureDistances 15 S) fun _ S2 =>
    cpLt (cpI S2 115 1 (0 : Int32)) fun S3 =>
    if cpBo x2 then some (x2, S3) else none) else (
    if x2 = 0 then (
    cpB (fX10_measureDistances 15 S) fun _ S5 =>
    cpLt (cpI S5 115 1 (0 : Int32)) fun S6 =>
    if cpBo x2 then some (x2, S6) else none) else (
    if (S.1 115 6) = 0 then (
    cpB (fX10_measureDistances 15 S) fun _ S8 =>
    cpLt (cpI S8 115 1 (0 : Int32)) fun S9 =>
    if cpBo x2 then some (x2, S9) else none) else (
    cpB (fX7_readLine S) fun z10 S11 =>
    if z10 = 0 then (
    fX7_readText_38 n (0 : Int32) (x3 + 1) S11) else (
    cpB (fX7_takeLineEnd S11) fun z12 S13 =>
    if z12 = 0 then (
    fX7_readText_38 n (0 : Int32) (x3 + 1) S13) else (
    fX7_readText_38 n (1 : Int32) (x3 + 1) S13)))))
set_option maxRecDepth 100000 in
set_option maxHeartbeats 4000000 in
theorem wX7_readText_38 (C : cpCx p s m args meth c w A cX7_readText RX7 4) (hr : meth.sig.returnType = (some .boolean)) {r : Int32 × cpS} : ∀ (n : Nat) (x2 : Int32) (x3 : Int32) (S : cpS), fX7_readText_38 n x2 x3 S = some r → cpJ p l e (cpRm 89) s m args below meth c (MQ below (va_Qi (fun x S' => (x, S') = r) (cpWorld w A) A) args s 0 0 A) w A 4 38 [some (.ref (w.2.1 115)), none, some (.int x2), some (.int x3)] [] S := by
  intro n
  induction n with
  | zero => intro x2 x3 S h; rw [fX7_readText_38] at h; cases h
  | succ n ih =>
    intro x2 x3 S h
    rw [fX7_readText_38] at h
    refine cj_iload_n C (i := 3) dX7_readText_38 rfl rfl ?_
    refine cj_sipush C (v := (900 : Int32)) dX7_readText_39 rfl ?_
    refine cj_icmp_ge C (tgt := 82) dX7_readText_42 rfl h (fun _ h => ?_) (fun _ h => ?_)
    · refine cj_aload_n C (i := 0) dX7_readText_82 rfl rfl ?_
      refine cj_getR C (d := 15) o_115 rfl gfX7_18 dX7_readText_83 ?_
      refine cj_callVv C (As := []) (rest := []) qX10_measureDistances mw_21_12 o_15 rfl rfl rfl (Nat.le_of_ble_eq_true rfl) (by decide) dX7_readText_86 h (fun _ _ hf => m_X10_measureDistances l w A kVy_15 S _ hf) (fun z1 S2 h => ?_)
      refine cj_aload_n C (i := 0) dX7_readText_89 rfl rfl ?_
      refine cj_iconst C (v := (0 : Int32)) dX7_readText_90 rfl ?_
      refine cj_put C (j := 1) o_115 rfl pfX7_26 rfl rfl dX7_readText_91 ?_
      refine cj_lets h (fun S3 h => ?_)
      refine cj_iload_n C (i := 2) dX7_readText_94 rfl rfl ?_
      obtain ⟨hb, h⟩ := cpGuard h
      exact cj_zreturn C hr (cpBo_n hb) h dX7_readText_95
    · refine cj_iload_n C (i := 2) dX7_readText_45 rfl rfl ?_
      refine cj_if_eq C (tgt := 82) dX7_readText_46 rfl h (fun _ h => ?_) (fun _ h => ?_)
      · refine cj_aload_n C (i := 0) dX7_readText_82 rfl rfl ?_
        refine cj_getR C (d := 15) o_115 rfl gfX7_18 dX7_readText_83 ?_
        refine cj_callVv C (As := []) (rest := []) qX10_measureDistances mw_21_12 o_15 rfl rfl rfl (Nat.le_of_ble_eq_true rfl) (by decide) dX7_readText_86 h (fun _ _ hf => m_X10_measureDistances l w A kVy_15 S _ hf) (fun z4 S5 h => ?_)
        refine cj_aload_n C (i := 0) dX7_readText_89 rfl rfl ?_
        refine cj_iconst C (v := (0 : Int32)) dX7_readText_90 rfl ?_
        refine cj_put C (j := 1) o_115 rfl pfX7_26 rfl rfl dX7_readText_91 ?_
        refine cj_lets h (fun S6 h => ?_)
        refine cj_iload_n C (i := 2) dX7_readText_94 rfl rfl ?_
        obtain ⟨hb, h⟩ := cpGuard h
        exact cj_zreturn C hr (cpBo_n hb) h dX7_readText_95
      · refine cj_aload_n C (i := 0) dX7_readText_49 rfl rfl ?_
        refine cj_getI C (j := 6) o_115 rfl gfX7_48 dX7_readText_50 ?_
        refine cj_if_eq C (tgt := 82) dX7_readText_53 rfl h (fun _ h => ?_) (fun _ h => ?_)
        · refine cj_aload_n C (i := 0) dX7_readText_82 rfl rfl ?_
          refine cj_getR C (d := 15) o_115 rfl gfX7_18 dX7_readText_83 ?_
          refine cj_callVv C (As := []) (rest := []) qX10_measureDistances mw_21_12 o_15 rfl rfl rfl (Nat.le_of_ble_eq_true rfl) (by decide) dX7_readText_86 h (fun _ _ hf => m_X10_measureDistances l w A kVy_15 S _ hf) (fun z7 S8 h => ?_)
          refine cj_aload_n C (i := 0) dX7_readText_89 rfl rfl ?_
          refine cj_iconst C (v := (0 : Int32)) dX7_readText_90 rfl ?_
          refine cj_put C (j := 1) o_115 rfl pfX7_26 rfl rfl dX7_readText_91 ?_
          refine cj_lets h (fun S9 h => ?_)
          refine cj_iload_n C (i := 2) dX7_readText_94 rfl rfl ?_
          obtain ⟨hb, h⟩ := cpGuard h
          exact cj_zreturn C hr (cpBo_n hb) h dX7_readText_95
        · refine cj_aload_n C (i := 0) dX7_readText_56 rfl rfl ?_
          refine cj_callVi C (As := []) (rest := []) qX7_readLine mw_17_10 o_115 rfl rfl rfl (Nat.le_of_ble_eq_true rfl) (by decide) dX7_readText_57 h (fun _ _ hf => m_X7_readLine l w A S _ hf) (fun z10 S11 h => ?_)
          refine cj_if_eq C (tgt := 74) dX7_readText_60 rfl h (fun _ h => ?_) (fun _ h => ?_)
          · refine cj_iconst C (v := (0 : Int32)) dX7_readText_74 rfl ?_
            refine cj_istore_n C (i := 2) (lv' := [some (.ref (w.2.1 115)), none, some (.int (0 : Int32)), some (.int x3)]) dX7_readText_75 rfl (by decide) rfl rfl ?_
            refine cj_iinc C (v := (x3 + 1)) (lv' := [some (.ref (w.2.1 115)), none, some (.int (0 : Int32)), some (.int (x3 + 1))]) dX7_readText_76 rfl rfl (by decide) rfl rfl ?_
            refine cj_goto C (tgt := 38) dX7_readText_79 rfl ?_
            exact ih (0 : Int32) (x3 + 1) S11 h
          · refine cj_aload_n C (i := 0) dX7_readText_63 rfl rfl ?_
            refine cj_callVi C (As := []) (rest := []) qX7_takeLineEnd mw_16_21 o_115 rfl rfl rfl (Nat.le_of_ble_eq_true rfl) (by decide) dX7_readText_64 h (fun _ _ hf => m_X7_takeLineEnd l w A S11 _ hf) (fun z12 S13 h => ?_)
            refine cj_if_eq C (tgt := 74) dX7_readText_67 rfl h (fun _ h => ?_) (fun _ h => ?_)
            · refine cj_iconst C (v := (0 : Int32)) dX7_readText_74 rfl ?_
              refine cj_istore_n C (i := 2) (lv' := [some (.ref (w.2.1 115)), none, some (.int (0 : Int32)), some (.int x3)]) dX7_readText_75 rfl (by decide) rfl rfl ?_
              refine cj_iinc C (v := (x3 + 1)) (lv' := [some (.ref (w.2.1 115)), none, some (.int (0 : Int32)), some (.int (x3 + 1))]) dX7_readText_76 rfl rfl (by decide) rfl rfl ?_
              refine cj_goto C (tgt := 38) dX7_readText_79 rfl ?_
              exact ih (0 : Int32) (x3 + 1) S13 h
            · refine cj_iconst C (v := (1 : Int32)) dX7_readText_70 rfl ?_
              refine cj_goto C (tgt := 75) dX7_readText_71 rfl ?_
              refine cj_istore_n C (i := 2) (lv' := [some (.ref (w.2.1 115)), none, some (.int (1 : Int32)), some (.int x3)]) dX7_readText_75 rfl (by decide) rfl rfl ?_
              refine cj_iinc C (v := (x3 + 1)) (lv' := [some (.ref (w.2.1 115)), none, some (.int (1 : Int32)), some (.int (x3 + 1))]) dX7_readText_76 rfl rfl (by decide) rfl rfl ?_
              refine cj_goto C (tgt := 38) dX7_readText_79 rfl ?_
              exact ih (1 : Int32) (x3 + 1) S13 h
def fX7_readText (x1 : Int32) (S : cpS) : Option (Int32 × cpS) :=
    cpLt (cpI S 115 5 x1) fun S1 =>
    cpLt (cpI S1 115 8 (0 : Int32)) fun S2 =>
    cpLt (cpI S2 115 3 (0 : Int32)) fun S3 =>
    cpLt (cpI S3 115 4 (-1 : Int32)) fun S4 =>
    cpB (fX10_clear 15 S4) fun _ S6 =>
    cpB (fX7_advance S6) fun _ S8 =>
    cpB (fX7_readHead S8) fun z9 S10 =>
    fX7_readText_38 cpFu z9 (0 : Int32) S10
set_option maxRecDepth 100000 in
set_option maxHeartbeats 4000000 in
theorem m_X7_readText (l : Launch) (w : cpW) (A : Nat → Prop) (x1 : Int32) (S : cpS) (r : Int32 × cpS) (h : fX7_readText x1 S = some r) : cpMi l yX7_readText cX7_readText 4 ((some .boolean)) 89 w A [.ref (w.2.1 115), .int x1] S r := by
  refine cpMi.of (lv := [some (.ref (w.2.1 115)), some (.int x1), none, none]) (by decide) (Nat.le_of_ble_eq_true rfl) rfl (fun p e s m args below meth c C hr => ?_)
  replace C : cpCx p s m args meth c w A cX7_readText RX7 4 := C
  rw [fX7_readText] at h
  refine cj_aload_n C (i := 0) dX7_readText_0 rfl rfl ?_
  refine cj_iload_n C (i := 1) dX7_readText_1 rfl rfl ?_
  refine cj_put C (j := 5) o_115 rfl pfX7_29 rfl rfl dX7_readText_2 ?_
  refine cj_lets h (fun S1 h => ?_)
  refine cj_aload_n C (i := 0) dX7_readText_5 rfl rfl ?_
  refine cj_iconst C (v := (0 : Int32)) dX7_readText_6 rfl ?_
  refine cj_put C (j := 8) o_115 rfl pfX7_32 rfl rfl dX7_readText_7 ?_
  refine cj_lets h (fun S2 h => ?_)
  refine cj_aload_n C (i := 0) dX7_readText_10 rfl rfl ?_
  refine cj_iconst C (v := (0 : Int32)) dX7_readText_11 rfl ?_
  refine cj_put C (j := 3) o_115 rfl pfX7_35 rfl rfl dX7_readText_12 ?_
  refine cj_lets h (fun S3 h => ?_)
  refine cj_aload_n C (i := 0) dX7_readText_15 rfl rfl ?_
  refine cj_iconst C (v := (-1 : Int32)) dX7_readText_16 rfl ?_
  refine cj_put C (j := 4) o_115 rfl pfX7_22 rfl rfl dX7_readText_17 ?_
  refine cj_lets h (fun S4 h => ?_)
  refine cj_aload_n C (i := 0) dX7_readText_20 rfl rfl ?_
  refine cj_getR C (d := 15) o_115 rfl gfX7_18 dX7_readText_21 ?_
  refine cj_callVv C (As := []) (rest := []) qX10_clear mw_10_12 o_15 rfl rfl rfl (Nat.le_of_ble_eq_true rfl) (by decide) dX7_readText_24 h (fun _ _ hf => m_X10_clear l w A kVy_15 S4 _ hf) (fun z5 S6 h => ?_)
  refine cj_aload_n C (i := 0) dX7_readText_27 rfl rfl ?_
  refine cj_callVv C (As := []) (rest := []) qX7_advance mw_11_2 o_115 rfl rfl rfl (Nat.le_of_ble_eq_true rfl) (by decide) dX7_readText_28 h (fun _ _ hf => m_X7_advance l w A S6 _ hf) (fun z7 S8 h => ?_)
  refine cj_aload_n C (i := 0) dX7_readText_31 rfl rfl ?_
  refine cj_callVi C (As := []) (rest := []) qX7_readHead mw_15_1 o_115 rfl rfl rfl (Nat.le_of_ble_eq_true rfl) (by decide) dX7_readText_32 h (fun _ _ hf => m_X7_readHead l w A S8 _ hf) (fun z9 S10 h => ?_)
  refine cj_istore_n C (i := 2) (lv' := [some (.ref (w.2.1 115)), some (.int x1), some (.int z9), none]) dX7_readText_35 rfl (by decide) rfl rfl ?_
  refine cj_iconst C (v := (0 : Int32)) dX7_readText_36 rfl ?_
  refine cj_istore_n C (i := 3) (lv' := [some (.ref (w.2.1 115)), some (.int x1), some (.int z9), some (.int (0 : Int32))]) dX7_readText_37 rfl (by decide) rfl rfl ?_
  refine cj_weak C (lv' := [some (.ref (w.2.1 115)), none, some (.int z9), some (.int (0 : Int32))]) (cpSub_s (cpSub_n (cpSub_s (cpSub_s cpSub_nil)))) ?_
  exact wX7_readText_38 C hr cpFu z9 (0 : Int32) S10 h
/-! X8_fits -/
def fX8_fits (x1 : Int32) (x2 : Int32) (S : cpS) : Option (Int32 × cpS) :=
    if x2 = (-1 : Int32) then (
    some ((0 : Int32), S)) else (
    if cpIn x1 8 then (
    if (lg_cmp (S.2 133 x1.toNatClampNeg) (-1 : Int64)) = 0 then (
    some ((1 : Int32), S)) else (
    if cpIn x1 8 then (
    if (lg_cmp (S.2 133 x1.toNatClampNeg) (Int32.toInt64 x2)) = 0 then (
    some ((1 : Int32), S)) else (
    some ((0 : Int32), S))) else none)) else none)
set_option maxRecDepth 100000 in
set_option maxHeartbeats 4000000 in
theorem m_X8_fits (l : Launch) (w : cpW) (A : Nat → Prop) (x1 : Int32) (x2 : Int32) (S : cpS) (r : Int32 × cpS) (h : fX8_fits x1 x2 S = some r) : cpMi l yX8_fits cX8_fits 3 ((some .boolean)) 0 w A [.ref (w.2.1 130), .int x1, .int x2] S r := by
  refine cpMi.of (lv := [some (.ref (w.2.1 130)), some (.int x1), some (.int x2)]) (by decide) (Nat.le_of_ble_eq_true rfl) rfl (fun p e s m args below meth c C hr => ?_)
  replace C : cpCx p s m args meth c w A cX8_fits RX8 3 := C
  rw [fX8_fits] at h
  refine cj_iload_n C (i := 2) dX8_fits_0 rfl rfl ?_
  refine cj_iconst C (v := (-1 : Int32)) dX8_fits_1 rfl ?_
  refine cj_icmp_eq C (tgt := 34) dX8_fits_2 rfl h (fun _ h => ?_) (fun _ h => ?_)
  · refine cj_iconst C (v := (0 : Int32)) dX8_fits_34 rfl ?_
    exact cj_zreturn C hr rfl h dX8_fits_35
  · refine cj_aload_n C (i := 0) dX8_fits_5 rfl rfl ?_
    refine cj_getR C (d := 133) o_130 rfl gfX8_19 dX8_fits_6 ?_
    refine cj_iload_n C (i := 1) dX8_fits_9 rfl rfl ?_
    refine cj_laload C o_133 h dX8_fits_10 (fun h => ?_)
    refine cj_ldc2 C (v := (-1 : Int64)) mw_65_3 dX8_fits_11 ?_
    refine cj_lcmp C dX8_fits_14 ?_
    refine cj_if_eq C (tgt := 30) dX8_fits_15 rfl h (fun _ h => ?_) (fun _ h => ?_)
    · refine cj_iconst C (v := (1 : Int32)) dX8_fits_30 rfl ?_
      refine cj_goto C (tgt := 35) dX8_fits_31 rfl ?_
      exact cj_zreturn C hr rfl h dX8_fits_35
    · refine cj_aload_n C (i := 0) dX8_fits_18 rfl rfl ?_
      refine cj_getR C (d := 133) o_130 rfl gfX8_19 dX8_fits_19 ?_
      refine cj_iload_n C (i := 1) dX8_fits_22 rfl rfl ?_
      refine cj_laload C o_133 h dX8_fits_23 (fun h => ?_)
      refine cj_iload_n C (i := 2) dX8_fits_24 rfl rfl ?_
      refine cj_i2l C dX8_fits_25 ?_
      refine cj_lcmp C dX8_fits_26 ?_
      refine cj_if_ne C (tgt := 34) dX8_fits_27 rfl h (fun _ h => ?_) (fun _ h => ?_)
      · refine cj_iconst C (v := (1 : Int32)) dX8_fits_30 rfl ?_
        refine cj_goto C (tgt := 35) dX8_fits_31 rfl ?_
        exact cj_zreturn C hr rfl h dX8_fits_35
      · refine cj_iconst C (v := (0 : Int32)) dX8_fits_34 rfl ?_
        exact cj_zreturn C hr rfl h dX8_fits_35
/-! X8_rowsFrom -/
def fX8_rowsFrom (x1 : Int32) (x2 : Int32) (S : cpS) : Option (Int64 × cpS) :=
    if cpIn ((x1 * (6 : Int32)) + x2) 54 then (
    some ((S.2 131 ((x1 * (6 : Int32)) + x2).toNatClampNeg), S)) else none
set_option maxRecDepth 100000 in
set_option maxHeartbeats 4000000 in
theorem m_X8_rowsFrom (l : Launch) (w : cpW) (A : Nat → Prop) (x1 : Int32) (x2 : Int32) (S : cpS) (r : Int64 × cpS) (h : fX8_rowsFrom x1 x2 S = some r) : cpMl l yX8_rowsFrom cX8_rowsFrom 3 ((some .long)) 0 w A [.ref (w.2.1 130), .int x1, .int x2] S r := by
  refine cpMl.of (lv := [some (.ref (w.2.1 130)), some (.int x1), some (.int x2)]) (by decide) (Nat.le_of_ble_eq_true rfl) rfl (fun p e s m args below meth c C hr => ?_)
  replace C : cpCx p s m args meth c w A cX8_rowsFrom RX8 3 := C
  rw [fX8_rowsFrom] at h
  refine cj_aload_n C (i := 0) dX8_rowsFrom_0 rfl rfl ?_
  refine cj_getR C (d := 131) o_130 rfl gfX8_9 dX8_rowsFrom_1 ?_
  refine cj_iload_n C (i := 1) dX8_rowsFrom_4 rfl rfl ?_
  refine cj_bipush C (v := (6 : Int32)) dX8_rowsFrom_5 rfl ?_
  refine cj_imul C dX8_rowsFrom_7 ?_
  refine cj_iload_n C (i := 2) dX8_rowsFrom_8 rfl rfl ?_
  refine cj_iadd C dX8_rowsFrom_9 ?_
  refine cj_laload C o_131 h dX8_rowsFrom_10 (fun h => ?_)
  exact cj_lreturn C hr h dX8_rowsFrom_11
/-! X8_rowsOnFrom -/
def fX8_rowsOnFrom_20 (x1 : Int32) (x2 : Int32) (x5 : Int32) (k5 : Int64 → Int32 → cpS → Option (Int64 × cpS)) : Nat → Int64 → Int32 → cpS → Option (Int64 × cpS)
  | 0, _, _, _ => none
  | n + 1, x3, x6, S =>
    if (28 : Int32) ≤ x6 then (
    k5 x3 (x5 + 1) S) else (
    cpB (fX4_wearOf x2 x5 x6 S) fun z1 S2 =>
    cpB (fX8_fits x1 z1 S2) fun z3 S4 =>
    if z3 = 0 then (
    fX8_rowsOnFrom_20 x1 x2 x5 k5 n x3 (x6 + 1) S4) else (
    cpB (fX8_rowsFrom (x1 + (1 : Int32)) x5 S4) fun z5 S6 =>
    cpLt (x3 + z5) fun y7 =>
    fX8_rowsOnFrom_20 x1 x2 x5 k5 n y7 (x6 + 1) S6))
set_option maxRecDepth 100000 in
set_option maxHeartbeats 4000000 in
theorem wX8_rowsOnFrom_20 (C : cpCx p s m args meth c w A cX8_rowsOnFrom RX8 7) (hr : meth.sig.returnType = (some .long)) {r : Int64 × cpS} (x1 : Int32) (x2 : Int32) (x5 : Int32) {k5 : Int64 → Int32 → cpS → Option (Int64 × cpS)} (hk5 : ∀ (x3 : Int64) (x5 : Int32) (S : cpS), k5 x3 x5 S = some r → cpJ p l e (cpRm 1) s m args below meth c (MQ below (va_Ql (fun x S' => (x, S') = r) (cpWorld w A) A) args s 0 0 A) w A 7 5 [some (.ref (w.2.1 130)), some (.int x1), some (.int x2), some (.long x3), none, some (.int x5), none] [] S) : ∀ (n : Nat) (x3 : Int64) (x6 : Int32) (S : cpS), fX8_rowsOnFrom_20 x1 x2 x5 k5 n x3 x6 S = some r → cpJ p l e (cpRm 1) s m args below meth c (MQ below (va_Ql (fun x S' => (x, S') = r) (cpWorld w A) A) args s 0 0 A) w A 7 20 [some (.ref (w.2.1 130)), some (.int x1), some (.int x2), some (.long x3), none, some (.int x5), some (.int x6)] [] S := by
  intro n
  induction n with
  | zero => intro x3 x6 S h; rw [fX8_rowsOnFrom_20] at h; cases h
  | succ n ih =>
    intro x3 x6 S h
    rw [fX8_rowsOnFrom_20] at h
    refine cj_iload C dX8_rowsOnFrom_20 rfl ?_
    refine cj_bipush C (v := (28 : Int32)) dX8_rowsOnFrom_22 rfl ?_
    refine cj_icmp_ge C (tgt := 65) dX8_rowsOnFrom_24 rfl h (fun _ h => ?_) (fun _ h => ?_)
    · refine cj_iinc C (v := (x5 + 1)) (lv' := [some (.ref (w.2.1 130)), some (.int x1), some (.int x2), some (.long x3), none, some (.int (x5 + 1)), some (.int x6)]) dX8_rowsOnFrom_65 rfl rfl (by decide) rfl rfl ?_
      refine cj_goto C (tgt := 5) dX8_rowsOnFrom_68 rfl ?_
      refine cj_weak C (lv' := [some (.ref (w.2.1 130)), some (.int x1), some (.int x2), some (.long x3), none, some (.int (x5 + 1)), none]) (cpSub_s (cpSub_s (cpSub_s (cpSub_s (cpSub_n (cpSub_s (cpSub_n cpSub_nil))))))) ?_
      exact hk5 x3 (x5 + 1) S h
    · refine cj_aload_n C (i := 0) dX8_rowsOnFrom_27 rfl rfl ?_
      refine cj_iload_n C (i := 1) dX8_rowsOnFrom_28 rfl rfl ?_
      refine cj_aload_n C (i := 0) dX8_rowsOnFrom_29 rfl rfl ?_
      refine cj_getR C (d := 119) o_130 rfl gfX8_22 dX8_rowsOnFrom_30 ?_
      refine cj_iload_n C (i := 2) dX8_rowsOnFrom_33 rfl rfl ?_
      refine cj_iload C dX8_rowsOnFrom_34 rfl ?_
      refine cj_iload C dX8_rowsOnFrom_36 rfl ?_
      refine cj_callVi C (As := [.int x2, .int x5, .int x6]) (rest := [.int x1, .ref (w.2.1 130)]) qX4_wearOf mw_64_22 o_119 rfl rfl rfl (Nat.le_of_ble_eq_true rfl) (by decide) dX8_rowsOnFrom_38 h (fun _ _ hf => m_X4_wearOf l w A x2 x5 x6 S _ hf) (fun z1 S2 h => ?_)
      refine cj_callVi C (As := [.int x1, .int z1]) (rest := []) qX8_fits mw_64_23 o_130 rfl rfl rfl (Nat.le_of_ble_eq_true rfl) (by decide) dX8_rowsOnFrom_41 h (fun _ _ hf => m_X8_fits l w A x1 z1 S2 _ hf) (fun z3 S4 h => ?_)
      refine cj_if_eq C (tgt := 59) dX8_rowsOnFrom_44 rfl h (fun _ h => ?_) (fun _ h => ?_)
      · refine cj_iinc C (v := (x6 + 1)) (lv' := [some (.ref (w.2.1 130)), some (.int x1), some (.int x2), some (.long x3), none, some (.int x5), some (.int (x6 + 1))]) dX8_rowsOnFrom_59 rfl rfl (by decide) rfl rfl ?_
        refine cj_goto C (tgt := 20) dX8_rowsOnFrom_62 rfl ?_
        exact ih x3 (x6 + 1) S4 h
      · refine cj_lload_n C (i := 3) dX8_rowsOnFrom_47 rfl rfl ?_
        refine cj_aload_n C (i := 0) dX8_rowsOnFrom_48 rfl rfl ?_
        refine cj_iload_n C (i := 1) dX8_rowsOnFrom_49 rfl rfl ?_
        refine cj_iconst C (v := (1 : Int32)) dX8_rowsOnFrom_50 rfl ?_
        refine cj_iadd C dX8_rowsOnFrom_51 ?_
        refine cj_iload C dX8_rowsOnFrom_52 rfl ?_
        refine cj_callVl C (As := [.int (x1 + (1 : Int32)), .int x5]) (rest := [.long x3]) qX8_rowsFrom mw_65_4 o_130 rfl rfl rfl (Nat.le_of_ble_eq_true rfl) (by decide) dX8_rowsOnFrom_54 h (fun _ _ hf => m_X8_rowsFrom l w A (x1 + (1 : Int32)) x5 S4 _ hf) (fun z5 S6 h => ?_)
        refine cj_ladd C dX8_rowsOnFrom_57 ?_
        refine cj_letl h (fun y7 h => ?_)
        refine cj_lstore_n C (i := 3) (lv' := [some (.ref (w.2.1 130)), some (.int x1), some (.int x2), some (.long y7), none, some (.int x5), some (.int x6)]) dX8_rowsOnFrom_58 rfl (by decide) rfl rfl ?_
        refine cj_iinc C (v := (x6 + 1)) (lv' := [some (.ref (w.2.1 130)), some (.int x1), some (.int x2), some (.long y7), none, some (.int x5), some (.int (x6 + 1))]) dX8_rowsOnFrom_59 rfl rfl (by decide) rfl rfl ?_
        refine cj_goto C (tgt := 20) dX8_rowsOnFrom_62 rfl ?_
        exact ih y7 (x6 + 1) S6 h
def fX8_rowsOnFrom_5 (x1 : Int32) (x2 : Int32) : Nat → Int64 → Int32 → cpS → Option (Int64 × cpS)
  | 0, _, _, _ => none
  | n + 1, x3, x5, S =>
    cpB (fX4_places S) fun z1 S2 =>
    if z1 ≤ x5 then (
    some (x3, S2)) else (
    fX8_rowsOnFrom_20 x1 x2 x5 (fX8_rowsOnFrom_5 x1 x2 n) cpFu x3 (0 : Int32) S2)
set_option maxRecDepth 100000 in
set_option maxHeartbeats 4000000 in
theorem wX8_rowsOnFrom_5 (C : cpCx p s m args meth c w A cX8_rowsOnFrom RX8 7) (hr : meth.sig.returnType = (some .long)) {r : Int64 × cpS} (x1 : Int32) (x2 : Int32) : ∀ (n : Nat) (x3 : Int64) (x5 : Int32) (S : cpS), fX8_rowsOnFrom_5 x1 x2 n x3 x5 S = some r → cpJ p l e (cpRm 1) s m args below meth c (MQ below (va_Ql (fun x S' => (x, S') = r) (cpWorld w A) A) args s 0 0 A) w A 7 5 [some (.ref (w.2.1 130)), some (.int x1), some (.int x2), some (.long x3), none, some (.int x5), none] [] S := by
  intro n
  induction n with
  | zero => intro x3 x5 S h; rw [fX8_rowsOnFrom_5] at h; cases h
  | succ n ih =>
    intro x3 x5 S h
    rw [fX8_rowsOnFrom_5] at h
    refine cj_iload C dX8_rowsOnFrom_5 rfl ?_
    refine cj_aload_n C (i := 0) dX8_rowsOnFrom_7 rfl rfl ?_
    refine cj_getR C (d := 119) o_130 rfl gfX8_22 dX8_rowsOnFrom_8 ?_
    refine cj_callVi C (As := []) (rest := [.int x5]) qX4_places mw_64_17 o_119 rfl rfl rfl (Nat.le_of_ble_eq_true rfl) (by decide) dX8_rowsOnFrom_11 h (fun _ _ hf => m_X4_places l w A S _ hf) (fun z1 S2 h => ?_)
    refine cj_icmp_ge C (tgt := 71) dX8_rowsOnFrom_14 rfl h (fun _ h => ?_) (fun _ h => ?_)
    · refine cj_lload_n C (i := 3) dX8_rowsOnFrom_71 rfl rfl ?_
      exact cj_lreturn C hr h dX8_rowsOnFrom_72
    · refine cj_iconst C (v := (0 : Int32)) dX8_rowsOnFrom_17 rfl ?_
      refine cj_istore C (lv' := [some (.ref (w.2.1 130)), some (.int x1), some (.int x2), some (.long x3), none, some (.int x5), some (.int (0 : Int32))]) dX8_rowsOnFrom_18 (by decide) rfl rfl ?_
      exact wX8_rowsOnFrom_20 C hr x1 x2 x5 ih cpFu x3 (0 : Int32) S2 h
def fX8_rowsOnFrom (x1 : Int32) (x2 : Int32) (S : cpS) : Option (Int64 × cpS) :=
    fX8_rowsOnFrom_5 x1 x2 cpFu (0 : Int64) (0 : Int32) S
set_option maxRecDepth 100000 in
set_option maxHeartbeats 4000000 in
theorem m_X8_rowsOnFrom (l : Launch) (w : cpW) (A : Nat → Prop) (x1 : Int32) (x2 : Int32) (S : cpS) (r : Int64 × cpS) (h : fX8_rowsOnFrom x1 x2 S = some r) : cpMl l yX8_rowsOnFrom cX8_rowsOnFrom 7 ((some .long)) 1 w A [.ref (w.2.1 130), .int x1, .int x2] S r := by
  refine cpMl.of (lv := [some (.ref (w.2.1 130)), some (.int x1), some (.int x2), none, none, none, none]) (by decide) (Nat.le_of_ble_eq_true rfl) rfl (fun p e s m args below meth c C hr => ?_)
  replace C : cpCx p s m args meth c w A cX8_rowsOnFrom RX8 7 := C
  rw [fX8_rowsOnFrom] at h
  refine cj_lconst C (v := (0 : Int64)) dX8_rowsOnFrom_0 rfl ?_
  refine cj_lstore_n C (i := 3) (lv' := [some (.ref (w.2.1 130)), some (.int x1), some (.int x2), some (.long (0 : Int64)), none, none, none]) dX8_rowsOnFrom_1 rfl (by decide) rfl rfl ?_
  refine cj_iconst C (v := (0 : Int32)) dX8_rowsOnFrom_2 rfl ?_
  refine cj_istore C (lv' := [some (.ref (w.2.1 130)), some (.int x1), some (.int x2), some (.long (0 : Int64)), none, some (.int (0 : Int32)), none]) dX8_rowsOnFrom_3 (by decide) rfl rfl ?_
  exact wX8_rowsOnFrom_5 C hr x1 x2 cpFu (0 : Int64) (0 : Int32) S h
/-! X8_learn -/
def fX8_learn_80 (k1 : Nat) (x4 : Int32) (k72 : Int32 → cpS → Option (Unit × cpS)) : Nat → Int32 → cpS → Option (Unit × cpS)
  | 0, _, _ => none
  | n + 1, x5, S =>
    cpB (fX4_places S) fun z1 S2 =>
    if z1 ≤ x5 then (
    k72 (x4 + (-1)) S2) else (
    cpB (fX8_rowsOnFrom x4 x5 S2) fun z3 S4 =>
    if cpIn ((x4 * (6 : Int32)) + x5) 54 then (
    cpLt (cpL S4 131 ((x4 * (6 : Int32)) + x5).toNatClampNeg z3) fun S5 =>
    fX8_learn_80 k1 x4 k72 n (x5 + 1) S5) else none)
set_option maxRecDepth 100000 in
set_option maxHeartbeats 4000000 in
theorem wX8_learn_80 (C : cpCx p s m args meth c w A cX8_learn RX8 6) (hr : meth.sig.returnType = none) {r : Unit × cpS} {k1 : Nat} (hk1 : cpTy k1) (x4 : Int32) {k72 : Int32 → cpS → Option (Unit × cpS)} (hk72 : ∀ (x4 : Int32) (S : cpS), k72 x4 S = some r → cpJ p l e (cpRm 6) s m args below meth c (MQ below (va_Qv (fun S' => ((), S') = r) (cpWorld w A) A) args s 0 0 A) w A 6 72 [some (.ref (w.2.1 130)), none, none, none, some (.int x4), none] [] S) : ∀ (n : Nat) (x5 : Int32) (S : cpS), fX8_learn_80 k1 x4 k72 n x5 S = some r → cpJ p l e (cpRm 6) s m args below meth c (MQ below (va_Qv (fun S' => ((), S') = r) (cpWorld w A) A) args s 0 0 A) w A 6 80 [some (.ref (w.2.1 130)), none, none, none, some (.int x4), some (.int x5)] [] S := by
  intro n
  induction n with
  | zero => intro x5 S h; rw [fX8_learn_80] at h; cases h
  | succ n ih =>
    intro x5 S h
    rw [fX8_learn_80] at h
    refine cj_iload C dX8_learn_80 rfl ?_
    refine cj_aload_n C (i := 0) dX8_learn_82 rfl rfl ?_
    refine cj_getR C (d := 119) o_130 rfl gfX8_22 dX8_learn_83 ?_
    refine cj_callVi C (As := []) (rest := [.int x5]) qX4_places mw_64_17 o_119 rfl rfl rfl (Nat.le_of_ble_eq_true rfl) (by decide) dX8_learn_86 h (fun _ _ hf => m_X4_places l w A S _ hf) (fun z1 S2 h => ?_)
    refine cj_icmp_ge C (tgt := 119) dX8_learn_89 rfl h (fun _ h => ?_) (fun _ h => ?_)
    · refine cj_iinc C (v := (x4 + (-1))) (lv' := [some (.ref (w.2.1 130)), none, none, none, some (.int (x4 + (-1))), some (.int x5)]) dX8_learn_119 rfl rfl (by decide) rfl rfl ?_
      refine cj_goto C (tgt := 72) dX8_learn_122 rfl ?_
      refine cj_weak C (lv' := [some (.ref (w.2.1 130)), none, none, none, some (.int (x4 + (-1))), none]) (cpSub_s (cpSub_n (cpSub_n (cpSub_n (cpSub_s (cpSub_n cpSub_nil)))))) ?_
      exact hk72 (x4 + (-1)) S2 h
    · refine cj_aload_n C (i := 0) dX8_learn_92 rfl rfl ?_
      refine cj_getR C (d := 131) o_130 rfl gfX8_9 dX8_learn_93 ?_
      refine cj_iload C dX8_learn_96 rfl ?_
      refine cj_bipush C (v := (6 : Int32)) dX8_learn_98 rfl ?_
      refine cj_imul C dX8_learn_100 ?_
      refine cj_iload C dX8_learn_101 rfl ?_
      refine cj_iadd C dX8_learn_103 ?_
      refine cj_aload_n C (i := 0) dX8_learn_104 rfl rfl ?_
      refine cj_iload C dX8_learn_105 rfl ?_
      refine cj_iload C dX8_learn_107 rfl ?_
      refine cj_callVl C (As := [.int x4, .int x5]) (rest := [.int ((x4 * (6 : Int32)) + x5), .ref (w.2.1 131)]) qX8_rowsOnFrom mw_64_18 o_130 rfl rfl rfl (Nat.le_of_ble_eq_true rfl) (by decide) dX8_learn_109 h (fun _ _ hf => m_X8_rowsOnFrom l w A x4 x5 S2 _ hf) (fun z3 S4 h => ?_)
      refine cj_lastore C o_131 h dX8_learn_112 (fun h => ?_)
      refine cj_lets h (fun S5 h => ?_)
      refine cj_iinc C (v := (x5 + 1)) (lv' := [some (.ref (w.2.1 130)), none, none, none, some (.int x4), some (.int (x5 + 1))]) dX8_learn_113 rfl rfl (by decide) rfl rfl ?_
      refine cj_goto C (tgt := 80) dX8_learn_116 rfl ?_
      exact ih (x5 + 1) S5 h
def fX8_learn_72 (k1 : Nat) : Nat → Int32 → cpS → Option (Unit × cpS)
  | 0, _, _ => none
  | n + 1, x4, S =>
    if x4 < 0 then (
    some ((), S)) else (
    fX8_learn_80 k1 x4 (fX8_learn_72 k1 n) cpFu (0 : Int32) S)
set_option maxRecDepth 100000 in
set_option maxHeartbeats 4000000 in
theorem wX8_learn_72 (C : cpCx p s m args meth c w A cX8_learn RX8 6) (hr : meth.sig.returnType = none) {r : Unit × cpS} {k1 : Nat} (hk1 : cpTy k1) : ∀ (n : Nat) (x4 : Int32) (S : cpS), fX8_learn_72 k1 n x4 S = some r → cpJ p l e (cpRm 6) s m args below meth c (MQ below (va_Qv (fun S' => ((), S') = r) (cpWorld w A) A) args s 0 0 A) w A 6 72 [some (.ref (w.2.1 130)), none, none, none, some (.int x4), none] [] S := by
  intro n
  induction n with
  | zero => intro x4 S h; rw [fX8_learn_72] at h; cases h
  | succ n ih =>
    intro x4 S h
    rw [fX8_learn_72] at h
    refine cj_iload C dX8_learn_72 rfl ?_
    refine cj_if_lt C (tgt := 125) dX8_learn_74 rfl h (fun _ h => ?_) (fun _ h => ?_)
    · exact cj_vreturn C hr h dX8_learn_125
    · refine cj_iconst C (v := (0 : Int32)) dX8_learn_77 rfl ?_
      refine cj_istore C (lv' := [some (.ref (w.2.1 130)), none, none, none, some (.int x4), some (.int (0 : Int32))]) dX8_learn_78 (by decide) rfl rfl ?_
      exact wX8_learn_80 C hr hk1 x4 ih cpFu (0 : Int32) S h
def fX8_learn_36 (k1 : Nat) (x3 : Int32) : Nat → Int32 → cpS → Option (Unit × cpS)
  | 0, _, _ => none
  | n + 1, x4, S =>
    cpB (fX4_places S) fun z1 S2 =>
    if z1 ≤ x4 then (
    cpLt (x3 - (1 : Int32)) fun y3 =>
    fX8_learn_72 k1 cpFu y3 S2) else (
    if cpIn ((x3 * (6 : Int32)) + x4) 54 then (
    cpLt (cpL S2 131 ((x3 * (6 : Int32)) + x4).toNatClampNeg (1 : Int64)) fun S4 =>
    fX8_learn_36 k1 x3 n (x4 + 1) S4) else none)
set_option maxRecDepth 100000 in
set_option maxHeartbeats 4000000 in
theorem wX8_learn_36 (C : cpCx p s m args meth c w A cX8_learn RX8 6) (hr : meth.sig.returnType = none) {r : Unit × cpS} {k1 : Nat} (hk1 : cpTy k1) (x3 : Int32) : ∀ (n : Nat) (x4 : Int32) (S : cpS), fX8_learn_36 k1 x3 n x4 S = some r → cpJ p l e (cpRm 6) s m args below meth c (MQ below (va_Qv (fun S' => ((), S') = r) (cpWorld w A) A) args s 0 0 A) w A 6 36 [some (.ref (w.2.1 130)), none, none, some (.int x3), some (.int x4), none] [] S := by
  intro n
  induction n with
  | zero => intro x4 S h; rw [fX8_learn_36] at h; cases h
  | succ n ih =>
    intro x4 S h
    rw [fX8_learn_36] at h
    refine cj_iload C dX8_learn_36 rfl ?_
    refine cj_aload_n C (i := 0) dX8_learn_38 rfl rfl ?_
    refine cj_getR C (d := 119) o_130 rfl gfX8_22 dX8_learn_39 ?_
    refine cj_callVi C (As := []) (rest := [.int x4]) qX4_places mw_64_17 o_119 rfl rfl rfl (Nat.le_of_ble_eq_true rfl) (by decide) dX8_learn_42 h (fun _ _ hf => m_X4_places l w A S _ hf) (fun z1 S2 h => ?_)
    refine cj_icmp_ge C (tgt := 67) dX8_learn_45 rfl h (fun _ h => ?_) (fun _ h => ?_)
    · refine cj_iload_n C (i := 3) dX8_learn_67 rfl rfl ?_
      refine cj_iconst C (v := (1 : Int32)) dX8_learn_68 rfl ?_
      refine cj_isub C dX8_learn_69 ?_
      refine cj_let h (fun y3 h => ?_)
      refine cj_istore C (lv' := [some (.ref (w.2.1 130)), none, none, some (.int x3), some (.int y3), none]) dX8_learn_70 (by decide) rfl rfl ?_
      refine cj_weak C (lv' := [some (.ref (w.2.1 130)), none, none, none, some (.int y3), none]) (cpSub_s (cpSub_n (cpSub_n (cpSub_n (cpSub_s (cpSub_n cpSub_nil)))))) ?_
      exact wX8_learn_72 C hr hk1 cpFu y3 S2 h
    · refine cj_aload_n C (i := 0) dX8_learn_48 rfl rfl ?_
      refine cj_getR C (d := 131) o_130 rfl gfX8_9 dX8_learn_49 ?_
      refine cj_iload_n C (i := 3) dX8_learn_52 rfl rfl ?_
      refine cj_bipush C (v := (6 : Int32)) dX8_learn_53 rfl ?_
      refine cj_imul C dX8_learn_55 ?_
      refine cj_iload C dX8_learn_56 rfl ?_
      refine cj_iadd C dX8_learn_58 ?_
      refine cj_lconst C (v := (1 : Int64)) dX8_learn_59 rfl ?_
      refine cj_lastore C o_131 h dX8_learn_60 (fun h => ?_)
      refine cj_lets h (fun S4 h => ?_)
      refine cj_iinc C (v := (x4 + 1)) (lv' := [some (.ref (w.2.1 130)), none, none, some (.int x3), some (.int (x4 + 1)), none]) dX8_learn_61 rfl rfl (by decide) rfl rfl ?_
      refine cj_goto C (tgt := 36) dX8_learn_64 rfl ?_
      exact ih (x4 + 1) S4 h
def fX8_learn (k1 : Nat) (x2 : Int32) (S : cpS) : Option (Unit × cpS) :=
    cpLt (cpMin (S.1 k1 1) (8 : Int32)) fun y1 =>
    if cpCp y1 40 8 then (
    cpLt (cpRL S 133 (va_cpy (S.2 (k1 + 1)) (S.2 133) 0 0 y1.toNatClampNeg)) fun S2 =>
    cpB (fX4_learn x2 (1 : Int32) S2) fun _ S4 =>
    fX8_learn_36 k1 y1 cpFu (0 : Int32) S4) else none
set_option maxRecDepth 100000 in
set_option maxHeartbeats 4000000 in
theorem m_X8_learn (l : Launch) (w : cpW) (A : Nat → Prop) {k1 : Nat} (hk1 : cpTy k1) (x2 : Int32) (S : cpS) (r : Unit × cpS) (h : fX8_learn k1 x2 S = some r) : cpMv l yX8_learn cX8_learn 6 (none) 6 w A [.ref (w.2.1 130), .ref (w.2.1 k1), .int x2] S r := by
  refine cpMv.of (lv := [some (.ref (w.2.1 130)), some (.ref (w.2.1 k1)), some (.int x2), none, none, none]) (by decide) (Nat.le_of_ble_eq_true rfl) rfl (fun p e s m args below meth c C hr => ?_)
  replace C : cpCx p s m args meth c w A cX8_learn RX8 6 := C
  rw [fX8_learn] at h
  refine cj_aload_n C (i := 1) dX8_learn_0 rfl rfl ?_
  refine cj_getI C (j := 1) (cpTy_o0 hk1) rfl gfX8_33 dX8_learn_1 ?_
  refine cj_bipush C (v := (8 : Int32)) dX8_learn_4 rfl ?_
  refine ck_mmin C mw_64_13 mw_12_17 mw_12_14 mw_12_18 (by decide) (Nat.le_of_ble_eq_true rfl) dX8_learn_6 ?_
  refine cj_let h (fun y1 h => ?_)
  refine cj_istore_n C (i := 3) (lv' := [some (.ref (w.2.1 130)), some (.ref (w.2.1 k1)), some (.int x2), some (.int y1), none, none]) dX8_learn_9 rfl (by decide) rfl rfl ?_
  refine cj_aload_n C (i := 1) dX8_learn_10 rfl rfl ?_
  refine cj_getR C (d := (k1 + 1)) (cpTy_o0 hk1) rfl gfX8_45 dX8_learn_11 ?_
  refine cj_iconst C (v := (0 : Int32)) dX8_learn_14 rfl ?_
  refine cj_aload_n C (i := 0) dX8_learn_15 rfl rfl ?_
  refine cj_getR C (d := 133) o_130 rfl gfX8_19 dX8_learn_16 ?_
  refine cj_iconst C (v := (0 : Int32)) dX8_learn_19 rfl ?_
  refine cj_iload_n C (i := 3) dX8_learn_20 rfl rfl ?_
  refine ck_copyl C (by decide) (by decide) (cpTy_o1 hk1) o_133 mw_64_15 mw_22_5 mw_22_6 mw_22_7 h (by decide) (Nat.le_of_ble_eq_true rfl) dX8_learn_21 (fun h => ?_)
  refine cj_lets h (fun S2 h => ?_)
  refine cj_aload_n C (i := 0) dX8_learn_24 rfl rfl ?_
  refine cj_getR C (d := 119) o_130 rfl gfX8_22 dX8_learn_25 ?_
  refine cj_iload_n C (i := 2) dX8_learn_28 rfl rfl ?_
  refine cj_iconst C (v := (1 : Int32)) dX8_learn_29 rfl ?_
  refine cj_callVv C (As := [.int x2, .int (1 : Int32)]) (rest := []) qX4_learn mw_64_16 o_119 rfl rfl rfl (Nat.le_of_ble_eq_true rfl) (by decide) dX8_learn_30 h (fun _ _ hf => m_X4_learn l w A x2 (1 : Int32) S2 _ hf) (fun z3 S4 h => ?_)
  refine cj_iconst C (v := (0 : Int32)) dX8_learn_33 rfl ?_
  refine cj_istore C (lv' := [some (.ref (w.2.1 130)), some (.ref (w.2.1 k1)), some (.int x2), some (.int y1), some (.int (0 : Int32)), none]) dX8_learn_34 (by decide) rfl rfl ?_
  refine cj_weak C (lv' := [some (.ref (w.2.1 130)), none, none, some (.int y1), some (.int (0 : Int32)), none]) (cpSub_s (cpSub_n (cpSub_n (cpSub_s (cpSub_s (cpSub_n cpSub_nil)))))) ?_
  exact wX8_learn_36 C hr hk1 y1 cpFu (0 : Int32) S4 h
end CPV
