section CPV
variable {p : Program} {l : Launch} {e : Env} {s : State} {m : MethodId} {args : Array Value} {below : List Frame} {meth : Method} {c : Code} {w : cpW} {A : Nat → Prop}
/-! X11_person -/
def fX11_person (x1 : Int32) (x2 : Int32) (S : cpS) : Option (Int32 × cpS) :=
    cpB (fX10_hasPerson 1 x1 S) fun z1 S2 =>
    if z1 = 0 then (
    some ((-2 : Int32), S2)) else (
    if x2 = (0 : Int32) then (
    if cpIn x1 8 then (
    some ((S2.1 5 x1.toNatClampNeg), S2)) else none) else (if x2 = (1 : Int32) then (
    if cpIn x1 8 then (
    some ((S2.1 6 x1.toNatClampNeg), S2)) else none) else (if x2 = (2 : Int32) then (
    if cpIn x1 8 then (
    some ((S2.1 60 x1.toNatClampNeg), S2)) else none) else (
    some ((-2 : Int32), S2)))))
set_option maxRecDepth 100000 in
set_option maxHeartbeats 4000000 in
theorem m_X11_person (l : Launch) (w : cpW) (A : Nat → Prop) (x1 : Int32) (x2 : Int32) (S : cpS) (r : Int32 × cpS) (h : fX11_person x1 x2 S = some r) : cpMi l yX11_person cX11_person 3 ((some .int)) 1 w A [.ref (w.2.1 0), .int x1, .int x2] S r := by
  refine cpMi.of (lv := [some (.ref (w.2.1 0)), some (.int x1), some (.int x2)]) (by decide) (Nat.le_of_ble_eq_true rfl) rfl (fun p e s m args below meth c C hr => ?_)
  replace C : cpCx p s m args meth c w A cX11_person RX11 3 := C
  rw [fX11_person] at h
  refine cj_aload_n C (i := 0) dX11_person_0 rfl rfl ?_
  refine cj_getR C (d := 1) o_0 rfl gfX11_10 dX11_person_1 ?_
  refine cj_iload_n C (i := 1) dX11_person_4 rfl rfl ?_
  refine cj_callVi C (As := [.int x1]) (rest := []) qX10_hasPerson mw_29_5 o_1 rfl rfl rfl (Nat.le_of_ble_eq_true rfl) (by decide) dX11_person_5 h (fun _ _ hf => m_X10_hasPerson l w A kVy_1 x1 S _ hf) (fun z1 S2 h => ?_)
  refine cj_if_ne C (tgt := 14) dX11_person_8 rfl h (fun _ h => ?_) (fun _ h => ?_)
  · refine cj_bipush C (v := (-2 : Int32)) dX11_person_11 rfl ?_
    exact cj_ireturn C hr h dX11_person_13
  · refine cj_iload_n C (i := 2) dX11_person_14 rfl rfl ?_
    by_cases hs0 : x2 = (0 : Int32)
    · rw [if_pos hs0] at h
      refine cj_tableIn C (tgt := 40) dX11_person_15 (by rw [hs0]; decide) (by rw [hs0]; decide) (by rw [hs0]; rfl) rfl ?_
      refine cj_aload_n C (i := 0) dX11_person_40 rfl rfl ?_
      refine cj_getR C (d := 1) o_0 rfl gfX11_10 dX11_person_41 ?_
      refine cj_getR C (d := 5) o_1 rfl gfX11_137 dX11_person_44 ?_
      refine cj_iload_n C (i := 1) dX11_person_47 rfl rfl ?_
      refine cj_iaload C o_5 h dX11_person_48 (fun h => ?_)
      exact cj_ireturn C hr h dX11_person_49
    rw [if_neg hs0] at h
    by_cases hs1 : x2 = (1 : Int32)
    · rw [if_pos hs1] at h
      refine cj_tableIn C (tgt := 50) dX11_person_15 (by rw [hs1]; decide) (by rw [hs1]; decide) (by rw [hs1]; rfl) rfl ?_
      refine cj_aload_n C (i := 0) dX11_person_50 rfl rfl ?_
      refine cj_getR C (d := 1) o_0 rfl gfX11_10 dX11_person_51 ?_
      refine cj_getR C (d := 6) o_1 rfl gfX11_141 dX11_person_54 ?_
      refine cj_iload_n C (i := 1) dX11_person_57 rfl rfl ?_
      refine cj_iaload C o_6 h dX11_person_58 (fun h => ?_)
      exact cj_ireturn C hr h dX11_person_59
    rw [if_neg hs1] at h
    by_cases hs2 : x2 = (2 : Int32)
    · rw [if_pos hs2] at h
      refine cj_tableIn C (tgt := 60) dX11_person_15 (by rw [hs2]; decide) (by rw [hs2]; decide) (by rw [hs2]; rfl) rfl ?_
      refine cj_aload_n C (i := 0) dX11_person_60 rfl rfl ?_
      refine cj_getR C (d := 57) o_0 rfl gfX11_19 dX11_person_61 ?_
      refine cj_getR C (d := 60) o_57 rfl gfX11_144 dX11_person_64 ?_
      refine cj_iload_n C (i := 1) dX11_person_67 rfl rfl ?_
      refine cj_iaload C o_60 h dX11_person_68 (fun h => ?_)
      exact cj_ireturn C hr h dX11_person_69
    rw [if_neg hs2] at h
    refine cj_tableOut C (tgt := 70) dX11_person_15 (cpOut (by decide) (by decide) (fun k h1 h2 => ?_)) rfl ?_
    · rcases (show k = 0 ∨ k = 1 ∨ k = 2 by omega) with rfl | rfl | rfl
      · exact hs0
      · exact hs1
      · exact hs2
    · refine cj_bipush C (v := (-2 : Int32)) dX11_person_70 rfl ?_
      exact cj_ireturn C hr h dX11_person_72
/-! X11_coin -/
def fX11_coin (x1 : Int32) (x2 : Int32) (S : cpS) : Option (Int32 × cpS) :=
    cpB (fX10_hasCoin 1 x1 S) fun z1 S2 =>
    if z1 = 0 then (
    some ((-2 : Int32), S2)) else (
    if x2 = (0 : Int32) then (
    if cpIn x1 4 then (
    some ((S2.1 58 x1.toNatClampNeg), S2)) else none) else (if x2 = (1 : Int32) then (
    if cpIn x1 4 then (
    some ((S2.1 9 x1.toNatClampNeg), S2)) else none) else (if x2 = (2 : Int32) then (
    if cpIn x1 4 then (
    some ((S2.1 10 x1.toNatClampNeg), S2)) else none) else (if x2 = (3 : Int32) then (
    if cpIn x1 4 then (
    some ((S2.1 59 x1.toNatClampNeg), S2)) else none) else (
    some ((-2 : Int32), S2))))))
set_option maxRecDepth 100000 in
set_option maxHeartbeats 4000000 in
theorem m_X11_coin (l : Launch) (w : cpW) (A : Nat → Prop) (x1 : Int32) (x2 : Int32) (S : cpS) (r : Int32 × cpS) (h : fX11_coin x1 x2 S = some r) : cpMi l yX11_coin cX11_coin 3 ((some .int)) 1 w A [.ref (w.2.1 0), .int x1, .int x2] S r := by
  refine cpMi.of (lv := [some (.ref (w.2.1 0)), some (.int x1), some (.int x2)]) (by decide) (Nat.le_of_ble_eq_true rfl) rfl (fun p e s m args below meth c C hr => ?_)
  replace C : cpCx p s m args meth c w A cX11_coin RX11 3 := C
  rw [fX11_coin] at h
  refine cj_aload_n C (i := 0) dX11_coin_0 rfl rfl ?_
  refine cj_getR C (d := 1) o_0 rfl gfX11_10 dX11_coin_1 ?_
  refine cj_iload_n C (i := 1) dX11_coin_4 rfl rfl ?_
  refine cj_callVi C (As := [.int x1]) (rest := []) qX10_hasCoin mw_30_1 o_1 rfl rfl rfl (Nat.le_of_ble_eq_true rfl) (by decide) dX11_coin_5 h (fun _ _ hf => m_X10_hasCoin l w A kVy_1 x1 S _ hf) (fun z1 S2 h => ?_)
  refine cj_if_ne C (tgt := 14) dX11_coin_8 rfl h (fun _ h => ?_) (fun _ h => ?_)
  · refine cj_bipush C (v := (-2 : Int32)) dX11_coin_11 rfl ?_
    exact cj_ireturn C hr h dX11_coin_13
  · refine cj_iload_n C (i := 2) dX11_coin_14 rfl rfl ?_
    by_cases hs0 : x2 = (0 : Int32)
    · rw [if_pos hs0] at h
      refine cj_tableIn C (tgt := 44) dX11_coin_15 (by rw [hs0]; decide) (by rw [hs0]; decide) (by rw [hs0]; rfl) rfl ?_
      refine cj_aload_n C (i := 0) dX11_coin_44 rfl rfl ?_
      refine cj_getR C (d := 57) o_0 rfl gfX11_19 dX11_coin_45 ?_
      refine cj_getR C (d := 58) o_57 rfl gfX11_150 dX11_coin_48 ?_
      refine cj_iload_n C (i := 1) dX11_coin_51 rfl rfl ?_
      refine cj_iaload C o_58 h dX11_coin_52 (fun h => ?_)
      exact cj_ireturn C hr h dX11_coin_53
    rw [if_neg hs0] at h
    by_cases hs1 : x2 = (1 : Int32)
    · rw [if_pos hs1] at h
      refine cj_tableIn C (tgt := 54) dX11_coin_15 (by rw [hs1]; decide) (by rw [hs1]; decide) (by rw [hs1]; rfl) rfl ?_
      refine cj_aload_n C (i := 0) dX11_coin_54 rfl rfl ?_
      refine cj_getR C (d := 1) o_0 rfl gfX11_10 dX11_coin_55 ?_
      refine cj_getR C (d := 9) o_1 rfl gfX11_153 dX11_coin_58 ?_
      refine cj_iload_n C (i := 1) dX11_coin_61 rfl rfl ?_
      refine cj_iaload C o_9 h dX11_coin_62 (fun h => ?_)
      exact cj_ireturn C hr h dX11_coin_63
    rw [if_neg hs1] at h
    by_cases hs2 : x2 = (2 : Int32)
    · rw [if_pos hs2] at h
      refine cj_tableIn C (tgt := 64) dX11_coin_15 (by rw [hs2]; decide) (by rw [hs2]; decide) (by rw [hs2]; rfl) rfl ?_
      refine cj_aload_n C (i := 0) dX11_coin_64 rfl rfl ?_
      refine cj_getR C (d := 1) o_0 rfl gfX11_10 dX11_coin_65 ?_
      refine cj_getR C (d := 10) o_1 rfl gfX11_156 dX11_coin_68 ?_
      refine cj_iload_n C (i := 1) dX11_coin_71 rfl rfl ?_
      refine cj_iaload C o_10 h dX11_coin_72 (fun h => ?_)
      exact cj_ireturn C hr h dX11_coin_73
    rw [if_neg hs2] at h
    by_cases hs3 : x2 = (3 : Int32)
    · rw [if_pos hs3] at h
      refine cj_tableIn C (tgt := 74) dX11_coin_15 (by rw [hs3]; decide) (by rw [hs3]; decide) (by rw [hs3]; rfl) rfl ?_
      refine cj_aload_n C (i := 0) dX11_coin_74 rfl rfl ?_
      refine cj_getR C (d := 57) o_0 rfl gfX11_19 dX11_coin_75 ?_
      refine cj_getR C (d := 59) o_57 rfl gfX11_159 dX11_coin_78 ?_
      refine cj_iload_n C (i := 1) dX11_coin_81 rfl rfl ?_
      refine cj_iaload C o_59 h dX11_coin_82 (fun h => ?_)
      exact cj_ireturn C hr h dX11_coin_83
    rw [if_neg hs3] at h
    refine cj_tableOut C (tgt := 84) dX11_coin_15 (cpOut (by decide) (by decide) (fun k h1 h2 => ?_)) rfl ?_
    · rcases (show k = 0 ∨ k = 1 ∨ k = 2 ∨ k = 3 by omega) with rfl | rfl | rfl | rfl
      · exact hs0
      · exact hs1
      · exact hs2
      · exact hs3
    · refine cj_bipush C (v := (-2 : Int32)) dX11_coin_84 rfl ?_
      exact cj_ireturn C hr h dX11_coin_86
/-! X11_road -/
def fX11_road (x1 : Int32) (x2 : Int32) (S : cpS) : Option (Int32 × cpS) :=
    if x1 < 0 then (
    some ((-2 : Int32), S)) else (
    if x1 < (S.1 1 3) then (
    if x2 = (0 : Int32) then (
    if cpIn x1 9 then (
    some ((S.1 2 x1.toNatClampNeg), S)) else none) else (if x2 = (1 : Int32) then (
    if cpIn x1 9 then (
    some ((S.1 3 x1.toNatClampNeg), S)) else none) else (if x2 = (2 : Int32) then (
    if cpIn x1 9 then (
    some ((S.1 4 x1.toNatClampNeg), S)) else none) else (
    some ((-2 : Int32), S))))) else (
    some ((-2 : Int32), S)))
set_option maxRecDepth 100000 in
set_option maxHeartbeats 4000000 in
theorem m_X11_road (l : Launch) (w : cpW) (A : Nat → Prop) (x1 : Int32) (x2 : Int32) (S : cpS) (r : Int32 × cpS) (h : fX11_road x1 x2 S = some r) : cpMi l yX11_road cX11_road 3 ((some .int)) 0 w A [.ref (w.2.1 0), .int x1, .int x2] S r := by
  refine cpMi.of (lv := [some (.ref (w.2.1 0)), some (.int x1), some (.int x2)]) (by decide) (Nat.le_of_ble_eq_true rfl) rfl (fun p e s m args below meth c C hr => ?_)
  replace C : cpCx p s m args meth c w A cX11_road RX11 3 := C
  rw [fX11_road] at h
  refine cj_iload_n C (i := 1) dX11_road_0 rfl rfl ?_
  refine cj_if_lt C (tgt := 15) dX11_road_1 rfl h (fun _ h => ?_) (fun _ h => ?_)
  · refine cj_bipush C (v := (-2 : Int32)) dX11_road_15 rfl ?_
    exact cj_ireturn C hr h dX11_road_17
  · refine cj_iload_n C (i := 1) dX11_road_4 rfl rfl ?_
    refine cj_aload_n C (i := 0) dX11_road_5 rfl rfl ?_
    refine cj_getR C (d := 1) o_0 rfl gfX11_10 dX11_road_6 ?_
    refine cj_getI C (j := 3) o_1 rfl gfX11_162 dX11_road_9 ?_
    refine cj_icmp_lt C (tgt := 18) dX11_road_12 rfl h (fun _ h => ?_) (fun _ h => ?_)
    · refine cj_iload_n C (i := 2) dX11_road_18 rfl rfl ?_
      by_cases hs0 : x2 = (0 : Int32)
      · rw [if_pos hs0] at h
        refine cj_tableIn C (tgt := 44) dX11_road_19 (by rw [hs0]; decide) (by rw [hs0]; decide) (by rw [hs0]; rfl) rfl ?_
        refine cj_aload_n C (i := 0) dX11_road_44 rfl rfl ?_
        refine cj_getR C (d := 1) o_0 rfl gfX11_10 dX11_road_45 ?_
        refine cj_getR C (d := 2) o_1 rfl gfX11_165 dX11_road_48 ?_
        refine cj_iload_n C (i := 1) dX11_road_51 rfl rfl ?_
        refine cj_iaload C o_2 h dX11_road_52 (fun h => ?_)
        exact cj_ireturn C hr h dX11_road_53
      rw [if_neg hs0] at h
      by_cases hs1 : x2 = (1 : Int32)
      · rw [if_pos hs1] at h
        refine cj_tableIn C (tgt := 54) dX11_road_19 (by rw [hs1]; decide) (by rw [hs1]; decide) (by rw [hs1]; rfl) rfl ?_
        refine cj_aload_n C (i := 0) dX11_road_54 rfl rfl ?_
        refine cj_getR C (d := 1) o_0 rfl gfX11_10 dX11_road_55 ?_
        refine cj_getR C (d := 3) o_1 rfl gfX11_168 dX11_road_58 ?_
        refine cj_iload_n C (i := 1) dX11_road_61 rfl rfl ?_
        refine cj_iaload C o_3 h dX11_road_62 (fun h => ?_)
        exact cj_ireturn C hr h dX11_road_63
      rw [if_neg hs1] at h
      by_cases hs2 : x2 = (2 : Int32)
      · rw [if_pos hs2] at h
        refine cj_tableIn C (tgt := 64) dX11_road_19 (by rw [hs2]; decide) (by rw [hs2]; decide) (by rw [hs2]; rfl) rfl ?_
        refine cj_aload_n C (i := 0) dX11_road_64 rfl rfl ?_
        refine cj_getR C (d := 1) o_0 rfl gfX11_10 dX11_road_65 ?_
        refine cj_getR C (d := 4) o_1 rfl gfX11_171 dX11_road_68 ?_
        refine cj_iload_n C (i := 1) dX11_road_71 rfl rfl ?_
        refine cj_iaload C o_4 h dX11_road_72 (fun h => ?_)
        exact cj_ireturn C hr h dX11_road_73
      rw [if_neg hs2] at h
      refine cj_tableOut C (tgt := 74) dX11_road_19 (cpOut (by decide) (by decide) (fun k h1 h2 => ?_)) rfl ?_
      · rcases (show k = 0 ∨ k = 1 ∨ k = 2 by omega) with rfl | rfl | rfl
        · exact hs0
        · exact hs1
        · exact hs2
      · refine cj_bipush C (v := (-2 : Int32)) dX11_road_74 rfl ?_
        exact cj_ireturn C hr h dX11_road_76
    · refine cj_bipush C (v := (-2 : Int32)) dX11_road_15 rfl ?_
      exact cj_ireturn C hr h dX11_road_17
/-! X11_far -/
def fX11_far (x1 : Int32) (x2 : Int32) (S : cpS) : Option (Int32 × cpS) :=
    cpB (fX10_hasPlace 1 x1 S) fun z1 S2 =>
    if z1 = 0 then (
    some ((-2 : Int32), S2)) else (
    cpB (fX10_hasPlace 1 x2 S2) fun z3 S4 =>
    if z3 = 0 then (
    some ((-2 : Int32), S4)) else (
    cpB (fX10_distance 1 x1 x2 S4) fun z5 S6 =>
    some (z5, S6)))
set_option maxRecDepth 100000 in
set_option maxHeartbeats 4000000 in
theorem m_X11_far (l : Launch) (w : cpW) (A : Nat → Prop) (x1 : Int32) (x2 : Int32) (S : cpS) (r : Int32 × cpS) (h : fX11_far x1 x2 S = some r) : cpMi l yX11_far cX11_far 3 ((some .int)) 1 w A [.ref (w.2.1 0), .int x1, .int x2] S r := by
  refine cpMi.of (lv := [some (.ref (w.2.1 0)), some (.int x1), some (.int x2)]) (by decide) (Nat.le_of_ble_eq_true rfl) rfl (fun p e s m args below meth c C hr => ?_)
  replace C : cpCx p s m args meth c w A cX11_far RX11 3 := C
  rw [fX11_far] at h
  refine cj_aload_n C (i := 0) dX11_far_0 rfl rfl ?_
  refine cj_getR C (d := 1) o_0 rfl gfX11_10 dX11_far_1 ?_
  refine cj_iload_n C (i := 1) dX11_far_4 rfl rfl ?_
  refine cj_callVi C (As := [.int x1]) (rest := []) qX10_hasPlace mw_31_10 o_1 rfl rfl rfl (Nat.le_of_ble_eq_true rfl) (by decide) dX11_far_5 h (fun _ _ hf => m_X10_hasPlace l w A kVy_1 x1 S _ hf) (fun z1 S2 h => ?_)
  refine cj_if_eq C (tgt := 22) dX11_far_8 rfl h (fun _ h => ?_) (fun _ h => ?_)
  · refine cj_bipush C (v := (-2 : Int32)) dX11_far_22 rfl ?_
    exact cj_ireturn C hr h dX11_far_24
  · refine cj_aload_n C (i := 0) dX11_far_11 rfl rfl ?_
    refine cj_getR C (d := 1) o_0 rfl gfX11_10 dX11_far_12 ?_
    refine cj_iload_n C (i := 2) dX11_far_15 rfl rfl ?_
    refine cj_callVi C (As := [.int x2]) (rest := []) qX10_hasPlace mw_31_10 o_1 rfl rfl rfl (Nat.le_of_ble_eq_true rfl) (by decide) dX11_far_16 h (fun _ _ hf => m_X10_hasPlace l w A kVy_1 x2 S2 _ hf) (fun z3 S4 h => ?_)
    refine cj_if_ne C (tgt := 25) dX11_far_19 rfl h (fun _ h => ?_) (fun _ h => ?_)
    · refine cj_bipush C (v := (-2 : Int32)) dX11_far_22 rfl ?_
      exact cj_ireturn C hr h dX11_far_24
    · refine cj_aload_n C (i := 0) dX11_far_25 rfl rfl ?_
      refine cj_getR C (d := 1) o_0 rfl gfX11_10 dX11_far_26 ?_
      refine cj_iload_n C (i := 1) dX11_far_29 rfl rfl ?_
      refine cj_iload_n C (i := 2) dX11_far_30 rfl rfl ?_
      refine cj_callVi C (As := [.int x1, .int x2]) (rest := []) qX10_distance mw_31_14 o_1 rfl rfl rfl (Nat.le_of_ble_eq_true rfl) (by decide) dX11_far_31 h (fun _ _ hf => m_X10_distance l w A kVy_1 x1 x2 S4 _ hf) (fun z5 S6 h => ?_)
      exact cj_ireturn C hr h dX11_far_34
/-! X11_why -/
def fX11_why (x1 : Int32) (x2 : Int32) (x3 : Int32) (x4 : Int32) (S : cpS) : Option (Int32 × cpS) :=
    cpB (fX0_wearAt x1 x2 x3 x4 (S.1 57 3) S) fun z1 S2 =>
    if 0 ≤ z1 then (
    some ((0 : Int32), S2)) else (
    some ((-z1), S2))
set_option maxRecDepth 100000 in
set_option maxHeartbeats 4000000 in
theorem m_X11_why (l : Launch) (w : cpW) (A : Nat → Prop) (x1 : Int32) (x2 : Int32) (x3 : Int32) (x4 : Int32) (S : cpS) (r : Int32 × cpS) (h : fX11_why x1 x2 x3 x4 S = some r) : cpMi l yX11_why cX11_why 6 ((some .int)) 5 w A [.ref (w.2.1 0), .int x1, .int x2, .int x3, .int x4] S r := by
  refine cpMi.of (lv := [some (.ref (w.2.1 0)), some (.int x1), some (.int x2), some (.int x3), some (.int x4), none]) (by decide) (Nat.le_of_ble_eq_true rfl) rfl (fun p e s m args below meth c C hr => ?_)
  replace C : cpCx p s m args meth c w A cX11_why RX11 6 := C
  rw [fX11_why] at h
  refine cj_aload_n C (i := 0) dX11_why_0 rfl rfl ?_
  refine cj_getR C (d := 117) o_0 rfl gfX11_45 dX11_why_1 ?_
  refine cj_iload_n C (i := 1) dX11_why_4 rfl rfl ?_
  refine cj_iload_n C (i := 2) dX11_why_5 rfl rfl ?_
  refine cj_iload_n C (i := 3) dX11_why_6 rfl rfl ?_
  refine cj_iload C dX11_why_7 rfl ?_
  refine cj_aload_n C (i := 0) dX11_why_9 rfl rfl ?_
  refine cj_getR C (d := 57) o_0 rfl gfX11_19 dX11_why_10 ?_
  refine cj_getI C (j := 3) o_57 rfl gfX11_181 dX11_why_13 ?_
  refine cj_callVi C (As := [.int x1, .int x2, .int x3, .int x4, .int (S.1 57 3)]) (rest := []) qX0_wearAt mw_32_16 o_117 rfl rfl rfl (Nat.le_of_ble_eq_true rfl) (by decide) dX11_why_16 h (fun _ _ hf => m_X0_wearAt l w A x1 x2 x3 x4 (S.1 57 3) S _ hf) (fun z1 S2 h => ?_)
  refine cj_istore C (lv' := [some (.ref (w.2.1 0)), some (.int x1), some (.int x2), some (.int x3), some (.int x4), some (.int z1)]) dX11_why_19 (by decide) rfl rfl ?_
  refine cj_iload C dX11_why_21 rfl ?_
  refine cj_if_ge C (tgt := 32) dX11_why_23 rfl h (fun _ h => ?_) (fun _ h => ?_)
  · refine cj_iconst C (v := (0 : Int32)) dX11_why_32 rfl ?_
    exact cj_ireturn C hr h dX11_why_33
  · refine cj_iload C dX11_why_26 rfl ?_
    refine cj_ineg C dX11_why_28 ?_
    refine cj_goto C (tgt := 33) dX11_why_29 rfl ?_
    exact cj_ireturn C hr h dX11_why_33
/-! X11_worn -/
def fX11_worn (x1 : Int32) (x2 : Int32) (x3 : Int32) (x4 : Int32) (S : cpS) : Option (Int32 × cpS) :=
    cpB (fX0_wearAt x1 x2 x3 x4 (S.1 57 3) S) fun z1 S2 =>
    if z1 = (-1 : Int32) then (
    some ((-2 : Int32), S2)) else (
    if 0 ≤ z1 then (
    some (z1, S2)) else (
    some ((-5 : Int32), S2)))
set_option maxRecDepth 100000 in
set_option maxHeartbeats 4000000 in
theorem m_X11_worn (l : Launch) (w : cpW) (A : Nat → Prop) (x1 : Int32) (x2 : Int32) (x3 : Int32) (x4 : Int32) (S : cpS) (r : Int32 × cpS) (h : fX11_worn x1 x2 x3 x4 S = some r) : cpMi l yX11_worn cX11_worn 6 ((some .int)) 5 w A [.ref (w.2.1 0), .int x1, .int x2, .int x3, .int x4] S r := by
  refine cpMi.of (lv := [some (.ref (w.2.1 0)), some (.int x1), some (.int x2), some (.int x3), some (.int x4), none]) (by decide) (Nat.le_of_ble_eq_true rfl) rfl (fun p e s m args below meth c C hr => ?_)
  replace C : cpCx p s m args meth c w A cX11_worn RX11 6 := C
  rw [fX11_worn] at h
  refine cj_aload_n C (i := 0) dX11_worn_0 rfl rfl ?_
  refine cj_getR C (d := 117) o_0 rfl gfX11_45 dX11_worn_1 ?_
  refine cj_iload_n C (i := 1) dX11_worn_4 rfl rfl ?_
  refine cj_iload_n C (i := 2) dX11_worn_5 rfl rfl ?_
  refine cj_iload_n C (i := 3) dX11_worn_6 rfl rfl ?_
  refine cj_iload C dX11_worn_7 rfl ?_
  refine cj_aload_n C (i := 0) dX11_worn_9 rfl rfl ?_
  refine cj_getR C (d := 57) o_0 rfl gfX11_19 dX11_worn_10 ?_
  refine cj_getI C (j := 3) o_57 rfl gfX11_181 dX11_worn_13 ?_
  refine cj_callVi C (As := [.int x1, .int x2, .int x3, .int x4, .int (S.1 57 3)]) (rest := []) qX0_wearAt mw_32_16 o_117 rfl rfl rfl (Nat.le_of_ble_eq_true rfl) (by decide) dX11_worn_16 h (fun _ _ hf => m_X0_wearAt l w A x1 x2 x3 x4 (S.1 57 3) S _ hf) (fun z1 S2 h => ?_)
  refine cj_istore C (lv' := [some (.ref (w.2.1 0)), some (.int x1), some (.int x2), some (.int x3), some (.int x4), some (.int z1)]) dX11_worn_19 (by decide) rfl rfl ?_
  refine cj_iload C dX11_worn_21 rfl ?_
  refine cj_iconst C (v := (-1 : Int32)) dX11_worn_23 rfl ?_
  refine cj_icmp_ne C (tgt := 30) dX11_worn_24 rfl h (fun _ h => ?_) (fun _ h => ?_)
  · refine cj_bipush C (v := (-2 : Int32)) dX11_worn_27 rfl ?_
    exact cj_ireturn C hr h dX11_worn_29
  · refine cj_iload C dX11_worn_30 rfl ?_
    refine cj_if_ge C (tgt := 40) dX11_worn_32 rfl h (fun _ h => ?_) (fun _ h => ?_)
    · refine cj_iload C dX11_worn_40 rfl ?_
      exact cj_ireturn C hr h dX11_worn_42
    · refine cj_bipush C (v := (-5 : Int32)) dX11_worn_35 rfl ?_
      refine cj_goto C (tgt := 42) dX11_worn_37 rfl ?_
      exact cj_ireturn C hr h dX11_worn_42
/-! X11_coinAndPlace -/
def fX11_coinAndPlace (x1 : Int32) (x2 : Int32) (S : cpS) : Option (Int32 × cpS) :=
    cpB (fX10_hasCoin 1 x1 S) fun z1 S2 =>
    if z1 = 0 then (
    some ((0 : Int32), S2)) else (
    cpB (fX10_hasPlace 1 x2 S2) fun z3 S4 =>
    if z3 = 0 then (
    some ((0 : Int32), S4)) else (
    some ((1 : Int32), S4)))
set_option maxRecDepth 100000 in
set_option maxHeartbeats 4000000 in
theorem m_X11_coinAndPlace (l : Launch) (w : cpW) (A : Nat → Prop) (x1 : Int32) (x2 : Int32) (S : cpS) (r : Int32 × cpS) (h : fX11_coinAndPlace x1 x2 S = some r) : cpMi l yX11_coinAndPlace cX11_coinAndPlace 3 ((some .boolean)) 1 w A [.ref (w.2.1 0), .int x1, .int x2] S r := by
  refine cpMi.of (lv := [some (.ref (w.2.1 0)), some (.int x1), some (.int x2)]) (by decide) (Nat.le_of_ble_eq_true rfl) rfl (fun p e s m args below meth c C hr => ?_)
  replace C : cpCx p s m args meth c w A cX11_coinAndPlace RX11 3 := C
  rw [fX11_coinAndPlace] at h
  refine cj_aload_n C (i := 0) dX11_coinAndPlace_0 rfl rfl ?_
  refine cj_getR C (d := 1) o_0 rfl gfX11_10 dX11_coinAndPlace_1 ?_
  refine cj_iload_n C (i := 1) dX11_coinAndPlace_4 rfl rfl ?_
  refine cj_callVi C (As := [.int x1]) (rest := []) qX10_hasCoin mw_30_1 o_1 rfl rfl rfl (Nat.le_of_ble_eq_true rfl) (by decide) dX11_coinAndPlace_5 h (fun _ _ hf => m_X10_hasCoin l w A kVy_1 x1 S _ hf) (fun z1 S2 h => ?_)
  refine cj_if_eq C (tgt := 26) dX11_coinAndPlace_8 rfl h (fun _ h => ?_) (fun _ h => ?_)
  · refine cj_iconst C (v := (0 : Int32)) dX11_coinAndPlace_26 rfl ?_
    exact cj_zreturn C hr rfl h dX11_coinAndPlace_27
  · refine cj_aload_n C (i := 0) dX11_coinAndPlace_11 rfl rfl ?_
    refine cj_getR C (d := 1) o_0 rfl gfX11_10 dX11_coinAndPlace_12 ?_
    refine cj_iload_n C (i := 2) dX11_coinAndPlace_15 rfl rfl ?_
    refine cj_callVi C (As := [.int x2]) (rest := []) qX10_hasPlace mw_31_10 o_1 rfl rfl rfl (Nat.le_of_ble_eq_true rfl) (by decide) dX11_coinAndPlace_16 h (fun _ _ hf => m_X10_hasPlace l w A kVy_1 x2 S2 _ hf) (fun z3 S4 h => ?_)
    refine cj_if_eq C (tgt := 26) dX11_coinAndPlace_19 rfl h (fun _ h => ?_) (fun _ h => ?_)
    · refine cj_iconst C (v := (0 : Int32)) dX11_coinAndPlace_26 rfl ?_
      exact cj_zreturn C hr rfl h dX11_coinAndPlace_27
    · refine cj_iconst C (v := (1 : Int32)) dX11_coinAndPlace_22 rfl ?_
      refine cj_goto C (tgt := 27) dX11_coinAndPlace_23 rfl ?_
      exact cj_zreturn C hr rfl h dX11_coinAndPlace_27
/-! X11_bearers -/
def fX11_bearers_17 (x1 : Int32) (x2 : Int32) : Nat → Int32 → Int32 → cpS → Option (Int32 × cpS)
  | 0, _, _, _ => none
  | n + 1, x3, x4, S =>
    if (28 : Int32) ≤ x4 then (
    some (x3, S)) else (
    if cpIn x4 28 then (
    if cpIn x4 28 then (
    cpB (fX0_wearAt (cpLs x4.toNatClampNeg) (cpOs x4.toNatClampNeg) x1 x2 (S.1 57 3) S) fun z1 S2 =>
    if z1 < 0 then (
    fX11_bearers_17 x1 x2 n x3 (x4 + 1) S2) else (
    fX11_bearers_17 x1 x2 n (x3 + 1) (x4 + 1) S2)) else none) else none)
set_option maxRecDepth 100000 in
set_option maxHeartbeats 4000000 in
theorem wX11_bearers_17 (C : cpCx p s m args meth c w A cX11_bearers RX11 5) (hr : meth.sig.returnType = (some .int)) {r : Int32 × cpS} (x1 : Int32) (x2 : Int32) : ∀ (n : Nat) (x3 : Int32) (x4 : Int32) (S : cpS), fX11_bearers_17 x1 x2 n x3 x4 S = some r → cpJ p l e (cpRm 5) s m args below meth c (MQ below (va_Qi (fun x S' => (x, S') = r) (cpWorld w A) A) args s 0 0 A) w A 5 17 [some (.ref (w.2.1 0)), some (.int x1), some (.int x2), some (.int x3), some (.int x4)] [] S := by
  intro n
  induction n with
  | zero => intro x3 x4 S h; rw [fX11_bearers_17] at h; cases h
  | succ n ih =>
    intro x3 x4 S h
    rw [fX11_bearers_17] at h
    refine cj_iload C dX11_bearers_17 rfl ?_
    refine cj_bipush C (v := (28 : Int32)) dX11_bearers_19 rfl ?_
    refine cj_icmp_ge C (tgt := 64) dX11_bearers_21 rfl h (fun _ h => ?_) (fun _ h => ?_)
    · refine cj_iload_n C (i := 3) dX11_bearers_64 rfl rfl ?_
      exact cj_ireturn C hr h dX11_bearers_65
    · refine cj_aload_n C (i := 0) dX11_bearers_24 rfl rfl ?_
      refine cj_getR C (d := 117) o_0 rfl gfX11_45 dX11_bearers_25 ?_
      refine cj_gets0 C mw_38_5 dX11_bearers_28 ?_
      refine cj_iload C dX11_bearers_31 rfl ?_
      refine cj_tab0 C h dX11_bearers_33 (fun h => ?_)
      refine cj_gets1 C mw_38_6 dX11_bearers_34 ?_
      refine cj_iload C dX11_bearers_37 rfl ?_
      refine cj_tab1 C h dX11_bearers_39 (fun h => ?_)
      refine cj_iload_n C (i := 1) dX11_bearers_40 rfl rfl ?_
      refine cj_iload_n C (i := 2) dX11_bearers_41 rfl rfl ?_
      refine cj_aload_n C (i := 0) dX11_bearers_42 rfl rfl ?_
      refine cj_getR C (d := 57) o_0 rfl gfX11_19 dX11_bearers_43 ?_
      refine cj_getI C (j := 3) o_57 rfl gfX11_181 dX11_bearers_46 ?_
      refine cj_callVi C (As := [.int (cpLs x4.toNatClampNeg), .int (cpOs x4.toNatClampNeg), .int x1, .int x2, .int (S.1 57 3)]) (rest := []) qX0_wearAt mw_32_16 o_117 rfl rfl rfl (Nat.le_of_ble_eq_true rfl) (by decide) dX11_bearers_49 h (fun _ _ hf => m_X0_wearAt l w A (cpLs x4.toNatClampNeg) (cpOs x4.toNatClampNeg) x1 x2 (S.1 57 3) S _ hf) (fun z1 S2 h => ?_)
      refine cj_if_lt C (tgt := 58) dX11_bearers_52 rfl h (fun _ h => ?_) (fun _ h => ?_)
      · refine cj_iinc C (v := (x4 + 1)) (lv' := [some (.ref (w.2.1 0)), some (.int x1), some (.int x2), some (.int x3), some (.int (x4 + 1))]) dX11_bearers_58 rfl rfl (by decide) rfl rfl ?_
        refine cj_goto C (tgt := 17) dX11_bearers_61 rfl ?_
        exact ih x3 (x4 + 1) S2 h
      · refine cj_iinc C (v := (x3 + 1)) (lv' := [some (.ref (w.2.1 0)), some (.int x1), some (.int x2), some (.int (x3 + 1)), some (.int x4)]) dX11_bearers_55 rfl rfl (by decide) rfl rfl ?_
        refine cj_iinc C (v := (x4 + 1)) (lv' := [some (.ref (w.2.1 0)), some (.int x1), some (.int x2), some (.int (x3 + 1)), some (.int (x4 + 1))]) dX11_bearers_58 rfl rfl (by decide) rfl rfl ?_
        refine cj_goto C (tgt := 17) dX11_bearers_61 rfl ?_
        exact ih (x3 + 1) (x4 + 1) S2 h
def fX11_bearers (x1 : Int32) (x2 : Int32) (S : cpS) : Option (Int32 × cpS) :=
    cpB (fX11_coinAndPlace x1 x2 S) fun z1 S2 =>
    if z1 = 0 then (
    some ((-2 : Int32), S2)) else (
    fX11_bearers_17 x1 x2 cpFu (0 : Int32) (0 : Int32) S2)
set_option maxRecDepth 100000 in
set_option maxHeartbeats 4000000 in
theorem m_X11_bearers (l : Launch) (w : cpW) (A : Nat → Prop) (x1 : Int32) (x2 : Int32) (S : cpS) (r : Int32 × cpS) (h : fX11_bearers x1 x2 S = some r) : cpMi l yX11_bearers cX11_bearers 5 ((some .int)) 5 w A [.ref (w.2.1 0), .int x1, .int x2] S r := by
  refine cpMi.of (lv := [some (.ref (w.2.1 0)), some (.int x1), some (.int x2), none, none]) (by decide) (Nat.le_of_ble_eq_true rfl) rfl (fun p e s m args below meth c C hr => ?_)
  replace C : cpCx p s m args meth c w A cX11_bearers RX11 5 := C
  rw [fX11_bearers] at h
  refine cj_aload_n C (i := 0) dX11_bearers_0 rfl rfl ?_
  refine cj_iload_n C (i := 1) dX11_bearers_1 rfl rfl ?_
  refine cj_iload_n C (i := 2) dX11_bearers_2 rfl rfl ?_
  refine cj_callVi C (As := [.int x1, .int x2]) (rest := []) qX11_coinAndPlace mw_38_7 o_0 rfl rfl rfl (Nat.le_of_ble_eq_true rfl) (by decide) dX11_bearers_3 h (fun _ _ hf => m_X11_coinAndPlace l w A x1 x2 S _ hf) (fun z1 S2 h => ?_)
  refine cj_if_ne C (tgt := 12) dX11_bearers_6 rfl h (fun _ h => ?_) (fun _ h => ?_)
  · refine cj_bipush C (v := (-2 : Int32)) dX11_bearers_9 rfl ?_
    exact cj_ireturn C hr h dX11_bearers_11
  · refine cj_iconst C (v := (0 : Int32)) dX11_bearers_12 rfl ?_
    refine cj_istore_n C (i := 3) (lv' := [some (.ref (w.2.1 0)), some (.int x1), some (.int x2), some (.int (0 : Int32)), none]) dX11_bearers_13 rfl (by decide) rfl rfl ?_
    refine cj_iconst C (v := (0 : Int32)) dX11_bearers_14 rfl ?_
    refine cj_istore C (lv' := [some (.ref (w.2.1 0)), some (.int x1), some (.int x2), some (.int (0 : Int32)), some (.int (0 : Int32))]) dX11_bearers_15 (by decide) rfl rfl ?_
    exact wX11_bearers_17 C hr x1 x2 cpFu (0 : Int32) (0 : Int32) S2 h
/-! X11_carry -/
def fX11_carry (x1 : Int32) (x2 : Int32) (x3 : Int32) (x4 : Int32) (S : cpS) : Option (Int32 × cpS) :=
    cpB (fX0_wearAt x1 x2 x3 x4 (S.1 57 3) S) fun z1 S2 =>
    if 0 ≤ z1 then (
    cpB (fX6_keep 57 S2) fun _ S4 =>
    cpB (fX5_move 57 x3 x4 z1 S4) fun _ S6 =>
    some (z1, S6)) else (
    some (((-10 : Int32) + z1), S2))
set_option maxRecDepth 100000 in
set_option maxHeartbeats 4000000 in
theorem m_X11_carry (l : Launch) (w : cpW) (A : Nat → Prop) (x1 : Int32) (x2 : Int32) (x3 : Int32) (x4 : Int32) (S : cpS) (r : Int32 × cpS) (h : fX11_carry x1 x2 x3 x4 S = some r) : cpMi l yX11_carry cX11_carry 6 ((some .int)) 5 w A [.ref (w.2.1 0), .int x1, .int x2, .int x3, .int x4] S r := by
  refine cpMi.of (lv := [some (.ref (w.2.1 0)), some (.int x1), some (.int x2), some (.int x3), some (.int x4), none]) (by decide) (Nat.le_of_ble_eq_true rfl) rfl (fun p e s m args below meth c C hr => ?_)
  replace C : cpCx p s m args meth c w A cX11_carry RX11 6 := C
  rw [fX11_carry] at h
  refine cj_aload_n C (i := 0) dX11_carry_0 rfl rfl ?_
  refine cj_getR C (d := 117) o_0 rfl gfX11_45 dX11_carry_1 ?_
  refine cj_iload_n C (i := 1) dX11_carry_4 rfl rfl ?_
  refine cj_iload_n C (i := 2) dX11_carry_5 rfl rfl ?_
  refine cj_iload_n C (i := 3) dX11_carry_6 rfl rfl ?_
  refine cj_iload C dX11_carry_7 rfl ?_
  refine cj_aload_n C (i := 0) dX11_carry_9 rfl rfl ?_
  refine cj_getR C (d := 57) o_0 rfl gfX11_19 dX11_carry_10 ?_
  refine cj_getI C (j := 3) o_57 rfl gfX11_181 dX11_carry_13 ?_
  refine cj_callVi C (As := [.int x1, .int x2, .int x3, .int x4, .int (S.1 57 3)]) (rest := []) qX0_wearAt mw_32_16 o_117 rfl rfl rfl (Nat.le_of_ble_eq_true rfl) (by decide) dX11_carry_16 h (fun _ _ hf => m_X0_wearAt l w A x1 x2 x3 x4 (S.1 57 3) S _ hf) (fun z1 S2 h => ?_)
  refine cj_istore C (lv' := [some (.ref (w.2.1 0)), some (.int x1), some (.int x2), some (.int x3), some (.int x4), some (.int z1)]) dX11_carry_19 (by decide) rfl rfl ?_
  refine cj_iload C dX11_carry_21 rfl ?_
  refine cj_if_ge C (tgt := 32) dX11_carry_23 rfl h (fun _ h => ?_) (fun _ h => ?_)
  · refine cj_aload_n C (i := 0) dX11_carry_32 rfl rfl ?_
    refine cj_getR C (d := 113) o_0 rfl gfX11_29 dX11_carry_33 ?_
    refine cj_aload_n C (i := 0) dX11_carry_36 rfl rfl ?_
    refine cj_getR C (d := 57) o_0 rfl gfX11_19 dX11_carry_37 ?_
    refine cj_callVv C (As := [.ref (w.2.1 57)]) (rest := []) qX6_keep mw_38_23 o_113 rfl rfl rfl (Nat.le_of_ble_eq_true rfl) (by decide) dX11_carry_40 h (fun _ _ hf => m_X6_keep l w A kNw_57 S2 _ hf) (fun z3 S4 h => ?_)
    refine cj_aload_n C (i := 0) dX11_carry_43 rfl rfl ?_
    refine cj_getR C (d := 57) o_0 rfl gfX11_19 dX11_carry_44 ?_
    refine cj_iload_n C (i := 3) dX11_carry_47 rfl rfl ?_
    refine cj_iload C dX11_carry_48 rfl ?_
    refine cj_iload C dX11_carry_50 rfl ?_
    refine cj_callVv C (As := [.int x3, .int x4, .int z1]) (rest := []) qX5_move mw_39_9 o_57 rfl rfl rfl (Nat.le_of_ble_eq_true rfl) (by decide) dX11_carry_52 h (fun _ _ hf => m_X5_move l w A kNw_57 x3 x4 z1 S4 _ hf) (fun z5 S6 h => ?_)
    refine cj_iload C dX11_carry_55 rfl ?_
    exact cj_ireturn C hr h dX11_carry_57
  · refine cj_bipush C (v := (-10 : Int32)) dX11_carry_26 rfl ?_
    refine cj_iload C dX11_carry_28 rfl ?_
    refine cj_iadd C dX11_carry_30 ?_
    exact cj_ireturn C hr h dX11_carry_31
/-! X11_quarrel -/
def fX11_quarrel (x1 : Int32) (x2 : Int32) (S : cpS) : Option (Int32 × cpS) :=
    cpB (fX5_copyFrom 61 57 S) fun _ S2 =>
    cpB (fX0_quarrelNow x1 x2 S2) fun z3 S4 =>
    if z3 = 0 then (
    cpB (fX6_keep 61 S4) fun _ S6 =>
    cpB (fX5_feuding 57 x1 x2 S6) fun z7 S8 =>
    if z7 = 0 then (
    some ((0 : Int32), S8)) else (
    some ((1 : Int32), S8))) else (
    some (((-10 : Int32) - z3), S4))
set_option maxRecDepth 100000 in
set_option maxHeartbeats 4000000 in
theorem m_X11_quarrel (l : Launch) (w : cpW) (A : Nat → Prop) (x1 : Int32) (x2 : Int32) (S : cpS) (r : Int32 × cpS) (h : fX11_quarrel x1 x2 S = some r) : cpMi l yX11_quarrel cX11_quarrel 4 ((some .int)) 3 w A [.ref (w.2.1 0), .int x1, .int x2] S r := by
  refine cpMi.of (lv := [some (.ref (w.2.1 0)), some (.int x1), some (.int x2), none]) (by decide) (Nat.le_of_ble_eq_true rfl) rfl (fun p e s m args below meth c C hr => ?_)
  replace C : cpCx p s m args meth c w A cX11_quarrel RX11 4 := C
  rw [fX11_quarrel] at h
  refine cj_aload_n C (i := 0) dX11_quarrel_0 rfl rfl ?_
  refine cj_getR C (d := 61) o_0 rfl gfX11_23 dX11_quarrel_1 ?_
  refine cj_aload_n C (i := 0) dX11_quarrel_4 rfl rfl ?_
  refine cj_getR C (d := 57) o_0 rfl gfX11_19 dX11_quarrel_5 ?_
  refine cj_callVv C (As := [.ref (w.2.1 57)]) (rest := []) qX5_copyFrom mw_40_9 o_61 rfl rfl rfl (Nat.le_of_ble_eq_true rfl) (by decide) dX11_quarrel_8 h (fun _ _ hf => m_X5_copyFrom l w A kNw_61 kNw_57 S _ hf) (fun z1 S2 h => ?_)
  refine cj_aload_n C (i := 0) dX11_quarrel_11 rfl rfl ?_
  refine cj_getR C (d := 117) o_0 rfl gfX11_45 dX11_quarrel_12 ?_
  refine cj_iload_n C (i := 1) dX11_quarrel_15 rfl rfl ?_
  refine cj_iload_n C (i := 2) dX11_quarrel_16 rfl rfl ?_
  refine cj_callVi C (As := [.int x1, .int x2]) (rest := []) qX0_quarrelNow mw_40_10 o_117 rfl rfl rfl (Nat.le_of_ble_eq_true rfl) (by decide) dX11_quarrel_17 h (fun _ _ hf => m_X0_quarrelNow l w A x1 x2 S2 _ hf) (fun z3 S4 h => ?_)
  refine cj_istore_n C (i := 3) (lv' := [some (.ref (w.2.1 0)), some (.int x1), some (.int x2), some (.int z3)]) dX11_quarrel_20 rfl (by decide) rfl rfl ?_
  refine cj_iload_n C (i := 3) dX11_quarrel_21 rfl rfl ?_
  refine cj_if_eq C (tgt := 30) dX11_quarrel_22 rfl h (fun _ h => ?_) (fun _ h => ?_)
  · refine cj_aload_n C (i := 0) dX11_quarrel_30 rfl rfl ?_
    refine cj_getR C (d := 113) o_0 rfl gfX11_29 dX11_quarrel_31 ?_
    refine cj_aload_n C (i := 0) dX11_quarrel_34 rfl rfl ?_
    refine cj_getR C (d := 61) o_0 rfl gfX11_23 dX11_quarrel_35 ?_
    refine cj_callVv C (As := [.ref (w.2.1 61)]) (rest := []) qX6_keep mw_38_23 o_113 rfl rfl rfl (Nat.le_of_ble_eq_true rfl) (by decide) dX11_quarrel_38 h (fun _ _ hf => m_X6_keep l w A kNw_61 S4 _ hf) (fun z5 S6 h => ?_)
    refine cj_aload_n C (i := 0) dX11_quarrel_41 rfl rfl ?_
    refine cj_getR C (d := 57) o_0 rfl gfX11_19 dX11_quarrel_42 ?_
    refine cj_iload_n C (i := 1) dX11_quarrel_45 rfl rfl ?_
    refine cj_iload_n C (i := 2) dX11_quarrel_46 rfl rfl ?_
    refine cj_callVi C (As := [.int x1, .int x2]) (rest := []) qX5_feuding mw_40_15 o_57 rfl rfl rfl (Nat.le_of_ble_eq_true rfl) (by decide) dX11_quarrel_47 h (fun _ _ hf => m_X5_feuding l w A kNw_57 x1 x2 S6 _ hf) (fun z7 S8 h => ?_)
    refine cj_if_eq C (tgt := 57) dX11_quarrel_50 rfl h (fun _ h => ?_) (fun _ h => ?_)
    · refine cj_iconst C (v := (0 : Int32)) dX11_quarrel_57 rfl ?_
      exact cj_ireturn C hr h dX11_quarrel_58
    · refine cj_iconst C (v := (1 : Int32)) dX11_quarrel_53 rfl ?_
      refine cj_goto C (tgt := 58) dX11_quarrel_54 rfl ?_
      exact cj_ireturn C hr h dX11_quarrel_58
  · refine cj_bipush C (v := (-10 : Int32)) dX11_quarrel_25 rfl ?_
    refine cj_iload_n C (i := 3) dX11_quarrel_27 rfl rfl ?_
    refine cj_isub C dX11_quarrel_28 ?_
    exact cj_ireturn C hr h dX11_quarrel_29
/-! X11_hour -/
def fX11_hour (x1 : Int32) (S : cpS) : Option (Int32 × cpS) :=
    cpB (fX5_copyFrom 61 57 S) fun _ S2 =>
    cpB (fX0_hourNow x1 S2) fun z3 S4 =>
    if z3 = 0 then (
    cpB (fX6_keep 61 S4) fun _ S6 =>
    some ((S6.1 61 3), S6)) else (
    some (((-10 : Int32) - z3), S4))
set_option maxRecDepth 100000 in
set_option maxHeartbeats 4000000 in
theorem m_X11_hour (l : Launch) (w : cpW) (A : Nat → Prop) (x1 : Int32) (S : cpS) (r : Int32 × cpS) (h : fX11_hour x1 S = some r) : cpMi l yX11_hour cX11_hour 3 ((some .int)) 3 w A [.ref (w.2.1 0), .int x1] S r := by
  refine cpMi.of (lv := [some (.ref (w.2.1 0)), some (.int x1), none]) (by decide) (Nat.le_of_ble_eq_true rfl) rfl (fun p e s m args below meth c C hr => ?_)
  replace C : cpCx p s m args meth c w A cX11_hour RX11 3 := C
  rw [fX11_hour] at h
  refine cj_aload_n C (i := 0) dX11_hour_0 rfl rfl ?_
  refine cj_getR C (d := 61) o_0 rfl gfX11_23 dX11_hour_1 ?_
  refine cj_aload_n C (i := 0) dX11_hour_4 rfl rfl ?_
  refine cj_getR C (d := 57) o_0 rfl gfX11_19 dX11_hour_5 ?_
  refine cj_callVv C (As := [.ref (w.2.1 57)]) (rest := []) qX5_copyFrom mw_40_9 o_61 rfl rfl rfl (Nat.le_of_ble_eq_true rfl) (by decide) dX11_hour_8 h (fun _ _ hf => m_X5_copyFrom l w A kNw_61 kNw_57 S _ hf) (fun z1 S2 h => ?_)
  refine cj_aload_n C (i := 0) dX11_hour_11 rfl rfl ?_
  refine cj_getR C (d := 117) o_0 rfl gfX11_45 dX11_hour_12 ?_
  refine cj_iload_n C (i := 1) dX11_hour_15 rfl rfl ?_
  refine cj_callVi C (As := [.int x1]) (rest := []) qX0_hourNow mw_41_8 o_117 rfl rfl rfl (Nat.le_of_ble_eq_true rfl) (by decide) dX11_hour_16 h (fun _ _ hf => m_X0_hourNow l w A x1 S2 _ hf) (fun z3 S4 h => ?_)
  refine cj_istore_n C (i := 2) (lv' := [some (.ref (w.2.1 0)), some (.int x1), some (.int z3)]) dX11_hour_19 rfl (by decide) rfl rfl ?_
  refine cj_iload_n C (i := 2) dX11_hour_20 rfl rfl ?_
  refine cj_if_eq C (tgt := 29) dX11_hour_21 rfl h (fun _ h => ?_) (fun _ h => ?_)
  · refine cj_aload_n C (i := 0) dX11_hour_29 rfl rfl ?_
    refine cj_getR C (d := 113) o_0 rfl gfX11_29 dX11_hour_30 ?_
    refine cj_aload_n C (i := 0) dX11_hour_33 rfl rfl ?_
    refine cj_getR C (d := 61) o_0 rfl gfX11_23 dX11_hour_34 ?_
    refine cj_callVv C (As := [.ref (w.2.1 61)]) (rest := []) qX6_keep mw_38_23 o_113 rfl rfl rfl (Nat.le_of_ble_eq_true rfl) (by decide) dX11_hour_37 h (fun _ _ hf => m_X6_keep l w A kNw_61 S4 _ hf) (fun z5 S6 h => ?_)
    refine cj_aload_n C (i := 0) dX11_hour_40 rfl rfl ?_
    refine cj_getR C (d := 61) o_0 rfl gfX11_23 dX11_hour_41 ?_
    refine cj_getI C (j := 3) o_61 rfl gfX11_181 dX11_hour_44 ?_
    exact cj_ireturn C hr h dX11_hour_47
  · refine cj_bipush C (v := (-10 : Int32)) dX11_hour_24 rfl ?_
    refine cj_iload_n C (i := 2) dX11_hour_26 rfl rfl ?_
    refine cj_isub C dX11_hour_27 ?_
    exact cj_ireturn C hr h dX11_hour_28
/-! X11_undo -/
def fX11_undo (x1 : Int32) (S : cpS) : Option (Int32 × cpS) :=
    if x1 < (1 : Int32) then (
    some ((-3 : Int32), S)) else (
    if x1 ≤ (S.1 113 2) then (
    cpB (fX6_goBack 57 x1 S) fun _ S2 =>
    some ((S2.1 113 2), S2)) else (
    some ((-3 : Int32), S)))
set_option maxRecDepth 100000 in
set_option maxHeartbeats 4000000 in
theorem m_X11_undo (l : Launch) (w : cpW) (A : Nat → Prop) (x1 : Int32) (S : cpS) (r : Int32 × cpS) (h : fX11_undo x1 S = some r) : cpMi l yX11_undo cX11_undo 2 ((some .int)) 3 w A [.ref (w.2.1 0), .int x1] S r := by
  refine cpMi.of (lv := [some (.ref (w.2.1 0)), some (.int x1)]) (by decide) (Nat.le_of_ble_eq_true rfl) rfl (fun p e s m args below meth c C hr => ?_)
  replace C : cpCx p s m args meth c w A cX11_undo RX11 2 := C
  rw [fX11_undo] at h
  refine cj_iload_n C (i := 1) dX11_undo_0 rfl rfl ?_
  refine cj_iconst C (v := (1 : Int32)) dX11_undo_1 rfl ?_
  refine cj_icmp_lt C (tgt := 16) dX11_undo_2 rfl h (fun _ h => ?_) (fun _ h => ?_)
  · refine cj_bipush C (v := (-3 : Int32)) dX11_undo_16 rfl ?_
    exact cj_ireturn C hr h dX11_undo_18
  · refine cj_iload_n C (i := 1) dX11_undo_5 rfl rfl ?_
    refine cj_aload_n C (i := 0) dX11_undo_6 rfl rfl ?_
    refine cj_getR C (d := 113) o_0 rfl gfX11_29 dX11_undo_7 ?_
    refine cj_getI C (j := 2) o_113 rfl gfX11_218 dX11_undo_10 ?_
    refine cj_icmp_le C (tgt := 19) dX11_undo_13 rfl h (fun _ h => ?_) (fun _ h => ?_)
    · refine cj_aload_n C (i := 0) dX11_undo_19 rfl rfl ?_
      refine cj_getR C (d := 113) o_0 rfl gfX11_29 dX11_undo_20 ?_
      refine cj_aload_n C (i := 0) dX11_undo_23 rfl rfl ?_
      refine cj_getR C (d := 57) o_0 rfl gfX11_19 dX11_undo_24 ?_
      refine cj_iload_n C (i := 1) dX11_undo_27 rfl rfl ?_
      refine cj_callVv C (As := [.ref (w.2.1 57), .int x1]) (rest := []) qX6_goBack mw_41_23 o_113 rfl rfl rfl (Nat.le_of_ble_eq_true rfl) (by decide) dX11_undo_28 h (fun _ _ hf => m_X6_goBack l w A kNw_57 x1 S _ hf) (fun z1 S2 h => ?_)
      refine cj_aload_n C (i := 0) dX11_undo_31 rfl rfl ?_
      refine cj_getR C (d := 113) o_0 rfl gfX11_29 dX11_undo_32 ?_
      refine cj_getI C (j := 2) o_113 rfl gfX11_218 dX11_undo_35 ?_
      exact cj_ireturn C hr h dX11_undo_38
    · refine cj_bipush C (v := (-3 : Int32)) dX11_undo_16 rfl ?_
      exact cj_ireturn C hr h dX11_undo_18
/-! X11_hasTray -/
def fX11_hasTray (x1 : Int32) (S : cpS) : Option (Int32 × cpS) :=
    if x1 < 0 then (
    some ((0 : Int32), S)) else (
    if (4 : Int32) ≤ x1 then (
    some ((0 : Int32), S)) else (
    some ((1 : Int32), S)))
set_option maxRecDepth 100000 in
set_option maxHeartbeats 4000000 in
theorem m_X11_hasTray (l : Launch) (w : cpW) (A : Nat → Prop) (x1 : Int32) (S : cpS) (r : Int32 × cpS) (h : fX11_hasTray x1 S = some r) : cpMi l yX11_hasTray cX11_hasTray 2 ((some .boolean)) 0 w A [.ref (w.2.1 0), .int x1] S r := by
  refine cpMi.of (lv := [some (.ref (w.2.1 0)), some (.int x1)]) (by decide) (Nat.le_of_ble_eq_true rfl) rfl (fun p e s m args below meth c C hr => ?_)
  replace C : cpCx p s m args meth c w A cX11_hasTray RX11 2 := C
  rw [fX11_hasTray] at h
  refine cj_iload_n C (i := 1) dX11_hasTray_0 rfl rfl ?_
  refine cj_if_lt C (tgt := 13) dX11_hasTray_1 rfl h (fun _ h => ?_) (fun _ h => ?_)
  · refine cj_iconst C (v := (0 : Int32)) dX11_hasTray_13 rfl ?_
    exact cj_zreturn C hr rfl h dX11_hasTray_14
  · refine cj_iload_n C (i := 1) dX11_hasTray_4 rfl rfl ?_
    refine cj_iconst C (v := (4 : Int32)) dX11_hasTray_5 rfl ?_
    refine cj_icmp_ge C (tgt := 13) dX11_hasTray_6 rfl h (fun _ h => ?_) (fun _ h => ?_)
    · refine cj_iconst C (v := (0 : Int32)) dX11_hasTray_13 rfl ?_
      exact cj_zreturn C hr rfl h dX11_hasTray_14
    · refine cj_iconst C (v := (1 : Int32)) dX11_hasTray_9 rfl ?_
      refine cj_goto C (tgt := 14) dX11_hasTray_10 rfl ?_
      exact cj_zreturn C hr rfl h dX11_hasTray_14
/-! X11_doAll -/
def fX11_doAll_2 (k1 : Nat) : Nat → Int32 → cpS → Option (Int32 × cpS)
  | 0, _, _ => none
  | n + 1, x2, S =>
    if (S.1 k1 1) ≤ x2 then (
    some ((S.1 k1 1), S)) else (
    if cpIn x2 40 then (
    cpB (fX0_tryDeed (S.2 (k1 + 1) x2.toNatClampNeg) S) fun z1 S2 =>
    if z1 = 0 then (
    fX11_doAll_2 k1 n (x2 + 1) S2) else (
    some (x2, S2))) else none)
set_option maxRecDepth 100000 in
set_option maxHeartbeats 4000000 in
theorem wX11_doAll_2 (C : cpCx p s m args meth c w A cX11_doAll RX11 3) (hr : meth.sig.returnType = (some .int)) {r : Int32 × cpS} {k1 : Nat} (hk1 : cpTy k1) : ∀ (n : Nat) (x2 : Int32) (S : cpS), fX11_doAll_2 k1 n x2 S = some r → cpJ p l e (cpRm 6) s m args below meth c (MQ below (va_Qi (fun x S' => (x, S') = r) (cpWorld w A) A) args s 0 0 A) w A 3 2 [some (.ref (w.2.1 0)), some (.ref (w.2.1 k1)), some (.int x2)] [] S := by
  intro n
  induction n with
  | zero => intro x2 S h; rw [fX11_doAll_2] at h; cases h
  | succ n ih =>
    intro x2 S h
    rw [fX11_doAll_2] at h
    refine cj_iload_n C (i := 2) dX11_doAll_2 rfl rfl ?_
    refine cj_aload_n C (i := 1) dX11_doAll_3 rfl rfl ?_
    refine cj_getI C (j := 1) (cpTy_o0 hk1) rfl gfX11_236 dX11_doAll_4 ?_
    refine cj_icmp_ge C (tgt := 34) dX11_doAll_7 rfl h (fun _ h => ?_) (fun _ h => ?_)
    · refine cj_aload_n C (i := 1) dX11_doAll_34 rfl rfl ?_
      refine cj_getI C (j := 1) (cpTy_o0 hk1) rfl gfX11_236 dX11_doAll_35 ?_
      exact cj_ireturn C hr h dX11_doAll_38
    · refine cj_aload_n C (i := 0) dX11_doAll_10 rfl rfl ?_
      refine cj_getR C (d := 117) o_0 rfl gfX11_45 dX11_doAll_11 ?_
      refine cj_aload_n C (i := 1) dX11_doAll_14 rfl rfl ?_
      refine cj_getR C (d := (k1 + 1)) (cpTy_o0 hk1) rfl gfX11_237 dX11_doAll_15 ?_
      refine cj_iload_n C (i := 2) dX11_doAll_18 rfl rfl ?_
      refine cj_laload C (cpTy_o1 hk1) h dX11_doAll_19 (fun h => ?_)
      refine cj_callVi C (As := [.long (S.2 (k1 + 1) x2.toNatClampNeg)]) (rest := []) qX0_tryDeed mw_43_6 o_117 rfl rfl rfl (Nat.le_of_ble_eq_true rfl) (by decide) dX11_doAll_20 h (fun _ _ hf => m_X0_tryDeed l w A (S.2 (k1 + 1) x2.toNatClampNeg) S _ hf) (fun z1 S2 h => ?_)
      refine cj_if_eq C (tgt := 28) dX11_doAll_23 rfl h (fun _ h => ?_) (fun _ h => ?_)
      · refine cj_iinc C (v := (x2 + 1)) (lv' := [some (.ref (w.2.1 0)), some (.ref (w.2.1 k1)), some (.int (x2 + 1))]) dX11_doAll_28 rfl rfl (by decide) rfl rfl ?_
        refine cj_goto C (tgt := 2) dX11_doAll_31 rfl ?_
        exact ih (x2 + 1) S2 h
      · refine cj_iload_n C (i := 2) dX11_doAll_26 rfl rfl ?_
        exact cj_ireturn C hr h dX11_doAll_27
def fX11_doAll (k1 : Nat) (S : cpS) : Option (Int32 × cpS) :=
    fX11_doAll_2 k1 cpFu (0 : Int32) S
set_option maxRecDepth 100000 in
set_option maxHeartbeats 4000000 in
theorem m_X11_doAll (l : Launch) (w : cpW) (A : Nat → Prop) {k1 : Nat} (hk1 : cpTy k1) (S : cpS) (r : Int32 × cpS) (h : fX11_doAll k1 S = some r) : cpMi l yX11_doAll cX11_doAll 3 ((some .int)) 6 w A [.ref (w.2.1 0), .ref (w.2.1 k1)] S r := by
  refine cpMi.of (lv := [some (.ref (w.2.1 0)), some (.ref (w.2.1 k1)), none]) (by decide) (Nat.le_of_ble_eq_true rfl) rfl (fun p e s m args below meth c C hr => ?_)
  replace C : cpCx p s m args meth c w A cX11_doAll RX11 3 := C
  rw [fX11_doAll] at h
  refine cj_iconst C (v := (0 : Int32)) dX11_doAll_0 rfl ?_
  refine cj_istore_n C (i := 2) (lv' := [some (.ref (w.2.1 0)), some (.ref (w.2.1 k1)), some (.int (0 : Int32))]) dX11_doAll_1 rfl (by decide) rfl rfl ?_
  exact wX11_doAll_2 C hr hk1 cpFu (0 : Int32) S h
/-! X11_judge -/
def fX11_judge_91 (s0 : Int32) (S : cpS) : Option (Int32 × cpS) :=
    cpB (fX5_copyFrom 57 61 S) fun _ S2 =>
    some (s0, S2)
set_option maxRecDepth 100000 in
set_option maxHeartbeats 4000000 in
theorem wX11_judge_91 (C : cpCx p s m args meth c w A cX11_judge RX11 6) (hr : meth.sig.returnType = (some .int)) {r : Int32 × cpS} (s0 : Int32) (S : cpS) (h : fX11_judge_91 s0 S = some r) : cpJ p l e (cpRm 7) s m args below meth c (MQ below (va_Qi (fun x S' => (x, S') = r) (cpWorld w A) A) args s 0 0 A) w A 6 91 [some (.ref (w.2.1 0)), none, none, none, none, none] [.int s0] S := by
  rw [fX11_judge_91] at h
  refine cj_istore C (lv' := [some (.ref (w.2.1 0)), none, none, none, none, some (.int s0)]) dX11_judge_91 (by decide) rfl rfl ?_
  refine cj_goto C (tgt := 157) dX11_judge_93 rfl ?_
  refine cj_aload_n C (i := 0) dX11_judge_157 rfl rfl ?_
  refine cj_getR C (d := 57) o_0 rfl gfX11_19 dX11_judge_158 ?_
  refine cj_aload_n C (i := 0) dX11_judge_161 rfl rfl ?_
  refine cj_getR C (d := 61) o_0 rfl gfX11_23 dX11_judge_162 ?_
  refine cj_callVv C (As := [.ref (w.2.1 61)]) (rest := []) qX5_copyFrom mw_40_9 o_57 rfl rfl rfl (Nat.le_of_ble_eq_true rfl) (by decide) dX11_judge_165 h (fun _ _ hf => m_X5_copyFrom l w A kNw_57 kNw_61 S _ hf) (fun z1 S2 h => ?_)
  refine cj_iload C dX11_judge_168 rfl ?_
  exact cj_ireturn C hr h dX11_judge_170
def fX11_judge_128 (s0 : Int32) (S : cpS) : Option (Int32 × cpS) :=
    cpB (fX5_copyFrom 57 61 S) fun _ S2 =>
    some (s0, S2)
set_option maxRecDepth 100000 in
set_option maxHeartbeats 4000000 in
theorem wX11_judge_128 (C : cpCx p s m args meth c w A cX11_judge RX11 6) (hr : meth.sig.returnType = (some .int)) {r : Int32 × cpS} (s0 : Int32) (S : cpS) (h : fX11_judge_128 s0 S = some r) : cpJ p l e (cpRm 7) s m args below meth c (MQ below (va_Qi (fun x S' => (x, S') = r) (cpWorld w A) A) args s 0 0 A) w A 6 128 [some (.ref (w.2.1 0)), none, none, none, none, none] [.int s0] S := by
  rw [fX11_judge_128] at h
  refine cj_istore C (lv' := [some (.ref (w.2.1 0)), none, none, none, none, some (.int s0)]) dX11_judge_128 (by decide) rfl rfl ?_
  refine cj_goto C (tgt := 157) dX11_judge_130 rfl ?_
  refine cj_aload_n C (i := 0) dX11_judge_157 rfl rfl ?_
  refine cj_getR C (d := 57) o_0 rfl gfX11_19 dX11_judge_158 ?_
  refine cj_aload_n C (i := 0) dX11_judge_161 rfl rfl ?_
  refine cj_getR C (d := 61) o_0 rfl gfX11_23 dX11_judge_162 ?_
  refine cj_callVv C (As := [.ref (w.2.1 61)]) (rest := []) qX5_copyFrom mw_40_9 o_57 rfl rfl rfl (Nat.le_of_ble_eq_true rfl) (by decide) dX11_judge_165 h (fun _ _ hf => m_X5_copyFrom l w A kNw_57 kNw_61 S _ hf) (fun z1 S2 h => ?_)
  refine cj_iload C dX11_judge_168 rfl ?_
  exact cj_ireturn C hr h dX11_judge_170
def fX11_judge_75 (x1 : Int32) (x2 : Int32) (x3 : Int32) (s0 : Int32) (S : cpS) : Option (Int32 × cpS) :=
    if x2 = 0 then (
    if s0 = 0 then (
    fX11_judge_91 x3 S) else (
    fX11_judge_91 (-1 : Int32) S)) else (
    if x2 = (1 : Int32) then (
    if s0 = 0 then (
    if cpIn x1 4 then (
    if cpIn x3 40 then (
    cpB (fX0_tryDeed (S.2 ((139 + 2 * x1.toNatClampNeg) + 1) x3.toNatClampNeg) S) fun z2 S3 =>
    fX11_judge_128 z2 S3) else none) else none) else (
    fX11_judge_128 (0 : Int32) S)) else (
    if x2 = (2 : Int32) then (
    cpB (fX5_placesAsDigits 57 S) fun z4 S5 =>
    cpB (fX5_copyFrom 57 61 S5) fun _ S7 =>
    some (z4, S7)) else (
    cpB (fX5_rimsTogether 57 S) fun z8 S9 =>
    cpB (fX5_copyFrom 57 61 S9) fun _ S11 =>
    some (z8, S11))))
set_option maxRecDepth 100000 in
set_option maxHeartbeats 4000000 in
theorem wX11_judge_75 (C : cpCx p s m args meth c w A cX11_judge RX11 6) (hr : meth.sig.returnType = (some .int)) {r : Int32 × cpS} (x1 : Int32) (x2 : Int32) (x3 : Int32) (s0 : Int32) (S : cpS) (h : fX11_judge_75 x1 x2 x3 s0 S = some r) : cpJ p l e (cpRm 7) s m args below meth c (MQ below (va_Qi (fun x S' => (x, S') = r) (cpWorld w A) A) args s 0 0 A) w A 6 75 [some (.ref (w.2.1 0)), some (.int x1), some (.int x2), some (.int x3), none, none] [.int s0] S := by
  rw [fX11_judge_75] at h
  refine cj_istore C (lv' := [some (.ref (w.2.1 0)), some (.int x1), some (.int x2), some (.int x3), some (.int s0), none]) dX11_judge_75 (by decide) rfl rfl ?_
  refine cj_iload_n C (i := 2) dX11_judge_77 rfl rfl ?_
  refine cj_if_ne C (tgt := 96) dX11_judge_78 rfl h (fun _ h => ?_) (fun _ h => ?_)
  · refine cj_iload C dX11_judge_81 rfl ?_
    refine cj_if_eq C (tgt := 90) dX11_judge_83 rfl h (fun _ h => ?_) (fun _ h => ?_)
    · refine cj_iload_n C (i := 3) dX11_judge_90 rfl rfl ?_
      refine cj_weak C (lv' := [some (.ref (w.2.1 0)), none, none, none, none, none]) (cpSub_s (cpSub_n (cpSub_n (cpSub_n (cpSub_n (cpSub_n cpSub_nil)))))) ?_
      exact wX11_judge_91 C hr x3 S h
    · refine cj_iconst C (v := (-1 : Int32)) dX11_judge_86 rfl ?_
      refine cj_goto C (tgt := 91) dX11_judge_87 rfl ?_
      refine cj_weak C (lv' := [some (.ref (w.2.1 0)), none, none, none, none, none]) (cpSub_s (cpSub_n (cpSub_n (cpSub_n (cpSub_n (cpSub_n cpSub_nil)))))) ?_
      exact wX11_judge_91 C hr (-1 : Int32) S h
  · refine cj_iload_n C (i := 2) dX11_judge_96 rfl rfl ?_
    refine cj_iconst C (v := (1 : Int32)) dX11_judge_97 rfl ?_
    refine cj_icmp_ne C (tgt := 133) dX11_judge_98 rfl h (fun _ h => ?_) (fun _ h => ?_)
    · refine cj_iload C dX11_judge_101 rfl ?_
      refine cj_if_eq C (tgt := 110) dX11_judge_103 rfl h (fun _ h => ?_) (fun _ h => ?_)
      · refine cj_aload_n C (i := 0) dX11_judge_110 rfl rfl ?_
        refine cj_getR C (d := 117) o_0 rfl gfX11_45 dX11_judge_111 ?_
        refine cj_aload_n C (i := 0) dX11_judge_114 rfl rfl ?_
        refine cj_getR C (d := 138) o_0 rfl gfX11_83 dX11_judge_115 ?_
        refine cj_iload_n C (i := 1) dX11_judge_118 rfl rfl ?_
        refine cj_aaload C (d := (139 + 2 * x1.toNatClampNeg)) (by decide) o_138 rfl h (tr_138) dX11_judge_119 (fun hi1 h => ?_)
        refine cj_getR C (d := ((139 + 2 * x1.toNatClampNeg) + 1)) (cpTy_o0 (tk_138 hi1)) rfl gfX11_237 dX11_judge_120 ?_
        refine cj_iload_n C (i := 3) dX11_judge_123 rfl rfl ?_
        refine cj_laload C (cpTy_o1 (tk_138 hi1)) h dX11_judge_124 (fun h => ?_)
        refine cj_callVi C (As := [.long (S.2 ((139 + 2 * x1.toNatClampNeg) + 1) x3.toNatClampNeg)]) (rest := []) qX0_tryDeed mw_43_6 o_117 rfl rfl rfl (Nat.le_of_ble_eq_true rfl) (by decide) dX11_judge_125 h (fun _ _ hf => m_X0_tryDeed l w A (S.2 ((139 + 2 * x1.toNatClampNeg) + 1) x3.toNatClampNeg) S _ hf) (fun z2 S3 h => ?_)
        refine cj_weak C (lv' := [some (.ref (w.2.1 0)), none, none, none, none, none]) (cpSub_s (cpSub_n (cpSub_n (cpSub_n (cpSub_n (cpSub_n cpSub_nil)))))) ?_
        exact wX11_judge_128 C hr z2 S3 h
      · refine cj_iconst C (v := (0 : Int32)) dX11_judge_106 rfl ?_
        refine cj_goto C (tgt := 128) dX11_judge_107 rfl ?_
        refine cj_weak C (lv' := [some (.ref (w.2.1 0)), none, none, none, none, none]) (cpSub_s (cpSub_n (cpSub_n (cpSub_n (cpSub_n (cpSub_n cpSub_nil)))))) ?_
        exact wX11_judge_128 C hr (0 : Int32) S h
    · refine cj_iload_n C (i := 2) dX11_judge_133 rfl rfl ?_
      refine cj_iconst C (v := (2 : Int32)) dX11_judge_134 rfl ?_
      refine cj_icmp_ne C (tgt := 148) dX11_judge_135 rfl h (fun _ h => ?_) (fun _ h => ?_)
      · refine cj_aload_n C (i := 0) dX11_judge_138 rfl rfl ?_
        refine cj_getR C (d := 57) o_0 rfl gfX11_19 dX11_judge_139 ?_
        refine cj_callVi C (As := []) (rest := []) qX5_placesAsDigits mw_43_20 o_57 rfl rfl rfl (Nat.le_of_ble_eq_true rfl) (by decide) dX11_judge_142 h (fun _ _ hf => m_X5_placesAsDigits l w A kNw_57 S _ hf) (fun z4 S5 h => ?_)
        refine cj_goto C (tgt := 155) dX11_judge_145 rfl ?_
        refine cj_istore C (lv' := [some (.ref (w.2.1 0)), some (.int x1), some (.int x2), some (.int x3), some (.int s0), some (.int z4)]) dX11_judge_155 (by decide) rfl rfl ?_
        refine cj_aload_n C (i := 0) dX11_judge_157 rfl rfl ?_
        refine cj_getR C (d := 57) o_0 rfl gfX11_19 dX11_judge_158 ?_
        refine cj_aload_n C (i := 0) dX11_judge_161 rfl rfl ?_
        refine cj_getR C (d := 61) o_0 rfl gfX11_23 dX11_judge_162 ?_
        refine cj_callVv C (As := [.ref (w.2.1 61)]) (rest := []) qX5_copyFrom mw_40_9 o_57 rfl rfl rfl (Nat.le_of_ble_eq_true rfl) (by decide) dX11_judge_165 h (fun _ _ hf => m_X5_copyFrom l w A kNw_57 kNw_61 S5 _ hf) (fun z6 S7 h => ?_)
        refine cj_iload C dX11_judge_168 rfl ?_
        exact cj_ireturn C hr h dX11_judge_170
      · refine cj_aload_n C (i := 0) dX11_judge_148 rfl rfl ?_
        refine cj_getR C (d := 57) o_0 rfl gfX11_19 dX11_judge_149 ?_
        refine cj_callVi C (As := []) (rest := []) qX5_rimsTogether mw_44_0 o_57 rfl rfl rfl (Nat.le_of_ble_eq_true rfl) (by decide) dX11_judge_152 h (fun _ _ hf => m_X5_rimsTogether l w A kNw_57 S _ hf) (fun z8 S9 h => ?_)
        refine cj_istore C (lv' := [some (.ref (w.2.1 0)), some (.int x1), some (.int x2), some (.int x3), some (.int s0), some (.int z8)]) dX11_judge_155 (by decide) rfl rfl ?_
        refine cj_aload_n C (i := 0) dX11_judge_157 rfl rfl ?_
        refine cj_getR C (d := 57) o_0 rfl gfX11_19 dX11_judge_158 ?_
        refine cj_aload_n C (i := 0) dX11_judge_161 rfl rfl ?_
        refine cj_getR C (d := 61) o_0 rfl gfX11_23 dX11_judge_162 ?_
        refine cj_callVv C (As := [.ref (w.2.1 61)]) (rest := []) qX5_copyFrom mw_40_9 o_57 rfl rfl rfl (Nat.le_of_ble_eq_true rfl) (by decide) dX11_judge_165 h (fun _ _ hf => m_X5_copyFrom l w A kNw_57 kNw_61 S9 _ hf) (fun z10 S11 h => ?_)
        refine cj_iload C dX11_judge_168 rfl ?_
        exact cj_ireturn C hr h dX11_judge_170
def fX11_judge (x1 : Int32) (x2 : Int32) (S : cpS) : Option (Int32 × cpS) :=
    cpB (fX11_hasTray x1 S) fun z1 S2 =>
    if z1 = 0 then (
    some ((-2 : Int32), S2)) else (
    if x2 < 0 then (
    some ((-2 : Int32), S2)) else (
    if x2 ≤ (3 : Int32) then (
    if cpIn x1 4 then (
    cpB (fX9_isMissing (139 + 2 * x1.toNatClampNeg) S2) fun z4 S5 =>
    if z4 = 0 then (
    cpB (fX5_copyFrom 61 57 S5) fun _ S7 =>
    if cpIn x1 4 then (
    cpB (fX11_doAll (139 + 2 * x1.toNatClampNeg) S7) fun z9 S10 =>
    if cpIn x1 4 then (
    if z9 = (S10.1 (139 + 2 * x1.toNatClampNeg) 1) then (
    fX11_judge_75 x1 x2 z9 (1 : Int32) S10) else (
    fX11_judge_75 x1 x2 z9 (0 : Int32) S10)) else none) else none) else (
    some ((-6 : Int32), S5))) else none) else (
    some ((-2 : Int32), S2))))
set_option maxRecDepth 100000 in
set_option maxHeartbeats 4000000 in
theorem m_X11_judge (l : Launch) (w : cpW) (A : Nat → Prop) (x1 : Int32) (x2 : Int32) (S : cpS) (r : Int32 × cpS) (h : fX11_judge x1 x2 S = some r) : cpMi l yX11_judge cX11_judge 6 ((some .int)) 7 w A [.ref (w.2.1 0), .int x1, .int x2] S r := by
  refine cpMi.of (lv := [some (.ref (w.2.1 0)), some (.int x1), some (.int x2), none, none, none]) (by decide) (Nat.le_of_ble_eq_true rfl) rfl (fun p e s m args below meth c C hr => ?_)
  replace C : cpCx p s m args meth c w A cX11_judge RX11 6 := C
  rw [fX11_judge] at h
  refine cj_aload_n C (i := 0) dX11_judge_0 rfl rfl ?_
  refine cj_iload_n C (i := 1) dX11_judge_1 rfl rfl ?_
  refine cj_callVi C (As := [.int x1]) (rest := []) qX11_hasTray mw_42_18 o_0 rfl rfl rfl (Nat.le_of_ble_eq_true rfl) (by decide) dX11_judge_2 h (fun _ _ hf => m_X11_hasTray l w A x1 S _ hf) (fun z1 S2 h => ?_)
  refine cj_if_eq C (tgt := 17) dX11_judge_5 rfl h (fun _ h => ?_) (fun _ h => ?_)
  · refine cj_bipush C (v := (-2 : Int32)) dX11_judge_17 rfl ?_
    exact cj_ireturn C hr h dX11_judge_19
  · refine cj_iload_n C (i := 2) dX11_judge_8 rfl rfl ?_
    refine cj_if_lt C (tgt := 17) dX11_judge_9 rfl h (fun _ h => ?_) (fun _ h => ?_)
    · refine cj_bipush C (v := (-2 : Int32)) dX11_judge_17 rfl ?_
      exact cj_ireturn C hr h dX11_judge_19
    · refine cj_iload_n C (i := 2) dX11_judge_12 rfl rfl ?_
      refine cj_iconst C (v := (3 : Int32)) dX11_judge_13 rfl ?_
      refine cj_icmp_le C (tgt := 20) dX11_judge_14 rfl h (fun _ h => ?_) (fun _ h => ?_)
      · refine cj_aload_n C (i := 0) dX11_judge_20 rfl rfl ?_
        refine cj_getR C (d := 138) o_0 rfl gfX11_83 dX11_judge_21 ?_
        refine cj_iload_n C (i := 1) dX11_judge_24 rfl rfl ?_
        refine cj_aaload C (d := (139 + 2 * x1.toNatClampNeg)) (by decide) o_138 rfl h (tr_138) dX11_judge_25 (fun hi3 h => ?_)
        refine cj_callVi C (As := []) (rest := []) qX9_isMissing mw_42_22 (cpTy_o0 (tk_138 hi3)) rfl rfl rfl (Nat.le_of_ble_eq_true rfl) (by decide) dX11_judge_26 h (fun _ _ hf => m_X9_isMissing l w A (tk_138 hi3) S2 _ hf) (fun z4 S5 h => ?_)
        refine cj_if_eq C (tgt := 35) dX11_judge_29 rfl h (fun _ h => ?_) (fun _ h => ?_)
        · refine cj_aload_n C (i := 0) dX11_judge_35 rfl rfl ?_
          refine cj_getR C (d := 61) o_0 rfl gfX11_23 dX11_judge_36 ?_
          refine cj_aload_n C (i := 0) dX11_judge_39 rfl rfl ?_
          refine cj_getR C (d := 57) o_0 rfl gfX11_19 dX11_judge_40 ?_
          refine cj_callVv C (As := [.ref (w.2.1 57)]) (rest := []) qX5_copyFrom mw_40_9 o_61 rfl rfl rfl (Nat.le_of_ble_eq_true rfl) (by decide) dX11_judge_43 h (fun _ _ hf => m_X5_copyFrom l w A kNw_61 kNw_57 S5 _ hf) (fun z6 S7 h => ?_)
          refine cj_aload_n C (i := 0) dX11_judge_46 rfl rfl ?_
          refine cj_aload_n C (i := 0) dX11_judge_47 rfl rfl ?_
          refine cj_getR C (d := 138) o_0 rfl gfX11_83 dX11_judge_48 ?_
          refine cj_iload_n C (i := 1) dX11_judge_51 rfl rfl ?_
          refine cj_aaload C (d := (139 + 2 * x1.toNatClampNeg)) (by decide) o_138 rfl h (tr_138) dX11_judge_52 (fun hi8 h => ?_)
          refine cj_callVi C (As := [.ref (w.2.1 (139 + 2 * x1.toNatClampNeg))]) (rest := []) qX11_doAll mw_43_2 o_0 rfl rfl rfl (Nat.le_of_ble_eq_true rfl) (by decide) dX11_judge_53 h (fun _ _ hf => m_X11_doAll l w A (tk_138 hi8) S7 _ hf) (fun z9 S10 h => ?_)
          refine cj_istore_n C (i := 3) (lv' := [some (.ref (w.2.1 0)), some (.int x1), some (.int x2), some (.int z9), none, none]) dX11_judge_56 rfl (by decide) rfl rfl ?_
          refine cj_iload_n C (i := 3) dX11_judge_57 rfl rfl ?_
          refine cj_aload_n C (i := 0) dX11_judge_58 rfl rfl ?_
          refine cj_getR C (d := 138) o_0 rfl gfX11_83 dX11_judge_59 ?_
          refine cj_iload_n C (i := 1) dX11_judge_62 rfl rfl ?_
          refine cj_aaload C (d := (139 + 2 * x1.toNatClampNeg)) (by decide) o_138 rfl h (tr_138) dX11_judge_63 (fun hi11 h => ?_)
          refine cj_getI C (j := 1) (cpTy_o0 (tk_138 hi11)) rfl gfX11_236 dX11_judge_64 ?_
          refine cj_icmp_ne C (tgt := 74) dX11_judge_67 rfl h (fun _ h => ?_) (fun _ h => ?_)
          · refine cj_iconst C (v := (1 : Int32)) dX11_judge_70 rfl ?_
            refine cj_goto C (tgt := 75) dX11_judge_71 rfl ?_
            exact wX11_judge_75 C hr x1 x2 z9 (1 : Int32) S10 h
          · refine cj_iconst C (v := (0 : Int32)) dX11_judge_74 rfl ?_
            exact wX11_judge_75 C hr x1 x2 z9 (0 : Int32) S10 h
        · refine cj_bipush C (v := (-6 : Int32)) dX11_judge_32 rfl ?_
          exact cj_ireturn C hr h dX11_judge_34
      · refine cj_bipush C (v := (-2 : Int32)) dX11_judge_17 rfl ?_
        exact cj_ireturn C hr h dX11_judge_19
/-! X11_perform -/
def fX11_perform (x1 : Int32) (S : cpS) : Option (Int32 × cpS) :=
    cpB (fX11_hasTray x1 S) fun z1 S2 =>
    if z1 = 0 then (
    some ((-2 : Int32), S2)) else (
    if cpIn x1 4 then (
    cpB (fX9_isMissing (139 + 2 * x1.toNatClampNeg) S2) fun z4 S5 =>
    if z4 = 0 then (
    cpB (fX5_copyFrom 61 57 S5) fun _ S7 =>
    if cpIn x1 4 then (
    cpB (fX11_doAll (139 + 2 * x1.toNatClampNeg) S7) fun z9 S10 =>
    if z9 ≤ 0 then (
    some (z9, S10)) else (
    cpB (fX6_keep 61 S10) fun _ S12 =>
    some (z9, S12))) else none) else (
    some ((-6 : Int32), S5))) else none)
set_option maxRecDepth 100000 in
set_option maxHeartbeats 4000000 in
theorem m_X11_perform (l : Launch) (w : cpW) (A : Nat → Prop) (x1 : Int32) (S : cpS) (r : Int32 × cpS) (h : fX11_perform x1 S = some r) : cpMi l yX11_perform cX11_perform 3 ((some .int)) 7 w A [.ref (w.2.1 0), .int x1] S r := by
  refine cpMi.of (lv := [some (.ref (w.2.1 0)), some (.int x1), none]) (by decide) (Nat.le_of_ble_eq_true rfl) rfl (fun p e s m args below meth c C hr => ?_)
  replace C : cpCx p s m args meth c w A cX11_perform RX11 3 := C
  rw [fX11_perform] at h
  refine cj_aload_n C (i := 0) dX11_perform_0 rfl rfl ?_
  refine cj_iload_n C (i := 1) dX11_perform_1 rfl rfl ?_
  refine cj_callVi C (As := [.int x1]) (rest := []) qX11_hasTray mw_42_18 o_0 rfl rfl rfl (Nat.le_of_ble_eq_true rfl) (by decide) dX11_perform_2 h (fun _ _ hf => m_X11_hasTray l w A x1 S _ hf) (fun z1 S2 h => ?_)
  refine cj_if_ne C (tgt := 11) dX11_perform_5 rfl h (fun _ h => ?_) (fun _ h => ?_)
  · refine cj_bipush C (v := (-2 : Int32)) dX11_perform_8 rfl ?_
    exact cj_ireturn C hr h dX11_perform_10
  · refine cj_aload_n C (i := 0) dX11_perform_11 rfl rfl ?_
    refine cj_getR C (d := 138) o_0 rfl gfX11_83 dX11_perform_12 ?_
    refine cj_iload_n C (i := 1) dX11_perform_15 rfl rfl ?_
    refine cj_aaload C (d := (139 + 2 * x1.toNatClampNeg)) (by decide) o_138 rfl h (tr_138) dX11_perform_16 (fun hi3 h => ?_)
    refine cj_callVi C (As := []) (rest := []) qX9_isMissing mw_42_22 (cpTy_o0 (tk_138 hi3)) rfl rfl rfl (Nat.le_of_ble_eq_true rfl) (by decide) dX11_perform_17 h (fun _ _ hf => m_X9_isMissing l w A (tk_138 hi3) S2 _ hf) (fun z4 S5 h => ?_)
    refine cj_if_eq C (tgt := 26) dX11_perform_20 rfl h (fun _ h => ?_) (fun _ h => ?_)
    · refine cj_aload_n C (i := 0) dX11_perform_26 rfl rfl ?_
      refine cj_getR C (d := 61) o_0 rfl gfX11_23 dX11_perform_27 ?_
      refine cj_aload_n C (i := 0) dX11_perform_30 rfl rfl ?_
      refine cj_getR C (d := 57) o_0 rfl gfX11_19 dX11_perform_31 ?_
      refine cj_callVv C (As := [.ref (w.2.1 57)]) (rest := []) qX5_copyFrom mw_40_9 o_61 rfl rfl rfl (Nat.le_of_ble_eq_true rfl) (by decide) dX11_perform_34 h (fun _ _ hf => m_X5_copyFrom l w A kNw_61 kNw_57 S5 _ hf) (fun z6 S7 h => ?_)
      refine cj_aload_n C (i := 0) dX11_perform_37 rfl rfl ?_
      refine cj_aload_n C (i := 0) dX11_perform_38 rfl rfl ?_
      refine cj_getR C (d := 138) o_0 rfl gfX11_83 dX11_perform_39 ?_
      refine cj_iload_n C (i := 1) dX11_perform_42 rfl rfl ?_
      refine cj_aaload C (d := (139 + 2 * x1.toNatClampNeg)) (by decide) o_138 rfl h (tr_138) dX11_perform_43 (fun hi8 h => ?_)
      refine cj_callVi C (As := [.ref (w.2.1 (139 + 2 * x1.toNatClampNeg))]) (rest := []) qX11_doAll mw_43_2 o_0 rfl rfl rfl (Nat.le_of_ble_eq_true rfl) (by decide) dX11_perform_44 h (fun _ _ hf => m_X11_doAll l w A (tk_138 hi8) S7 _ hf) (fun z9 S10 h => ?_)
      refine cj_istore_n C (i := 2) (lv' := [some (.ref (w.2.1 0)), some (.int x1), some (.int z9)]) dX11_perform_47 rfl (by decide) rfl rfl ?_
      refine cj_iload_n C (i := 2) dX11_perform_48 rfl rfl ?_
      refine cj_if_le C (tgt := 63) dX11_perform_49 rfl h (fun _ h => ?_) (fun _ h => ?_)
      · refine cj_iload_n C (i := 2) dX11_perform_63 rfl rfl ?_
        exact cj_ireturn C hr h dX11_perform_64
      · refine cj_aload_n C (i := 0) dX11_perform_52 rfl rfl ?_
        refine cj_getR C (d := 113) o_0 rfl gfX11_29 dX11_perform_53 ?_
        refine cj_aload_n C (i := 0) dX11_perform_56 rfl rfl ?_
        refine cj_getR C (d := 61) o_0 rfl gfX11_23 dX11_perform_57 ?_
        refine cj_callVv C (As := [.ref (w.2.1 61)]) (rest := []) qX6_keep mw_38_23 o_113 rfl rfl rfl (Nat.le_of_ble_eq_true rfl) (by decide) dX11_perform_60 h (fun _ _ hf => m_X6_keep l w A kNw_61 S10 _ hf) (fun z11 S12 h => ?_)
        refine cj_iload_n C (i := 2) dX11_perform_63 rfl rfl ?_
        exact cj_ireturn C hr h dX11_perform_64
    · refine cj_bipush C (v := (-6 : Int32)) dX11_perform_23 rfl ?_
      exact cj_ireturn C hr h dX11_perform_25
/-! X11_draw -/
def fX11_draw (S : cpS) : Option (Int32 × cpS) :=
    cpLt (cpI S 0 14 (((1103515245 : Int32) * (S.1 0 14)) + (12345 : Int32))) fun S1 =>
    some ((cpUsh (S1.1 0 14) (16 : Int32)), S1)
set_option maxRecDepth 100000 in
set_option maxHeartbeats 4000000 in
theorem m_X11_draw (l : Launch) (w : cpW) (A : Nat → Prop) (S : cpS) (r : Int32 × cpS) (h : fX11_draw S = some r) : cpMi l yX11_draw cX11_draw 1 ((some .int)) 0 w A [.ref (w.2.1 0)] S r := by
  refine cpMi.of (lv := [some (.ref (w.2.1 0))]) (by decide) (Nat.le_of_ble_eq_true rfl) rfl (fun p e s m args below meth c C hr => ?_)
  replace C : cpCx p s m args meth c w A cX11_draw RX11 1 := C
  rw [fX11_draw] at h
  refine cj_aload_n C (i := 0) dX11_draw_0 rfl rfl ?_
  refine cj_ldcw C (v := (1103515245 : Int32)) mw_46_16 dX11_draw_1 ?_
  refine cj_aload_n C (i := 0) dX11_draw_4 rfl rfl ?_
  refine cj_getI C (j := 14) o_0 rfl gfX11_252 dX11_draw_5 ?_
  refine cj_imul C dX11_draw_8 ?_
  refine cj_sipush C (v := (12345 : Int32)) dX11_draw_9 rfl ?_
  refine cj_iadd C dX11_draw_12 ?_
  refine cj_put C (j := 14) o_0 rfl pfX11_252 rfl rfl dX11_draw_13 ?_
  refine cj_lets h (fun S1 h => ?_)
  refine cj_aload_n C (i := 0) dX11_draw_16 rfl rfl ?_
  refine cj_getI C (j := 14) o_0 rfl gfX11_252 dX11_draw_17 ?_
  refine cj_bipush C (v := (16 : Int32)) dX11_draw_20 rfl ?_
  refine ck_iushr C dX11_draw_22 ?_
  exact cj_ireturn C hr h dX11_draw_23
/-! X11_drawDeed -/
def fX11_drawDeed (S : cpS) : Option (Int32 × cpS) :=
    cpB (fX11_draw S) fun z1 S2 =>
    cpLt (cpRem z1 (6 : Int32)) fun y3 =>
    if y3 = 0 then (
    cpB (fX11_draw S2) fun z4 S5 =>
    some (((10 : Int32) + (cpRem z4 (10 : Int32))), S5)) else (
    if y3 = (1 : Int32) then (
    cpB (fX11_draw S2) fun z6 S7 =>
    cpLt (cpRem z6 (8 : Int32)) fun y8 =>
    cpB (fX11_draw S7) fun z9 S10 =>
    some ((((100 : Int32) + ((10 : Int32) * y8)) + (cpRem z9 (8 : Int32))), S10)) else (
    cpB (fX11_draw S2) fun z11 S12 =>
    cpLt (cpRem z11 (8 : Int32)) fun y13 =>
    cpB (fX11_draw S12) fun z14 S15 =>
    cpLt (cpRem z14 (8 : Int32)) fun y16 =>
    cpB (fX11_draw S15) fun z17 S18 =>
    cpLt (cpRem z17 (4 : Int32)) fun y19 =>
    cpB (fX11_draw S18) fun z20 S21 =>
    cpB (fX11_deedOf y13 y16 y19 (cpRem z20 (6 : Int32)) S21) fun z22 S23 =>
    some (z22, S23)))
set_option maxRecDepth 100000 in
set_option maxHeartbeats 4000000 in
theorem m_X11_drawDeed (l : Launch) (w : cpW) (A : Nat → Prop) (S : cpS) (r : Int32 × cpS) (h : fX11_drawDeed S = some r) : cpMi l yX11_drawDeed cX11_drawDeed 5 ((some .int)) 1 w A [.ref (w.2.1 0)] S r := by
  refine cpMi.of (lv := [some (.ref (w.2.1 0)), none, none, none, none]) (by decide) (Nat.le_of_ble_eq_true rfl) rfl (fun p e s m args below meth c C hr => ?_)
  replace C : cpCx p s m args meth c w A cX11_drawDeed RX11 5 := C
  rw [fX11_drawDeed] at h
  refine cj_aload_n C (i := 0) dX11_drawDeed_0 rfl rfl ?_
  refine cj_callVi C (As := []) (rest := []) qX11_draw mw_46_12 o_0 rfl rfl rfl (Nat.le_of_ble_eq_true rfl) (by decide) dX11_drawDeed_1 h (fun _ _ hf => m_X11_draw l w A S _ hf) (fun z1 S2 h => ?_)
  refine cj_bipush C (v := (6 : Int32)) dX11_drawDeed_4 rfl ?_
  refine ck_irem C dX11_drawDeed_6 (by decide) ?_
  refine cj_let h (fun y3 h => ?_)
  refine cj_istore_n C (i := 1) (lv' := [some (.ref (w.2.1 0)), some (.int y3), none, none, none]) dX11_drawDeed_7 rfl (by decide) rfl rfl ?_
  refine cj_iload_n C (i := 1) dX11_drawDeed_8 rfl rfl ?_
  refine cj_if_ne C (tgt := 23) dX11_drawDeed_9 rfl h (fun _ h => ?_) (fun _ h => ?_)
  · refine cj_bipush C (v := (10 : Int32)) dX11_drawDeed_12 rfl ?_
    refine cj_aload_n C (i := 0) dX11_drawDeed_14 rfl rfl ?_
    refine cj_callVi C (As := []) (rest := [.int (10 : Int32)]) qX11_draw mw_46_12 o_0 rfl rfl rfl (Nat.le_of_ble_eq_true rfl) (by decide) dX11_drawDeed_15 h (fun _ _ hf => m_X11_draw l w A S2 _ hf) (fun z4 S5 h => ?_)
    refine cj_bipush C (v := (10 : Int32)) dX11_drawDeed_18 rfl ?_
    refine ck_irem C dX11_drawDeed_20 (by decide) ?_
    refine cj_iadd C dX11_drawDeed_21 ?_
    exact cj_ireturn C hr h dX11_drawDeed_22
  · refine cj_iload_n C (i := 1) dX11_drawDeed_23 rfl rfl ?_
    refine cj_iconst C (v := (1 : Int32)) dX11_drawDeed_24 rfl ?_
    refine cj_icmp_ne C (tgt := 52) dX11_drawDeed_25 rfl h (fun _ h => ?_) (fun _ h => ?_)
    · refine cj_aload_n C (i := 0) dX11_drawDeed_28 rfl rfl ?_
      refine cj_callVi C (As := []) (rest := []) qX11_draw mw_46_12 o_0 rfl rfl rfl (Nat.le_of_ble_eq_true rfl) (by decide) dX11_drawDeed_29 h (fun _ _ hf => m_X11_draw l w A S2 _ hf) (fun z6 S7 h => ?_)
      refine cj_bipush C (v := (8 : Int32)) dX11_drawDeed_32 rfl ?_
      refine ck_irem C dX11_drawDeed_34 (by decide) ?_
      refine cj_let h (fun y8 h => ?_)
      refine cj_istore_n C (i := 2) (lv' := [some (.ref (w.2.1 0)), some (.int y3), some (.int y8), none, none]) dX11_drawDeed_35 rfl (by decide) rfl rfl ?_
      refine cj_bipush C (v := (100 : Int32)) dX11_drawDeed_36 rfl ?_
      refine cj_bipush C (v := (10 : Int32)) dX11_drawDeed_38 rfl ?_
      refine cj_iload_n C (i := 2) dX11_drawDeed_40 rfl rfl ?_
      refine cj_imul C dX11_drawDeed_41 ?_
      refine cj_iadd C dX11_drawDeed_42 ?_
      refine cj_aload_n C (i := 0) dX11_drawDeed_43 rfl rfl ?_
      refine cj_callVi C (As := []) (rest := [.int ((100 : Int32) + ((10 : Int32) * y8))]) qX11_draw mw_46_12 o_0 rfl rfl rfl (Nat.le_of_ble_eq_true rfl) (by decide) dX11_drawDeed_44 h (fun _ _ hf => m_X11_draw l w A S7 _ hf) (fun z9 S10 h => ?_)
      refine cj_bipush C (v := (8 : Int32)) dX11_drawDeed_47 rfl ?_
      refine ck_irem C dX11_drawDeed_49 (by decide) ?_
      refine cj_iadd C dX11_drawDeed_50 ?_
      exact cj_ireturn C hr h dX11_drawDeed_51
    · refine cj_aload_n C (i := 0) dX11_drawDeed_52 rfl rfl ?_
      refine cj_callVi C (As := []) (rest := []) qX11_draw mw_46_12 o_0 rfl rfl rfl (Nat.le_of_ble_eq_true rfl) (by decide) dX11_drawDeed_53 h (fun _ _ hf => m_X11_draw l w A S2 _ hf) (fun z11 S12 h => ?_)
      refine cj_bipush C (v := (8 : Int32)) dX11_drawDeed_56 rfl ?_
      refine ck_irem C dX11_drawDeed_58 (by decide) ?_
      refine cj_let h (fun y13 h => ?_)
      refine cj_istore_n C (i := 2) (lv' := [some (.ref (w.2.1 0)), some (.int y3), some (.int y13), none, none]) dX11_drawDeed_59 rfl (by decide) rfl rfl ?_
      refine cj_aload_n C (i := 0) dX11_drawDeed_60 rfl rfl ?_
      refine cj_callVi C (As := []) (rest := []) qX11_draw mw_46_12 o_0 rfl rfl rfl (Nat.le_of_ble_eq_true rfl) (by decide) dX11_drawDeed_61 h (fun _ _ hf => m_X11_draw l w A S12 _ hf) (fun z14 S15 h => ?_)
      refine cj_bipush C (v := (8 : Int32)) dX11_drawDeed_64 rfl ?_
      refine ck_irem C dX11_drawDeed_66 (by decide) ?_
      refine cj_let h (fun y16 h => ?_)
      refine cj_istore_n C (i := 3) (lv' := [some (.ref (w.2.1 0)), some (.int y3), some (.int y13), some (.int y16), none]) dX11_drawDeed_67 rfl (by decide) rfl rfl ?_
      refine cj_aload_n C (i := 0) dX11_drawDeed_68 rfl rfl ?_
      refine cj_callVi C (As := []) (rest := []) qX11_draw mw_46_12 o_0 rfl rfl rfl (Nat.le_of_ble_eq_true rfl) (by decide) dX11_drawDeed_69 h (fun _ _ hf => m_X11_draw l w A S15 _ hf) (fun z17 S18 h => ?_)
      refine cj_iconst C (v := (4 : Int32)) dX11_drawDeed_72 rfl ?_
      refine ck_irem C dX11_drawDeed_73 (by decide) ?_
      refine cj_let h (fun y19 h => ?_)
      refine cj_istore C (lv' := [some (.ref (w.2.1 0)), some (.int y3), some (.int y13), some (.int y16), some (.int y19)]) dX11_drawDeed_74 (by decide) rfl rfl ?_
      refine cj_iload_n C (i := 2) dX11_drawDeed_76 rfl rfl ?_
      refine cj_iload_n C (i := 3) dX11_drawDeed_77 rfl rfl ?_
      refine cj_iload C dX11_drawDeed_78 rfl ?_
      refine cj_aload_n C (i := 0) dX11_drawDeed_80 rfl rfl ?_
      refine cj_callVi C (As := []) (rest := [.int y19, .int y16, .int y13]) qX11_draw mw_46_12 o_0 rfl rfl rfl (Nat.le_of_ble_eq_true rfl) (by decide) dX11_drawDeed_81 h (fun _ _ hf => m_X11_draw l w A S18 _ hf) (fun z20 S21 h => ?_)
      refine cj_bipush C (v := (6 : Int32)) dX11_drawDeed_84 rfl ?_
      refine ck_irem C dX11_drawDeed_86 (by decide) ?_
      refine cj_callSi C (As := [.int y13, .int y16, .int y19, .int (cpRem z20 (6 : Int32))]) (rest := []) qX11_deedOf mw_46_17 rfl rfl (Nat.le_of_ble_eq_true rfl) (by decide) dX11_drawDeed_87 h (fun _ _ hf => m_X11_deedOf l w A y13 y16 y19 (cpRem z20 (6 : Int32)) S21 _ hf) (fun z22 S23 h => ?_)
      exact cj_ireturn C hr h dX11_drawDeed_90
/-! X11_year -/
def fX11_year_35 (x2 : Int32) : Nat → Int32 → Int32 → cpS → Option (Int32 × cpS)
  | 0, _, _, _ => none
  | n + 1, x3, x4, S =>
    if x2 ≤ x4 then (
    if x3 ≤ 0 then (
    some (x3, S)) else (
    cpB (fX6_keep 61 S) fun _ S2 =>
    some (x3, S2))) else (
    cpB (fX11_drawDeed S) fun z3 S4 =>
    cpB (fX0_tryDeed (Int32.toInt64 z3) S4) fun z5 S6 =>
    if z5 = 0 then (
    fX11_year_35 x2 n (x3 + 1) (x4 + 1) S6) else (
    fX11_year_35 x2 n x3 (x4 + 1) S6))
set_option maxRecDepth 100000 in
set_option maxHeartbeats 4000000 in
theorem wX11_year_35 (C : cpCx p s m args meth c w A cX11_year RX11 5) (hr : meth.sig.returnType = (some .int)) {r : Int32 × cpS} (x2 : Int32) : ∀ (n : Nat) (x3 : Int32) (x4 : Int32) (S : cpS), fX11_year_35 x2 n x3 x4 S = some r → cpJ p l e (cpRm 6) s m args below meth c (MQ below (va_Qi (fun x S' => (x, S') = r) (cpWorld w A) A) args s 0 0 A) w A 5 35 [some (.ref (w.2.1 0)), none, some (.int x2), some (.int x3), some (.int x4)] [] S := by
  intro n
  induction n with
  | zero => intro x3 x4 S h; rw [fX11_year_35] at h; cases h
  | succ n ih =>
    intro x3 x4 S h
    rw [fX11_year_35] at h
    refine cj_iload C dX11_year_35 rfl ?_
    refine cj_iload_n C (i := 2) dX11_year_37 rfl rfl ?_
    refine cj_icmp_ge C (tgt := 65) dX11_year_38 rfl h (fun _ h => ?_) (fun _ h => ?_)
    · refine cj_iload_n C (i := 3) dX11_year_65 rfl rfl ?_
      refine cj_if_le C (tgt := 80) dX11_year_66 rfl h (fun _ h => ?_) (fun _ h => ?_)
      · refine cj_iload_n C (i := 3) dX11_year_80 rfl rfl ?_
        exact cj_ireturn C hr h dX11_year_81
      · refine cj_aload_n C (i := 0) dX11_year_69 rfl rfl ?_
        refine cj_getR C (d := 113) o_0 rfl gfX11_29 dX11_year_70 ?_
        refine cj_aload_n C (i := 0) dX11_year_73 rfl rfl ?_
        refine cj_getR C (d := 61) o_0 rfl gfX11_23 dX11_year_74 ?_
        refine cj_callVv C (As := [.ref (w.2.1 61)]) (rest := []) qX6_keep mw_38_23 o_113 rfl rfl rfl (Nat.le_of_ble_eq_true rfl) (by decide) dX11_year_77 h (fun _ _ hf => m_X6_keep l w A kNw_61 S _ hf) (fun z1 S2 h => ?_)
        refine cj_iload_n C (i := 3) dX11_year_80 rfl rfl ?_
        exact cj_ireturn C hr h dX11_year_81
    · refine cj_aload_n C (i := 0) dX11_year_41 rfl rfl ?_
      refine cj_getR C (d := 117) o_0 rfl gfX11_45 dX11_year_42 ?_
      refine cj_aload_n C (i := 0) dX11_year_45 rfl rfl ?_
      refine cj_callVi C (As := []) (rest := [.ref (w.2.1 117)]) qX11_drawDeed mw_46_8 o_0 rfl rfl rfl (Nat.le_of_ble_eq_true rfl) (by decide) dX11_year_46 h (fun _ _ hf => m_X11_drawDeed l w A S _ hf) (fun z3 S4 h => ?_)
      refine cj_i2l C dX11_year_49 ?_
      refine cj_callVi C (As := [.long (Int32.toInt64 z3)]) (rest := []) qX0_tryDeed mw_43_6 o_117 rfl rfl rfl (Nat.le_of_ble_eq_true rfl) (by decide) dX11_year_50 h (fun _ _ hf => m_X0_tryDeed l w A (Int32.toInt64 z3) S4 _ hf) (fun z5 S6 h => ?_)
      refine cj_if_ne C (tgt := 59) dX11_year_53 rfl h (fun _ h => ?_) (fun _ h => ?_)
      · refine cj_iinc C (v := (x3 + 1)) (lv' := [some (.ref (w.2.1 0)), none, some (.int x2), some (.int (x3 + 1)), some (.int x4)]) dX11_year_56 rfl rfl (by decide) rfl rfl ?_
        refine cj_iinc C (v := (x4 + 1)) (lv' := [some (.ref (w.2.1 0)), none, some (.int x2), some (.int (x3 + 1)), some (.int (x4 + 1))]) dX11_year_59 rfl rfl (by decide) rfl rfl ?_
        refine cj_goto C (tgt := 35) dX11_year_62 rfl ?_
        exact ih (x3 + 1) (x4 + 1) S6 h
      · refine cj_iinc C (v := (x4 + 1)) (lv' := [some (.ref (w.2.1 0)), none, some (.int x2), some (.int x3), some (.int (x4 + 1))]) dX11_year_59 rfl rfl (by decide) rfl rfl ?_
        refine cj_goto C (tgt := 35) dX11_year_62 rfl ?_
        exact ih x3 (x4 + 1) S6 h
def fX11_year (x1 : Int32) (x2 : Int32) (S : cpS) : Option (Int32 × cpS) :=
    if x2 < (1 : Int32) then (
    some ((-3 : Int32), S)) else (
    if x2 ≤ (40 : Int32) then (
    cpB (fX5_copyFrom 61 57 S) fun _ S2 =>
    cpLt (cpI S2 0 14 x1) fun S3 =>
    fX11_year_35 x2 cpFu (0 : Int32) (0 : Int32) S3) else (
    some ((-3 : Int32), S)))
set_option maxRecDepth 100000 in
set_option maxHeartbeats 4000000 in
theorem m_X11_year (l : Launch) (w : cpW) (A : Nat → Prop) (x1 : Int32) (x2 : Int32) (S : cpS) (r : Int32 × cpS) (h : fX11_year x1 x2 S = some r) : cpMi l yX11_year cX11_year 5 ((some .int)) 6 w A [.ref (w.2.1 0), .int x1, .int x2] S r := by
  refine cpMi.of (lv := [some (.ref (w.2.1 0)), some (.int x1), some (.int x2), none, none]) (by decide) (Nat.le_of_ble_eq_true rfl) rfl (fun p e s m args below meth c C hr => ?_)
  replace C : cpCx p s m args meth c w A cX11_year RX11 5 := C
  rw [fX11_year] at h
  refine cj_iload_n C (i := 2) dX11_year_0 rfl rfl ?_
  refine cj_iconst C (v := (1 : Int32)) dX11_year_1 rfl ?_
  refine cj_icmp_lt C (tgt := 11) dX11_year_2 rfl h (fun _ h => ?_) (fun _ h => ?_)
  · refine cj_bipush C (v := (-3 : Int32)) dX11_year_11 rfl ?_
    exact cj_ireturn C hr h dX11_year_13
  · refine cj_iload_n C (i := 2) dX11_year_5 rfl rfl ?_
    refine cj_bipush C (v := (40 : Int32)) dX11_year_6 rfl ?_
    refine cj_icmp_le C (tgt := 14) dX11_year_8 rfl h (fun _ h => ?_) (fun _ h => ?_)
    · refine cj_aload_n C (i := 0) dX11_year_14 rfl rfl ?_
      refine cj_getR C (d := 61) o_0 rfl gfX11_23 dX11_year_15 ?_
      refine cj_aload_n C (i := 0) dX11_year_18 rfl rfl ?_
      refine cj_getR C (d := 57) o_0 rfl gfX11_19 dX11_year_19 ?_
      refine cj_callVv C (As := [.ref (w.2.1 57)]) (rest := []) qX5_copyFrom mw_40_9 o_61 rfl rfl rfl (Nat.le_of_ble_eq_true rfl) (by decide) dX11_year_22 h (fun _ _ hf => m_X5_copyFrom l w A kNw_61 kNw_57 S _ hf) (fun z1 S2 h => ?_)
      refine cj_aload_n C (i := 0) dX11_year_25 rfl rfl ?_
      refine cj_iload_n C (i := 1) dX11_year_26 rfl rfl ?_
      refine cj_put C (j := 14) o_0 rfl pfX11_252 rfl rfl dX11_year_27 ?_
      refine cj_lets h (fun S3 h => ?_)
      refine cj_iconst C (v := (0 : Int32)) dX11_year_30 rfl ?_
      refine cj_istore_n C (i := 3) (lv' := [some (.ref (w.2.1 0)), some (.int x1), some (.int x2), some (.int (0 : Int32)), none]) dX11_year_31 rfl (by decide) rfl rfl ?_
      refine cj_iconst C (v := (0 : Int32)) dX11_year_32 rfl ?_
      refine cj_istore C (lv' := [some (.ref (w.2.1 0)), some (.int x1), some (.int x2), some (.int (0 : Int32)), some (.int (0 : Int32))]) dX11_year_33 (by decide) rfl rfl ?_
      refine cj_weak C (lv' := [some (.ref (w.2.1 0)), none, some (.int x2), some (.int (0 : Int32)), some (.int (0 : Int32))]) (cpSub_s (cpSub_n (cpSub_s (cpSub_s (cpSub_s cpSub_nil))))) ?_
      exact wX11_year_35 C hr x2 cpFu (0 : Int32) (0 : Int32) S3 h
    · refine cj_bipush C (v := (-3 : Int32)) dX11_year_11 rfl ?_
      exact cj_ireturn C hr h dX11_year_13
/-! X11_soonest -/
def fX11_soonest (x1 : Int32) (x2 : Int32) (S : cpS) : Option (Int32 × cpS) :=
    cpB (fX11_coinAndPlace x1 x2 S) fun z1 S2 =>
    if z1 = 0 then (
    some ((-2 : Int32), S2)) else (
    cpB (fX4_learn x1 (0 : Int32) S2) fun _ S4 =>
    cpB (fX4_measureTo x2 S4) fun _ S6 =>
    if cpIn x1 4 then (
    if cpIn (S6.1 58 x1.toNatClampNeg) 6 then (
    some ((S6.1 122 (S6.1 58 x1.toNatClampNeg).toNatClampNeg), S6)) else none) else none)
set_option maxRecDepth 100000 in
set_option maxHeartbeats 4000000 in
theorem m_X11_soonest (l : Launch) (w : cpW) (A : Nat → Prop) (x1 : Int32) (x2 : Int32) (S : cpS) (r : Int32 × cpS) (h : fX11_soonest x1 x2 S = some r) : cpMi l yX11_soonest cX11_soonest 3 ((some .int)) 6 w A [.ref (w.2.1 0), .int x1, .int x2] S r := by
  refine cpMi.of (lv := [some (.ref (w.2.1 0)), some (.int x1), some (.int x2)]) (by decide) (Nat.le_of_ble_eq_true rfl) rfl (fun p e s m args below meth c C hr => ?_)
  replace C : cpCx p s m args meth c w A cX11_soonest RX11 3 := C
  rw [fX11_soonest] at h
  refine cj_aload_n C (i := 0) dX11_soonest_0 rfl rfl ?_
  refine cj_iload_n C (i := 1) dX11_soonest_1 rfl rfl ?_
  refine cj_iload_n C (i := 2) dX11_soonest_2 rfl rfl ?_
  refine cj_callVi C (As := [.int x1, .int x2]) (rest := []) qX11_coinAndPlace mw_38_7 o_0 rfl rfl rfl (Nat.le_of_ble_eq_true rfl) (by decide) dX11_soonest_3 h (fun _ _ hf => m_X11_coinAndPlace l w A x1 x2 S _ hf) (fun z1 S2 h => ?_)
  refine cj_if_ne C (tgt := 12) dX11_soonest_6 rfl h (fun _ h => ?_) (fun _ h => ?_)
  · refine cj_bipush C (v := (-2 : Int32)) dX11_soonest_9 rfl ?_
    exact cj_ireturn C hr h dX11_soonest_11
  · refine cj_aload_n C (i := 0) dX11_soonest_12 rfl rfl ?_
    refine cj_getR C (d := 119) o_0 rfl gfX11_54 dX11_soonest_13 ?_
    refine cj_iload_n C (i := 1) dX11_soonest_16 rfl rfl ?_
    refine cj_iconst C (v := (0 : Int32)) dX11_soonest_17 rfl ?_
    refine cj_callVv C (As := [.int x1, .int (0 : Int32)]) (rest := []) qX4_learn mw_47_16 o_119 rfl rfl rfl (Nat.le_of_ble_eq_true rfl) (by decide) dX11_soonest_18 h (fun _ _ hf => m_X4_learn l w A x1 (0 : Int32) S2 _ hf) (fun z3 S4 h => ?_)
    refine cj_aload_n C (i := 0) dX11_soonest_21 rfl rfl ?_
    refine cj_getR C (d := 119) o_0 rfl gfX11_54 dX11_soonest_22 ?_
    refine cj_iload_n C (i := 2) dX11_soonest_25 rfl rfl ?_
    refine cj_callVv C (As := [.int x2]) (rest := []) qX4_measureTo mw_48_13 o_119 rfl rfl rfl (Nat.le_of_ble_eq_true rfl) (by decide) dX11_soonest_26 h (fun _ _ hf => m_X4_measureTo l w A x2 S4 _ hf) (fun z5 S6 h => ?_)
    refine cj_aload_n C (i := 0) dX11_soonest_29 rfl rfl ?_
    refine cj_getR C (d := 119) o_0 rfl gfX11_54 dX11_soonest_30 ?_
    refine cj_getR C (d := 122) o_119 rfl gfX11_273 dX11_soonest_33 ?_
    refine cj_aload_n C (i := 0) dX11_soonest_36 rfl rfl ?_
    refine cj_getR C (d := 57) o_0 rfl gfX11_19 dX11_soonest_37 ?_
    refine cj_getR C (d := 58) o_57 rfl gfX11_150 dX11_soonest_40 ?_
    refine cj_iload_n C (i := 1) dX11_soonest_43 rfl rfl ?_
    refine cj_iaload C o_58 h dX11_soonest_44 (fun h => ?_)
    refine cj_iaload C o_122 h dX11_soonest_45 (fun h => ?_)
    exact cj_ireturn C hr h dX11_soonest_46
/-! X11_way -/
def fX11_way_78 (x1 : Int32) (x3 : Int32) : Nat → Int32 → Int32 → cpS → Option (Int32 × cpS)
  | 0, _, _, _ => none
  | n + 1, x5, x6, S =>
    if x3 ≤ x6 then (
    some (x5, S)) else (
    if (6 : Int32) ≤ x6 then (
    some (x5, S)) else (
    cpB (fX4_firstDeed x1 (cpRem x5 (10 : Int32)) S) fun z1 S2 =>
    fX11_way_78 x1 x3 n z1 (x6 + 1) S2))
set_option maxRecDepth 100000 in
set_option maxHeartbeats 4000000 in
theorem wX11_way_78 (C : cpCx p s m args meth c w A cX11_way RX11 7) (hr : meth.sig.returnType = (some .int)) {r : Int32 × cpS} (x1 : Int32) (x3 : Int32) : ∀ (n : Nat) (x5 : Int32) (x6 : Int32) (S : cpS), fX11_way_78 x1 x3 n x5 x6 S = some r → cpJ p l e (cpRm 6) s m args below meth c (MQ below (va_Qi (fun x S' => (x, S') = r) (cpWorld w A) A) args s 0 0 A) w A 7 78 [some (.ref (w.2.1 0)), some (.int x1), none, some (.int x3), none, some (.int x5), some (.int x6)] [] S := by
  intro n
  induction n with
  | zero => intro x5 x6 S h; rw [fX11_way_78] at h; cases h
  | succ n ih =>
    intro x5 x6 S h
    rw [fX11_way_78] at h
    refine cj_iload C dX11_way_78 rfl ?_
    refine cj_iload_n C (i := 3) dX11_way_80 rfl rfl ?_
    refine cj_icmp_ge C (tgt := 112) dX11_way_81 rfl h (fun _ h => ?_) (fun _ h => ?_)
    · refine cj_iload C dX11_way_112 rfl ?_
      exact cj_ireturn C hr h dX11_way_114
    · refine cj_iload C dX11_way_84 rfl ?_
      refine cj_bipush C (v := (6 : Int32)) dX11_way_86 rfl ?_
      refine cj_icmp_ge C (tgt := 112) dX11_way_88 rfl h (fun _ h => ?_) (fun _ h => ?_)
      · refine cj_iload C dX11_way_112 rfl ?_
        exact cj_ireturn C hr h dX11_way_114
      · refine cj_aload_n C (i := 0) dX11_way_91 rfl rfl ?_
        refine cj_getR C (d := 119) o_0 rfl gfX11_54 dX11_way_92 ?_
        refine cj_iload_n C (i := 1) dX11_way_95 rfl rfl ?_
        refine cj_iload C dX11_way_96 rfl ?_
        refine cj_bipush C (v := (10 : Int32)) dX11_way_98 rfl ?_
        refine ck_irem C dX11_way_100 (by decide) ?_
        refine cj_callVi C (As := [.int x1, .int (cpRem x5 (10 : Int32))]) (rest := []) qX4_firstDeed mw_50_2 o_119 rfl rfl rfl (Nat.le_of_ble_eq_true rfl) (by decide) dX11_way_101 h (fun _ _ hf => m_X4_firstDeed l w A x1 (cpRem x5 (10 : Int32)) S _ hf) (fun z1 S2 h => ?_)
        refine cj_istore C (lv' := [some (.ref (w.2.1 0)), some (.int x1), none, some (.int x3), none, some (.int z1), some (.int x6)]) dX11_way_104 (by decide) rfl rfl ?_
        refine cj_iinc C (v := (x6 + 1)) (lv' := [some (.ref (w.2.1 0)), some (.int x1), none, some (.int x3), none, some (.int z1), some (.int (x6 + 1))]) dX11_way_106 rfl rfl (by decide) rfl rfl ?_
        refine cj_goto C (tgt := 78) dX11_way_109 rfl ?_
        exact ih z1 (x6 + 1) S2 h
def fX11_way (x1 : Int32) (x2 : Int32) (x3 : Int32) (S : cpS) : Option (Int32 × cpS) :=
    cpB (fX11_coinAndPlace x1 x2 S) fun z1 S2 =>
    if z1 = 0 then (
    some ((-2 : Int32), S2)) else (
    if 0 ≤ x3 then (
    cpB (fX4_learn x1 (0 : Int32) S2) fun _ S4 =>
    cpB (fX4_measureTo x2 S4) fun _ S6 =>
    if cpIn x1 4 then (
    cpLt (S6.1 58 x1.toNatClampNeg) fun y7 =>
    if cpIn y7 6 then (
    if x3 < (S6.1 122 y7.toNatClampNeg) then (
    cpB (fX4_firstDeed x1 y7 S6) fun z8 S9 =>
    fX11_way_78 x1 x3 cpFu z8 (0 : Int32) S9) else (
    some ((-1 : Int32), S6))) else none) else none) else (
    some ((-3 : Int32), S2)))
set_option maxRecDepth 100000 in
set_option maxHeartbeats 4000000 in
theorem m_X11_way (l : Launch) (w : cpW) (A : Nat → Prop) (x1 : Int32) (x2 : Int32) (x3 : Int32) (S : cpS) (r : Int32 × cpS) (h : fX11_way x1 x2 x3 S = some r) : cpMi l yX11_way cX11_way 7 ((some .int)) 6 w A [.ref (w.2.1 0), .int x1, .int x2, .int x3] S r := by
  refine cpMi.of (lv := [some (.ref (w.2.1 0)), some (.int x1), some (.int x2), some (.int x3), none, none, none]) (by decide) (Nat.le_of_ble_eq_true rfl) rfl (fun p e s m args below meth c C hr => ?_)
  replace C : cpCx p s m args meth c w A cX11_way RX11 7 := C
  rw [fX11_way] at h
  refine cj_aload_n C (i := 0) dX11_way_0 rfl rfl ?_
  refine cj_iload_n C (i := 1) dX11_way_1 rfl rfl ?_
  refine cj_iload_n C (i := 2) dX11_way_2 rfl rfl ?_
  refine cj_callVi C (As := [.int x1, .int x2]) (rest := []) qX11_coinAndPlace mw_38_7 o_0 rfl rfl rfl (Nat.le_of_ble_eq_true rfl) (by decide) dX11_way_3 h (fun _ _ hf => m_X11_coinAndPlace l w A x1 x2 S _ hf) (fun z1 S2 h => ?_)
  refine cj_if_ne C (tgt := 12) dX11_way_6 rfl h (fun _ h => ?_) (fun _ h => ?_)
  · refine cj_bipush C (v := (-2 : Int32)) dX11_way_9 rfl ?_
    exact cj_ireturn C hr h dX11_way_11
  · refine cj_iload_n C (i := 3) dX11_way_12 rfl rfl ?_
    refine cj_if_ge C (tgt := 19) dX11_way_13 rfl h (fun _ h => ?_) (fun _ h => ?_)
    · refine cj_aload_n C (i := 0) dX11_way_19 rfl rfl ?_
      refine cj_getR C (d := 119) o_0 rfl gfX11_54 dX11_way_20 ?_
      refine cj_iload_n C (i := 1) dX11_way_23 rfl rfl ?_
      refine cj_iconst C (v := (0 : Int32)) dX11_way_24 rfl ?_
      refine cj_callVv C (As := [.int x1, .int (0 : Int32)]) (rest := []) qX4_learn mw_47_16 o_119 rfl rfl rfl (Nat.le_of_ble_eq_true rfl) (by decide) dX11_way_25 h (fun _ _ hf => m_X4_learn l w A x1 (0 : Int32) S2 _ hf) (fun z3 S4 h => ?_)
      refine cj_aload_n C (i := 0) dX11_way_28 rfl rfl ?_
      refine cj_getR C (d := 119) o_0 rfl gfX11_54 dX11_way_29 ?_
      refine cj_iload_n C (i := 2) dX11_way_32 rfl rfl ?_
      refine cj_callVv C (As := [.int x2]) (rest := []) qX4_measureTo mw_48_13 o_119 rfl rfl rfl (Nat.le_of_ble_eq_true rfl) (by decide) dX11_way_33 h (fun _ _ hf => m_X4_measureTo l w A x2 S4 _ hf) (fun z5 S6 h => ?_)
      refine cj_aload_n C (i := 0) dX11_way_36 rfl rfl ?_
      refine cj_getR C (d := 57) o_0 rfl gfX11_19 dX11_way_37 ?_
      refine cj_getR C (d := 58) o_57 rfl gfX11_150 dX11_way_40 ?_
      refine cj_iload_n C (i := 1) dX11_way_43 rfl rfl ?_
      refine cj_iaload C o_58 h dX11_way_44 (fun h => ?_)
      refine cj_let h (fun y7 h => ?_)
      refine cj_istore C (lv' := [some (.ref (w.2.1 0)), some (.int x1), some (.int x2), some (.int x3), some (.int y7), none, none]) dX11_way_45 (by decide) rfl rfl ?_
      refine cj_iload_n C (i := 3) dX11_way_47 rfl rfl ?_
      refine cj_aload_n C (i := 0) dX11_way_48 rfl rfl ?_
      refine cj_getR C (d := 119) o_0 rfl gfX11_54 dX11_way_49 ?_
      refine cj_getR C (d := 122) o_119 rfl gfX11_273 dX11_way_52 ?_
      refine cj_iload C dX11_way_55 rfl ?_
      refine cj_iaload C o_122 h dX11_way_57 (fun h => ?_)
      refine cj_icmp_lt C (tgt := 63) dX11_way_58 rfl h (fun _ h => ?_) (fun _ h => ?_)
      · refine cj_aload_n C (i := 0) dX11_way_63 rfl rfl ?_
        refine cj_getR C (d := 119) o_0 rfl gfX11_54 dX11_way_64 ?_
        refine cj_iload_n C (i := 1) dX11_way_67 rfl rfl ?_
        refine cj_iload C dX11_way_68 rfl ?_
        refine cj_callVi C (As := [.int x1, .int y7]) (rest := []) qX4_firstDeed mw_50_2 o_119 rfl rfl rfl (Nat.le_of_ble_eq_true rfl) (by decide) dX11_way_70 h (fun _ _ hf => m_X4_firstDeed l w A x1 y7 S6 _ hf) (fun z8 S9 h => ?_)
        refine cj_istore C (lv' := [some (.ref (w.2.1 0)), some (.int x1), some (.int x2), some (.int x3), some (.int y7), some (.int z8), none]) dX11_way_73 (by decide) rfl rfl ?_
        refine cj_iconst C (v := (0 : Int32)) dX11_way_75 rfl ?_
        refine cj_istore C (lv' := [some (.ref (w.2.1 0)), some (.int x1), some (.int x2), some (.int x3), some (.int y7), some (.int z8), some (.int (0 : Int32))]) dX11_way_76 (by decide) rfl rfl ?_
        refine cj_weak C (lv' := [some (.ref (w.2.1 0)), some (.int x1), none, some (.int x3), none, some (.int z8), some (.int (0 : Int32))]) (cpSub_s (cpSub_s (cpSub_n (cpSub_s (cpSub_n (cpSub_s (cpSub_s cpSub_nil))))))) ?_
        exact wX11_way_78 C hr x1 x3 cpFu z8 (0 : Int32) S9 h
      · refine cj_iconst C (v := (-1 : Int32)) dX11_way_61 rfl ?_
        exact cj_ireturn C hr h dX11_way_62
    · refine cj_bipush C (v := (-3 : Int32)) dX11_way_16 rfl ?_
      exact cj_ireturn C hr h dX11_way_18
end CPV
