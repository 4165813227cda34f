/-! a coin -/
section CO
variable {t : Nat → Nat} {L s : Nat} {l : List Nat} {K R P C hh : Nat} {S M : cpS}
theorem vy_coin {A B : cpS} {v u y : Nat} (vy : Vy K R P C hh S M) (eC : ¬ C = 4) (v2 : v < K) (u2 : u ≤ 99) (y2 : y ≤ 99)
    (kc2 : Kp (fun q j => (q = 115 ∧ 3 ≤ j) ∨ ((q = 22 ∨ q = 23 ∨ q = 24) ∧ j = C) ∨ (q = 15 ∧ j = 11)) S (cpI A 15 11 (nI (C + 1)))) (km2 : Kp (fun q j => (q = 150 ∧ 6 ≤ j) ∨ (q = 154 ∧ (j = 4 ∨ j = 62 + C ∨ j = 54 + C ∨ j = 58 + C))) M (cpI B 154 4 (nI (C + 1))))
    (x1 : A.1 22 C = nI v) (x2 : A.1 23 C = nI u) (x3 : A.1 24 C = nI y) (w1 : B.1 154 (62 + C) = nI v) (w2 : B.1 154 (54 + C) = nI u) (w3 : B.1 154 (58 + C) = nI y) : Vy K R P (C + 1) hh (cpI A 15 11 (nI (C + 1))) (cpI B 154 4 (nI (C + 1))) := by
  obtain ⟨k1, k6, r9, p8, c4, h9⟩ := vy.b
  refine ⟨⟨k1, k6, r9, p8, by omega, h9⟩, ?_, ?_, ?_, ?_, ?_, ?_, sI1, sI1, ?_, ?_, ?_, fun r hr => ?_, fun p hp => ?_, fun c hc => ?_, fun c z1 z2 => ?_, ?_, fun j hj => ?_⟩
  · rw [kc2.i (by omega)]; exact vy.cK
  · rw [km2.i (by omega)]; exact vy.mK
  · rw [kc2.i (by omega)]; exact vy.cR
  · rw [km2.i (by omega)]; exact vy.mR
  · rw [kc2.i (by omega)]; exact vy.cP
  · rw [km2.i (by omega)]; exact vy.mP
  · rw [kc2.i (by omega)]; exact vy.ch
  · rw [km2.i (by omega)]; exact vy.mh
  · rw [kc2.i (by omega), km2.i (by omega)]; exact vy.ln
  · rw [kc2.i (by omega), kc2.i (by omega), kc2.i (by omega), km2.i (by omega), km2.i (by omega), km2.i (by omega)]; exact vy.rd r hr
  · rw [kc2.i (by omega), kc2.i (by omega), km2.i (by omega), km2.i (by omega)]; exact vy.pe p hp
  · by_cases e : c = C
    · subst e
      refine ⟨v, u, y, v2, u2, y2, ?_, ?_, ?_, ?_, ?_, ?_⟩
      · rw [sIn (Or.inl (by decide))]; exact x1
      · rw [sIn (Or.inl (by decide))]; exact x2
      · rw [sIn (Or.inl (by decide))]; exact x3
      · rw [sIn (Or.inr (by omega))]; exact w1
      · rw [sIn (Or.inr (by omega))]; exact w2
      · rw [sIn (Or.inr (by omega))]; exact w3
    · rw [kc2.i (by omega), kc2.i (by omega), kc2.i (by omega), km2.i (by omega), km2.i (by omega), km2.i (by omega)]; exact vy.co c (by omega)
  · rw [kc2.i (by omega), km2.i (by omega)]; exact vy.cz c (by omega) z2
  · obtain ⟨fd, y1, y2⟩ := vy.fd
    refine ⟨fd, fun p hp => ?_, y2⟩
    rw [kc2.i (by omega), km2.i (by omega)]; exact y1 p hp
  · rw [km2.i (by omega)]; exact vy.z j hj
def coT (y1 : Int32) (S8 : cpS) : Option (Int32 × cpS) :=
    cpB (fX7_takeWord 11 S8) fun z9 S10 =>
    if z9 = 0 then (
    some ((0 : Int32), S10)) else (
    cpB (fX7_takeNumber (0 : Int32) (99 : Int32) (-1 : Int32) S10) fun z11 S12 =>
    if z11 = 0 then (
    some ((0 : Int32), S12)) else (
    if cpIn y1 4 then (
    cpLt (cpI S12 23 y1.toNatClampNeg (S12.1 115 10)) fun S13 =>
    cpB (fX7_takeWord 12 S13) fun z14 S15 =>
    if z14 = 0 then (
    some ((0 : Int32), S15)) else (
    cpB (fX7_takeNumber (0 : Int32) (99 : Int32) (-1 : Int32) S15) fun z16 S17 =>
    if z16 = 0 then (
    some ((0 : Int32), S17)) else (
    if cpIn y1 4 then (
    cpLt (cpI S17 24 y1.toNatClampNeg (S17.1 115 10)) fun S18 =>
    cpLt (cpI S18 15 11 ((S18.1 15 11) + (1 : Int32))) fun S19 =>
    some ((1 : Int32), S19)) else none))) else none))
def moT (x1 : Int32) (S5 : cpS) : Option (Unit × cpS) :=
    cpB (fX12_named (10 : Int32) (0 : Int32) (99 : Int32) S5) fun z6 S7 =>
    if cpIn ((54 : Int32) + x1) 1162 then (
    cpLt (cpI S7 154 ((54 : Int32) + x1).toNatClampNeg z6) fun S8 =>
    cpB (fX12_named (11 : Int32) (0 : Int32) (99 : Int32) S8) fun z9 S10 =>
    if cpIn ((58 : Int32) + x1) 1162 then (
    cpLt (cpI S10 154 ((58 : Int32) + x1).toNatClampNeg z9) fun S11 =>
    if (S11.1 150 11) = 0 then (
    cpLt (cpI S11 154 4 ((S11.1 154 4) + (1 : Int32))) fun S12 =>
    some ((), S12)) else (
    some ((), S11))) else none) else none
theorem l_coin2 (hl : Ln t L s l K R P C hh S M) (eC : ¬ C = 4) {A0 B0 : cpS} {s2 v : Nat} (c1 : Rp t L s2 A0 B0) (hs2 : s < s2) (v2 : v < K) (kA0 : Kp (fun q j => (q = 115 ∧ 3 ≤ j) ∨ (q = 22 ∧ j = C)) S A0) (kB0 : Kp (fun q j => (q = 150 ∧ 6 ≤ j) ∨ (q = 154 ∧ j = 62 + C)) M B0) (xA : A0.1 22 C = nI v) (xB : B0.1 154 (62 + C) = nI v) : Lo t L s S M (coT (nI C) A0) (moT (nI C) B0) := by
  have l9 := hl.rp.ct.1
  have vy := hl.vy
  obtain ⟨k1, k6, r9, p8, c4, h9⟩ := vy.b
  rcases c1.named (k := 11) (a := 0) (B := 100) (x2 := nI 99) (by decide) (by decide) (by decide) (uB.n (by decide)) with ⟨u, A3, S3, M3, -, u2, o1, o1', o2, o3, o5, s3, d1, d2, d3, d4⟩ | ⟨z, A3, S3, M3, o1, o2, f1, f2, f3⟩
  · have o2 : fX12_named (nI 10) (nI 0) (nI 99) B0 = some (nI u, M3) := o2
    have e1 : Rp t L s3 (cpI S3 23 C (nI u)) (cpI M3 154 (54 + C) (nI u)) := (d1.wS (by decide)).wM
    rcases e1.named (k := 12) (a := 0) (B := 100) (x2 := nI 99) (by decide) (by decide) (by decide) (uB.n (by decide)) with ⟨y, S4, S5, M5, -, y2, g1, g2, g3, g4, g5, s5, i1, i2, i3, i4⟩ | ⟨z, S4, S5, M5, g1, g2, f1, f2, f3⟩
    · have g3 : fX12_named (nI 11) (nI 0) (nI 99) (cpI M3 154 (54 + C) (nI u)) = some (nI y, M5) := g3
      have kc : Kp (fun q j => (q = 115 ∧ 3 ≤ j) ∨ ((q = 22 ∨ q = 23 ∨ q = 24) ∧ j = C)) S (cpI S5 24 C (nI y)) := by
        have lc : ∀ {A B : cpS}, Kp kRc A B → Kp (fun q j => (q = 115 ∧ 3 ≤ j) ∨ ((q = 22 ∨ q = 23 ∨ q = 24) ∧ j = C)) A B := fun h => h.le (fun q j h => Or.inl ⟨h.1, h.2.1⟩)
        exact (((((kA0.le (fun q j h => by omega)).tr (lc d3)).I (k := 23) (j := C) (by exact Or.inr ⟨by omega, rfl⟩)).tr (lc i3))).I (by exact Or.inr ⟨by omega, rfl⟩)
      have km : Kp (fun q j => (q = 150 ∧ 6 ≤ j) ∨ (q = 154 ∧ (j = 62 + C ∨ j = 54 + C ∨ j = 58 + C))) M (cpI M5 154 (58 + C) (nI y)) := by
        have lc : ∀ {A B : cpS}, Kp kRm A B → Kp (fun q j => (q = 150 ∧ 6 ≤ j) ∨ (q = 154 ∧ (j = 62 + C ∨ j = 54 + C ∨ j = 58 + C))) A B := fun h => h.le (fun q j h => Or.inl ⟨h.1, h.2.1⟩)
        exact (((((kB0.le (fun q j h => by omega)).tr (lc d4)).I (k := 154) (j := 54 + C) (by exact Or.inr ⟨rfl, by omega⟩)).tr (lc i4))).I (by exact Or.inr ⟨rfl, by omega⟩)
      have x1 : (cpI S5 24 C (nI y)).1 22 C = nI v := by
        rw [sIn (Or.inl (by decide)), i3.i (by unfold kRc; omega), sIn (Or.inl (by decide)), d3.i (by unfold kRc; omega)]; exact xA
      have x2 : (cpI S5 24 C (nI y)).1 23 C = nI u := by
        rw [sIn (Or.inl (by decide)), i3.i (by unfold kRc; omega), sI1]
      have x3 : (cpI S5 24 C (nI y)).1 24 C = nI y := sI1
      have w1 : (cpI M5 154 (58 + C) (nI y)).1 154 (62 + C) = nI v := by
        rw [sIn (Or.inr (by omega)), i4.i (by unfold kRm; omega), sIn (Or.inr (by omega)), d4.i (by unfold kRm; omega)]; exact xB
      have w2 : (cpI M5 154 (58 + C) (nI y)).1 154 (54 + C) = nI u := by
        rw [sIn (Or.inr (by omega)), i4.i (by unfold kRm; omega), sI1]
      have w3 : (cpI M5 154 (58 + C) (nI y)).1 154 (58 + C) = nI y := sI1
      have j1 : Rp t L s5 (cpI S5 24 C (nI y)) (cpI M5 154 (58 + C) (nI y)) := (i1.wS (by decide)).wM
      have q1 : (cpI S5 24 C (nI y)).1 15 11 = nI C := by rw [kc.i (by omega)]; exact vy.cC
      have q2 : (cpI M5 154 (58 + C) (nI y)).1 154 4 = nI C := by rw [km.i (by omega)]; exact vy.mC
      have q3 : (cpI M5 154 (58 + C) (nI y)).1 150 11 = nI 0 := j1.m11
      generalize eA : cpI S5 24 C (nI y) = A at kc x1 x2 x3 j1 q1
      generalize eB : cpI M5 154 (58 + C) (nI y) = B at km w1 w2 w3 j1 q2 q3
      have kc2 : Kp (fun q j => (q = 115 ∧ 3 ≤ j) ∨ ((q = 22 ∨ q = 23 ∨ q = 24) ∧ j = C) ∨ (q = 15 ∧ j = 11)) S (cpI A 15 11 (nI (C + 1))) := (kc.le (fun q j h => by omega)).I (by exact Or.inr (Or.inr ⟨rfl, rfl⟩))
      have km2 : Kp (fun q j => (q = 150 ∧ 6 ≤ j) ∨ (q = 154 ∧ (j = 4 ∨ j = 62 + C ∨ j = 54 + C ∨ j = 58 + C))) M (cpI B 154 4 (nI (C + 1))) := (km.le (fun q j h => by omega)).I (by exact Or.inr ⟨rfl, Or.inl rfl⟩)
      have vv := vy_coin vy eC v2 (by omega) (by omega) kc2 km2 x1 x2 x3 w1 w2 w3
      have bg := hl.bg
      refine Or.inl ⟨s5, cpI A 15 11 (nI (C + 1)), cpI B 154 4 (nI (C + 1)), ?_, ?_, ⟨l, K, R, P, C + 1, hh, (j1.wS (by decide)).wM, hl.cd.kp kc2 km2 (by omega) (fun j => by omega) (fun j _ => by omega), hl.lw.kp0 kc2 km2 (fun j _ _ => by omega) (fun j _ _ => by omega), vv, by omega⟩, by omega, kc2.le (fun q j h => by unfold kVc; omega), km2.le (fun q j h => by unfold kVm; omega)⟩
      · unfold coT; simp (disch := omega) only [lit, lm1, nI_add, pk_mul, nm_eq, nm_eq', nm_lt, nm_lt', nm_le, nm_le', x_lt, x_le, x_eq, x_in, x_cl, x_div, x_sub, x_rem, x_min, x_max, x_and, x_or, x_xor, x_df, x_shl, bI_0, bI_1, bI_bo, lg_eq, toL_inj, ls_nI, decide_eq_false_iff_not, decide_eq_true_eq, Bool.true_eq_false, Bool.false_eq_true, bq, if_pos, if_neg, if_true, if_false, lq, Nat.reduceAdd, Nat.reduceMul, Nat.reduceSub, Nat.reduceDiv, Nat.reduceMod, o1, o1', o3, g1, g2, g4, eA, q1]
      · unfold moT; simp (disch := omega) only [lit, lm1, nI_add, pk_mul, nm_eq, nm_eq', nm_lt, nm_lt', nm_le, nm_le', x_lt, x_le, x_eq, x_in, x_cl, x_div, x_sub, x_rem, x_min, x_max, x_and, x_or, x_xor, x_df, x_shl, bI_0, bI_1, bI_bo, lg_eq, toL_inj, ls_nI, decide_eq_false_iff_not, decide_eq_true_eq, Bool.true_eq_false, Bool.false_eq_true, bq, if_pos, if_neg, if_true, if_false, lq, Nat.reduceAdd, Nat.reduceMul, Nat.reduceSub, Nat.reduceDiv, Nat.reduceMod, o2, g3, eB, q3, q2]
    · have g2 : fX12_named (nI 11) (nI 0) (nI 99) (cpI M3 154 (54 + C) (nI u)) = some (z, M5) := g2
      have fm1 : ((cpI M5 154 (58 + C) z).1 150 11 = nI 0) = False := eq_false f1.fm.w
      refine Or.inr ⟨S5, cpI M5 154 (58 + C) z, ?_, ?_, f1.w, ?_, ?_⟩
      rotate_left 2
      · exact vy.fl ((((kA0.le (fun q j h => by unfold kFc; omega)).tr (kRc.f d3)).I (k := 23) (j := C) (by unfold kFc; omega)).tr (kRc.f f2))
      · exact ((((kB0.le (fun q j h => by unfold kVm; omega)).tr (kRm.v d4)).I (k := 154) (j := 54 + C) (by exact Or.inl rfl)).tr (kRm.v f3)).I (by exact Or.inl rfl)
      · rcases g1 with g1 | ⟨g1, -, g1'⟩
        · unfold coT; simp (disch := omega) only [lit, lm1, nI_add, pk_mul, nm_eq, nm_eq', nm_lt, nm_lt', nm_le, nm_le', x_lt, x_le, x_eq, x_in, x_cl, x_div, x_sub, x_rem, x_min, x_max, x_and, x_or, x_xor, x_df, x_shl, bI_0, bI_1, bI_bo, lg_eq, toL_inj, ls_nI, decide_eq_false_iff_not, decide_eq_true_eq, Bool.true_eq_false, Bool.false_eq_true, bq, if_pos, if_neg, if_true, if_false, lq, Nat.reduceAdd, Nat.reduceMul, Nat.reduceSub, Nat.reduceDiv, Nat.reduceMod, o1, o1', o3, g1]
        · unfold coT; simp (disch := omega) only [lit, lm1, nI_add, pk_mul, nm_eq, nm_eq', nm_lt, nm_lt', nm_le, nm_le', x_lt, x_le, x_eq, x_in, x_cl, x_div, x_sub, x_rem, x_min, x_max, x_and, x_or, x_xor, x_df, x_shl, bI_0, bI_1, bI_bo, lg_eq, toL_inj, ls_nI, decide_eq_false_iff_not, decide_eq_true_eq, Bool.true_eq_false, Bool.false_eq_true, bq, if_pos, if_neg, if_true, if_false, lq, Nat.reduceAdd, Nat.reduceMul, Nat.reduceSub, Nat.reduceDiv, Nat.reduceMod, o1, o1', o3, g1, g1']
      · unfold moT; simp (disch := omega) only [lit, lm1, nI_add, pk_mul, nm_eq, nm_eq', nm_lt, nm_lt', nm_le, nm_le', x_lt, x_le, x_eq, x_in, x_cl, x_div, x_sub, x_rem, x_min, x_max, x_and, x_or, x_xor, x_df, x_shl, bI_0, bI_1, bI_bo, lg_eq, toL_inj, ls_nI, decide_eq_false_iff_not, decide_eq_true_eq, Bool.true_eq_false, Bool.false_eq_true, bq, if_pos, if_neg, if_true, if_false, lq, Nat.reduceAdd, Nat.reduceMul, Nat.reduceSub, Nat.reduceDiv, Nat.reduceMod, o2, g2, fm1]
  · have o2 : fX12_named (nI 10) (nI 0) (nI 99) B0 = some (z, M3) := o2
    have fm1 := f1.fm.w (j := 54 + C) (x := z)
    have fm3 := eq_false (fm1.w (j := 58 + C) (x := (cpI M3 154 (54 + C) z).1 150 10))
    refine Or.inr ⟨S3, cpI (cpI M3 154 (54 + C) z) 154 (58 + C) ((cpI M3 154 (54 + C) z).1 150 10), ?_, ?_, f1.w.w, vy.fl ((kA0.le (fun q j h => by unfold kFc; omega)).tr (kRc.f f2)), ?_⟩
    · rcases o1 with o1 | ⟨o1, -, o1'⟩
      · unfold coT; simp (disch := omega) only [lit, lm1, nI_add, pk_mul, nm_eq, nm_eq', nm_lt, nm_lt', nm_le, nm_le', x_lt, x_le, x_eq, x_in, x_cl, x_div, x_sub, x_rem, x_min, x_max, x_and, x_or, x_xor, x_df, x_shl, bI_0, bI_1, bI_bo, lg_eq, toL_inj, ls_nI, decide_eq_false_iff_not, decide_eq_true_eq, Bool.true_eq_false, Bool.false_eq_true, bq, if_pos, if_neg, if_true, if_false, lq, Nat.reduceAdd, Nat.reduceMul, Nat.reduceSub, Nat.reduceDiv, Nat.reduceMod, o1]
      · unfold coT; simp (disch := omega) only [lit, lm1, nI_add, pk_mul, nm_eq, nm_eq', nm_lt, nm_lt', nm_le, nm_le', x_lt, x_le, x_eq, x_in, x_cl, x_div, x_sub, x_rem, x_min, x_max, x_and, x_or, x_xor, x_df, x_shl, bI_0, bI_1, bI_bo, lg_eq, toL_inj, ls_nI, decide_eq_false_iff_not, decide_eq_true_eq, Bool.true_eq_false, Bool.false_eq_true, bq, if_pos, if_neg, if_true, if_false, lq, Nat.reduceAdd, Nat.reduceMul, Nat.reduceSub, Nat.reduceDiv, Nat.reduceMod, o1, o1']
    · unfold moT; simp (disch := omega) only [lit, lm1, nI_add, pk_mul, nm_eq, nm_eq', nm_lt, nm_lt', nm_le, nm_le', x_lt, x_le, x_eq, x_in, x_cl, x_div, x_sub, x_rem, x_min, x_max, x_and, x_or, x_xor, x_df, x_shl, bI_0, bI_1, bI_bo, lg_eq, toL_inj, ls_nI, decide_eq_false_iff_not, decide_eq_true_eq, Bool.true_eq_false, Bool.false_eq_true, bq, if_pos, if_neg, if_true, if_false, lq, Nat.reduceAdd, Nat.reduceMul, Nat.reduceSub, Nat.reduceDiv, Nat.reduceMod, o2, f_named fm1, fm3]
    · exact (((kB0.le (fun q j h => by unfold kVm; omega)).tr (kRm.v f3)).I (by exact Or.inl rfl)).I (by exact Or.inl rfl)
theorem moT_f {A N : cpS} (c4 : C < 4) (f1 : Fp A N) : ∃ N', moT (nI C) N = some ((), N') ∧ Fp A N' ∧ Kp kVm N N' := by
  have fm2 := f1.fm.w (j := 54 + C) (x := N.1 150 10)
  have fm3 := eq_false (fm2.w (j := 58 + C) (x := (cpI N 154 (54 + C) (N.1 150 10)).1 150 10))
  refine ⟨cpI (cpI N 154 (54 + C) (N.1 150 10)) 154 (58 + C) ((cpI N 154 (54 + C) (N.1 150 10)).1 150 10), ?_, f1.w.w, (Kp.rf.I (by exact Or.inl rfl)).I (by exact Or.inl rfl)⟩
  unfold moT
  simp (disch := omega) only [lit, lm1, nI_add, pk_mul, nm_eq, nm_eq', nm_lt, nm_lt', nm_le, nm_le', x_lt, x_le, x_eq, x_in, x_cl, x_div, x_sub, x_rem, x_min, x_max, x_and, x_or, x_xor, x_df, x_shl, bI_0, bI_1, bI_bo, lg_eq, toL_inj, ls_nI, decide_eq_false_iff_not, decide_eq_true_eq, Bool.true_eq_false, Bool.false_eq_true, bq, if_pos, if_neg, if_true, if_false, lq, Nat.reduceAdd, Nat.reduceMul, Nat.reduceSub, Nat.reduceDiv, Nat.reduceMod, f_named f1.fm, f_named fm2, fm3]
theorem l_coin (hl : Ln t L s l K R P C hh S M) (hk : kyE t L s = 9) : Lo t L s S M (fX7_readCoin S) (fX12_readCoin M) := by
  have l9 := hl.rp.ct.1
  have vy := hl.vy
  obtain ⟨k1, k6, r9, p8, c4, h9⟩ := vy.b
  have hz : cpBo (nI 0) = true := by decide
  by_cases eC : C = 4
  · subst eC
    obtain ⟨S1, M1, a1, a2, a3, a4, a5⟩ := hl.rp.refu (f := 4) (by decide) (by decide)
    have fm : (M1.1 150 11 = nI 0) = False := eq_false a3.fm
    refine Or.inr ⟨S1, M1, ?_, ?_, a3, vy.fl (kRc.f a4), kRm.v a5⟩
    · unfold fX7_readCoin; simp (disch := omega) only [lit, lm1, nI_add, pk_mul, nm_eq, nm_eq', nm_lt, nm_lt', nm_le, nm_le', x_lt, x_le, x_eq, x_in, x_cl, x_div, x_sub, x_rem, x_min, x_max, x_and, x_or, x_xor, x_df, x_shl, bI_0, bI_1, bI_bo, lg_eq, toL_inj, ls_nI, decide_eq_false_iff_not, decide_eq_true_eq, Bool.true_eq_false, Bool.false_eq_true, bq, if_pos, if_neg, if_true, if_false, lq, Nat.reduceAdd, Nat.reduceMul, Nat.reduceSub, Nat.reduceDiv, Nat.reduceMod, vy.cC, a1, hz]
    · unfold fX12_readCoin; simp (disch := omega) only [lit, lm1, nI_add, pk_mul, nm_eq, nm_eq', nm_lt, nm_lt', nm_le, nm_le', x_lt, x_le, x_eq, x_in, x_cl, x_div, x_sub, x_rem, x_min, x_max, x_and, x_or, x_xor, x_df, x_shl, bI_0, bI_1, bI_bo, lg_eq, toL_inj, ls_nI, decide_eq_false_iff_not, decide_eq_true_eq, Bool.true_eq_false, Bool.false_eq_true, bq, if_pos, if_neg, if_true, if_false, lq, Nat.reduceAdd, Nat.reduceMul, Nat.reduceSub, Nat.reduceDiv, Nat.reduceMod, vy.mC, a2]; unfold fX12_readCoin_17; simp (disch := omega) only [lit, lm1, nI_add, pk_mul, nm_eq, nm_eq', nm_lt, nm_lt', nm_le, nm_le', x_lt, x_le, x_eq, x_in, x_cl, x_div, x_sub, x_rem, x_min, x_max, x_and, x_or, x_xor, x_df, x_shl, bI_0, bI_1, bI_bo, lg_eq, toL_inj, ls_nI, decide_eq_false_iff_not, decide_eq_true_eq, Bool.true_eq_false, Bool.false_eq_true, bq, if_pos, if_neg, if_true, if_false, lq, Nat.reduceAdd, Nat.reduceMul, Nat.reduceSub, Nat.reduceDiv, Nat.reduceMod, fm]
  obtain ⟨s1, S1, M1, a1, a2, a3, a4, a5, a6⟩ := hl.rp.adv (by omega)
  have kK1 : ∀ {A : cpS}, Kp kRc S1 A → A.1 15 0 = nI K := fun q => by rw [q.i (by unfold kRc; omega), a5.i (by unfold k115; omega)]; exact vy.cK
  have mK1 : M1.1 154 1 = nI K := by rw [a6.i (by unfold k150; omega)]; exact vy.mK
  have ub : uB (nI (K - 1)) K := by
    have := uB.n (B := K - 1) (by omega)
    rw [show K - 1 + 1 = K by omega] at this
    exact this
  rcases a3.named (k := 7) (a := 0) (B := K) (x2 := nI (K - 1)) (by decide) (by decide) (by decide) ub with ⟨v, A2, S2, M2, -, v2, n1, n1', n2, n3, b0, s2, b1, b2, b3, b4⟩ | ⟨z, A2, S2, M2, n1, n2, f1, f2, f3⟩
  · have n2 : fX12_named (nI 6) (nI 0) (nI (K - 1)) M1 = some (nI v, M2) := n2
    have kA := kK1 b0
    have c1 : Rp t L s2 (cpI S2 22 C (nI v)) (cpI M2 154 (62 + C) (nI v)) := (b1.wS (by decide)).wM
    have e1 : fX7_readCoin S = coT (nI C) (cpI S2 22 C (nI v)) := by
      unfold fX7_readCoin coT
      simp (disch := omega) only [lit, lm1, nI_add, pk_mul, nm_eq, nm_eq', nm_lt, nm_lt', nm_le, nm_le', x_lt, x_le, x_eq, x_in, x_cl, x_div, x_sub, x_rem, x_min, x_max, x_and, x_or, x_xor, x_df, x_shl, bI_0, bI_1, bI_bo, lg_eq, toL_inj, ls_nI, decide_eq_false_iff_not, decide_eq_true_eq, Bool.true_eq_false, Bool.false_eq_true, bq, if_pos, if_neg, if_true, if_false, lq, Nat.reduceAdd, Nat.reduceMul, Nat.reduceSub, Nat.reduceDiv, Nat.reduceMod, vy.cC, a1, n1, kA, n1', n3]
    have e2 : fX12_readCoin M = moT (nI C) (cpI M2 154 (62 + C) (nI v)) := by
      unfold fX12_readCoin fX12_readCoin_17 moT
      simp (disch := omega) only [lit, lm1, nI_add, pk_mul, nm_eq, nm_eq', nm_lt, nm_lt', nm_le, nm_le', x_lt, x_le, x_eq, x_in, x_cl, x_div, x_sub, x_rem, x_min, x_max, x_and, x_or, x_xor, x_df, x_shl, bI_0, bI_1, bI_bo, lg_eq, toL_inj, ls_nI, decide_eq_false_iff_not, decide_eq_true_eq, Bool.true_eq_false, Bool.false_eq_true, bq, if_pos, if_neg, if_true, if_false, lq, Nat.reduceAdd, Nat.reduceMul, Nat.reduceSub, Nat.reduceDiv, Nat.reduceMod, vy.mC, eC, hl.rp.m11, a2, mK1, n2]
    rw [e1, e2]
    refine l_coin2 hl eC c1 (by omega) v2 ?_ ?_ sI1 sI1
    · exact (((k115.le a5).tr b3).le (fun q j h => Or.inl ⟨h.1, h.2.1⟩)).I (by exact Or.inr ⟨rfl, rfl⟩)
    · exact (((k150.le a6).tr b4).le (fun q j h => Or.inl ⟨h.1, h.2.1⟩)).I (by exact Or.inr ⟨rfl, rfl⟩)
  · have n2 : fX12_named (nI 6) (nI 0) (nI (K - 1)) M1 = some (z, M2) := n2
    obtain ⟨N, g1, g2, g3⟩ := moT_f (C := C) (by omega) (f1.w (j := 62 + C) (x := z))
    refine Or.inr ⟨S2, N, ?_, ?_, g2, vy.fl ((kRc.f (k115.le a5)).tr (kRc.f f2)), (((kRm.v (k150.le a6)).tr (kRm.v f3)).I (by exact Or.inl rfl)).tr g3⟩
    · unfold fX7_readCoin
      rcases n1 with n1 | ⟨n1, n0, n1'⟩
      · simp (disch := omega) only [lit, lm1, nI_add, pk_mul, nm_eq, nm_eq', nm_lt, nm_lt', nm_le, nm_le', x_lt, x_le, x_eq, x_in, x_cl, x_div, x_sub, x_rem, x_min, x_max, x_and, x_or, x_xor, x_df, x_shl, bI_0, bI_1, bI_bo, lg_eq, toL_inj, ls_nI, decide_eq_false_iff_not, decide_eq_true_eq, Bool.true_eq_false, Bool.false_eq_true, bq, if_pos, if_neg, if_true, if_false, lq, Nat.reduceAdd, Nat.reduceMul, Nat.reduceSub, Nat.reduceDiv, Nat.reduceMod, vy.cC, a1, n1]
      · simp (disch := omega) only [lit, lm1, nI_add, pk_mul, nm_eq, nm_eq', nm_lt, nm_lt', nm_le, nm_le', x_lt, x_le, x_eq, x_in, x_cl, x_div, x_sub, x_rem, x_min, x_max, x_and, x_or, x_xor, x_df, x_shl, bI_0, bI_1, bI_bo, lg_eq, toL_inj, ls_nI, decide_eq_false_iff_not, decide_eq_true_eq, Bool.true_eq_false, Bool.false_eq_true, bq, if_pos, if_neg, if_true, if_false, lq, Nat.reduceAdd, Nat.reduceMul, Nat.reduceSub, Nat.reduceDiv, Nat.reduceMod, vy.cC, a1, n1, kK1 n0, n1']
    · refine Eq.trans ?_ g1
      unfold fX12_readCoin fX12_readCoin_17 moT
      simp (disch := omega) only [lit, lm1, nI_add, pk_mul, nm_eq, nm_eq', nm_lt, nm_lt', nm_le, nm_le', x_lt, x_le, x_eq, x_in, x_cl, x_div, x_sub, x_rem, x_min, x_max, x_and, x_or, x_xor, x_df, x_shl, bI_0, bI_1, bI_bo, lg_eq, toL_inj, ls_nI, decide_eq_false_iff_not, decide_eq_true_eq, Bool.true_eq_false, Bool.false_eq_true, bq, if_pos, if_neg, if_true, if_false, lq, Nat.reduceAdd, Nat.reduceMul, Nat.reduceSub, Nat.reduceDiv, Nat.reduceMod, vy.mC, eC, hl.rp.m11, a2, mK1, n2]
end CO
