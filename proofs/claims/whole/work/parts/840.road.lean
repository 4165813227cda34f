/-! a road -/
section RD
variable {t : Nat → Nat} {L s : Nat} {l : List Nat} {K R P C hh : Nat} {S M : cpS}
theorem l_road (hl : Ln t L s l K R P C hh S M) (hk : kyE t L s = 3) : Lo t L s S M (fX7_readRoad S) (fX12_readRoad M) := by
  have l9 := hl.rp.ct.1
  have vy := hl.vy
  obtain ⟨k1, k6, r9, p8, c4, h9⟩ := vy.b
  have hz : cpBo (nI 0) = true := by decide
  unfold fX7_readRoad fX12_readRoad
  by_cases eR : R = 9
  · subst eR
    obtain ⟨S1, M1, a1, a2, a3, a4, a5⟩ := hl.rp.refu (f := 4) (by decide) (by decide)
    have fm : (M1.1 150 11 = nI 0) = False := eq_false a3.fm
    refine Or.inr ⟨S1, M1, ?_, ?_, a3, vy.fl (kRc.f a4), kRm.v a5⟩
    · simp (disch := omega) only [lit, lm1, nI_add, pk_mul, nm_eq, nm_eq', nm_lt, nm_lt', nm_le, nm_le', x_lt, x_le, x_eq, x_in, x_cl, x_div, x_sub, x_rem, x_min, x_max, x_and, x_or, x_xor, x_df, x_shl, bI_0, bI_1, bI_bo, lg_eq, toL_inj, ls_nI, decide_eq_false_iff_not, decide_eq_true_eq, Bool.true_eq_false, Bool.false_eq_true, bq, if_pos, if_neg, if_true, if_false, lq, Nat.reduceAdd, Nat.reduceMul, Nat.reduceSub, Nat.reduceDiv, Nat.reduceMod, vy.cR, a1, hz]
    · unfold fX12_readRoad_28
      simp (disch := omega) only [lit, lm1, nI_add, pk_mul, nm_eq, nm_eq', nm_lt, nm_lt', nm_le, nm_le', x_lt, x_le, x_eq, x_in, x_cl, x_div, x_sub, x_rem, x_min, x_max, x_and, x_or, x_xor, x_df, x_shl, bI_0, bI_1, bI_bo, lg_eq, toL_inj, ls_nI, decide_eq_false_iff_not, decide_eq_true_eq, Bool.true_eq_false, Bool.false_eq_true, bq, if_pos, if_neg, if_true, if_false, lq, Nat.reduceAdd, Nat.reduceMul, Nat.reduceSub, Nat.reduceDiv, Nat.reduceMod, vy.mR, a2, fm]
  obtain ⟨s1, S1, M1, a1, a2, a3, a4, a5, a6⟩ := hl.rp.adv (by omega)
  have kK1 : S1.1 15 0 = nI K := by rw [a5.i (by unfold k115; omega)]; exact vy.cK
  have mK1 : M1.1 154 1 = nI K := by rw [a6.i (by unfold k150; omega)]; exact vy.mK
  have ub : uB (nI (K - 1)) K := by
    have := uB.n (B := K - 1) (by omega)
    rw [show K - 1 + 1 = K by omega] at this
    exact this
  unfold fX12_readRoad_28
  rcases a3.num (a := 0) (B := K) (x2 := nI (K - 1)) (x3 := nM) (m := fun M => fX12_takes (nI 0) (nI (K - 1)) M) (by decide) ub (Or.inl rfl) (Or.inl ⟨rfl, rfl⟩) with ⟨v, S2, M2, -, v2, -, n1, n2, n3, s2, b1, b2, b3, b4⟩ | ⟨z, S2, M2, n1, n2, f1, f2, f3⟩
  · (try dsimp only at n2)
    have kK2 : (cpI S2 16 R (nI v)).1 15 0 = nI K := by rw [sIn (Or.inl (by decide)), b3.i (by unfold kRc; omega)]; exact kK1
    have kT2 : (cpI S2 16 R (nI v)).1 115 10 = nI v := by rw [sIn (Or.inl (by decide))]; exact n3
    have mK2 : (cpI M2 154 (11 + 3 * R) (nI v)).1 154 1 = nI K := by rw [sIn (Or.inr (by omega)), b4.i (by unfold kRm; omega)]; exact mK1
    have mT2 : (cpI M2 154 (11 + 3 * R) (nI v)).1 154 (11 + 3 * R) = nI v := sI1
    have c1 : Rp t L s2 (cpI S2 16 R (nI v)) (cpI M2 154 (11 + 3 * R) (nI v)) := (b1.wS (by decide)).wM
    rcases c1.num (a := 0) (B := K) (x2 := nI (K - 1)) (x3 := nI v) (m := fun M => fX12_takesOther (nI v) (nI (K - 1)) M) (by decide) ub (Or.inr ⟨v, by omega, rfl⟩) (Or.inr ⟨rfl, ⟨v, by omega, rfl⟩, rfl⟩) with ⟨u, S3, M3, -, u2, u3, o1, o2, o3, s3, d1, d2, d3, d4⟩ | ⟨z, S3, M3, o1, o2, f1, f2, f3⟩
    · (try dsimp only at o2)
      have kT3 : (cpI S3 17 R (nI u)).1 115 10 = nI u := by rw [sIn (Or.inl (by decide))]; exact o3
      have e1 : Rp t L s3 (cpI S3 17 R (nI u)) (cpI M3 154 (11 + 3 * R + 1) (nI u)) := (d1.wS (by decide)).wM
      rcases e1.named (k := 5) (a := 1) (B := 10) (x2 := nI 9) (by decide) (by decide) (by decide) (uB.n (by decide)) with ⟨y, S4, S5, M5, y1, y2, g1, g2, g3, g4, g5, s5, i1, i2, i3, i4⟩ | ⟨z, S4, S5, M5, g1, g2, f1, f2, f3⟩
      · have g3 : fX12_named (nI 4) (nI 1) (nI 9) (cpI M3 154 (11 + 3 * R + 1) (nI u)) = some (nI y, M5) := g3
        have kc : Kp (fun q j => (q = 115 ∧ 3 ≤ j) ∨ ((q = 16 ∨ q = 17 ∨ q = 18) ∧ j = R)) S (cpI S5 18 R (nI y)) := by
          have lc : ∀ {A B : cpS}, Kp kRc A B → Kp (fun q j => (q = 115 ∧ 3 ≤ j) ∨ ((q = 16 ∨ q = 17 ∨ q = 18) ∧ j = R)) A B := fun h => h.le (fun q j h => Or.inl ⟨h.1, h.2.1⟩)
          exact (((((((lc (k115.le a5)).tr (lc b3)).I (k := 16) (j := R) (by exact Or.inr ⟨by omega, rfl⟩)).tr (lc d3)).I (k := 17) (j := R) (by exact Or.inr ⟨by omega, rfl⟩)).tr (lc i3))).I (by exact Or.inr ⟨by omega, rfl⟩)
        have km : Kp (fun q j => (q = 150 ∧ 6 ≤ j) ∨ (q = 154 ∧ (j = 11 + 3 * R ∨ j = 11 + 3 * R + 1 ∨ j = 11 + 3 * R + 2))) M (cpI M5 154 (11 + 3 * R + 2) (nI y)) := by
          have lc : ∀ {A B : cpS}, Kp kRm A B → Kp (fun q j => (q = 150 ∧ 6 ≤ j) ∨ (q = 154 ∧ (j = 11 + 3 * R ∨ j = 11 + 3 * R + 1 ∨ j = 11 + 3 * R + 2))) A B := fun h => h.le (fun q j h => Or.inl ⟨h.1, h.2.1⟩)
          exact (((((((lc (k150.le a6)).tr (lc b4)).I (k := 154) (j := 11 + 3 * R) (by exact Or.inr ⟨rfl, by omega⟩)).tr (lc d4)).I (k := 154) (j := 11 + 3 * R + 1) (by exact Or.inr ⟨rfl, by omega⟩)).tr (lc i4))).I (by exact Or.inr ⟨rfl, by omega⟩)
        have x1 : (cpI S5 18 R (nI y)).1 16 R = nI v := by
          rw [sIn (Or.inl (by decide)), i3.i (by unfold kRc; omega), sIn (Or.inl (by decide)), d3.i (by unfold kRc; omega), sI1]
        have x2 : (cpI S5 18 R (nI y)).1 17 R = nI u := by
          rw [sIn (Or.inl (by decide)), i3.i (by unfold kRc; omega), sI1]
        have x3 : (cpI S5 18 R (nI y)).1 18 R = nI y := sI1
        have w1 : (cpI M5 154 (11 + 3 * R + 2) (nI y)).1 154 (11 + 3 * R) = nI v := by
          rw [sIn (Or.inr (by omega)), i4.i (by unfold kRm; omega), sIn (Or.inr (by omega)), d4.i (by unfold kRm; omega), sI1]
        have w2 : (cpI M5 154 (11 + 3 * R + 2) (nI y)).1 154 (11 + 3 * R + 1) = nI u := by
          rw [sIn (Or.inr (by omega)), i4.i (by unfold kRm; omega), sI1]
        have w3 : (cpI M5 154 (11 + 3 * R + 2) (nI y)).1 154 (11 + 3 * R + 2) = nI y := sI1
        have j1 : Rp t L s5 (cpI S5 18 R (nI y)) (cpI M5 154 (11 + 3 * R + 2) (nI y)) := (i1.wS (by decide)).wM
        have q1 : (cpI S5 18 R (nI y)).1 15 3 = nI R := by rw [kc.i (by omega)]; exact vy.cR
        have q2 : (cpI M5 154 (11 + 3 * R + 2) (nI y)).1 154 2 = nI R := by rw [km.i (by omega)]; exact vy.mR
        have q3 : (cpI M5 154 (11 + 3 * R + 2) (nI y)).1 150 11 = nI 0 := j1.m11
        generalize eA : cpI S5 18 R (nI y) = A at kc x1 x2 x3 j1 q1
        generalize eB : cpI M5 154 (11 + 3 * R + 2) (nI y) = B at km w1 w2 w3 j1 q2 q3
        have kc2 : Kp (fun q j => (q = 115 ∧ 3 ≤ j) ∨ ((q = 16 ∨ q = 17 ∨ q = 18) ∧ j = R) ∨ (q = 15 ∧ j = 3)) S (cpI A 15 3 (nI (R + 1))) := (kc.le (fun q j h => by omega)).I (by exact Or.inr (Or.inr ⟨rfl, rfl⟩))
        have km2 : Kp (fun q j => (q = 150 ∧ 6 ≤ j) ∨ (q = 154 ∧ (j = 2 ∨ j = 11 + 3 * R ∨ j = 11 + 3 * R + 1 ∨ j = 11 + 3 * R + 2))) M (cpI B 154 2 (nI (R + 1))) := (km.le (fun q j h => by omega)).I (by exact Or.inr ⟨rfl, Or.inl rfl⟩)
        have vv : Vy K (R + 1) P C hh (cpI A 15 3 (nI (R + 1))) (cpI B 154 2 (nI (R + 1))) := by
          refine ⟨⟨k1, k6, by omega, p8, c4, h9⟩, ?_, ?_, sI1, sI1, ?_, ?_, ?_, ?_, ?_, ?_, ?_, fun r hr => ?_, fun p hp => ?_, fun c hc => ?_, fun c z1 z2 => ?_, ?_, fun j hj => ?_⟩
          · rw [kc2.i (by omega)]; exact vy.cK
          · rw [km2.i (by omega)]; exact vy.mK
          · rw [kc2.i (by omega)]; exact vy.cP
          · rw [km2.i (by omega)]; exact vy.mP
          · rw [kc2.i (by omega)]; exact vy.cC
          · rw [km2.i (by omega)]; exact vy.mC
          · rw [kc2.i (by omega)]; exact vy.ch
          · rw [km2.i (by omega)]; exact vy.mh
          · rw [kc2.i (by omega), km2.i (by omega)]; exact vy.ln
          · by_cases e : r = R
            · subst e
              refine ⟨v, u, y, v2, u2, fun q => u3 (by rw [q]), y1, by omega, ?_, ?_, ?_, ?_, ?_, ?_⟩
              · rw [sIn (Or.inl (by decide))]; exact x1
              · rw [sIn (Or.inl (by decide))]; exact x2
              · rw [sIn (Or.inl (by decide))]; exact x3
              · rw [sIn (Or.inr (by omega))]; exact w1
              · rw [sIn (Or.inr (by omega))]; exact w2
              · rw [sIn (Or.inr (by omega))]; exact w3
            · rw [kc2.i (by omega), kc2.i (by omega), kc2.i (by omega), km2.i (by omega), km2.i (by omega), km2.i (by omega)]; exact vy.rd r (by omega)
          · rw [kc2.i (by omega), kc2.i (by omega), km2.i (by omega), km2.i (by omega)]; exact vy.pe p hp
          · rw [kc2.i (by omega), kc2.i (by omega), kc2.i (by omega), km2.i (by omega), km2.i (by omega), km2.i (by omega)]; exact vy.co c hc
          · rw [kc2.i (by omega), km2.i (by omega)]; exact vy.cz c z1 z2
          · obtain ⟨fd, y1, y2⟩ := vy.fd
            refine ⟨fd, fun p hp => ?_, y2⟩
            rw [kc2.i (by omega), km2.i (by omega)]; exact y1 p hp
          · rw [km2.i (by omega)]; exact vy.z j hj
        have bg := hl.bg
        refine Or.inl ⟨s5, cpI A 15 3 (nI (R + 1)), cpI B 154 2 (nI (R + 1)), ?_, ?_, ⟨l, K, R + 1, P, C, hh, (j1.wS (by decide)).wM, hl.cd.kp kc2 km2 (by omega) (fun j => by omega) (fun j _ => by omega), hl.lw.kp0 kc2 km2 (fun j _ _ => by omega) (fun j _ _ => by omega), vv, by omega⟩, by omega, kc2.le (fun q j h => by unfold kVc; omega), km2.le (fun q j h => by unfold kVm; omega)⟩
        · simp (disch := omega) only [lit, lm1, nI_add, pk_mul, nm_eq, nm_eq', nm_lt, nm_lt', nm_le, nm_le', x_lt, x_le, x_eq, x_in, x_cl, x_div, x_sub, x_rem, x_min, x_max, x_and, x_or, x_xor, x_df, x_shl, bI_0, bI_1, bI_bo, lg_eq, toL_inj, ls_nI, decide_eq_false_iff_not, decide_eq_true_eq, Bool.true_eq_false, Bool.false_eq_true, bq, if_pos, if_neg, if_true, if_false, lq, Nat.reduceAdd, Nat.reduceMul, Nat.reduceSub, Nat.reduceDiv, Nat.reduceMod, vy.cR, a1, kK1, n1, n3, kK2, kT2, o1, o3, kT3, g1, g2, g4, eA, q1]
        · simp (disch := omega) only [lit, lm1, nI_add, pk_mul, nm_eq, nm_eq', nm_lt, nm_lt', nm_le, nm_le', x_lt, x_le, x_eq, x_in, x_cl, x_div, x_sub, x_rem, x_min, x_max, x_and, x_or, x_xor, x_df, x_shl, bI_0, bI_1, bI_bo, lg_eq, toL_inj, ls_nI, decide_eq_false_iff_not, decide_eq_true_eq, Bool.true_eq_false, Bool.false_eq_true, bq, if_pos, if_neg, if_true, if_false, lq, Nat.reduceAdd, Nat.reduceMul, Nat.reduceSub, Nat.reduceDiv, Nat.reduceMod, vy.mR, eR, hl.rp.m11, a2, mK1, n2, mT2, mK2, o2, g3, eB, q3, q2]
      · have g2 : fX12_named (nI 4) (nI 1) (nI 9) (cpI M3 154 (11 + 3 * R + 1) (nI u)) = some (z, M5) := g2
        have fm := f1.fm
        have fm1 : ((cpI M5 154 (11 + 3 * R + 2) z).1 150 11 = nI 0) = False := eq_false fm.w
        refine Or.inr ⟨S5, cpI M5 154 (11 + 3 * R + 2) z, ?_, ?_, f1.w, vy.fl ((((((kRc.f (k115.le a5)).tr (kRc.f b3)).I (k := 16) (j := R) (by unfold kFc; omega)).tr (kRc.f d3)).I (k := 17) (j := R) (by unfold kFc; omega)).tr (kRc.f f2)), (((((((kRm.v (k150.le a6)).tr (kRm.v b4)).I (k := 154) (j := 11 + 3 * R) (by exact Or.inl rfl)).tr (kRm.v d4)).I (k := 154) (j := 11 + 3 * R + 1) (by exact Or.inl rfl))).tr (kRm.v f3)).I (by exact Or.inl rfl)⟩
        · rcases g1 with g1 | ⟨g1, -, g1'⟩
          · simp (disch := omega) only [lit, lm1, nI_add, pk_mul, nm_eq, nm_eq', nm_lt, nm_lt', nm_le, nm_le', x_lt, x_le, x_eq, x_in, x_cl, x_div, x_sub, x_rem, x_min, x_max, x_and, x_or, x_xor, x_df, x_shl, bI_0, bI_1, bI_bo, lg_eq, toL_inj, ls_nI, decide_eq_false_iff_not, decide_eq_true_eq, Bool.true_eq_false, Bool.false_eq_true, bq, if_pos, if_neg, if_true, if_false, lq, Nat.reduceAdd, Nat.reduceMul, Nat.reduceSub, Nat.reduceDiv, Nat.reduceMod, vy.cR, a1, kK1, n1, n3, kK2, kT2, o1, o3, g1]
          · simp (disch := omega) only [lit, lm1, nI_add, pk_mul, nm_eq, nm_eq', nm_lt, nm_lt', nm_le, nm_le', x_lt, x_le, x_eq, x_in, x_cl, x_div, x_sub, x_rem, x_min, x_max, x_and, x_or, x_xor, x_df, x_shl, bI_0, bI_1, bI_bo, lg_eq, toL_inj, ls_nI, decide_eq_false_iff_not, decide_eq_true_eq, Bool.true_eq_false, Bool.false_eq_true, bq, if_pos, if_neg, if_true, if_false, lq, Nat.reduceAdd, Nat.reduceMul, Nat.reduceSub, Nat.reduceDiv, Nat.reduceMod, vy.cR, a1, kK1, n1, n3, kK2, kT2, o1, o3, g1, g1']
        · simp (disch := omega) only [lit, lm1, nI_add, pk_mul, nm_eq, nm_eq', nm_lt, nm_lt', nm_le, nm_le', x_lt, x_le, x_eq, x_in, x_cl, x_div, x_sub, x_rem, x_min, x_max, x_and, x_or, x_xor, x_df, x_shl, bI_0, bI_1, bI_bo, lg_eq, toL_inj, ls_nI, decide_eq_false_iff_not, decide_eq_true_eq, Bool.true_eq_false, Bool.false_eq_true, bq, if_pos, if_neg, if_true, if_false, lq, Nat.reduceAdd, Nat.reduceMul, Nat.reduceSub, Nat.reduceDiv, Nat.reduceMod, vy.mR, eR, hl.rp.m11, a2, mK1, n2, mT2, mK2, o2, g2, fm1]
    · (try dsimp only at o2)
      have fm1 := f1.fm.w (j := 11 + 3 * R + 1) (x := z)
      have fm2 := fm1.w (j := 11 + 3 * R + 2) (x := (cpI M3 154 (11 + 3 * R + 1) z).1 150 10)
      have fm3 := eq_false fm2
      refine Or.inr ⟨S3, cpI (cpI M3 154 (11 + 3 * R + 1) z) 154 (11 + 3 * R + 2) ((cpI M3 154 (11 + 3 * R + 1) z).1 150 10), ?_, ?_, f1.w.w, vy.fl ((((kRc.f (k115.le a5)).tr (kRc.f b3)).I (k := 16) (j := R) (by unfold kFc; omega)).tr (kRc.f f2)), ((((((kRm.v (k150.le a6)).tr (kRm.v b4)).I (k := 154) (j := 11 + 3 * R) (by exact Or.inl rfl)).tr (kRm.v f3)).I (by exact Or.inl rfl))).I (by exact Or.inl rfl)⟩
      · simp (disch := omega) only [lit, lm1, nI_add, pk_mul, nm_eq, nm_eq', nm_lt, nm_lt', nm_le, nm_le', x_lt, x_le, x_eq, x_in, x_cl, x_div, x_sub, x_rem, x_min, x_max, x_and, x_or, x_xor, x_df, x_shl, bI_0, bI_1, bI_bo, lg_eq, toL_inj, ls_nI, decide_eq_false_iff_not, decide_eq_true_eq, Bool.true_eq_false, Bool.false_eq_true, bq, if_pos, if_neg, if_true, if_false, lq, Nat.reduceAdd, Nat.reduceMul, Nat.reduceSub, Nat.reduceDiv, Nat.reduceMod, vy.cR, a1, kK1, n1, n3, kK2, kT2, o1]
      · simp (disch := omega) only [lit, lm1, nI_add, pk_mul, nm_eq, nm_eq', nm_lt, nm_lt', nm_le, nm_le', x_lt, x_le, x_eq, x_in, x_cl, x_div, x_sub, x_rem, x_min, x_max, x_and, x_or, x_xor, x_df, x_shl, bI_0, bI_1, bI_bo, lg_eq, toL_inj, ls_nI, decide_eq_false_iff_not, decide_eq_true_eq, Bool.true_eq_false, Bool.false_eq_true, bq, if_pos, if_neg, if_true, if_false, lq, Nat.reduceAdd, Nat.reduceMul, Nat.reduceSub, Nat.reduceDiv, Nat.reduceMod, vy.mR, eR, hl.rp.m11, a2, mK1, n2, mT2, mK2, o2, f_named fm1, fm3]
  · (try dsimp only at n2)
    have fm1 := f1.fm.w (j := 11 + 3 * R) (x := z)
    have fm2 := fm1.w (j := 11 + 3 * R + 1) (x := (cpI M2 154 (11 + 3 * R) z).1 150 10)
    have fm3 := fm2.w (j := 11 + 3 * R + 2) (x := (cpI (cpI M2 154 (11 + 3 * R) z) 154 (11 + 3 * R + 1) ((cpI M2 154 (11 + 3 * R) z).1 150 10)).1 150 10)
    have fm4 := eq_false fm3
    refine Or.inr ⟨S2, cpI (cpI (cpI M2 154 (11 + 3 * R) z) 154 (11 + 3 * R + 1) ((cpI M2 154 (11 + 3 * R) z).1 150 10)) 154 (11 + 3 * R + 2) ((cpI (cpI M2 154 (11 + 3 * R) z) 154 (11 + 3 * R + 1) ((cpI M2 154 (11 + 3 * R) z).1 150 10)).1 150 10), ?_, ?_, f1.w.w.w, vy.fl ((kRc.f (k115.le a5)).tr (kRc.f f2)), ?_⟩
    rotate_right
    · exact (((((kRm.v (k150.le a6)).tr (kRm.v f3)).I (by exact Or.inl rfl))).I (by exact Or.inl rfl)).I (by exact Or.inl rfl)
    · simp (disch := omega) only [lit, lm1, nI_add, pk_mul, nm_eq, nm_eq', nm_lt, nm_lt', nm_le, nm_le', x_lt, x_le, x_eq, x_in, x_cl, x_div, x_sub, x_rem, x_min, x_max, x_and, x_or, x_xor, x_df, x_shl, bI_0, bI_1, bI_bo, lg_eq, toL_inj, ls_nI, decide_eq_false_iff_not, decide_eq_true_eq, Bool.true_eq_false, Bool.false_eq_true, bq, if_pos, if_neg, if_true, if_false, lq, Nat.reduceAdd, Nat.reduceMul, Nat.reduceSub, Nat.reduceDiv, Nat.reduceMod, vy.cR, a1, kK1, n1]
    · simp (disch := omega) only [lit, lm1, nI_add, pk_mul, nm_eq, nm_eq', nm_lt, nm_lt', nm_le, nm_le', x_lt, x_le, x_eq, x_in, x_cl, x_div, x_sub, x_rem, x_min, x_max, x_and, x_or, x_xor, x_df, x_shl, bI_0, bI_1, bI_bo, lg_eq, toL_inj, ls_nI, decide_eq_false_iff_not, decide_eq_true_eq, Bool.true_eq_false, Bool.false_eq_true, bq, if_pos, if_neg, if_true, if_false, lq, Nat.reduceAdd, Nat.reduceMul, Nat.reduceSub, Nat.reduceDiv, Nat.reduceMod, vy.mR, eR, hl.rp.m11, a2, mK1, n2, f_other fm1, f_named fm2, fm4]
end RD
