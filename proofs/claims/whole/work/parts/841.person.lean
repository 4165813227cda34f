/-! a person -/
section PE
variable {t : Nat → Nat} {L s : Nat} {l : List Nat} {K R P C hh : Nat} {S M : cpS}
theorem l_person (hl : Ln t L s l K R P C hh S M) (hk : kyE t L s = 5) : Lo t L s S M (fX7_readPerson S) (fX12_readPerson M) := by
  have l9 := hl.rp.ct.1
  have vy := hl.vy
  obtain ⟨k1, k6, r9, p8, c4, h9⟩ := vy.b
  have hz : cpBo (nI 0) = true := by decide
  unfold fX7_readPerson fX12_readPerson
  by_cases eP : P = 8
  · subst eP
    obtain ⟨S1, M1, a1, a2, a3, a4, a5⟩ := hl.rp.refu (f := 4) (by decide) (by decide)
    have fm : (M1.1 150 11 = nI 0) = False := eq_false a3.fm
    refine Or.inr ⟨S1, M1, ?_, ?_, a3, vy.fl (kRc.f a4), kRm.v a5⟩
    · simp (disch := omega) only [lit, lm1, nI_add, pk_mul, nm_eq, nm_eq', nm_lt, nm_lt', nm_le, nm_le', x_lt, x_le, x_eq, x_in, x_cl, x_div, x_sub, x_rem, x_min, x_max, x_and, x_or, x_xor, x_df, x_shl, bI_0, bI_1, bI_bo, lg_eq, toL_inj, ls_nI, decide_eq_false_iff_not, decide_eq_true_eq, Bool.true_eq_false, Bool.false_eq_true, bq, if_pos, if_neg, if_true, if_false, lq, Nat.reduceAdd, Nat.reduceMul, Nat.reduceSub, Nat.reduceDiv, Nat.reduceMod, vy.cP, a1, hz]
    · unfold fX12_readPerson_18
      simp (disch := omega) only [lit, lm1, nI_add, pk_mul, nm_eq, nm_eq', nm_lt, nm_lt', nm_le, nm_le', x_lt, x_le, x_eq, x_in, x_cl, x_div, x_sub, x_rem, x_min, x_max, x_and, x_or, x_xor, x_df, x_shl, bI_0, bI_1, bI_bo, lg_eq, toL_inj, ls_nI, decide_eq_false_iff_not, decide_eq_true_eq, Bool.true_eq_false, Bool.false_eq_true, bq, if_pos, if_neg, if_true, if_false, lq, Nat.reduceAdd, Nat.reduceMul, Nat.reduceSub, Nat.reduceDiv, Nat.reduceMod, vy.mP, a2, fm]
  obtain ⟨s1, S1, M1, a1, a2, a3, a4, a5, a6⟩ := hl.rp.adv (by omega)
  have kK1 : ∀ {A : cpS}, Kp kRc S1 A → A.1 15 0 = nI K := fun q => by rw [q.i (by unfold kRc; omega), a5.i (by unfold k115; omega)]; exact vy.cK
  have mK1 : M1.1 154 1 = nI K := by rw [a6.i (by unfold k150; omega)]; exact vy.mK
  have ub : uB (nI (K - 1)) K := by
    have := uB.n (B := K - 1) (by omega)
    rw [show K - 1 + 1 = K by omega] at this
    exact this
  unfold fX12_readPerson_18
  rcases a3.named (k := 7) (a := 0) (B := K) (x2 := nI (K - 1)) (by decide) (by decide) (by decide) ub with ⟨v, A2, S2, M2, -, v2, n1, n1', n2, n3, b0, s2, b1, b2, b3, b4⟩ | ⟨z, A2, S2, M2, n1, n2, f1, f2, f3⟩
  · have n2 : fX12_named (nI 6) (nI 0) (nI (K - 1)) M1 = some (nI v, M2) := n2
    have kA := kK1 b0
    have kT2 : (cpI S2 19 P (nI v)).1 115 10 = nI v := by rw [sIn (Or.inl (by decide))]; exact n3
    have e1 : Rp t L s2 (cpI S2 19 P (nI v)) (cpI M2 154 (38 + P) (nI v)) := (b1.wS (by decide)).wM
    rcases e1.named (k := 8) (a := 0) (B := 10) (x2 := nI 9) (by decide) (by decide) (by decide) (uB.n (by decide)) with ⟨y, S4, S5, M5, -, y2, g1, g2, g3, g4, g5, s5, i1, i2, i3, i4⟩ | ⟨z, S4, S5, M5, g1, g2, f1, f2, f3⟩
    · have g3 : fX12_named (nI 7) (nI 0) (nI 9) (cpI M2 154 (38 + P) (nI v)) = some (nI y, M5) := g3
      have kc : Kp (fun q j => (q = 115 ∧ 3 ≤ j) ∨ ((q = 19 ∨ q = 20) ∧ j = P)) S (cpI S5 20 P (nI y)) := by
        have lc : ∀ {A B : cpS}, Kp kRc A B → Kp (fun q j => (q = 115 ∧ 3 ≤ j) ∨ ((q = 19 ∨ q = 20) ∧ j = P)) A B := fun h => h.le (fun q j h => Or.inl ⟨h.1, h.2.1⟩)
        exact ((((lc (k115.le a5)).tr (lc b3)).I (k := 19) (j := P) (by exact Or.inr ⟨by omega, rfl⟩)).tr (lc i3)).I (by exact Or.inr ⟨by omega, rfl⟩)
      have km : Kp (fun q j => (q = 150 ∧ 6 ≤ j) ∨ (q = 154 ∧ (j = 38 + P ∨ j = 46 + P))) M (cpI M5 154 (46 + P) (nI y)) := by
        have lc : ∀ {A B : cpS}, Kp kRm A B → Kp (fun q j => (q = 150 ∧ 6 ≤ j) ∨ (q = 154 ∧ (j = 38 + P ∨ j = 46 + P))) A B := fun h => h.le (fun q j h => Or.inl ⟨h.1, h.2.1⟩)
        exact ((((lc (k150.le a6)).tr (lc b4)).I (k := 154) (j := 38 + P) (by exact Or.inr ⟨rfl, by omega⟩)).tr (lc i4)).I (by exact Or.inr ⟨rfl, by omega⟩)
      have x1 : (cpI S5 20 P (nI y)).1 19 P = nI v := by
        rw [sIn (Or.inl (by decide)), i3.i (by unfold kRc; omega), sI1]
      have x2 : (cpI S5 20 P (nI y)).1 20 P = nI y := sI1
      have w1 : (cpI M5 154 (46 + P) (nI y)).1 154 (38 + P) = nI v := by
        rw [sIn (Or.inr (by omega)), i4.i (by unfold kRm; omega), sI1]
      have w2 : (cpI M5 154 (46 + P) (nI y)).1 154 (46 + P) = nI y := sI1
      have j1 : Rp t L s5 (cpI S5 20 P (nI y)) (cpI M5 154 (46 + P) (nI y)) := (i1.wS (by decide)).wM
      have q1 : (cpI S5 20 P (nI y)).1 15 7 = nI P := by rw [kc.i (by omega)]; exact vy.cP
      have q2 : (cpI M5 154 (46 + P) (nI y)).1 154 3 = nI P := by rw [km.i (by omega)]; exact vy.mP
      have q3 : (cpI M5 154 (46 + P) (nI y)).1 150 11 = nI 0 := j1.m11
      generalize eA : cpI S5 20 P (nI y) = A at kc x1 x2 j1 q1
      generalize eB : cpI M5 154 (46 + P) (nI y) = B at km w1 w2 j1 q2 q3
      have kc2 : Kp (fun q j => (q = 115 ∧ 3 ≤ j) ∨ ((q = 19 ∨ q = 20) ∧ j = P) ∨ (q = 15 ∧ j = 7)) S (cpI A 15 7 (nI (P + 1))) := (kc.le (fun q j h => by omega)).I (by exact Or.inr (Or.inr ⟨rfl, rfl⟩))
      have km2 : Kp (fun q j => (q = 150 ∧ 6 ≤ j) ∨ (q = 154 ∧ (j = 3 ∨ j = 38 + P ∨ j = 46 + P))) M (cpI B 154 3 (nI (P + 1))) := (km.le (fun q j h => by omega)).I (by exact Or.inr ⟨rfl, Or.inl rfl⟩)
      have vv : Vy K R (P + 1) C hh (cpI A 15 7 (nI (P + 1))) (cpI B 154 3 (nI (P + 1))) := by
        refine ⟨⟨k1, k6, r9, by omega, c4, h9⟩, ?_, ?_, ?_, ?_, sI1, sI1, ?_, ?_, ?_, ?_, ?_, fun r hr => ?_, fun p hp => ?_, fun c hc => ?_, fun c z1 z2 => ?_, ?_, fun j hj => ?_⟩
        · rw [kc2.i (by omega)]; exact vy.cK
        · rw [km2.i (by omega)]; exact vy.mK
        · rw [kc2.i (by omega)]; exact vy.cR
        · rw [km2.i (by omega)]; exact vy.mR
        · rw [kc2.i (by omega)]; exact vy.cC
        · rw [km2.i (by omega)]; exact vy.mC
        · rw [kc2.i (by omega)]; exact vy.ch
        · rw [km2.i (by omega)]; exact vy.mh
        · rw [kc2.i (by omega), km2.i (by omega)]; exact vy.ln
        · rw [kc2.i (by omega), kc2.i (by omega), kc2.i (by omega), km2.i (by omega), km2.i (by omega), km2.i (by omega)]; exact vy.rd r hr
        · by_cases e : p = P
          · subst e
            refine ⟨v, y, v2, by omega, ?_, ?_, ?_, ?_⟩
            · rw [sIn (Or.inl (by decide))]; exact x1
            · rw [sIn (Or.inl (by decide))]; exact x2
            · rw [sIn (Or.inr (by omega))]; exact w1
            · rw [sIn (Or.inr (by omega))]; exact w2
          · rw [kc2.i (by omega), kc2.i (by omega), km2.i (by omega), km2.i (by omega)]; exact vy.pe p (by omega)
        · rw [kc2.i (by omega), kc2.i (by omega), kc2.i (by omega), km2.i (by omega), km2.i (by omega), km2.i (by omega)]; exact vy.co c hc
        · rw [kc2.i (by omega), km2.i (by omega)]; exact vy.cz c z1 z2
        · obtain ⟨fd, y1, y2, y3, y4⟩ := vy.fd
          refine ⟨fd, fun p hp => ?_, y2, y3, fun p p1 p2 => y4 p (by omega) p2⟩
          rw [kc2.i (by omega), km2.i (by omega)]
          obtain ⟨z1, z2, z3⟩ := y1 p hp
          exact ⟨z1, z2, Nat.lt_of_lt_of_le z3 (Nat.pow_le_pow_right (by decide) (Nat.le_succ P))⟩
        · rw [km2.i (by omega)]; exact vy.z j hj
      have bg := hl.bg
      refine Or.inl ⟨s5, cpI A 15 7 (nI (P + 1)), cpI B 154 3 (nI (P + 1)), ?_, ?_, ⟨l, K, R, P + 1, C, hh, (j1.wS (by decide)).wM, hl.cd.kp kc2 km2 (by omega) (fun j => by omega) (fun j _ => by omega), hl.lw.kp0 kc2 km2 (fun j _ _ => by omega) (fun j _ _ => by omega), vv, by omega⟩, by omega, kc2.le (fun q j h => by unfold kVc; omega), km2.le (fun q j h => by unfold kVm; omega)⟩
      · simp (disch := omega) only [lit, lm1, nI_add, pk_mul, nm_eq, nm_eq', nm_lt, nm_lt', nm_le, nm_le', x_lt, x_le, x_eq, x_in, x_cl, x_div, x_sub, x_rem, x_min, x_max, x_and, x_or, x_xor, x_df, x_shl, bI_0, bI_1, bI_bo, lg_eq, toL_inj, ls_nI, decide_eq_false_iff_not, decide_eq_true_eq, Bool.true_eq_false, Bool.false_eq_true, bq, if_pos, if_neg, if_true, if_false, lq, Nat.reduceAdd, Nat.reduceMul, Nat.reduceSub, Nat.reduceDiv, Nat.reduceMod, vy.cP, a1, n1, kA, n1', n3, g1, g2, g4, eA, q1]
      · simp (disch := omega) only [lit, lm1, nI_add, pk_mul, nm_eq, nm_eq', nm_lt, nm_lt', nm_le, nm_le', x_lt, x_le, x_eq, x_in, x_cl, x_div, x_sub, x_rem, x_min, x_max, x_and, x_or, x_xor, x_df, x_shl, bI_0, bI_1, bI_bo, lg_eq, toL_inj, ls_nI, decide_eq_false_iff_not, decide_eq_true_eq, Bool.true_eq_false, Bool.false_eq_true, bq, if_pos, if_neg, if_true, if_false, lq, Nat.reduceAdd, Nat.reduceMul, Nat.reduceSub, Nat.reduceDiv, Nat.reduceMod, vy.mP, eP, hl.rp.m11, a2, mK1, n2, g3, eB, q3, q2]
    · have g2 : fX12_named (nI 7) (nI 0) (nI 9) (cpI M2 154 (38 + P) (nI v)) = some (z, M5) := g2
      have fm1 : ((cpI M5 154 (46 + P) z).1 150 11 = nI 0) = False := eq_false f1.fm.w
      refine Or.inr ⟨S5, cpI M5 154 (46 + P) z, ?_, ?_, f1.w, vy.fl ((((kRc.f (k115.le a5)).tr (kRc.f b3)).I (k := 19) (j := P) (by unfold kFc; omega)).tr (kRc.f f2)), ((((kRm.v (k150.le a6)).tr (kRm.v b4)).I (k := 154) (j := 38 + P) (by exact Or.inl rfl)).tr (kRm.v f3)).I (by exact Or.inl rfl)⟩
      · rcases g1 with g1 | ⟨g1, -, g1'⟩
        · simp (disch := omega) only [lit, lm1, nI_add, pk_mul, nm_eq, nm_eq', nm_lt, nm_lt', nm_le, nm_le', x_lt, x_le, x_eq, x_in, x_cl, x_div, x_sub, x_rem, x_min, x_max, x_and, x_or, x_xor, x_df, x_shl, bI_0, bI_1, bI_bo, lg_eq, toL_inj, ls_nI, decide_eq_false_iff_not, decide_eq_true_eq, Bool.true_eq_false, Bool.false_eq_true, bq, if_pos, if_neg, if_true, if_false, lq, Nat.reduceAdd, Nat.reduceMul, Nat.reduceSub, Nat.reduceDiv, Nat.reduceMod, vy.cP, a1, n1, kA, n1', n3, g1]
        · simp (disch := omega) only [lit, lm1, nI_add, pk_mul, nm_eq, nm_eq', nm_lt, nm_lt', nm_le, nm_le', x_lt, x_le, x_eq, x_in, x_cl, x_div, x_sub, x_rem, x_min, x_max, x_and, x_or, x_xor, x_df, x_shl, bI_0, bI_1, bI_bo, lg_eq, toL_inj, ls_nI, decide_eq_false_iff_not, decide_eq_true_eq, Bool.true_eq_false, Bool.false_eq_true, bq, if_pos, if_neg, if_true, if_false, lq, Nat.reduceAdd, Nat.reduceMul, Nat.reduceSub, Nat.reduceDiv, Nat.reduceMod, vy.cP, a1, n1, kA, n1', n3, g1, g1']
      · simp (disch := omega) only [lit, lm1, nI_add, pk_mul, nm_eq, nm_eq', nm_lt, nm_lt', nm_le, nm_le', x_lt, x_le, x_eq, x_in, x_cl, x_div, x_sub, x_rem, x_min, x_max, x_and, x_or, x_xor, x_df, x_shl, bI_0, bI_1, bI_bo, lg_eq, toL_inj, ls_nI, decide_eq_false_iff_not, decide_eq_true_eq, Bool.true_eq_false, Bool.false_eq_true, bq, if_pos, if_neg, if_true, if_false, lq, Nat.reduceAdd, Nat.reduceMul, Nat.reduceSub, Nat.reduceDiv, Nat.reduceMod, vy.mP, eP, hl.rp.m11, a2, mK1, n2, g2, fm1]
  · have n2 : fX12_named (nI 6) (nI 0) (nI (K - 1)) M1 = some (z, M2) := n2
    have fm1 := f1.fm.w (j := 38 + P) (x := z)
    have fm3 := eq_false (fm1.w (j := 46 + P) (x := (cpI M2 154 (38 + P) z).1 150 10))
    refine Or.inr ⟨S2, cpI (cpI M2 154 (38 + P) z) 154 (46 + P) ((cpI M2 154 (38 + P) z).1 150 10), ?_, ?_, f1.w.w, vy.fl ((kRc.f (k115.le a5)).tr (kRc.f f2)), ?_⟩
    · rcases n1 with n1 | ⟨n1, n0, n1'⟩
      · simp (disch := omega) only [lit, lm1, nI_add, pk_mul, nm_eq, nm_eq', nm_lt, nm_lt', nm_le, nm_le', x_lt, x_le, x_eq, x_in, x_cl, x_div, x_sub, x_rem, x_min, x_max, x_and, x_or, x_xor, x_df, x_shl, bI_0, bI_1, bI_bo, lg_eq, toL_inj, ls_nI, decide_eq_false_iff_not, decide_eq_true_eq, Bool.true_eq_false, Bool.false_eq_true, bq, if_pos, if_neg, if_true, if_false, lq, Nat.reduceAdd, Nat.reduceMul, Nat.reduceSub, Nat.reduceDiv, Nat.reduceMod, vy.cP, a1, n1]
      · simp (disch := omega) only [lit, lm1, nI_add, pk_mul, nm_eq, nm_eq', nm_lt, nm_lt', nm_le, nm_le', x_lt, x_le, x_eq, x_in, x_cl, x_div, x_sub, x_rem, x_min, x_max, x_and, x_or, x_xor, x_df, x_shl, bI_0, bI_1, bI_bo, lg_eq, toL_inj, ls_nI, decide_eq_false_iff_not, decide_eq_true_eq, Bool.true_eq_false, Bool.false_eq_true, bq, if_pos, if_neg, if_true, if_false, lq, Nat.reduceAdd, Nat.reduceMul, Nat.reduceSub, Nat.reduceDiv, Nat.reduceMod, vy.cP, a1, n1, kK1 n0, n1']
    · simp (disch := omega) only [lit, lm1, nI_add, pk_mul, nm_eq, nm_eq', nm_lt, nm_lt', nm_le, nm_le', x_lt, x_le, x_eq, x_in, x_cl, x_div, x_sub, x_rem, x_min, x_max, x_and, x_or, x_xor, x_df, x_shl, bI_0, bI_1, bI_bo, lg_eq, toL_inj, ls_nI, decide_eq_false_iff_not, decide_eq_true_eq, Bool.true_eq_false, Bool.false_eq_true, bq, if_pos, if_neg, if_true, if_false, lq, Nat.reduceAdd, Nat.reduceMul, Nat.reduceSub, Nat.reduceDiv, Nat.reduceMod, vy.mP, eP, hl.rp.m11, a2, mK1, n2, f_named fm1, fm3]
    · exact (((kRm.v (k150.le a6)).tr (kRm.v f3)).I (by exact Or.inl rfl)).I (by exact Or.inl rfl)
end PE
