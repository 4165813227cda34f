/-! the first line -/
def headM (S11 : cpS) : Option (Int32 × cpS) := cpB (fX12_eats (0 : Int32) S11) fun z12 S13 => if z12 = 0 then (cpB (fX12_fails (2 : Int32) S13) fun _ S15 => fX12_valley_66 S15) else (fX12_valley_66 S13)
section HD
variable {t : Nat → Nat} {L s : Nat} {S M : cpS}
theorem Rw.z {K : Nat} (hK : K ≤ 6) (h0 : S.1 15 0 = nI K) (h3 : S.1 15 3 = nI 0) : Rw S := ⟨K, 0, fun _ => (0, 0, 0), hK, by decide, h0, h3, fun r hr => absurd hr (by omega)⟩
theorem v66_f {A N : cpS} (f1 : Fp A N) : ∃ N', fX12_valley_66 N = fX12_valley_99 cpFu N' ∧ Fp A N' ∧ Kp kVm N N' := by
  have fm1 := f1.fm
  have fm2 := fm1.w (j := 1) (x := N.1 150 10)
  have fm3 := fm2.w (j := 78) (x := (cpI N 154 1 (N.1 150 10)).1 150 10)
  refine ⟨cpI (cpI (cpI N 154 1 (N.1 150 10)) 154 78 ((cpI N 154 1 (N.1 150 10)).1 150 10)) 154 0 ((cpI (cpI N 154 1 (N.1 150 10)) 154 78 ((cpI N 154 1 (N.1 150 10)).1 150 10)).1 154 0 + nI 1), ?_, f1.w.w.w, ((Kp.rf.I (by exact Or.inl rfl)).I (by exact Or.inl rfl)).I (by exact Or.inl rfl)⟩
  unfold fX12_valley_66
  simp (disch := omega) only [lit, lm1, nI_add, pk_mul, nm_eq, nm_eq', nm_lt, nm_lt', nm_le, nm_le', x_lt, x_le, x_eq, x_in, x_cl, x_div, x_sub, x_rem, x_min, x_max, x_and, x_or, x_xor, x_df, x_shl, bI_0, bI_1, bI_bo, lg_eq, toL_inj, ls_nI, decide_eq_false_iff_not, decide_eq_true_eq, Bool.true_eq_false, Bool.false_eq_true, bq, if_pos, if_neg, if_true, if_false, lq, Nat.reduceAdd, Nat.reduceMul, Nat.reduceSub, Nat.reduceDiv, Nat.reduceMod, f_named fm1, f_named fm2, f_closes fm3]
theorem l_head (h : Rp t L s S M) (hc : Cd [1000, 1001, 2004, 2008, 1003] S M) (hw : Lw [1000, 1001, 2004, 2008, 1003] S M) (vy : Vy 1 0 0 0 0 S M) :
    (∃ s' S' M', fX7_readHead S = some (nI 1, S') ∧ headM M = fX12_valley_99 cpFu M' ∧ Lx t L s' S' M' ∧ Kp kVc S S' ∧ Kp kVm M M') ∨
    (∃ S' M', fX7_readHead S = some (nI 0, S') ∧ headM M = fX12_valley_99 cpFu M' ∧ Fp S' M' ∧ Fr S S' ∧ Kp kVm M M') := by
  have l9 := h.ct.1
  rcases h.word (k := 1) (by decide) (by decide) with ⟨S1, M1, e1, e2, s1, g1, g2, g3, g4⟩ | ⟨S1, M1, e1, e2, e3, f1, f2, f3⟩
  · have e2 : fX12_eats (nI 0) M = some (nI 1, M1) := e2
    rcases g1.named (k := 2) (a := 1) (B := 7) (x2 := nI 6) (by decide) (by decide) (by decide) (uB.n (by decide)) with ⟨v, A2, S2, M2, v1, v2, n1, n1', n2, n3, b0, s2, b1, b2, b3, b4⟩ | ⟨z, A2, S2, M2, n1, n2, f1, f2, f3⟩
    · have n2 : fX12_named (nI 1) (nI 1) (nI 6) M1 = some (nI v, M2) := n2
      have c1 : Rp t L s2 (cpI S2 15 0 (nI v)) (cpI M2 154 1 (nI v)) := (b1.wS (by decide)).wM
      rcases c1.named (k := 3) (a := 0) (B := 10) (x2 := nI 9) (by decide) (by decide) (by decide) (uB.n (by decide)) with ⟨u, A3, S3, M3, -, u2, o1, o1', o2, o3, o5, s3, d1, d2, d3, d4⟩ | ⟨z, A3, S3, M3, o1, o2, f1, f2, f3⟩
      · have o2 : fX12_named (nI 2) (nI 0) (nI 9) (cpI M2 154 1 (nI v)) = some (nI u, M3) := o2
        have i1 : Rp t L s3 (cpI S3 15 1 (nI u)) (cpI M3 154 78 (nI u)) := (d1.wS (by decide)).wM
        have kc0 : Kp (fun q j => (q = 115 ∧ 3 ≤ j) ∨ (q = 15 ∧ j ≤ 1)) S (cpI S3 15 1 (nI u)) := by
          have lc : ∀ {A B : cpS}, Kp kRc A B → Kp (fun q j => (q = 115 ∧ 3 ≤ j) ∨ (q = 15 ∧ j ≤ 1)) A B := fun h => h.le (fun q j h => Or.inl ⟨h.1, h.2.1⟩)
          exact ((((lc g3).tr (lc b3)).I (k := 15) (j := 0) (by exact Or.inr ⟨rfl, by decide⟩)).tr (lc d3)).I (by exact Or.inr ⟨rfl, by decide⟩)
        have km0 : Kp (fun q j => (q = 150 ∧ 6 ≤ j) ∨ (q = 154 ∧ (j = 1 ∨ j = 78))) M (cpI M3 154 78 (nI u)) := by
          have lc : ∀ {A B : cpS}, Kp kRm A B → Kp (fun q j => (q = 150 ∧ 6 ≤ j) ∨ (q = 154 ∧ (j = 1 ∨ j = 78))) A B := fun h => h.le (fun q j h => Or.inl ⟨h.1, h.2.1⟩)
          exact ((((lc g4).tr (lc b4)).I (k := 154) (j := 1) (by exact Or.inr ⟨rfl, Or.inl rfl⟩)).tr (lc d4)).I (by exact Or.inr ⟨rfl, Or.inr rfl⟩)
        have x0 : (cpI S3 15 1 (nI u)).1 15 0 = nI v := by rw [sIn (Or.inr (by decide)), d3.i (by unfold kRc; omega), sI1]
        have x1 : (cpI S3 15 1 (nI u)).1 15 1 = nI u := sI1
        have y1 : (cpI M3 154 78 (nI u)).1 154 1 = nI v := by rw [sIn (Or.inr (by decide)), d4.i (by unfold kRm; omega), sI1]
        have y78 : (cpI M3 154 78 (nI u)).1 154 78 = nI u := sI1
        have x2 : (cpI S3 15 1 (nI u)).1 15 2 = S.1 15 2 := kc0.i (by omega)
        have y0 : (cpI M3 154 78 (nI u)).1 154 0 = M.1 154 0 := km0.i (by omega)
        have rc : ∀ z T, fX7_takeLineEnd (cpI S3 15 1 (nI u)) = some (z, T) → cpBo z = true → fX7_readHead S = some (z, T) := fun z T e b => by
          unfold fX7_readHead
          simp (disch := omega) only [lit, lm1, nI_add, pk_mul, nm_eq, nm_eq', nm_lt, nm_lt', nm_le, nm_le', x_lt, x_le, x_eq, x_in, x_cl, x_div, x_sub, x_rem, x_min, x_max, x_and, x_or, x_xor, x_df, x_shl, bI_0, bI_1, bI_bo, lg_eq, toL_inj, ls_nI, decide_eq_false_iff_not, decide_eq_true_eq, Bool.true_eq_false, Bool.false_eq_true, bq, if_pos, if_neg, if_true, if_false, lq, Nat.reduceAdd, Nat.reduceMul, Nat.reduceSub, Nat.reduceDiv, Nat.reduceMod, e1, n1, n1', n3, o1, o1', o3, e, b]
        have rm : ∀ T, fX12_closes (cpI M3 154 78 (nI u)) = some ((), T) → headM M = fX12_valley_99 cpFu T := fun T e => by
          unfold headM fX12_valley_66
          simp (disch := omega) only [lit, lm1, nI_add, pk_mul, nm_eq, nm_eq', nm_lt, nm_lt', nm_le, nm_le', x_lt, x_le, x_eq, x_in, x_cl, x_div, x_sub, x_rem, x_min, x_max, x_and, x_or, x_xor, x_df, x_shl, bI_0, bI_1, bI_bo, lg_eq, toL_inj, ls_nI, decide_eq_false_iff_not, decide_eq_true_eq, Bool.true_eq_false, Bool.false_eq_true, bq, if_pos, if_neg, if_true, if_false, lq, Nat.reduceAdd, Nat.reduceMul, Nat.reduceSub, Nat.reduceDiv, Nat.reduceMod, e2, n2, o2, e]
        generalize eA : cpI S3 15 1 (nI u) = A at i1 kc0 x0 x1 x2 rc
        generalize eB : cpI M3 154 78 (nI u) = B at i1 km0 y1 y78 y0 rm
        rcases e_end i1 with ⟨S', M', q1, q2, s', p1, p2, p3, p4⟩ | ⟨S', M', q1, q2, f1, f2, f3⟩
        · rw [x2] at q1
          rw [y0] at q2
          have kc : Kp (fun q j => (q = 115 ∧ 3 ≤ j) ∨ (q = 15 ∧ j ≤ 2)) S (cpI S' 15 2 (S.1 15 2 + nI 1)) := ((kc0.le (fun q j h => by omega)).tr (p3.le (fun q j h => Or.inl ⟨h.1, h.2.1⟩))).I (by exact Or.inr ⟨rfl, by decide⟩)
          have km : Kp (fun q j => (q = 150 ∧ 6 ≤ j) ∨ (q = 154 ∧ (j = 0 ∨ j = 1 ∨ j = 78))) M (cpI M' 154 0 (M.1 154 0 + nI 1)) := ((km0.le (fun q j h => by omega)).tr (p4.le (fun q j h => Or.inl ⟨h.1, h.2.1⟩))).I (by exact Or.inr ⟨rfl, Or.inl rfl⟩)
          have z0 : (cpI S' 15 2 (S.1 15 2 + nI 1)).1 15 0 = nI v := by rw [sIn (Or.inr (by decide)), p3.i (by unfold kRc; omega)]; exact x0
          have z1 : (cpI S' 15 2 (S.1 15 2 + nI 1)).1 15 1 = nI u := by rw [sIn (Or.inr (by decide)), p3.i (by unfold kRc; omega)]; exact x1
          have w1 : (cpI M' 154 0 (M.1 154 0 + nI 1)).1 154 1 = nI v := by rw [sIn (Or.inr (by decide)), p4.i (by unfold kRm; omega)]; exact y1
          have w78 : (cpI M' 154 0 (M.1 154 0 + nI 1)).1 154 78 = nI u := by rw [sIn (Or.inr (by decide)), p4.i (by unfold kRm; omega)]; exact y78
          refine Or.inl ⟨s', _, _, rc _ _ q1 bo1, rm _ q2, ⟨[1000, 1001, 2004, 2008, 1003], v, 0, 0, 0, u, (p1.wS (by decide)).wM, hc.kp kc km (by omega) (fun j => by omega) (fun j _ => by omega), hw.kp0 kc km (fun j _ _ => by omega) (fun j _ _ => by omega), ?_, by show 6 ≤ s'; omega⟩, kc.le (fun q j h => by unfold kVc; omega), km.le (fun q j h => by unfold kVm; omega)⟩
          refine ⟨⟨v1, by omega, by decide, by decide, by decide, by omega⟩, z0, w1, ?_, ?_, ?_, ?_, ?_, ?_, z1, w78, ?_, fun r hr => absurd hr (by omega), fun p hp => absurd hp (by omega), fun c hc => absurd hc (by omega), fun c z1 z2 => ?_, ?_, fun j hj => ?_⟩
          · rw [kc.i (by omega)]; exact vy.cR
          · rw [km.i (by omega)]; exact vy.mR
          · rw [kc.i (by omega)]; exact vy.cP
          · rw [km.i (by omega)]; exact vy.mP
          · rw [kc.i (by omega)]; exact vy.cC
          · rw [km.i (by omega)]; exact vy.mC
          · rw [sI1, sI1, vy.ln]
          · rw [kc.i (by omega), km.i (by omega)]; exact vy.cz c z1 z2
          · obtain ⟨fd, t1, t2⟩ := vy.fd
            refine ⟨fd, fun p hp => ?_, t2⟩
            rw [kc.i (by omega), km.i (by omega)]; exact t1 p hp
          · rw [km.i (by omega)]; exact vy.z j hj
        · have kc : Kp (fun q j => (q = 115 ∧ 3 ≤ j) ∨ (q = 15 ∧ j ≤ 1)) S S' := kc0.tr (f2.le (fun q j h => Or.inl ⟨h.1, h.2.1⟩))
          refine Or.inr ⟨S', _, rc _ _ q1 bo0, rm _ q2, f1.w, ⟨kc.le (fun q j h => by unfold kVc; omega), Rw.z (K := v) (by omega) ?_ ?_⟩, ((km0.le (fun q j h => by unfold kVm; omega)).tr (kRm.v f3)).I (by exact Or.inl rfl)⟩
          · rw [f2.i (by unfold kRc; omega)]; exact x0
          · rw [kc.i (by omega)]; exact vy.cR
      · have o2 : fX12_named (nI 2) (nI 0) (nI 9) (cpI M2 154 1 (nI v)) = some (z, M3) := o2
        have kc : Kp (fun q j => (q = 115 ∧ 3 ≤ j) ∨ (q = 15 ∧ j ≤ 1)) S S3 := by
          have lc : ∀ {A B : cpS}, Kp kRc A B → Kp (fun q j => (q = 115 ∧ 3 ≤ j) ∨ (q = 15 ∧ j ≤ 1)) A B := fun h => h.le (fun q j h => Or.inl ⟨h.1, h.2.1⟩)
          exact (((lc g3).tr (lc b3)).I (k := 15) (j := 0) (by exact Or.inr ⟨rfl, by decide⟩)).tr (lc f2)
        have fm3 := f1.fm.w (j := 78) (x := z)
        refine Or.inr ⟨S3, cpI (cpI M3 154 78 z) 154 0 ((cpI M3 154 78 z).1 154 0 + nI 1), ?_, ?_, f1.w.w, ⟨kc.le (fun q j h => by unfold kVc; omega), Rw.z (K := v) (by omega) ?_ ?_⟩, ?_⟩
        · unfold fX7_readHead
          rcases o1 with o1 | ⟨o1, -, o1'⟩
          · simp (disch := omega) only [lit, lm1, nI_add, pk_mul, nm_eq, nm_eq', nm_lt, nm_lt', nm_le, nm_le', x_lt, x_le, x_eq, x_in, x_cl, x_div, x_sub, x_rem, x_min, x_max, x_and, x_or, x_xor, x_df, x_shl, bI_0, bI_1, bI_bo, lg_eq, toL_inj, ls_nI, decide_eq_false_iff_not, decide_eq_true_eq, Bool.true_eq_false, Bool.false_eq_true, bq, if_pos, if_neg, if_true, if_false, lq, Nat.reduceAdd, Nat.reduceMul, Nat.reduceSub, Nat.reduceDiv, Nat.reduceMod, e1, n1, n1', n3, o1]
          · simp (disch := omega) only [lit, lm1, nI_add, pk_mul, nm_eq, nm_eq', nm_lt, nm_lt', nm_le, nm_le', x_lt, x_le, x_eq, x_in, x_cl, x_div, x_sub, x_rem, x_min, x_max, x_and, x_or, x_xor, x_df, x_shl, bI_0, bI_1, bI_bo, lg_eq, toL_inj, ls_nI, decide_eq_false_iff_not, decide_eq_true_eq, Bool.true_eq_false, Bool.false_eq_true, bq, if_pos, if_neg, if_true, if_false, lq, Nat.reduceAdd, Nat.reduceMul, Nat.reduceSub, Nat.reduceDiv, Nat.reduceMod, e1, n1, n1', n3, o1, o1']
        · unfold headM fX12_valley_66
          simp (disch := omega) only [lit, lm1, nI_add, pk_mul, nm_eq, nm_eq', nm_lt, nm_lt', nm_le, nm_le', x_lt, x_le, x_eq, x_in, x_cl, x_div, x_sub, x_rem, x_min, x_max, x_and, x_or, x_xor, x_df, x_shl, bI_0, bI_1, bI_bo, lg_eq, toL_inj, ls_nI, decide_eq_false_iff_not, decide_eq_true_eq, Bool.true_eq_false, Bool.false_eq_true, bq, if_pos, if_neg, if_true, if_false, lq, Nat.reduceAdd, Nat.reduceMul, Nat.reduceSub, Nat.reduceDiv, Nat.reduceMod, e2, n2, o2, f_closes fm3]
        · rw [f2.i (by unfold kRc; omega), sI1]
        · rw [kc.i (by omega)]; exact vy.cR
        · exact ((((((kRm.v g4).tr (kRm.v b4)).I (k := 154) (j := 1) (by exact Or.inl rfl)).tr (kRm.v f3)).I (by exact Or.inl rfl))).I (by exact Or.inl rfl)
    · have n2 : fX12_named (nI 1) (nI 1) (nI 6) M1 = some (z, M2) := n2
      have fm2 := f1.fm.w (j := 1) (x := z)
      have fm3 := fm2.w (j := 78) (x := (cpI M2 154 1 z).1 150 10)
      have kc := g3.tr f2
      refine Or.inr ⟨S2, cpI (cpI (cpI M2 154 1 z) 154 78 ((cpI M2 154 1 z).1 150 10)) 154 0 ((cpI (cpI M2 154 1 z) 154 78 ((cpI M2 154 1 z).1 150 10)).1 154 0 + nI 1), ?_, ?_, f1.w.w.w, ⟨kRc.v kc, Rw.z (K := 1) (by decide) ?_ ?_⟩, ?_⟩
      · unfold fX7_readHead
        rcases n1 with n1 | ⟨n1, -, n1'⟩
        · simp (disch := omega) only [lit, lm1, nI_add, pk_mul, nm_eq, nm_eq', nm_lt, nm_lt', nm_le, nm_le', x_lt, x_le, x_eq, x_in, x_cl, x_div, x_sub, x_rem, x_min, x_max, x_and, x_or, x_xor, x_df, x_shl, bI_0, bI_1, bI_bo, lg_eq, toL_inj, ls_nI, decide_eq_false_iff_not, decide_eq_true_eq, Bool.true_eq_false, Bool.false_eq_true, bq, if_pos, if_neg, if_true, if_false, lq, Nat.reduceAdd, Nat.reduceMul, Nat.reduceSub, Nat.reduceDiv, Nat.reduceMod, e1, n1]
        · simp (disch := omega) only [lit, lm1, nI_add, pk_mul, nm_eq, nm_eq', nm_lt, nm_lt', nm_le, nm_le', x_lt, x_le, x_eq, x_in, x_cl, x_div, x_sub, x_rem, x_min, x_max, x_and, x_or, x_xor, x_df, x_shl, bI_0, bI_1, bI_bo, lg_eq, toL_inj, ls_nI, decide_eq_false_iff_not, decide_eq_true_eq, Bool.true_eq_false, Bool.false_eq_true, bq, if_pos, if_neg, if_true, if_false, lq, Nat.reduceAdd, Nat.reduceMul, Nat.reduceSub, Nat.reduceDiv, Nat.reduceMod, e1, n1, n1']
      · unfold headM fX12_valley_66
        simp (disch := omega) only [lit, lm1, nI_add, pk_mul, nm_eq, nm_eq', nm_lt, nm_lt', nm_le, nm_le', x_lt, x_le, x_eq, x_in, x_cl, x_div, x_sub, x_rem, x_min, x_max, x_and, x_or, x_xor, x_df, x_shl, bI_0, bI_1, bI_bo, lg_eq, toL_inj, ls_nI, decide_eq_false_iff_not, decide_eq_true_eq, Bool.true_eq_false, Bool.false_eq_true, bq, if_pos, if_neg, if_true, if_false, lq, Nat.reduceAdd, Nat.reduceMul, Nat.reduceSub, Nat.reduceDiv, Nat.reduceMod, e2, n2, f_named fm2, f_closes fm3]
      · rw [kc.i (by unfold kRc; omega)]; exact vy.cK
      · rw [kc.i (by unfold kRc; omega)]; exact vy.cR
      · exact (((((kRm.v g4).tr (kRm.v f3)).I (by exact Or.inl rfl)).I (by exact Or.inl rfl))).I (by exact Or.inl rfl)
  · have e2 : fX12_eats (nI 0) M = some (nI 0, M) := e2
    obtain ⟨N, g1, g2, g3⟩ := v66_f f1
    refine Or.inr ⟨S1, N, ?_, ?_, g2, ⟨kRc.v f2, Rw.z (K := 1) (by decide) ?_ ?_⟩, (kRm.v f3).tr g3⟩
    · unfold fX7_readHead
      simp (disch := omega) only [lit, lm1, nI_add, pk_mul, nm_eq, nm_eq', nm_lt, nm_lt', nm_le, nm_le', x_lt, x_le, x_eq, x_in, x_cl, x_div, x_sub, x_rem, x_min, x_max, x_and, x_or, x_xor, x_df, x_shl, bI_0, bI_1, bI_bo, lg_eq, toL_inj, ls_nI, decide_eq_false_iff_not, decide_eq_true_eq, Bool.true_eq_false, Bool.false_eq_true, bq, if_pos, if_neg, if_true, if_false, lq, Nat.reduceAdd, Nat.reduceMul, Nat.reduceSub, Nat.reduceDiv, Nat.reduceMod, e1]
    · refine Eq.trans ?_ g1
      unfold headM
      simp (disch := omega) only [lit, lm1, nI_add, pk_mul, nm_eq, nm_eq', nm_lt, nm_lt', nm_le, nm_le', x_lt, x_le, x_eq, x_in, x_cl, x_div, x_sub, x_rem, x_min, x_max, x_and, x_or, x_xor, x_df, x_shl, bI_0, bI_1, bI_bo, lg_eq, toL_inj, ls_nI, decide_eq_false_iff_not, decide_eq_true_eq, Bool.true_eq_false, Bool.false_eq_true, bq, if_pos, if_neg, if_true, if_false, lq, Nat.reduceAdd, Nat.reduceMul, Nat.reduceSub, Nat.reduceDiv, Nat.reduceMod, e2, e3]
    · rw [f2.i (by unfold kRc; omega)]; exact vy.cK
    · rw [f2.i (by unfold kRc; omega)]; exact vy.cR
end HD
