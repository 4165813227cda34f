/-! a law -/
section LA
variable {t : Nat → Nat} {L s : Nat} {l : List Nat} {K R P C hh : Nat} {S M : cpS}
theorem l_may (hl : Ln t L s l K R P C hh S M) (hk : kyE t L s = 12) : Lo t L s S M (fX7_readMay S) (fX12_readLaw (nI 0) M) := by
  have l9 := hl.rp.ct.1
  have bg := hl.bg
  obtain ⟨s1, S1, M1, a1, a2, a3, a4, a5, a6⟩ := hl.rp.adv (by omega)
  have k1 := k115.le a5
  have k2 := k150.le a6
  have r1 : Rp t L s1 (cpI S1 115 11 (nI 0)) M1 := a3.kp (f := fun q j => q = 115 ∧ j = 11) (g := fun _ _ => False) (Kp.rf.I (by exact ⟨rfl, rfl⟩)) Kp.rf (fun j q => by omega) (fun j _ _ q => by omega) (fun _ q => q) (fun _ _ _ q => q)
  have c26 : (cpI S1 115 11 (nI 0)).1 26 1 = nI l.length := by rw [sIn (Or.inl (by decide)), k1.i (by unfold kRc; omega)]; exact hl.cd.c1
  rcases r1.sign (i := 1) (by decide) with ⟨S2, M2, e1, e2, s2, g1, g2, g3, g4⟩ | ⟨S2, M2, e1, e2, e3, f1, f2, f3⟩
  · have e1 : fX7_takeSign (nI 58) (cpI S1 115 11 (nI 0)) = some (nI 1, S2) := e1
    have e2 : fX12_eats (nI 31) M1 = some (nI 1, M2) := e2
    have kc : Kp (fun q j => q = 115 ∧ 3 ≤ j) S S2 := (((k1.le (fun q j h => ⟨h.1, h.2.1⟩)).I (k := 115) (j := 11) (by exact ⟨rfl, by decide⟩)).tr (g3.le (fun q j h => ⟨h.1, h.2.1⟩)))
    have km : Kp (fun q j => q = 150 ∧ 6 ≤ j) M (cpI M2 150 15 (nI 0)) := (((k2.le (fun q j h => ⟨h.1, h.2.1⟩)).tr (g4.le (fun q j h => ⟨h.1, h.2.1⟩)))).I (by exact ⟨rfl, by decide⟩)
    have m261 : M2.1 154 261 = nI (l.length - 5) := by rw [g4.i (by unfold kRm; omega), k2.i (by unfold kRm; omega)]; exact hl.cd.m1
    have ls : Ls t L s2 0 l S2 (cpI M2 150 15 (nI 0)) := by
      refine ⟨g1.kp (f := fun _ _ => False) (g := fun q j => q = 150 ∧ j = 15) Kp.rf (Kp.rf.I (by exact ⟨rfl, rfl⟩)) (fun _ q => q) (fun _ _ _ q => q) (fun j q => by omega) (fun j _ _ q => by omega), hl.cd.kp kc km (by omega) (fun j => by omega) (fun j _ => by omega), ?_, sI1, by decide, by omega⟩
      rw [g3.i (by unfold kRc; omega), sI1]
    rcases (lk_all (t := t) (L := L) (w := 0) 80).1 0 80 s2 l S2 (cpI M2 150 15 (nI 0)) (by decide) (by decide) (by decide) ls with ⟨s3, k, S3, M3, c1, c2, c3, c4, c5, c6, c7, c8⟩ | ⟨S3, M3, c1, c2, c3, c4, c5⟩
    · have c6 : cpSnd k [] [true] := c6 [] (by decide)
      have f5 := hl.cd.f5
      have n1 : S3.1 26 1 = nI (l.length + k.length) := by rw [c3.cd.c1, List.length_append]
      have n2 : (cpI S3 26 2 (nI l.length)).1 26 1 = nI (l.length + k.length) := by rw [sIn (Or.inr (by decide))]; exact n1
      have n3 : M3.1 154 261 = nI (l.length + k.length - 5) := by rw [c3.cd.m1, List.length_append]
      have n4 : (cpI (cpI M3 154 5 (nI 1)) 154 7 (nI (l.length - 5))).1 154 261 = nI (l.length + k.length - 5) := by rw [sIn (Or.inr (by decide)), sIn (Or.inr (by decide))]; exact n3
      have bg3 := c3.bg
      rw [List.length_append] at bg3
      have sl3 := c3.rp.sl
      have ek : l.length + k.length - 5 - (l.length - 5) = k.length := by omega
      have wc : Kp (fun q j => q = 26 ∧ (j = 2 ∨ j = 3)) S3 (cpI (cpI S3 26 2 (nI l.length)) 26 3 (nI (l.length + k.length))) := (Kp.rf.I (by exact ⟨rfl, Or.inl rfl⟩)).I (by exact ⟨rfl, Or.inr rfl⟩)
      have wm : Kp (fun q j => q = 154 ∧ (j = 5 ∨ j = 7 ∨ j = 9)) M3 (cpI (cpI (cpI M3 154 5 (nI 1)) 154 7 (nI (l.length - 5))) 154 9 (nI k.length)) := ((Kp.rf.I (by exact ⟨rfl, Or.inl rfl⟩)).I (by exact ⟨rfl, Or.inr (Or.inl rfl)⟩)).I (by exact ⟨rfl, Or.inr (Or.inr rfl)⟩)
      have kc2 : Kp (fun q j => (q = 115 ∧ 3 ≤ j) ∨ (q = 26 ∧ (j = 1 ∨ j = 2 ∨ j = 3)) ∨ q = 27) S (cpI (cpI S3 26 2 (nI l.length)) 26 3 (nI (l.length + k.length))) := ((kc.le (fun q j h => Or.inl h)).tr (c7.le (fun q j h => by unfold kLc at h; omega))).tr (wc.le (fun q j h => by omega))
      have km2 : Kp (fun q j => (q = 150 ∧ 6 ≤ j) ∨ (q = 154 ∧ (261 ≤ j ∨ j = 5 ∨ j = 7 ∨ j = 9))) M (cpI (cpI (cpI M3 154 5 (nI 1)) 154 7 (nI (l.length - 5))) 154 9 (nI k.length)) := ((km.le (fun q j h => Or.inl h)).tr (c8.le (fun q j h => by unfold kLm at h; omega))).tr (wm.le (fun q j h => by omega))
      refine Or.inl ⟨s3, cpI (cpI S3 26 2 (nI l.length)) 26 3 (nI (l.length + k.length)), cpI (cpI (cpI M3 154 5 (nI 1)) 154 7 (nI (l.length - 5))) 154 9 (nI k.length), ?_, ?_, ⟨l ++ k, K, R, P, C, hh, c3.rp.kp wc wm (fun j q => by omega) (fun j _ _ q => by omega) (fun j q => by omega) (fun j _ _ q => by omega), c3.cd.kp wc wm (by omega) (fun j => by omega) (fun j _ => by omega), ?_, hl.vy.kp kc2 km2 (fun q j _ _ h => by omega) (fun j _ _ h => by omega), c3.bg⟩, by omega, kc2.le (fun q j h => by unfold kVc; omega), km2.le (fun q j h => by unfold kVm; omega)⟩
      · unfold fX7_readMay fX3_codeSoFar fX3_closeMay
        simp (disch := omega) only [lit, lm1, nI_add, pk_mul, nm_eq, nm_eq', nm_lt, nm_lt', nm_le, nm_le', x_lt, x_le, x_eq, x_in, x_cl, x_div, x_sub, x_rem, x_min, x_max, x_and, x_or, x_xor, x_df, x_shl, bI_0, bI_1, bI_bo, lg_eq, toL_inj, ls_nI, decide_eq_false_iff_not, decide_eq_true_eq, Bool.true_eq_false, Bool.false_eq_true, bq, if_pos, if_neg, if_true, if_false, lq, Nat.reduceAdd, Nat.reduceMul, Nat.reduceSub, Nat.reduceDiv, Nat.reduceMod, a1, c26, e1, c1, n2]
      · unfold fX12_readLaw
        simp (disch := omega) only [lit, lm1, nI_add, pk_mul, nm_eq, nm_eq', nm_lt, nm_lt', nm_le, nm_le', x_lt, x_le, x_eq, x_in, x_cl, x_div, x_sub, x_rem, x_min, x_max, x_and, x_or, x_xor, x_df, x_shl, bI_0, bI_1, bI_bo, lg_eq, toL_inj, ls_nI, decide_eq_false_iff_not, decide_eq_true_eq, Bool.true_eq_false, Bool.false_eq_true, bq, if_pos, if_neg, if_true, if_false, lq, Nat.reduceAdd, Nat.reduceMul, Nat.reduceSub, Nat.reduceDiv, Nat.reduceMod, a2, e2]
        unfold fX12_readLaw_18 fX12_readLaw_50
        simp (disch := omega) only [lit, lm1, nI_add, pk_mul, nm_eq, nm_eq', nm_lt, nm_lt', nm_le, nm_le', x_lt, x_le, x_eq, x_in, x_cl, x_div, x_sub, x_rem, x_min, x_max, x_and, x_or, x_xor, x_df, x_shl, bI_0, bI_1, bI_bo, lg_eq, toL_inj, ls_nI, decide_eq_false_iff_not, decide_eq_true_eq, Bool.true_eq_false, Bool.false_eq_true, bq, if_pos, if_neg, if_true, if_false, lq, Nat.reduceAdd, Nat.reduceMul, Nat.reduceSub, Nat.reduceDiv, Nat.reduceMod, m261, c2, c3.rp.m11, n4, ek]
      · exact ⟨⟨l, k, [], by rw [List.append_nil], by rw [sIn (Or.inr (by decide)), sI1], sI1, c6, Or.inr ⟨by rw [sIn (Or.inr (by decide)), sIn (Or.inr (by decide)), sI1], f5, by rw [sIn (Or.inr (by decide)), sI1], sI1⟩⟩, hl.lw.2.kp kc2 km2 (by omega) (by omega) (by omega) (by omega) (by omega) k⟩
    · have fm := eq_false c3.fm
      refine Or.inr ⟨S3, M3, ?_, ?_, c3, hl.vy.fl ((kc.le (fun q j h => Or.inl h)).tr (kLc.f c4)), (km.le (fun q j h => Or.inr h)).tr (kLm.v c5)⟩
      · unfold fX7_readMay fX3_codeSoFar fX3_closeMay
        simp (disch := omega) only [lit, lm1, nI_add, pk_mul, nm_eq, nm_eq', nm_lt, nm_lt', nm_le, nm_le', x_lt, x_le, x_eq, x_in, x_cl, x_div, x_sub, x_rem, x_min, x_max, x_and, x_or, x_xor, x_df, x_shl, bI_0, bI_1, bI_bo, lg_eq, toL_inj, ls_nI, decide_eq_false_iff_not, decide_eq_true_eq, Bool.true_eq_false, Bool.false_eq_true, bq, if_pos, if_neg, if_true, if_false, lq, Nat.reduceAdd, Nat.reduceMul, Nat.reduceSub, Nat.reduceDiv, Nat.reduceMod, a1, c26, e1, c1]
      · unfold fX12_readLaw
        simp (disch := omega) only [lit, lm1, nI_add, pk_mul, nm_eq, nm_eq', nm_lt, nm_lt', nm_le, nm_le', x_lt, x_le, x_eq, x_in, x_cl, x_div, x_sub, x_rem, x_min, x_max, x_and, x_or, x_xor, x_df, x_shl, bI_0, bI_1, bI_bo, lg_eq, toL_inj, ls_nI, decide_eq_false_iff_not, decide_eq_true_eq, Bool.true_eq_false, Bool.false_eq_true, bq, if_pos, if_neg, if_true, if_false, lq, Nat.reduceAdd, Nat.reduceMul, Nat.reduceSub, Nat.reduceDiv, Nat.reduceMod, a2, e2]
        unfold fX12_readLaw_18 fX12_readLaw_50
        simp (disch := omega) only [lit, lm1, nI_add, pk_mul, nm_eq, nm_eq', nm_lt, nm_lt', nm_le, nm_le', x_lt, x_le, x_eq, x_in, x_cl, x_div, x_sub, x_rem, x_min, x_max, x_and, x_or, x_xor, x_df, x_shl, bI_0, bI_1, bI_bo, lg_eq, toL_inj, ls_nI, decide_eq_false_iff_not, decide_eq_true_eq, Bool.true_eq_false, Bool.false_eq_true, bq, if_pos, if_neg, if_true, if_false, lq, Nat.reduceAdd, Nat.reduceMul, Nat.reduceSub, Nat.reduceDiv, Nat.reduceMod, m261, c2, fm]
  · have e1 : fX7_takeSign (nI 58) (cpI S1 115 11 (nI 0)) = some (nI 0, S2) := e1
    have e2 : fX12_eats (nI 31) M1 = some (nI 0, M1) := e2
    have f15 : Fp S2 (cpI M2 150 15 (nI 0)) := by
      obtain ⟨f, h1, h2, h3, h4, h5⟩ := f1
      refine ⟨f, h1, h2, h3, ?_, ?_⟩
      · rw [sIn (Or.inr (by decide))]; exact h4
      · rw [sIn (Or.inr (by decide))]; exact h5
    have fm := eq_false f15.fm
    have rr := f_0 f15.fm 74 (nI 0)
    have rr : fX12_rec 80 0 (nI 0) (cpI M2 150 15 (nI 0)) = some ((), cpI M2 150 15 (nI 0)) := rr
    refine Or.inr ⟨S2, cpI M2 150 15 (nI 0), ?_, ?_, f15, hl.vy.fl (((kRc.f k1).I (k := 115) (j := 11) (by exact Or.inl ⟨rfl, by decide⟩)).tr (kRc.f f2)), (((kRm.v k2).tr (kRm.v f3))).I (by exact Or.inr ⟨rfl, by decide⟩)⟩
    · unfold fX7_readMay fX3_codeSoFar
      simp (disch := omega) only [lit, lm1, nI_add, pk_mul, nm_eq, nm_eq', nm_lt, nm_lt', nm_le, nm_le', x_lt, x_le, x_eq, x_in, x_cl, x_div, x_sub, x_rem, x_min, x_max, x_and, x_or, x_xor, x_df, x_shl, bI_0, bI_1, bI_bo, lg_eq, toL_inj, ls_nI, decide_eq_false_iff_not, decide_eq_true_eq, Bool.true_eq_false, Bool.false_eq_true, bq, if_pos, if_neg, if_true, if_false, lq, Nat.reduceAdd, Nat.reduceMul, Nat.reduceSub, Nat.reduceDiv, Nat.reduceMod, a1, c26, e1]
    · unfold fX12_readLaw
      simp (disch := omega) only [lit, lm1, nI_add, pk_mul, nm_eq, nm_eq', nm_lt, nm_lt', nm_le, nm_le', x_lt, x_le, x_eq, x_in, x_cl, x_div, x_sub, x_rem, x_min, x_max, x_and, x_or, x_xor, x_df, x_shl, bI_0, bI_1, bI_bo, lg_eq, toL_inj, ls_nI, decide_eq_false_iff_not, decide_eq_true_eq, Bool.true_eq_false, Bool.false_eq_true, bq, if_pos, if_neg, if_true, if_false, lq, Nat.reduceAdd, Nat.reduceMul, Nat.reduceSub, Nat.reduceDiv, Nat.reduceMod, a2, e2, e3]
      unfold fX12_readLaw_18 fX12_readLaw_50
      simp (disch := omega) only [lit, lm1, nI_add, pk_mul, nm_eq, nm_eq', nm_lt, nm_lt', nm_le, nm_le', x_lt, x_le, x_eq, x_in, x_cl, x_div, x_sub, x_rem, x_min, x_max, x_and, x_or, x_xor, x_df, x_shl, bI_0, bI_1, bI_bo, lg_eq, toL_inj, ls_nI, decide_eq_false_iff_not, decide_eq_true_eq, Bool.true_eq_false, Bool.false_eq_true, bq, if_pos, if_neg, if_true, if_false, lq, Nat.reduceAdd, Nat.reduceMul, Nat.reduceSub, Nat.reduceDiv, Nat.reduceMod, rr, fm]
theorem l_wears (hl : Ln t L s l K R P C hh S M) (hk : kyE t L s = 13) : Lo t L s S M (fX7_readWears S) (fX12_readLaw (nI 1) M) := by
  have l9 := hl.rp.ct.1
  have bg := hl.bg
  obtain ⟨s1, S1, M1, a1, a2, a3, a4, a5, a6⟩ := hl.rp.adv (by omega)
  have k1 := k115.le a5
  have k2 := k150.le a6
  have r1 : Rp t L s1 (cpI S1 115 11 (nI 1)) M1 := a3.kp (f := fun q j => q = 115 ∧ j = 11) (g := fun _ _ => False) (Kp.rf.I (by exact ⟨rfl, rfl⟩)) Kp.rf (fun j q => by omega) (fun j _ _ q => by omega) (fun _ q => q) (fun _ _ _ q => q)
  have c26 : (cpI S1 115 11 (nI 1)).1 26 1 = nI l.length := by rw [sIn (Or.inl (by decide)), k1.i (by unfold kRc; omega)]; exact hl.cd.c1
  rcases r1.sign (i := 1) (by decide) with ⟨S2, M2, e1, e2, s2, g1, g2, g3, g4⟩ | ⟨S2, M2, e1, e2, e3, f1, f2, f3⟩
  · have e1 : fX7_takeSign (nI 58) (cpI S1 115 11 (nI 1)) = some (nI 1, S2) := e1
    have e2 : fX12_eats (nI 31) M1 = some (nI 1, M2) := e2
    have kc : Kp (fun q j => q = 115 ∧ 3 ≤ j) S S2 := (((k1.le (fun q j h => ⟨h.1, h.2.1⟩)).I (k := 115) (j := 11) (by exact ⟨rfl, by decide⟩)).tr (g3.le (fun q j h => ⟨h.1, h.2.1⟩)))
    have km : Kp (fun q j => q = 150 ∧ 6 ≤ j) M (cpI M2 150 15 (nI 1)) := (((k2.le (fun q j h => ⟨h.1, h.2.1⟩)).tr (g4.le (fun q j h => ⟨h.1, h.2.1⟩)))).I (by exact ⟨rfl, by decide⟩)
    have m261 : M2.1 154 261 = nI (l.length - 5) := by rw [g4.i (by unfold kRm; omega), k2.i (by unfold kRm; omega)]; exact hl.cd.m1
    have ls : Ls t L s2 1 l S2 (cpI M2 150 15 (nI 1)) := by
      refine ⟨g1.kp (f := fun _ _ => False) (g := fun q j => q = 150 ∧ j = 15) Kp.rf (Kp.rf.I (by exact ⟨rfl, rfl⟩)) (fun _ q => q) (fun _ _ _ q => q) (fun j q => by omega) (fun j _ _ q => by omega), hl.cd.kp kc km (by omega) (fun j => by omega) (fun j _ => by omega), ?_, sI1, by decide, by omega⟩
      rw [g3.i (by unfold kRc; omega), sI1]
    rcases (lk_all (t := t) (L := L) (w := 1) 80).2.2.2.1 0 80 s2 l S2 (cpI M2 150 15 (nI 1)) (by decide) (by decide) (by decide) ls with ⟨s3, k, S3, M3, c1, c2, c3, c4, c5, c6, c7, c8⟩ | ⟨S3, M3, c1, c2, c3, c4, c5⟩
    · have c6 : cpSnd k [] [false] := c6 [] (by decide)
      have f5 := hl.cd.f5
      have n1 : S3.1 26 1 = nI (l.length + k.length) := by rw [c3.cd.c1, List.length_append]
      have n2 : (cpI S3 26 4 (nI l.length)).1 26 1 = nI (l.length + k.length) := by rw [sIn (Or.inr (by decide))]; exact n1
      have n3 : M3.1 154 261 = nI (l.length + k.length - 5) := by rw [c3.cd.m1, List.length_append]
      have n4 : (cpI (cpI M3 154 6 (nI 1)) 154 8 (nI (l.length - 5))).1 154 261 = nI (l.length + k.length - 5) := by rw [sIn (Or.inr (by decide)), sIn (Or.inr (by decide))]; exact n3
      have bg3 := c3.bg
      rw [List.length_append] at bg3
      have sl3 := c3.rp.sl
      have ek : l.length + k.length - 5 - (l.length - 5) = k.length := by omega
      have wc : Kp (fun q j => q = 26 ∧ (j = 4 ∨ j = 5)) S3 (cpI (cpI S3 26 4 (nI l.length)) 26 5 (nI (l.length + k.length))) := (Kp.rf.I (by exact ⟨rfl, Or.inl rfl⟩)).I (by exact ⟨rfl, Or.inr rfl⟩)
      have wm : Kp (fun q j => q = 154 ∧ (j = 6 ∨ j = 8 ∨ j = 10)) M3 (cpI (cpI (cpI M3 154 6 (nI 1)) 154 8 (nI (l.length - 5))) 154 10 (nI k.length)) := ((Kp.rf.I (by exact ⟨rfl, Or.inl rfl⟩)).I (by exact ⟨rfl, Or.inr (Or.inl rfl)⟩)).I (by exact ⟨rfl, Or.inr (Or.inr rfl)⟩)
      have kc2 : Kp (fun q j => (q = 115 ∧ 3 ≤ j) ∨ (q = 26 ∧ (j = 1 ∨ j = 4 ∨ j = 5)) ∨ q = 27) S (cpI (cpI S3 26 4 (nI l.length)) 26 5 (nI (l.length + k.length))) := ((kc.le (fun q j h => Or.inl h)).tr (c7.le (fun q j h => by unfold kLc at h; omega))).tr (wc.le (fun q j h => by omega))
      have km2 : Kp (fun q j => (q = 150 ∧ 6 ≤ j) ∨ (q = 154 ∧ (261 ≤ j ∨ j = 6 ∨ j = 8 ∨ j = 10))) M (cpI (cpI (cpI M3 154 6 (nI 1)) 154 8 (nI (l.length - 5))) 154 10 (nI k.length)) := ((km.le (fun q j h => Or.inl h)).tr (c8.le (fun q j h => by unfold kLm at h; omega))).tr (wm.le (fun q j h => by omega))
      refine Or.inl ⟨s3, cpI (cpI S3 26 4 (nI l.length)) 26 5 (nI (l.length + k.length)), cpI (cpI (cpI M3 154 6 (nI 1)) 154 8 (nI (l.length - 5))) 154 10 (nI k.length), ?_, ?_, ⟨l ++ k, K, R, P, C, hh, c3.rp.kp wc wm (fun j q => by omega) (fun j _ _ q => by omega) (fun j q => by omega) (fun j _ _ q => by omega), c3.cd.kp wc wm (by omega) (fun j => by omega) (fun j _ => by omega), ?_, hl.vy.kp kc2 km2 (fun q j _ _ h => by omega) (fun j _ _ h => by omega), c3.bg⟩, by omega, kc2.le (fun q j h => by unfold kVc; omega), km2.le (fun q j h => by unfold kVm; omega)⟩
      · unfold fX7_readWears fX3_codeSoFar fX3_closeWears
        simp (disch := omega) only [lit, lm1, nI_add, pk_mul, nm_eq, nm_eq', nm_lt, nm_lt', nm_le, nm_le', x_lt, x_le, x_eq, x_in, x_cl, x_div, x_sub, x_rem, x_min, x_max, x_and, x_or, x_xor, x_df, x_shl, bI_0, bI_1, bI_bo, lg_eq, toL_inj, ls_nI, decide_eq_false_iff_not, decide_eq_true_eq, Bool.true_eq_false, Bool.false_eq_true, bq, if_pos, if_neg, if_true, if_false, lq, Nat.reduceAdd, Nat.reduceMul, Nat.reduceSub, Nat.reduceDiv, Nat.reduceMod, a1, c26, e1, c1, n2]
      · unfold fX12_readLaw
        simp (disch := omega) only [lit, lm1, nI_add, pk_mul, nm_eq, nm_eq', nm_lt, nm_lt', nm_le, nm_le', x_lt, x_le, x_eq, x_in, x_cl, x_div, x_sub, x_rem, x_min, x_max, x_and, x_or, x_xor, x_df, x_shl, bI_0, bI_1, bI_bo, lg_eq, toL_inj, ls_nI, decide_eq_false_iff_not, decide_eq_true_eq, Bool.true_eq_false, Bool.false_eq_true, bq, if_pos, if_neg, if_true, if_false, lq, Nat.reduceAdd, Nat.reduceMul, Nat.reduceSub, Nat.reduceDiv, Nat.reduceMod, a2, e2]
        unfold fX12_readLaw_18 fX12_readLaw_50
        simp (disch := omega) only [lit, lm1, nI_add, pk_mul, nm_eq, nm_eq', nm_lt, nm_lt', nm_le, nm_le', x_lt, x_le, x_eq, x_in, x_cl, x_div, x_sub, x_rem, x_min, x_max, x_and, x_or, x_xor, x_df, x_shl, bI_0, bI_1, bI_bo, lg_eq, toL_inj, ls_nI, decide_eq_false_iff_not, decide_eq_true_eq, Bool.true_eq_false, Bool.false_eq_true, bq, if_pos, if_neg, if_true, if_false, lq, Nat.reduceAdd, Nat.reduceMul, Nat.reduceSub, Nat.reduceDiv, Nat.reduceMod, m261, c2, c3.rp.m11, n4, ek]
      · exact ⟨hl.lw.1.kp kc2 km2 (by omega) (by omega) (by omega) (by omega) (by omega) k, ⟨l, k, [], by rw [List.append_nil], by rw [sIn (Or.inr (by decide)), sI1], sI1, c6, Or.inr ⟨by rw [sIn (Or.inr (by decide)), sIn (Or.inr (by decide)), sI1], f5, by rw [sIn (Or.inr (by decide)), sI1], sI1⟩⟩⟩
    · have fm := eq_false c3.fm
      refine Or.inr ⟨S3, M3, ?_, ?_, c3, hl.vy.fl ((kc.le (fun q j h => Or.inl h)).tr (kLc.f c4)), (km.le (fun q j h => Or.inr h)).tr (kLm.v c5)⟩
      · unfold fX7_readWears fX3_codeSoFar fX3_closeWears
        simp (disch := omega) only [lit, lm1, nI_add, pk_mul, nm_eq, nm_eq', nm_lt, nm_lt', nm_le, nm_le', x_lt, x_le, x_eq, x_in, x_cl, x_div, x_sub, x_rem, x_min, x_max, x_and, x_or, x_xor, x_df, x_shl, bI_0, bI_1, bI_bo, lg_eq, toL_inj, ls_nI, decide_eq_false_iff_not, decide_eq_true_eq, Bool.true_eq_false, Bool.false_eq_true, bq, if_pos, if_neg, if_true, if_false, lq, Nat.reduceAdd, Nat.reduceMul, Nat.reduceSub, Nat.reduceDiv, Nat.reduceMod, a1, c26, e1, c1]
      · unfold fX12_readLaw
        simp (disch := omega) only [lit, lm1, nI_add, pk_mul, nm_eq, nm_eq', nm_lt, nm_lt', nm_le, nm_le', x_lt, x_le, x_eq, x_in, x_cl, x_div, x_sub, x_rem, x_min, x_max, x_and, x_or, x_xor, x_df, x_shl, bI_0, bI_1, bI_bo, lg_eq, toL_inj, ls_nI, decide_eq_false_iff_not, decide_eq_true_eq, Bool.true_eq_false, Bool.false_eq_true, bq, if_pos, if_neg, if_true, if_false, lq, Nat.reduceAdd, Nat.reduceMul, Nat.reduceSub, Nat.reduceDiv, Nat.reduceMod, a2, e2]
        unfold fX12_readLaw_18 fX12_readLaw_50
        simp (disch := omega) only [lit, lm1, nI_add, pk_mul, nm_eq, nm_eq', nm_lt, nm_lt', nm_le, nm_le', x_lt, x_le, x_eq, x_in, x_cl, x_div, x_sub, x_rem, x_min, x_max, x_and, x_or, x_xor, x_df, x_shl, bI_0, bI_1, bI_bo, lg_eq, toL_inj, ls_nI, decide_eq_false_iff_not, decide_eq_true_eq, Bool.true_eq_false, Bool.false_eq_true, bq, if_pos, if_neg, if_true, if_false, lq, Nat.reduceAdd, Nat.reduceMul, Nat.reduceSub, Nat.reduceDiv, Nat.reduceMod, m261, c2, fm]
  · have e1 : fX7_takeSign (nI 58) (cpI S1 115 11 (nI 1)) = some (nI 0, S2) := e1
    have e2 : fX12_eats (nI 31) M1 = some (nI 0, M1) := e2
    have f15 : Fp S2 (cpI M2 150 15 (nI 1)) := by
      obtain ⟨f, h1, h2, h3, h4, h5⟩ := f1
      refine ⟨f, h1, h2, h3, ?_, ?_⟩
      · rw [sIn (Or.inr (by decide))]; exact h4
      · rw [sIn (Or.inr (by decide))]; exact h5
    have fm := eq_false f15.fm
    have rr := f_3 f15.fm 77 (nI 0)
    have rr : fX12_rec 80 3 (nI 0) (cpI M2 150 15 (nI 1)) = some ((), cpI M2 150 15 (nI 1)) := rr
    refine Or.inr ⟨S2, cpI M2 150 15 (nI 1), ?_, ?_, f15, hl.vy.fl (((kRc.f k1).I (k := 115) (j := 11) (by exact Or.inl ⟨rfl, by decide⟩)).tr (kRc.f f2)), (((kRm.v k2).tr (kRm.v f3))).I (by exact Or.inr ⟨rfl, by decide⟩)⟩
    · unfold fX7_readWears fX3_codeSoFar
      simp (disch := omega) only [lit, lm1, nI_add, pk_mul, nm_eq, nm_eq', nm_lt, nm_lt', nm_le, nm_le', x_lt, x_le, x_eq, x_in, x_cl, x_div, x_sub, x_rem, x_min, x_max, x_and, x_or, x_xor, x_df, x_shl, bI_0, bI_1, bI_bo, lg_eq, toL_inj, ls_nI, decide_eq_false_iff_not, decide_eq_true_eq, Bool.true_eq_false, Bool.false_eq_true, bq, if_pos, if_neg, if_true, if_false, lq, Nat.reduceAdd, Nat.reduceMul, Nat.reduceSub, Nat.reduceDiv, Nat.reduceMod, a1, c26, e1]
    · unfold fX12_readLaw
      simp (disch := omega) only [lit, lm1, nI_add, pk_mul, nm_eq, nm_eq', nm_lt, nm_lt', nm_le, nm_le', x_lt, x_le, x_eq, x_in, x_cl, x_div, x_sub, x_rem, x_min, x_max, x_and, x_or, x_xor, x_df, x_shl, bI_0, bI_1, bI_bo, lg_eq, toL_inj, ls_nI, decide_eq_false_iff_not, decide_eq_true_eq, Bool.true_eq_false, Bool.false_eq_true, bq, if_pos, if_neg, if_true, if_false, lq, Nat.reduceAdd, Nat.reduceMul, Nat.reduceSub, Nat.reduceDiv, Nat.reduceMod, a2, e2, e3]
      unfold fX12_readLaw_18 fX12_readLaw_50
      simp (disch := omega) only [lit, lm1, nI_add, pk_mul, nm_eq, nm_eq', nm_lt, nm_lt', nm_le, nm_le', x_lt, x_le, x_eq, x_in, x_cl, x_div, x_sub, x_rem, x_min, x_max, x_and, x_or, x_xor, x_df, x_shl, bI_0, bI_1, bI_bo, lg_eq, toL_inj, ls_nI, decide_eq_false_iff_not, decide_eq_true_eq, Bool.true_eq_false, Bool.false_eq_true, bq, if_pos, if_neg, if_true, if_false, lq, Nat.reduceAdd, Nat.reduceMul, Nat.reduceSub, Nat.reduceDiv, Nat.reduceMod, rr, fm]
end LA
