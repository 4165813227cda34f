/-! a valley is told -/
theorem rY.kp {S U : cpS} (h : rY S) {f : Nat → Nat → Prop} (g : Kp f S U) (hf : ∀ k j, ((139 ≤ k ∧ k ≤ 146) ∨ (171 ≤ k ∧ k ≤ 173)) → ¬ f k j) : rY U := by
  intro t ht
  have e2 := fun j => g.i (hf (139 + 2 * t) j (Or.inl (by omega)))
  have e3 := fun j => g.l (hf (140 + 2 * t) j (Or.inl (by omega)))
  have e5 := fun j => g.i (hf 171 j (Or.inr (by omega)))
  have e6 := fun j => g.i (hf 172 j (Or.inr (by omega)))
  have e7 := fun j => g.l (hf 173 j (Or.inr (by omega)))
  simp only [e2, e3, e5, e6, e7]
  exact h t ht
theorem e_begin (B : cpS) : ∃ G, fX5_begin 57 1 B = some ((), G) ∧ (∀ c, c < 4 → G.1 58 c = B.1 8 c) ∧ (∀ p, p < 8 → G.1 60 p = B.1 7 p) ∧ (∀ c, c < 4 → G.1 59 c = nI 0) ∧ G.1 57 3 = B.1 1 1 ∧ G.1 57 4 = nI 0 ∧ Kp (fun q j => 57 ≤ q ∧ q ≤ 60) B G := by
  have h2 : ∃ A, A = cpRI (cpRI B 58 (va_cpy (B.1 8) (B.1 58) 0 0 4)) 60 (va_cpy ((cpRI B 58 (va_cpy (B.1 8) (B.1 58) 0 0 4)).1 7) ((cpRI B 58 (va_cpy (B.1 8) (B.1 58) 0 0 4)).1 60) 0 0 8) ∧ (∀ c, c < 4 → A.1 58 c = B.1 8 c) ∧ (∀ p, p < 8 → A.1 60 p = B.1 7 p) ∧ (∀ q, (q < 57 ∨ 60 < q) → A.1 q = B.1 q) ∧ A.1 57 = B.1 57 ∧ A.1 59 = B.1 59 ∧ A.2 = B.2 := by
    refine ⟨_, rfl, fun c hc => ?_, fun p hp => ?_, fun q hq => ?_, ?_, ?_, rfl⟩
    · simp (disch := omega) only [sRr, sR1, sb_cpy0]
    · simp (disch := omega) only [sRr, sR1, sb_cpy0]
    · simp (disch := omega) only [sRr]
    · simp (disch := omega) only [sRr]
    · simp (disch := omega) only [sRr]
  obtain ⟨A, eA, a1, a2, a3, a4, a5, a6⟩ := h2
  obtain ⟨T, t1, t2⟩ := e_fillI 59 4 (nI 0) (by decide) A
  have kA : Kp (fun q j => 57 ≤ q ∧ q ≤ 60) B A := fun q j h => ⟨by rw [a3 q (by omega)], by rw [a6]⟩
  have c1 : T.1 1 1 = B.1 1 1 := by rw [t2.2.1 1 (by decide), a3 1 (by decide)]
  refine ⟨cpI (cpI T 57 3 (B.1 1 1)) 57 4 (nI 0), ?_, fun c hc => ?_, fun p hp => ?_, fun c hc => ?_, ?_, sI1, ((kA.tr (t2.kp (fun j _ _ => by decide))).I (by exact ⟨by decide, by decide⟩)).I (by exact ⟨by decide, by decide⟩)⟩
  · unfold fX5_begin
    simp only [Nat.reduceAdd, lq, ← eA]
    simp (disch := omega) only [lit, lm1, nI_add, pk_mul, nm_eq, nm_eq', nm_lt, nm_lt', nm_le, nm_le', x_lt, x_le, x_eq, x_in, x_cl, x_div, x_sub, x_rem, x_min, x_max, x_and, x_or, x_xor, x_df, x_shl, bI_0, bI_1, bI_bo, lg_eq, toL_inj, ls_nI, decide_eq_false_iff_not, decide_eq_true_eq, Bool.true_eq_false, Bool.false_eq_true, bq, if_pos, if_neg, if_true, if_false, lq, Nat.reduceAdd, Nat.reduceMul, Nat.reduceSub, Nat.reduceDiv, Nat.reduceMod, t1, c1]
  · rw [sIr (by decide), sIr (by decide), t2.2.1 58 (by decide)]; exact a1 c hc
  · rw [sIr (by decide), sIr (by decide), t2.2.1 60 (by decide)]; exact a2 p hp
  · rw [sIr (by decide), sIr (by decide)]; exact t2.2.2.1 c (by omega) hc
  · rw [sIn (Or.inr (by decide)), sI1]
theorem m_copies (T : cpS) : ∃ V, fX12_valley_170 cpFu (nI 0) T = some (V.1 151 0, V) ∧ fI T V 151 0 1162 (fun j => T.1 154 j) := by
  have := up_lpR (F := fun n k (V : cpS) => fX12_valley_170 n k V) (K := fun V => some (V.1 151 0, V)) 1162 (fun _ (s : Unit) => s) (fun k _ V => fI T V 151 0 k (fun j => T.1 154 j)) (by decide) (fun n k s V hk hI => ?_) (fun n s V hI => ?_) (i0 := 0) (s := ()) (a := T) (Nat.zero_le _) (fI.rf T 151 _ _)
  · exact this
  · refine ⟨cpI V 151 k (V.1 154 k), ?_, hI.nx ?_ (by omega)⟩
    · (try dsimp only)
      rw [fX12_valley_170]
      simp (disch := omega) only [lit, lm1, nI_add, pk_mul, nm_eq, nm_eq', nm_lt, nm_lt', nm_le, nm_le', x_lt, x_le, x_eq, x_in, x_cl, x_div, x_sub, x_rem, x_min, x_max, x_and, x_or, x_xor, x_df, x_shl, bI_0, bI_1, bI_bo, lg_eq, toL_inj, ls_nI, decide_eq_false_iff_not, decide_eq_true_eq, Bool.true_eq_false, Bool.false_eq_true, bq, if_pos, if_neg, if_true, if_false, lq, Nat.reduceAdd, Nat.reduceMul, Nat.reduceSub, Nat.reduceDiv, Nat.reduceMod]
    · rw [hI.2.1 154 (by decide)]
  · (try dsimp only)
    rw [fX12_valley_170]
    simp (disch := omega) only [lit, lm1, nI_add, pk_mul, nm_eq, nm_eq', nm_lt, nm_lt', nm_le, nm_le', x_lt, x_le, x_eq, x_in, x_cl, x_div, x_sub, x_rem, x_min, x_max, x_and, x_or, x_xor, x_df, x_shl, bI_0, bI_1, bI_bo, lg_eq, toL_inj, ls_nI, decide_eq_false_iff_not, decide_eq_true_eq, Bool.true_eq_false, Bool.false_eq_true, bq, if_pos, if_neg, if_true, if_false, lq, Nat.reduceAdd, Nat.reduceMul, Nat.reduceSub, Nat.reduceDiv, Nat.reduceMod]
theorem some_pr {α β : Type} {a a' : α} {b b' : β} (h : some (a, b) = some (a', b')) : a = a' ∧ b = b' := by
  cases h
  exact ⟨rfl, rfl⟩
theorem n10 : ¬ (nI 1 = nI 0) := by decide
/-- told, and refused -/
theorem v_bad {S A M' : cpS} {L n : Nat} (hR : cpRl S) (hLn : L ≤ n) (hn : n ≤ 900) (t1 : S.1 115 1 = nI n) (e1 : fX7_readText (nI L) S = some (nI 0, A)) (e2 : fX12_valley (nI L) A = fX12_valley_126 M') (fp : Fp A M') (c1 : A.1 115 1 = nI 0) (m5 : M'.1 150 5 = nI 0) (kc : Kp kXc S A) (km : Kp kXm A M') : ∃ (r : Int32) (S1 S2 : cpS), fX11_valley (nI L) S = some (r, S1) ∧ fX12_valley (nI L) S1 = some (r, S2) ∧ cpRl S2 := by
  have fm := eq_false fp.fm
  obtain ⟨f, f1, f2, f3, f4, f5⟩ := fp
  have kU : Kp kXm A (cpI (cpI M' 150 13 (nI f)) 150 14 (M'.1 150 12)) := (km.I (by exact Or.inr rfl)).I (by exact Or.inr rfl)
  have kS : Kp (fun q j => kXc q j ∨ kXm q j) S (cpI (cpI M' 150 13 (nI f)) 150 14 (M'.1 150 12)) := (kc.le (fun q j h => Or.inl h)).tr (kU.le (fun q j h => Or.inr h))
  have g12 : (cpI M' 150 13 (nI f)).1 150 12 = M'.1 150 12 := sIn (Or.inr (by decide))
  have g11 : (cpI M' 150 13 (nI f)).1 150 11 = nI f := by rw [sIn (Or.inr (by decide))]; exact f4
  have g11' : (cpI (cpI M' 150 13 (nI f)) 150 14 (M'.1 150 12)).1 150 11 = nI f := by rw [sIn (Or.inr (by decide))]; exact g11
  have hf0 : ¬ f = 0 := by omega
  refine ⟨(-30) - nI f, A, cpI (cpI M' 150 13 (nI f)) 150 14 (M'.1 150 12), ?_, ?_, ⟨0, by decide, ?_, ?_, fun j hj => absurd hj (by omega)⟩, ⟨?_, ?_⟩, hR.2.2.1.kp kS (fun k j a h => by unfold kXc kXm at h; omega), hR.2.2.2.1.kp kS (fun k j a b h => by unfold kXc kXm at h; omega) (fun k j a b h => by unfold kXc kXm at h; omega) (fun j a b c h => by unfold kXc kXm at h; omega), hR.2.2.2.2.1.kp kS (fun k j a h => by unfold kXc kXm at h; omega) (fun j a b h => by unfold kXc kXm at h; omega), fun i hi => ?_⟩
  · unfold fX11_valley
    simp (disch := omega) only [lit, lm1, nI_add, pk_mul, nm_eq, nm_eq', nm_lt, nm_lt', nm_le, nm_le', x_lt, x_le, x_eq, x_in, x_cl, x_div, x_sub, x_rem, x_min, x_max, x_and, x_or, x_xor, x_df, x_shl, bI_0, bI_1, bI_bo, lg_eq, toL_inj, ls_nI, decide_eq_false_iff_not, decide_eq_true_eq, Bool.true_eq_false, Bool.false_eq_true, bq, if_pos, if_neg, if_true, if_false, lq, Nat.reduceAdd, Nat.reduceMul, Nat.reduceSub, Nat.reduceDiv, Nat.reduceMod, t1, e1, f3]
  · rw [e2]
    unfold fX12_valley_126 fX12_valley_150
    simp (disch := omega) only [lit, lm1, nI_add, pk_mul, nm_eq, nm_eq', nm_lt, nm_lt', nm_le, nm_le', x_lt, x_le, x_eq, x_in, x_cl, x_div, x_sub, x_rem, x_min, x_max, x_and, x_or, x_xor, x_df, x_shl, bI_0, bI_1, bI_bo, lg_eq, toL_inj, ls_nI, decide_eq_false_iff_not, decide_eq_true_eq, Bool.true_eq_false, Bool.false_eq_true, bq, if_pos, if_neg, if_true, if_false, lq, Nat.reduceAdd, Nat.reduceMul, Nat.reduceSub, Nat.reduceDiv, Nat.reduceMod, f4, g11, g12, g11', hf0]
  · rw [kU.i (by unfold kXm; omega)]; exact c1
  · rw [sIn (Or.inr (by decide)), sIn (Or.inr (by decide))]; exact m5
  · rw [kU.i (by unfold kXm; omega), sIn (Or.inr (by decide)), sI1]; exact f3
  · rw [kU.i (by unfold kXm; omega), sI1]; exact f5
  · obtain ⟨g1, g2, g3⟩ := hR.2.2.2.2.2 i hi
    rw [kS.i (fun h => by unfold kXc kXm at h; omega), kS.i (fun h => by unfold kXc kXm at h; omega)]
    exact ⟨g1, g2, fun h => (g3 h).kp kS (fun k j a b h => by unfold kXc kXm at h; omega) (fun k j a b h => by unfold kXc kXm at h; omega) (fun j a b c h => by unfold kXc kXm at h; omega)⟩
/-- told, and taken: what the class makes of it -/
theorem v_cls {S A : cpS} {L n : Nat} (hLn : L ≤ n) (hn : n ≤ 900) (t1 : S.1 115 1 = nI n) (e1 : fX7_readText (nI L) S = some (nI 1, A)) : ∃ F, fX11_valley (nI L) S = some (F.1 1 2, F) ∧ (∀ D : cpD, D.WF → cW D A 15 → cW D F 1) ∧ (∀ c, c < 4 → F.1 58 c = A.1 22 c) ∧ (∀ p, p < 8 → F.1 60 p = A.1 21 p) ∧ (∀ c, c < 4 → F.1 59 c = nI 0) ∧ F.1 57 3 = A.1 15 1 ∧ F.1 57 4 = nI 0 ∧ F.1 113 2 = nI 0 ∧ Kp (fun q j => (1 ≤ q ∧ q ≤ 13) ∨ (57 ≤ q ∧ q ≤ 60) ∨ (q = 113 ∧ j = 2)) A F := by
  obtain ⟨B, b1, b2⟩ := e_copyV 1 15 A (by decide)
  have kB : Kp (fun q _ => 1 ≤ q ∧ q ≤ 13) A B := b2.kp (fun q j a b => ⟨a, by omega⟩)
  obtain ⟨G, g1, g2, g3, g4, g5, g6, g7⟩ := e_begin B
  have kF : Kp (fun q j => q = 113 ∧ j = 2) G (cpI G 113 2 (nI 0)) := Kp.rf.I (by exact ⟨rfl, rfl⟩)
  refine ⟨cpI G 113 2 (nI 0), ?_, fun D hD c => ((b2.2.2.1 D hD c).kp g7 (fun k j a b => by omega)).kp kF (fun k j a b => by omega), fun c hc => ?_, fun p hp => ?_, fun c hc => ?_, ?_, ?_, sI1, ((kB.le (fun q j h => Or.inl h)).tr (g7.le (fun q j h => Or.inr (Or.inl h)))).tr (kF.le (fun q j h => Or.inr (Or.inr h)))⟩
  · unfold fX11_valley fX6_forget
    simp (disch := omega) only [lit, lm1, nI_add, pk_mul, nm_eq, nm_eq', nm_lt, nm_lt', nm_le, nm_le', x_lt, x_le, x_eq, x_in, x_cl, x_div, x_sub, x_rem, x_min, x_max, x_and, x_or, x_xor, x_df, x_shl, bI_0, bI_1, bI_bo, lg_eq, toL_inj, ls_nI, decide_eq_false_iff_not, decide_eq_true_eq, Bool.true_eq_false, Bool.false_eq_true, bq, if_pos, if_neg, if_true, if_false, lq, Nat.reduceAdd, Nat.reduceMul, Nat.reduceSub, Nat.reduceDiv, Nat.reduceMod, t1, e1, b1, g1]
  · rw [sIr (by decide), g2 c hc]; exact b2.2.2.2.2.1 c hc
  · rw [sIr (by decide), g3 p hp]; exact b2.2.2.2.1 p hp
  · rw [sIr (by decide)]; exact g4 c hc
  · rw [sIr (by decide), g5]; exact b2.2.2.2.2.2
  · rw [sIr (by decide)]; exact g6
theorem v_good {S A F M' : cpS} {L : Nat} (hR : cpRl S) (e1 : fX11_valley (nI L) S = some (F.1 1 2, F)) (w1 : ∀ D : cpD, D.WF → cW D A 15 → cW D F 1) (w2 : ∀ c, c < 4 → F.1 58 c = A.1 22 c) (w3 : ∀ p, p < 8 → F.1 60 p = A.1 21 p) (w4 : ∀ c, c < 4 → F.1 59 c = nI 0) (w5 : F.1 57 3 = A.1 15 1) (w6 : F.1 57 4 = nI 0) (w7 : F.1 113 2 = nI 0) (w8 : Kp (fun q j => (1 ≤ q ∧ q ≤ 13) ∨ (57 ≤ q ∧ q ≤ 60) ∨ (q = 113 ∧ j = 2)) A F)
    (e2 : fX12_valley (nI L) F = fX12_valley_126 M') (dt : ∃ (D : cpD) (E : cpE), D.WF ∧ E.WF D ∧ cW D A 15 ∧ (∀ j, j < 8 → A.1 21 j = nI (E.fd j)) ∧ (∀ c, c < 4 → A.1 22 c = nI (E.at' c)) ∧ A.1 15 1 = nI E.h ∧ E.ca = nI 0 ∧ (∀ c, E.rim c = nI 0) ∧ ∀ U : cpS, (∀ j, j < 1162 → U.1 151 (0 + j) = M'.1 154 j) → mW D U 0 ∧ mN E U (0 + 62)) (z80 : M'.1 154 80 = nI 0)
    (c1 : A.1 115 1 = nI 0) (c3 : A.1 115 3 = nI 0) (c4 : A.1 115 4 = nM) (m11 : M'.1 150 11 = nI 0) (m5 : M'.1 150 5 = nI 0) (kc : Kp kXc S A) (km : Kp kXm F M') : ∃ (r : Int32) (S1 S2 : cpS), fX11_valley (nI L) S = some (r, S1) ∧ fX12_valley (nI L) S1 = some (r, S2) ∧ cpRl S2 := by
  obtain ⟨D, E, hD, hE, d1, d2, d3, d4, d5, d6, d7⟩ := dt
  obtain ⟨V, v1, v2⟩ := m_copies (cpI (cpI M' 150 13 (nI 0)) 150 14 nM)
  have kT : Kp kXm F (cpI (cpI M' 150 13 (nI 0)) 150 14 nM) := (km.I (by exact Or.inr rfl)).I (by exact Or.inr rfl)
  have kV : Kp (fun q j => q = 151 ∧ j < 1162) (cpI (cpI M' 150 13 (nI 0)) 150 14 nM) V := v2.kp (fun j _ h => ⟨rfl, h⟩)
  have kFV : Kp (fun q j => kXm q j ∨ (q = 151 ∧ j < 1162)) F V := (kT.le (fun q j h => Or.inl h)).tr (kV.le (fun q j h => Or.inr h))
  have kU : Kp (fun q j => kXc q j ∨ (1 ≤ q ∧ q ≤ 13) ∨ (57 ≤ q ∧ q ≤ 60) ∨ (q = 113 ∧ j = 2) ∨ kXm q j ∨ (q = 151 ∧ j < 1162)) S V := ((kc.le (fun q j h => Or.inl h)).tr (w8.le (fun q j h => Or.inr (by omega)))).tr (kFV.le (fun q j h => Or.inr (Or.inr (Or.inr (Or.inr h)))))
  have ev : ∀ j, j < 1162 → V.1 151 (0 + j) = M'.1 154 j := fun j hj => by
    rw [Nat.zero_add, v2.2.2.1 j (by omega) hj]
    show (cpI (cpI M' 150 13 (nI 0)) 150 14 nM).1 154 j = _
    rw [sIr (by decide), sIr (by decide)]
  obtain ⟨mw, mn⟩ := d7 V ev
  have cw := w1 D hD d1
  have cV : cW D V 1 := cw.kp kFV (fun k j a b h => by unfold kXm at h; omega)
  have nF : cN E F 57 := ⟨fun c hc => by rw [w2 c hc]; exact d3 c hc, fun c hc => by rw [w4 c hc, d6 c], fun p hp => by rw [w3 p hp]; exact d2 p hp, by rw [w5]; exact d4, by rw [w6, d5]⟩
  have nV : cN E V 57 := nF.kp kFV (fun k j a b h => by unfold kXm at h; omega)
  have er : V.1 151 0 = F.1 1 2 := by
    have := mw.ln
    rw [cw.ln]; exact this
  obtain ⟨z, x, z9, x9, hz, hz', hx, old⟩ := hR.2.2.2.2.1
  have g11 : (cpI M' 150 13 (nI 0)).1 150 11 = nI 0 := by rw [sIn (Or.inr (by decide))]; exact m11
  have g11' : (cpI (cpI M' 150 13 (nI 0)) 150 14 nM).1 150 11 = nI 0 := by rw [sIn (Or.inr (by decide))]; exact g11
  refine ⟨F.1 1 2, F, V, e1, ?_, ⟨0, by decide, ?_, ?_, fun j hj => absurd hj (by omega)⟩, ⟨?_, ?_⟩, hR.2.2.1.kp kU (fun k j a h => by unfold kXc kXm at h; omega), rV.mk' hD hE cV mw nV mn, ⟨0, x, by omega, x9, ?_, ?_, ?_, fun i hi => absurd hi (by omega)⟩, fun i hi => ?_⟩
  · rw [e2, ← er]
    refine Eq.trans ?_ v1
    unfold fX12_valley_126 fX12_valley_150
    simp (disch := omega) only [lit, lm1, nI_add, pk_mul, nm_eq, nm_eq', nm_lt, nm_lt', nm_le, nm_le', x_lt, x_le, x_eq, x_in, x_cl, x_div, x_sub, x_rem, x_min, x_max, x_and, x_or, x_xor, x_df, x_shl, bI_0, bI_1, bI_bo, lg_eq, toL_inj, ls_nI, decide_eq_false_iff_not, decide_eq_true_eq, Bool.true_eq_false, Bool.false_eq_true, bq, if_pos, if_neg, if_true, if_false, lq, Nat.reduceAdd, Nat.reduceMul, Nat.reduceSub, Nat.reduceDiv, Nat.reduceMod, m11, g11, g11']
  · rw [kFV.i (fun h => by unfold kXm at h; omega), w8.i (by omega)]; exact c1
  · rw [kV.i (by omega), sIn (Or.inr (by decide)), sIn (Or.inr (by decide))]; exact m5
  · rw [kFV.i (fun h => by unfold kXm at h; omega), w8.i (by omega), c3, kV.i (by omega), sIn (Or.inr (by decide)), sI1]
  · rw [kFV.i (fun h => by unfold kXm at h; omega), w8.i (by omega), c4, kV.i (by omega), sI1]
  · rw [kFV.i (fun h => by unfold kXm at h; omega)]; exact w7
  · have := ev 80 (by decide)
    rw [Nat.zero_add] at this
    rw [this]; exact z80
  · rw [kU.i (fun h => by unfold kXc kXm at h; omega)]; exact hx
  · obtain ⟨g1, g2, g3⟩ := hR.2.2.2.2.2 i hi
    rw [kU.i (fun h => by unfold kXc kXm at h; omega), kU.i (fun h => by unfold kXc kXm at h; omega)]
    exact ⟨g1, g2, fun h => (g3 h).kp kU (fun k j a b h => by unfold kXc kXm at h; omega) (fun k j a b h => by unfold kXc kXm at h; omega) (fun j a b c h => by unfold kXc kXm at h; omega)⟩
theorem q_valley : cpQ_valley cpRl := by
  intro x1 S hR
  have hq := hR.kp (kM_thr S (nI 0)) (fun k j h => h.1)
  obtain ⟨n, n9, t1, t5, tp⟩ := hR.1
  have e5 : (cpI S 150 0 (nI 0)).1 150 5 = nI n := by rw [sIn (Or.inr (by decide))]; exact t5
  rcases in_or x1 (n + 1) with ⟨L, hL, rfl⟩ | h1
  · have ht : ∀ x, x < L → S.1 116 x = nI (S.1 116 x).toNatClampNeg ∧ (S.1 116 x).toNatClampNeg < 256 := fun x hx => by
      obtain ⟨-, b, b1, b2⟩ := tp x (by omega)
      rw [b2, x_cl (by omega)]
      exact ⟨rfl, b1⟩
    have hM : ∀ x, x < L → S.1 153 x = nI (S.1 116 x).toNatClampNeg := fun x hx => by rw [(tp x (by omega)).1]; exact (ht x hx).1
    rcases t_all (S := S) (M := S) (t := fun x => (S.1 116 x).toNatClampNeg) (L := L) (by omega) n9 (by omega) ht hM t5 with ⟨A, M0, a1, -, -, -, -, -, -, -, a9, -⟩ | ⟨A, M0, a1, -, -, -, -, a7, -⟩
    · obtain ⟨F, w0, w1, w2, w3, w4, w5, w6, w7, w8⟩ := v_cls (by omega) n9 t1 a1
      have kF : ∀ q j, 150 ≤ q → F.1 q j = S.1 q j := fun q j h => by rw [w8.i (by omega), a9.i (by unfold kXc; omega)]
      rcases t_all (S := S) (M := F) (t := fun x => (S.1 116 x).toNatClampNeg) (L := L) (by omega) n9 (by omega) ht (fun x hx => by rw [kF 153 x (by decide)]; exact hM x hx) (by rw [kF 150 5 (by decide)]; exact t5) with ⟨A', M', b1, b2, ⟨l, K, R, P, C, hh, v1, v2, v3, v4, v5⟩, b4, b5, b6, b7, b8, b9, b10⟩ | ⟨A', M', b1, -⟩
      · rw [a1] at b1
        obtain ⟨-, rfl⟩ := some_pr b1
        exact v_good hR w0 w1 w2 w3 w4 w5 w6 w7 w8 b2 (v_out v1 v2 v3 v4 v5) (v1.z 80 (Or.inr (Or.inr rfl))) b4 b5 b6 b7 b8 b9 b10
      · rw [a1] at b1
        exact absurd (some_pr b1).1 n10
    · have kF : ∀ q j, 150 ≤ q → A.1 q j = S.1 q j := fun q j h => a7.i (by unfold kXc; omega)
      rcases t_all (S := S) (M := A) (t := fun x => (S.1 116 x).toNatClampNeg) (L := L) (by omega) n9 (by omega) ht (fun x hx => by rw [kF 153 x (by decide)]; exact hM x hx) (by rw [kF 150 5 (by decide)]; exact t5) with ⟨A', M', b1, -⟩ | ⟨A', M', b1, b2, b3, b4, b5, b6, b7⟩
      · rw [a1] at b1
        exact absurd (some_pr b1).1.symm n10
      · rw [a1] at b1
        obtain ⟨-, rfl⟩ := some_pr b1
        exact v_bad hR (by omega) n9 t1 a1 b2 b3 b4 b5 b6 b7
  · have hw := m_win (n + 1) (nI n).toInt64 (by rw [i2l_toInt, nI_toInt (by omega)]; omega) x1 (cpI S 150 0 (nI 0))
    rw [h1] at hw
    have hw : fX12_within x1.toInt64 (0 : Int64) (nI n).toInt64 (cpI S 150 0 (nI 0)) = some (nI 0, cpI S 150 0 (nI 0)) := hw
    have hm : fX12_valley x1 S = some (-3, cpI S 150 0 (nI 0)) := by
      unfold fX12_valley
      simp (disch := omega) only [lit, lm1, nI_add, pk_mul, nm_eq, nm_eq', nm_lt, nm_lt', nm_le, nm_le', x_lt, x_le, x_eq, x_in, x_cl, x_div, x_sub, x_rem, x_min, x_max, x_and, x_or, x_xor, x_df, x_shl, bI_0, bI_1, bI_bo, lg_eq, toL_inj, ls_nI, decide_eq_false_iff_not, decide_eq_true_eq, Bool.true_eq_false, Bool.false_eq_true, bq, if_pos, if_neg, if_true, if_false, lq, Nat.reduceAdd, Nat.reduceMul, Nat.reduceSub, Nat.reduceDiv, Nat.reduceMod, e5, hw]
    rcases arg_out (n + 1) n rfl (by omega) h1 with h | ⟨h, h2, -, -, -⟩
    · exact ⟨-3, S, _, by unfold fX11_valley; simp (disch := omega) only [lit, lm1, nI_add, pk_mul, nm_eq, nm_eq', nm_lt, nm_lt', nm_le, nm_le', x_lt, x_le, x_eq, x_in, x_cl, x_div, x_sub, x_rem, x_min, x_max, x_and, x_or, x_xor, x_df, x_shl, bI_0, bI_1, bI_bo, lg_eq, toL_inj, ls_nI, decide_eq_false_iff_not, decide_eq_true_eq, Bool.true_eq_false, Bool.false_eq_true, bq, if_pos, if_neg, if_true, if_false, lq, Nat.reduceAdd, Nat.reduceMul, Nat.reduceSub, Nat.reduceDiv, Nat.reduceMod, h], hm, hq⟩
    · exact ⟨-3, S, _, by unfold fX11_valley; simp (disch := omega) only [lit, lm1, nI_add, pk_mul, nm_eq, nm_eq', nm_lt, nm_lt', nm_le, nm_le', x_lt, x_le, x_eq, x_in, x_cl, x_div, x_sub, x_rem, x_min, x_max, x_and, x_or, x_xor, x_df, x_shl, bI_0, bI_1, bI_bo, lg_eq, toL_inj, ls_nI, decide_eq_false_iff_not, decide_eq_true_eq, Bool.true_eq_false, Bool.false_eq_true, bq, if_pos, if_neg, if_true, if_false, lq, Nat.reduceAdd, Nat.reduceMul, Nat.reduceSub, Nat.reduceDiv, Nat.reduceMod, h, t1, h2], hm, hq⟩
