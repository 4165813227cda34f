/-! what is kept of the past: the class's ring, the reference's row -/
theorem cN.cp {E : cpE} {S T : cpS} {v k : Nat} (h : cN E S k) (g : nC S T v k) : cN E T v := by
  obtain ⟨-, -, g1, g2, g3, g4, g5⟩ := g
  exact ⟨fun c hc => by rw [g1 c hc]; exact h.at' c hc, fun c hc => by rw [g2 c hc]; exact h.rim c hc, fun c hc => by rw [g3 c hc]; exact h.fd c hc, by rw [g4]; exact h.h, by rw [g5]; exact h.ca⟩
theorem mN.mv {E : cpE} {S T : cpS} {w w' : Nat} (h : mN E S w) (g : ∀ j, j < 18 → T.1 151 (w' + j) = S.1 151 (w + j)) : mN E T w' := by
  refine ⟨fun c hc => by rw [g c (by omega)]; exact h.at' c hc, fun c hc => ?_, fun c hc => ?_, by rw [g 16 (by omega)]; exact h.h, by rw [g 17 (by omega)]; exact h.ca⟩
  · rw [Nat.add_assoc, g (4 + c) (by omega), ← Nat.add_assoc]; exact h.rim c hc
  · rw [Nat.add_assoc, g (8 + c) (by omega), ← Nat.add_assoc]; exact h.fd c hc
theorem e_keep {S : cpS} {k x z : Nat} (hx : S.1 113 1 = nI x) (x9 : x < 10) (hz : S.1 113 2 = nI z) (z9 : z ≤ 10) (hk : k + 3 < 65) : ∃ T, fX6_keep k S = some ((), T) ∧ T.1 113 1 = nI ((x + 1) % 10) ∧ T.1 113 2 = nI (min 10 (z + 1)) ∧ (∀ E, cN E S k → cN E T (65 + 4 * x)) ∧ Kp (fun q _ => (65 + 4 * x ≤ q ∧ q ≤ 65 + 4 * x + 3) ∨ q = 113) S T := by
  obtain ⟨T, h1, h2⟩ := e_copyN (65 + 4 * x) k S (by omega)
  have e : ∀ j, T.1 113 j = S.1 113 j := fun j => by rw [h2.1 113 (by omega)]
  refine ⟨cpI (cpI T 113 1 (nI ((x + 1) % 10))) 113 2 (nI (min 10 (z + 1))), ?_, ?_, ?_, ?_, ?_⟩
  · unfold fX6_keep
    simp (disch := omega) only [lit, lm1, nI_add, pk_mul, nm_eq, nm_eq', nm_lt, nm_lt', nm_le, nm_le', x_lt, x_le, x_eq, x_in, x_cl, x_div, x_sub, x_rem, x_min, x_max, x_and, x_or, x_xor, x_df, x_shl, bI_0, bI_1, bI_bo, lg_eq, toL_inj, ls_nI, decide_eq_false_iff_not, decide_eq_true_eq, Bool.true_eq_false, Bool.false_eq_true, bq, if_pos, if_neg, if_true, if_false, lq, Nat.reduceAdd, Nat.reduceMul, Nat.reduceSub, Nat.reduceDiv, Nat.reduceMod, hx, h1, e]
    rw [sIn (Or.inr (by decide)), e, hz]
    simp (disch := omega) only [lit, lm1, nI_add, pk_mul, nm_eq, nm_eq', nm_lt, nm_lt', nm_le, nm_le', x_lt, x_le, x_eq, x_in, x_cl, x_div, x_sub, x_rem, x_min, x_max, x_and, x_or, x_xor, x_df, x_shl, bI_0, bI_1, bI_bo, lg_eq, toL_inj, ls_nI, decide_eq_false_iff_not, decide_eq_true_eq, Bool.true_eq_false, Bool.false_eq_true, bq, if_pos, if_neg, if_true, if_false, lq, Nat.reduceAdd, Nat.reduceMul, Nat.reduceSub, Nat.reduceDiv, Nat.reduceMod]
  · rw [sIn (Or.inr (by decide)), sI1]
  · rw [sI1]
  · intro E hE
    refine (hE.cp h2).kp (f := fun q _ => q = 113) ((Kp.rf.I (by exact rfl)).I (by exact rfl)) (fun k j a b => by omega)
  · exact ((h2.kp (by intro q j a b; exact Or.inl ⟨a, b⟩)).I (by exact Or.inr rfl)).I (by exact Or.inr rfl)
theorem e_notes58 {S : cpS} {z : Nat} (hz : S.1 151 80 = nI z) (z9 : z < 10) : ∃ T, fX12_notes_58 cpFu (nI 0) S = some ((), T) ∧ T.1 151 80 = nI (z + 1) ∧ Kp (fun q j => q = 151 ∧ 80 ≤ j ∧ j < 261) S T ∧ (∀ j, j < 18 → T.1 151 (81 + 18 * z + j) = S.1 158 j) ∧ ∀ j, 81 ≤ j → j < 81 + 18 * z → T.1 151 j = S.1 151 j := by
  refine cp_lpW (F := fX12_notes_58) 18 (fun i T => fI S T 151 (81 + 18 * z) (81 + 18 * z + i) (fun j => S.1 158 (j - (81 + 18 * z)))) (fI.rf S 151 _ _) (by decide) ?_ ?_
  · intro n i T hi hI
    have e : T.1 151 80 = nI z := by rw [hI.2.2.2 80 (by omega), hz]
    refine Or.inl ⟨cpI T 151 (81 + 18 * z + i) (T.1 158 i), hI.nx ?_ (by omega), ?_⟩
    · rw [hI.2.1 158 (by decide), show 81 + 18 * z + i - (81 + 18 * z) = i by omega]
    · rw [fX12_notes_58]
      simp (disch := omega) only [lit, lm1, nI_add, pk_mul, nm_eq, nm_eq', nm_lt, nm_lt', nm_le, nm_le', x_lt, x_le, x_eq, x_in, x_cl, x_div, x_sub, x_rem, x_min, x_max, x_and, x_or, x_xor, x_df, x_shl, bI_0, bI_1, bI_bo, lg_eq, toL_inj, ls_nI, decide_eq_false_iff_not, decide_eq_true_eq, Bool.true_eq_false, Bool.false_eq_true, bq, if_pos, if_neg, if_true, if_false, lq, Nat.reduceAdd, Nat.reduceMul, Nat.reduceSub, Nat.reduceDiv, Nat.reduceMod, e]
  · intro n T hI
    have e : T.1 151 80 = nI z := by rw [hI.2.2.2 80 (by omega), hz]
    refine ⟨cpI T 151 80 (nI (z + 1)), ?_, sI1, (hI.kp (by intro j a b; exact ⟨rfl, by omega, by omega⟩)).I (by exact ⟨rfl, by omega, by omega⟩), fun j hj => ?_, fun j h1 h2 => ?_⟩
    · rw [fX12_notes_58]
      simp (disch := omega) only [lit, lm1, nI_add, pk_mul, nm_eq, nm_eq', nm_lt, nm_lt', nm_le, nm_le', x_lt, x_le, x_eq, x_in, x_cl, x_div, x_sub, x_rem, x_min, x_max, x_and, x_or, x_xor, x_df, x_shl, bI_0, bI_1, bI_bo, lg_eq, toL_inj, ls_nI, decide_eq_false_iff_not, decide_eq_true_eq, Bool.true_eq_false, Bool.false_eq_true, bq, if_pos, if_neg, if_true, if_false, lq, Nat.reduceAdd, Nat.reduceMul, Nat.reduceSub, Nat.reduceDiv, Nat.reduceMod, e]
    · rw [sIn (Or.inr (by omega))]; exact (hI.2.2.1 _ (by omega) (by omega)).trans (congrArg (S.1 158) (by omega))
    · rw [sIn (Or.inr (by omega)), hI.2.2.2 _ (by omega)]
theorem e_notes14 {S : cpS} (hz : S.1 151 80 = nI 10) : ∃ T, fX12_notes_14 cpFu (nI 0) S = some ((), T) ∧ T.1 151 80 = nI 10 ∧ Kp (fun q j => q = 151 ∧ 80 ≤ j ∧ j < 261) S T ∧ (∀ j, j < 18 → T.1 151 (81 + 18 * 9 + j) = S.1 158 j) ∧ ∀ i, 1 ≤ i → i < 10 → ∀ j, j < 18 → T.1 151 (81 + 18 * (9 - i) + j) = S.1 151 (81 + 18 * (10 - i) + j) := by
  refine cp_lpW (F := fX12_notes_14) 162 (fun i T => fI S T 151 81 (81 + i) (fun j => S.1 151 (j + 18))) (fI.rf S 151 _ _) (by decide) ?_ ?_
  · intro n i T hi hI
    refine Or.inl ⟨cpI T 151 (81 + i) (T.1 151 (99 + i)), hI.nx ?_ (by omega), ?_⟩
    · rw [hI.2.2.2 _ (by omega), show 81 + i + 18 = 99 + i by omega]
    · rw [fX12_notes_14]
      simp (disch := omega) only [lit, lm1, nI_add, pk_mul, nm_eq, nm_eq', nm_lt, nm_lt', nm_le, nm_le', x_lt, x_le, x_eq, x_in, x_cl, x_div, x_sub, x_rem, x_min, x_max, x_and, x_or, x_xor, x_df, x_shl, bI_0, bI_1, bI_bo, lg_eq, toL_inj, ls_nI, decide_eq_false_iff_not, decide_eq_true_eq, Bool.true_eq_false, Bool.false_eq_true, bq, if_pos, if_neg, if_true, if_false, lq, Nat.reduceAdd, Nat.reduceMul, Nat.reduceSub, Nat.reduceDiv, Nat.reduceMod]
  · intro n T hI
    have e : T.1 151 80 = nI 10 := by rw [hI.2.2.2 80 (by omega), hz]
    obtain ⟨U, u1, u2, u3, u4, u5⟩ := e_notes58 (S := cpI T 151 80 (nI 9)) (z := 9) sI1 (by omega)
    refine ⟨U, ?_, u2, ?_, fun j hj => ?_, fun i i1 i2 j hj => ?_⟩
    · rw [fX12_notes_14]
      simp (disch := omega) only [lit, lm1, nI_add, pk_mul, nm_eq, nm_eq', nm_lt, nm_lt', nm_le, nm_le', x_lt, x_le, x_eq, x_in, x_cl, x_div, x_sub, x_rem, x_min, x_max, x_and, x_or, x_xor, x_df, x_shl, bI_0, bI_1, bI_bo, lg_eq, toL_inj, ls_nI, decide_eq_false_iff_not, decide_eq_true_eq, Bool.true_eq_false, Bool.false_eq_true, bq, if_pos, if_neg, if_true, if_false, lq, Nat.reduceAdd, Nat.reduceMul, Nat.reduceSub, Nat.reduceDiv, Nat.reduceMod, e]
      exact u1
    · exact ((hI.kp (by intro j a b; exact ⟨rfl, by omega, by omega⟩)).I (by exact ⟨rfl, by omega, by omega⟩)).tr u3
    · rw [u4 j hj, sIr (by decide), hI.2.1 158 (by decide)]
    · rw [u5 _ (by omega) (by omega), sIn (Or.inr (by omega))]; exact (hI.2.2.1 _ (by omega) (by omega)).trans (congrArg (S.1 151) (by omega))
theorem e_notes {S : cpS} {z : Nat} (hz : S.1 151 80 = nI z) (z9 : z ≤ 10) : ∃ T, fX12_notes S = some ((), T) ∧ T.1 151 80 = nI (min 10 (z + 1)) ∧ Kp (fun q j => q = 151 ∧ 80 ≤ j ∧ j < 261) S T ∧ (∀ j, j < 18 → T.1 151 (81 + 18 * (min 10 (z + 1) - 1) + j) = S.1 158 j) ∧ ∀ i, 1 ≤ i → i < min 10 (z + 1) → ∀ j, j < 18 → T.1 151 (81 + 18 * (min 10 (z + 1) - 1 - i) + j) = S.1 151 (81 + 18 * (z - i) + j) := by
  have e : fX12_notes S = if S.1 151 80 = nI 10 then fX12_notes_14 cpFu (nI 0) S else fX12_notes_58 cpFu (nI 0) S := by
    rw [fX12_notes, nI_0, lit]
  rw [e]
  by_cases h : z = 10
  · rw [h] at hz
    obtain ⟨U, u1, u2, u3, u4, u5⟩ := e_notes14 hz
    have e0 : min 10 (z + 1) = 10 := by omega
    refine ⟨U, by rw [if_pos hz]; exact u1, by rw [e0]; exact u2, u3, fun j hj => ?_, fun i i1 i2 j hj => ?_⟩
    · rw [e0]; exact u4 j hj
    · rw [e0, h]; exact u5 i i1 (by omega) j hj
  · obtain ⟨U, u1, u2, u3, u4, u5⟩ := e_notes58 hz (by omega)
    have e0 : min 10 (z + 1) = z + 1 := by omega
    refine ⟨U, by rw [if_neg (by rw [hz, nI_eq (by omega) (by omega)]; exact h)]; exact u1, by rw [e0]; exact u2, u3, fun j hj => ?_, fun i i1 i2 j hj => ?_⟩
    · rw [e0]; exact u4 j hj
    · rw [e0, show z + 1 - 1 - i = z - i by omega]; exact u5 _ (by omega) (by omega)
theorem rP.st {S T : cpS} {z x : Nat} (z9 : z ≤ 10) (x9 : x < 10) {D : cpD} {E : cpE} (hD : D.WF) (hE : E.WF D)
    (old : ∀ i, i < z → rN S (65 + 4 * ((x + 9 - i) % 10)) (81 + 18 * (z - 1 - i)) ∧ ∀ K P C : Nat, K ≤ 6 → P ≤ 8 → C ≤ 4 → S.1 1 0 = nI K → S.1 1 7 = nI P → S.1 1 11 = nI C → nW S (65 + 4 * ((x + 9 - i) % 10)) K P C)
    (h1 : T.1 113 2 = nI (min 10 (z + 1))) (h2 : T.1 151 80 = nI (min 10 (z + 1))) (h3 : T.1 113 1 = nI ((x + 1) % 10))
    (hr : ∀ q j, 65 ≤ q → q ≤ 104 → (q < 65 + 4 * x ∨ 65 + 4 * x + 3 < q) → T.1 q j = S.1 q j)
    (hc : cN E T (65 + 4 * x)) (hm : mN E T (81 + 18 * (min 10 (z + 1) - 1)))
    (hw : ∀ i, 1 ≤ i → i < min 10 (z + 1) → ∀ j, j < 18 → T.1 151 (81 + 18 * (min 10 (z + 1) - 1 - i) + j) = S.1 151 (81 + 18 * (z - i) + j))
    (cS : cW D S 1) (cT : cW D T 1) : rP T := by
  refine ⟨min 10 (z + 1), (x + 1) % 10, by omega, by omega, h1, h2, h3, fun i hi => ?_⟩
  by_cases i0 : i = 0
  · subst i0
    obtain ⟨a, b⟩ := cN.mk hE hD.c4 hc hm
    rw [show ((x + 1) % 10 + 9 - 0) % 10 = x by omega, show min 10 (z + 1) - 1 - 0 = min 10 (z + 1) - 1 by omega]
    refine ⟨b, fun K P C k1 k2 k3 k4 k5 k6 => ?_⟩
    have k6' := hD.k6
    have p8' := hD.p8
    have c4' := hD.c4
    rw [cT.K, nI_eq (by omega) (by omega)] at k4
    rw [cT.P, nI_eq (by omega) (by omega)] at k5
    rw [cT.C, nI_eq (by omega) (by omega)] at k6
    rw [← k4, ← k5, ← k6]; exact a
  · have e1 : ((x + 1) % 10 + 9 - i) % 10 = (x + 9 - (i - 1)) % 10 := by omega
    have e2 : (x + 9 - (i - 1)) % 10 ≠ x := by omega
    have e3 : (x + 9 - (i - 1)) % 10 < 10 := by omega
    rw [e1]
    obtain ⟨o1, o2⟩ := old (i - 1) (by omega)
    rw [show z - 1 - (i - 1) = z - i by omega] at o1
    generalize (x + 9 - (i - 1)) % 10 = q at e2 e3 o1 o2
    have er : ∀ j y, y ≤ 3 → T.1 (65 + 4 * q + y) j = S.1 (65 + 4 * q + y) j := fun j y hy => hr _ _ (by omega) (by omega) (by omega)
    have er0 : ∀ j, T.1 (65 + 4 * q) j = S.1 (65 + 4 * q) j := fun j => hr _ _ (by omega) (by omega) (by omega)
    have ew := hw i (by omega) hi
    refine ⟨?_, fun K P C k1 k2 k3 k4 k5 k6 => ?_⟩
    · obtain ⟨g1, g2, g3, g4, g5⟩ := o1
      refine ⟨fun c hc => ?_, fun c hc => ?_, fun c hc => ?_, ?_, ?_⟩
      · rw [er _ 1 (by omega), ew c (by omega)]; exact g1 c hc
      · rw [er _ 2 (by omega), Nat.add_assoc (81 + 18 * _), ew (4 + c) (by omega), ← Nat.add_assoc]; exact g2 c hc
      · rw [er _ 3 (by omega), Nat.add_assoc (81 + 18 * _), ew (8 + c) (by omega), ← Nat.add_assoc]; exact g3 c hc
      · rw [er0, ew 16 (by omega)]; exact g4
      · rw [er0, ew 17 (by omega)]; exact g5
    · rw [cT.K, ← cS.K] at k4
      rw [cT.P, ← cS.P] at k5
      rw [cT.C, ← cS.C] at k6
      obtain ⟨g1, g2, ⟨fd, g3, g4⟩, g5⟩ := o2 K P C k1 k2 k3 k4 k5 k6
      refine ⟨fun c hc => ?_, fun c hc hd => ?_, ⟨fd, fun p hp => ?_, g4⟩, ?_⟩
      · rw [er _ 1 (by omega)]; exact g1 c hc
      · rw [er _ 1 (by omega), er _ 2 (by omega)]; exact g2 c hc hd
      · rw [er _ 3 (by omega)]; exact g3 p hp
      · rw [er0]; exact g5
