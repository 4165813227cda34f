/-! undoing; counts -/
theorem fm_eq (a : Int32) (S : cpS) : fJ9_floorMod_7cf53 a (nI 10) S = some ((if 0 ≤ (a ^^^ nI 10) then cpRem a (nI 10) else if cpRem a (nI 10) = 0 then cpRem a (nI 10) else cpRem a (nI 10) + nI 10), S) := by
  unfold fJ9_floorMod_7cf53
  rw [if_neg (by decide), cpLt]
  by_cases h : 0 ≤ (a ^^^ nI 10)
  · rw [if_pos h, if_pos h]
  · rw [if_neg h, if_neg h]
    by_cases h2 : cpRem a (nI 10) = 0
    · rw [if_pos h2, if_pos h2]
    · rw [if_neg h2, if_neg h2]
theorem fm_at {x k : Nat} (hx : x < 10) (hk : k < 11) (S : cpS) : fJ9_floorMod_7cf53 (nI x - nI k) (nI 10) S = some (nI ((x + 10 - k) % 10), S) := by
  have : ∀ x, x < 10 → ∀ k, k < 11 → (if 0 ≤ ((nI x - nI k) ^^^ nI 10) then cpRem (nI x - nI k) (nI 10) else if cpRem (nI x - nI k) (nI 10) = 0 then cpRem (nI x - nI k) (nI 10) else cpRem (nI x - nI k) (nI 10) + nI 10) = nI ((x + 10 - k) % 10) := by decide +kernel
  rw [fm_eq, this x hx k hk]
/-- a Now and what the reference keeps, elsewhere the same -/
theorem rN.cg {S U : cpS} {n w : Nat} (h : rN S n w) (h1 : ∀ j y, y ≤ 3 → U.1 (n + y) j = S.1 (n + y) j) (h2 : ∀ j, j < 18 → U.1 151 (w + j) = S.1 151 (w + j)) : rN U n w := by
  obtain ⟨g1, g2, g3, g4, g5⟩ := h
  have h0 : ∀ j, U.1 n j = S.1 n j := fun j => h1 j 0 (by omega)
  refine ⟨fun c hc => ?_, fun c hc => ?_, fun c hc => ?_, ?_, ?_⟩
  · rw [h1 _ 1 (by omega), h2 c (by omega)]; exact g1 c hc
  · rw [h1 _ 2 (by omega), Nat.add_assoc, h2 (4 + c) (by omega), ← Nat.add_assoc]; exact g2 c hc
  · rw [h1 _ 3 (by omega), Nat.add_assoc, h2 (8 + c) (by omega), ← Nat.add_assoc]; exact g3 c hc
  · rw [h0, h2 16 (by omega)]; exact g4
  · rw [h0, h2 17 (by omega)]; exact g5
theorem nW.cg {S U : cpS} {n K P C : Nat} (h : nW S n K P C) (h1 : ∀ j y, y ≤ 3 → U.1 (n + y) j = S.1 (n + y) j) : nW U n K P C := by
  obtain ⟨g1, g2, ⟨fd, g3, g4⟩, g5⟩ := h
  have h0 : ∀ j, U.1 n j = S.1 n j := fun j => h1 j 0 (by omega)
  refine ⟨fun c hc => ?_, fun c hc hd => ?_, ⟨fd, fun p hp => ?_, g4⟩, ?_⟩
  · rw [h1 _ 1 (by omega)]; exact g1 c hc
  · rw [h1 _ 1 (by omega), h1 _ 2 (by omega)]; exact g2 c hc hd
  · rw [h1 _ 3 (by omega)]; exact g3 p hp
  · rw [h0]; exact g5
theorem m_win2 (a b : Nat) (lo hi : Int64) (hl : lo.toInt = a) (hh : hi.toInt = b) {k : Nat} (hk : k < 2 ^ 31) (S : cpS) : fX12_within (Int32.toInt64 (nI k)) lo hi S = some (bI (decide (a ≤ k ∧ k ≤ b)), S) := by
  rw [e_within]
  have e : (lo ≤ Int32.toInt64 (nI k) ∧ Int32.toInt64 (nI k) ≤ hi) ↔ (a ≤ k ∧ k ≤ b) := by rw [l_le, l_le, i2l_toInt, nI_toInt hk, hl, hh]; omega
  by_cases h : a ≤ k ∧ k ≤ b
  · rw [if_pos (e.mpr h), decide_eq_true h]; rfl
  · rw [if_neg (fun q => h (e.mp q)), decide_eq_false h]; rfl
theorem q_undo : cpQ_undo cpRl := by
  intro x1 S hR
  obtain ⟨D, E, z, x, hD, hE, c, m, n, w, z9, x9, hz, hz', hx, old⟩ := hR.un
  have hT : Kp (fun k j => k = 150 ∧ j = 0) S (cpI S 150 0 (nI 0)) := Kp.rf.I (by exact ⟨rfl, rfl⟩)
  have hS : ∀ k j, (k = 150 ∧ j = 0) → cpScr k j := fun k j h => by obtain ⟨rfl, rfl⟩ := h; exact scr_thr
  rcases in_or x1 11 with ⟨k, hk, rfl⟩ | h1
  · have ew := m_win2 1 10 1 10 (by decide) (by decide) (k := k) (by omega)
    have e80 : (cpI S 150 0 (nI 0)).1 151 80 = nI z := by rw [hT.i (by omega)]; exact hz'
    by_cases h1 : 1 ≤ k
    · by_cases h2 : k ≤ z
      · have hdef : (x + 9 - (k - 1)) % 10 = (x + 10 - k) % 10 := by omega
        have hy : (x + 10 - k) % 10 < 10 := Nat.mod_lt _ (by decide)
        obtain ⟨o1, o2⟩ := old (k - 1) (by omega)
        rw [hdef, show z - 1 - (k - 1) = z - k by omega] at o1
        rw [hdef] at o2
        have eo : ∀ i, (((x + 10 - k) % 10) + 9 - i) % 10 = (x + 9 - (i + k)) % 10 ∨ 10 ≤ i + k := fun i => by omega
        have hfm := fm_at x9 hk S
        generalize (x + 10 - k) % 10 = y at hdef hy o1 o2 eo hfm
        obtain ⟨E', hE', n', w'⟩ := nW.un (D := D) hD.c4 (o2 D.K D.P D.C hD.k6 hD.p8 hD.c4 c.K c.P c.C) o1
        obtain ⟨A, a1, a2⟩ := e_copyN 57 (65 + 4 * y) (cpI S 113 1 (nI y)) (by omega)
        have k0 : Kp (fun q _ => q = 113) S (cpI S 113 1 (nI y)) := Kp.rf.I (by exact rfl)
        have kA : Kp (fun q _ => 57 ≤ q ∧ q ≤ 60) (cpI S 113 1 (nI y)) A := a2.kp (fun q j a b => ⟨a, b⟩)
        have nA : cN E' A 57 := (n'.kp k0 (fun k j a b => by omega)).cp a2
        have hA2 : A.1 113 2 = nI z := by rw [kA.i (by omega), sIn (Or.inr (by decide)), hz]
        have hA1 : A.1 113 1 = nI y := by rw [kA.i (by omega), sI1]
        have hc : fX11_undo (nI k) S = some (nI (z - k), cpI A 113 2 (nI (z - k))) := by
          unfold fX11_undo fX6_goBack
          simp (disch := omega) only [lit, lm1, nI_add, pk_mul, nm_eq, nm_eq', nm_lt, nm_lt', nm_le, nm_le', x_lt, x_le, x_eq, x_in, x_cl, x_div, x_sub, x_rem, x_min, x_max, x_and, x_or, x_xor, x_df, x_shl, bI_0, bI_1, bI_bo, lg_eq, toL_inj, ls_nI, decide_eq_false_iff_not, decide_eq_true_eq, Bool.true_eq_false, Bool.false_eq_true, bq, if_pos, if_neg, if_true, if_false, lq, Nat.reduceAdd, Nat.reduceMul, Nat.reduceSub, Nat.reduceDiv, Nat.reduceMod, hx, hz, hfm, sI1, a1, hA2]
        have kT : Kp (fun q _ => q = 113 ∨ (57 ≤ q ∧ q ≤ 60)) S (cpI A 113 2 (nI (z - k))) := ((k0.le (fun _ _ h => Or.inl h)).tr (kA.le (fun _ _ h => Or.inr h))).I (by exact Or.inl rfl)
        have kB : Kp (fun q j => (q = 113 ∨ (57 ≤ q ∧ q ≤ 60)) ∨ (q = 150 ∧ j = 0) ∨ (q = 151 ∧ j = 80)) S (cpI (cpI (cpI A 113 2 (nI (z - k))) 150 0 (nI 0)) 151 80 (nI (z - k))) := ((kT.le (fun _ _ h => Or.inl h)).I (by exact Or.inr (Or.inl ⟨rfl, rfl⟩))).I (by exact Or.inr (Or.inr ⟨rfl, rfl⟩))
        have e80' : (cpI (cpI A 113 2 (nI (z - k))) 150 0 (nI 0)).1 151 80 = nI z := by rw [sIr (by decide), kT.i (by omega)]; exact hz'
        have nB : cN E' (cpI (cpI (cpI A 113 2 (nI (z - k))) 150 0 (nI 0)) 151 80 (nI (z - k))) 57 := nA.kp (f := fun q _ => q = 113 ∨ q = 150 ∨ q = 151) (((Kp.rf.I (by exact Or.inl rfl)).I (by exact Or.inr (Or.inl rfl))).I (by exact Or.inr (Or.inr rfl))) (fun k j a b => by omega)
        have hb80 : (cpI (cpI (cpI A 113 2 (nI (z - k))) 150 0 (nI 0)) 151 80 (nI (z - k))).1 151 80 = nI (z - k) := sI1
        have hm0 : fX12_undo (nI k) (cpI A 113 2 (nI (z - k))) = fX12_undo_44 cpFu (nI 0) (cpI (cpI (cpI A 113 2 (nI (z - k))) 150 0 (nI 0)) 151 80 (nI (z - k))) := by
          unfold fX12_undo
          simp (disch := omega) only [lit, lm1, nI_add, pk_mul, nm_eq, nm_eq', nm_lt, nm_lt', nm_le, nm_le', x_lt, x_le, x_eq, x_in, x_cl, x_div, x_sub, x_rem, x_min, x_max, x_and, x_or, x_xor, x_df, x_shl, bI_0, bI_1, bI_bo, lg_eq, toL_inj, ls_nI, decide_eq_false_iff_not, decide_eq_true_eq, Bool.true_eq_false, Bool.false_eq_true, bq, if_pos, if_neg, if_true, if_false, lq, Nat.reduceAdd, Nat.reduceMul, Nat.reduceSub, Nat.reduceDiv, Nat.reduceMod, ew, e80']
        have hb113 : (cpI (cpI (cpI A 113 2 (nI (z - k))) 150 0 (nI 0)) 151 80 (nI (z - k))).1 113 2 = nI (z - k) := by rw [sIr (by decide), sIr (by decide), sI1]
        have hb113' : (cpI (cpI (cpI A 113 2 (nI (z - k))) 150 0 (nI 0)) 151 80 (nI (z - k))).1 113 1 = nI y := by rw [sIr (by decide), sIr (by decide), sIn (Or.inr (by decide)), hA1]
        generalize cpI (cpI (cpI A 113 2 (nI (z - k))) 150 0 (nI 0)) 151 80 (nI (z - k)) = B at kB nB hb80 hm0 hb113 hb113'
        obtain ⟨U, u1, u2⟩ : ∃ U, fX12_undo_44 cpFu (nI 0) B = some (nI (z - k), U) ∧ fI B U 151 62 80 (fun j => B.1 151 (81 + 18 * (z - k) + (j - 62))) := by
          refine cp_lpW (F := fX12_undo_44) 18 (fun i T => fI B T 151 62 (62 + i) (fun j => B.1 151 (81 + 18 * (z - k) + (j - 62)))) (fI.rf B 151 62 _) (by decide) ?_ ?_
          · intro n i T hi hI
            have e8 : T.1 151 80 = nI (z - k) := by rw [hI.2.2.2 80 (by omega), hb80]
            refine Or.inl ⟨cpI T 151 (62 + i) (T.1 151 (81 + 18 * (z - k) + i)), hI.nx ?_ (by omega), ?_⟩
            · rw [hI.2.2.2 _ (by omega), show 62 + i - 62 = i by omega]
            · rw [fX12_undo_44]
              simp (disch := omega) only [lit, lm1, nI_add, pk_mul, nm_eq, nm_eq', nm_lt, nm_lt', nm_le, nm_le', x_lt, x_le, x_eq, x_in, x_cl, x_div, x_sub, x_rem, x_min, x_max, x_and, x_or, x_xor, x_df, x_shl, bI_0, bI_1, bI_bo, lg_eq, toL_inj, ls_nI, decide_eq_false_iff_not, decide_eq_true_eq, Bool.true_eq_false, Bool.false_eq_true, bq, if_pos, if_neg, if_true, if_false, lq, Nat.reduceAdd, Nat.reduceMul, Nat.reduceSub, Nat.reduceDiv, Nat.reduceMod, e8]
          · intro n T hI
            have e8 : T.1 151 80 = nI (z - k) := by rw [hI.2.2.2 80 (by omega), hb80]
            refine ⟨T, ?_, hI⟩
            rw [fX12_undo_44]
            simp (disch := omega) only [lit, lm1, nI_add, pk_mul, nm_eq, nm_eq', nm_lt, nm_lt', nm_le, nm_le', x_lt, x_le, x_eq, x_in, x_cl, x_div, x_sub, x_rem, x_min, x_max, x_and, x_or, x_xor, x_df, x_shl, bI_0, bI_1, bI_bo, lg_eq, toL_inj, ls_nI, decide_eq_false_iff_not, decide_eq_true_eq, Bool.true_eq_false, Bool.false_eq_true, bq, if_pos, if_neg, if_true, if_false, lq, Nat.reduceAdd, Nat.reduceMul, Nat.reduceSub, Nat.reduceDiv, Nat.reduceMod, e8]
        have kU : Kp (fun q j => q = 151 ∧ 62 ≤ j ∧ j < 80) B U := u2.kp (fun j a b => ⟨rfl, a, b⟩)
        have kD : Kp (fun q j => (q = 113 ∨ (57 ≤ q ∧ q ≤ 60)) ∨ (q = 150 ∧ j = 0) ∨ (q = 151 ∧ 62 ≤ j ∧ j ≤ 80)) S U := (kB.le (fun _ _ h => by rcases h with h | h | h; exact Or.inl h; exact Or.inr (Or.inl h); exact Or.inr (Or.inr (by omega)))).tr (kU.le (fun _ _ h => Or.inr (Or.inr (by omega))))
        refine ⟨_, _, U, hc, hm0.trans u1, hR.deed (kD.le ?_) hD hE' c m (nB.kp kU (fun k j a b => by omega)) (w'.mv (fun j hj => ?_)) ?_⟩
        · intro q j h
          rcases h with (h | h) | h | h
          · exact Or.inr (Or.inr (Or.inl h))
          · exact Or.inl h
          · obtain ⟨rfl, rfl⟩ := h; exact Or.inr (Or.inr (Or.inr (Or.inr scr_thr)))
          · exact Or.inr (Or.inr (Or.inr (Or.inl (by omega))))
        · rw [u2.2.2.1 _ (by omega) (by omega)]
          show B.1 151 (81 + 18 * (z - k) + (62 + j - 62)) = _
          rw [show 62 + j - 62 = j by omega, kB.i (by omega)]
        · refine ⟨z - k, y, by omega, hy, by rw [kU.i (by omega)]; exact hb113, by rw [kU.i (by omega)]; exact hb80, by rw [kU.i (by omega)]; exact hb113', fun i hi => ?_⟩
          obtain ⟨p1, p2⟩ := old (i + k) (by omega)
          have ei : (x + 9 - (i + k)) % 10 = (y + 9 - i) % 10 := by rcases eo i with e | e <;> omega
          rw [ei, show z - 1 - (i + k) = z - k - 1 - i by omega] at p1
          rw [ei] at p2
          have el : (y + 9 - i) % 10 < 10 := Nat.mod_lt _ (by decide)
          generalize (y + 9 - i) % 10 = s at p1 p2 el
          have er : ∀ j t, t ≤ 3 → U.1 (65 + 4 * s + t) j = S.1 (65 + 4 * s + t) j := fun j t ht => kD.i (by omega)
          refine ⟨p1.cg er (fun j hj => kD.i (by omega)), fun K P C k1 k2 k3 k4 k5 k6 => ?_⟩
          rw [kD.i (by omega)] at k4 k5 k6
          exact (p2 K P C k1 k2 k3 k4 k5 k6).cg er
      · refine ⟨-3, S, cpI S 150 0 (nI 0), ?_, ?_, hR.kp hT hS⟩
        · unfold fX11_undo
          simp (disch := omega) only [lit, lm1, nI_add, pk_mul, nm_eq, nm_eq', nm_lt, nm_lt', nm_le, nm_le', x_lt, x_le, x_eq, x_in, x_cl, x_div, x_sub, x_rem, x_min, x_max, x_and, x_or, x_xor, x_df, x_shl, bI_0, bI_1, bI_bo, lg_eq, toL_inj, ls_nI, decide_eq_false_iff_not, decide_eq_true_eq, Bool.true_eq_false, Bool.false_eq_true, bq, if_pos, if_neg, if_true, if_false, lq, Nat.reduceAdd, Nat.reduceMul, Nat.reduceSub, Nat.reduceDiv, Nat.reduceMod, hz]
        · unfold fX12_undo
          simp (disch := omega) only [lit, lm1, nI_add, pk_mul, nm_eq, nm_eq', nm_lt, nm_lt', nm_le, nm_le', x_lt, x_le, x_eq, x_in, x_cl, x_div, x_sub, x_rem, x_min, x_max, x_and, x_or, x_xor, x_df, x_shl, bI_0, bI_1, bI_bo, lg_eq, toL_inj, ls_nI, decide_eq_false_iff_not, decide_eq_true_eq, Bool.true_eq_false, Bool.false_eq_true, bq, if_pos, if_neg, if_true, if_false, lq, Nat.reduceAdd, Nat.reduceMul, Nat.reduceSub, Nat.reduceDiv, Nat.reduceMod, ew, e80]
    · refine ⟨-3, S, cpI S 150 0 (nI 0), ?_, ?_, hR.kp hT hS⟩
      · unfold fX11_undo
        simp (disch := omega) only [lit, lm1, nI_add, pk_mul, nm_eq, nm_eq', nm_lt, nm_lt', nm_le, nm_le', x_lt, x_le, x_eq, x_in, x_cl, x_div, x_sub, x_rem, x_min, x_max, x_and, x_or, x_xor, x_df, x_shl, bI_0, bI_1, bI_bo, lg_eq, toL_inj, ls_nI, decide_eq_false_iff_not, decide_eq_true_eq, Bool.true_eq_false, Bool.false_eq_true, bq, if_pos, if_neg, if_true, if_false, lq, Nat.reduceAdd, Nat.reduceMul, Nat.reduceSub, Nat.reduceDiv, Nat.reduceMod]
      · unfold fX12_undo
        simp (disch := omega) only [lit, lm1, nI_add, pk_mul, nm_eq, nm_eq', nm_lt, nm_lt', nm_le, nm_le', x_lt, x_le, x_eq, x_in, x_cl, x_div, x_sub, x_rem, x_min, x_max, x_and, x_or, x_xor, x_df, x_shl, bI_0, bI_1, bI_bo, lg_eq, toL_inj, ls_nI, decide_eq_false_iff_not, decide_eq_true_eq, Bool.true_eq_false, Bool.false_eq_true, bq, if_pos, if_neg, if_true, if_false, lq, Nat.reduceAdd, Nat.reduceMul, Nat.reduceSub, Nat.reduceDiv, Nat.reduceMod, ew]
  · have ew : fX12_within (Int32.toInt64 x1) 1 10 (cpI S 150 0 (nI 0)) = some (nI 0, cpI S 150 0 (nI 0)) := by
      rw [e_within, if_neg]; rfl
      intro k
      have a := (l_le _ _).mp k.1
      have b := (l_le _ _).mp k.2
      rw [i2l_toInt, show (1 : Int64).toInt = 1 from by decide] at a
      rw [i2l_toInt, show (10 : Int64).toInt = 10 from by decide] at b
      have := of_decide_eq_false h1
      omega
    refine ⟨-3, S, cpI S 150 0 (nI 0), ?_, ?_, hR.kp hT hS⟩
    · unfold fX11_undo
      rcases out_or (by decide) h1 with h | ⟨h, h', h''⟩
      · rw [if_pos (show x1 < (1 : Int32) by rw [i_lt] at h ⊢; have e0 : (0 : Int32).toInt = 0 := by decide
                                             have e1 : (1 : Int32).toInt = 1 := by decide
                                             omega)]
      · have h4 : ¬ x1 ≤ nI z := fun q => by
          rw [i_le, nI_toInt (by omega)] at q h''
          omega
        simp (disch := omega) only [lit, lm1, nI_add, pk_mul, nm_eq, nm_eq', nm_lt, nm_lt', nm_le, nm_le', x_lt, x_le, x_eq, x_in, x_cl, x_div, x_sub, x_rem, x_min, x_max, x_and, x_or, x_xor, x_df, x_shl, bI_0, bI_1, bI_bo, lg_eq, toL_inj, ls_nI, decide_eq_false_iff_not, decide_eq_true_eq, Bool.true_eq_false, Bool.false_eq_true, bq, if_pos, if_neg, if_true, if_false, lq, Nat.reduceAdd, Nat.reduceMul, Nat.reduceSub, Nat.reduceDiv, Nat.reduceMod, hz, h4]
        by_cases h5 : x1 < nI 1
        · rw [if_pos h5]
        · rw [if_neg h5]
    · unfold fX12_undo
      simp (disch := omega) only [lit, lm1, nI_add, pk_mul, nm_eq, nm_eq', nm_lt, nm_lt', nm_le, nm_le', x_lt, x_le, x_eq, x_in, x_cl, x_div, x_sub, x_rem, x_min, x_max, x_and, x_or, x_xor, x_df, x_shl, bI_0, bI_1, bI_bo, lg_eq, toL_inj, ls_nI, decide_eq_false_iff_not, decide_eq_true_eq, Bool.true_eq_false, Bool.false_eq_true, bq, if_pos, if_neg, if_true, if_false, lq, Nat.reduceAdd, Nat.reduceMul, Nat.reduceSub, Nat.reduceDiv, Nat.reduceMod, ew]
