/-! judged, performed, years -/
/-- nothing but scratch changed in the end -/
def kEnd (q j : Nat) : Prop := (57 ≤ q ∧ q ≤ 60) ∨ (q = 151 ∧ 62 ≤ j ∧ j < 80) ∨ cpScr q j
theorem cpRl.same {S U : cpS} (hR : cpRl S) {D : cpD} {E : cpE} (hD : D.WF) (hE : E.WF D) (c : cW D S 1) (m : mW D S 0) (k : Kp kEnd S U) (n : cN E U 57) (w : mN E U 62) : cpRl U := by
  refine hR.deed (k.le ?_) hD hE c m n w (hR.2.2.2.2.1.kp k ?_ ?_)
  · intro q j h
    rcases h with h | h | h
    · exact Or.inl h
    · exact Or.inr (Or.inr (Or.inr (Or.inl (by omega))))
    · exact Or.inr (Or.inr (Or.inr (Or.inr h)))
  · intro q j h g
    have hc : cpCore q = true := by
      rcases h with rfl | rfl | h
      · decide
      · decide
      · exact core_ring h.1 h.2
    rcases g with g | g | g
    · omega
    · omega
    · have := g.1; rw [hc] at this; cases this
  · intro j h1 h2 g
    rcases g with g | g | g
    · omega
    · omega
    · exact absurd g.1 (by decide)
theorem kDc_E {q j : Nat} (h : kDc q j) : kEnd q j := by
  rcases h with h | h
  · exact Or.inl h
  · exact Or.inr (Or.inr (kF_C h).1)
theorem kDt_E {q j : Nat} (h : kDt q j) : kEnd q j := by
  rcases h with (h | h) | ⟨rfl, rfl⟩
  · exact Or.inr (Or.inl h)
  · exact Or.inr (Or.inr (kG_M h).1)
  · exact Or.inr (Or.inr ⟨by decide, by decide, by decide⟩)
def kEc (q j : Nat) : Prop := kEnd q j ∧ q < 150
theorem kDc_Ec {q j : Nat} (h : kDc q j) : kEc q j := ⟨kDc_E h, by unfold kDc kF at h; omega⟩
/-- places as digits -/
def dg (E : cpE) : Nat → Nat → Nat
  | 0, x => x
  | c + 1, x => dg E c (10 * x + E.at' c)
theorem e_isAgain (S : cpS) : ∃ T, fX12_isAgain S = some ((), T) ∧ fI S T 151 62 80 (fun j => S.1 158 (j - 62)) := by
  unfold fX12_isAgain
  simp only [lit]
  refine cp_lpW (F := fX12_isAgain_2) 18 (fun i T => fI S T 151 62 (62 + i) (fun j => S.1 158 (j - 62))) (fI.rf S 151 62 _) (by decide) ?_ ?_
  · intro n i T hi hI
    refine Or.inl ⟨cpI T 151 (62 + i) (T.1 158 i), hI.nx ?_ (by omega), ?_⟩
    · rw [hI.2.1 158 (by decide), show 62 + i - 62 = i by omega]
    · rw [fX12_isAgain_2]
      simp (disch := omega) only [lit, lm1, nI_add, pk_mul, nm_eq, nm_eq', nm_lt, nm_lt', nm_le, nm_le', x_lt, x_le, x_eq, x_in, x_cl, x_div, x_sub, x_rem, x_min, x_max, x_and, x_or, x_xor, x_df, x_shl, bI_0, bI_1, bI_bo, lg_eq, toL_inj, ls_nI, decide_eq_false_iff_not, decide_eq_true_eq, Bool.true_eq_false, Bool.false_eq_true, bq, if_pos, if_neg, if_true, if_false, lq, Nat.reduceAdd, Nat.reduceMul, Nat.reduceSub, Nat.reduceDiv, Nat.reduceMod]
  · intro n T hI
    refine ⟨T, ?_, hI⟩
    rw [fX12_isAgain_2]
    simp (disch := omega) only [lit, lm1, nI_add, pk_mul, nm_eq, nm_eq', nm_lt, nm_lt', nm_le, nm_le', x_lt, x_le, x_eq, x_in, x_cl, x_div, x_sub, x_rem, x_min, x_max, x_and, x_or, x_xor, x_df, x_shl, bI_0, bI_1, bI_bo, lg_eq, toL_inj, ls_nI, decide_eq_false_iff_not, decide_eq_true_eq, Bool.true_eq_false, Bool.false_eq_true, bq, if_pos, if_neg, if_true, if_false, lq, Nat.reduceAdd, Nat.reduceMul, Nat.reduceSub, Nat.reduceDiv, Nat.reduceMod]
section JU
variable {D : cpD} {E : cpE} {S : cpS}
theorem dg_lt (hD : D.WF) (hE : E.WF D) : ∀ c, c ≤ 4 → ∀ x b, x < 10 ^ b → dg E c x < 10 ^ (b + c) := by
  have k6 := hD.k6
  intro c
  induction c with
  | zero => intro _ x b h; exact h
  | succ c ih =>
    intro hc x b h
    have ha : E.at' c < 6 := by
      by_cases e : c < D.C
      · have := hE.at' c e; omega
      · rw [(hE.no c (by omega) (by omega)).1]; decide
    have := ih (by omega) (10 * x + E.at' c) (b + 1) (by rw [Nat.pow_succ]; omega)
    rw [show b + (c + 1) = b + 1 + c by omega]; exact this
theorem dg_C (hD : D.WF) (hE : E.WF D) : dg E 4 0 = dg E D.C 0 := by
  have : ∀ d, D.C + d ≤ 4 → dg E (D.C + d) 0 = dg E D.C 0 := by
    intro d
    induction d with
    | zero => intro _; rfl
    | succ d ih =>
      intro h
      show dg E (D.C + d) (10 * 0 + E.at' (D.C + d)) = _
      rw [(hE.no (D.C + d) (by omega) (by omega)).1]
      exact ih (by omega)
  have e := this (4 - D.C) (by have := hD.c4; omega)
  rwa [show D.C + (4 - D.C) = 4 by have := hD.c4; omega] at e
theorem c_digits (n : cN E S 57) : fX5_placesAsDigits 57 S = some (nI (dg E 4 0), S) := by
  have st : ∀ f c x, c < 4 → fX5_placesAsDigits_4 57 (f + 1) (nI x) (nI c) S = fX5_placesAsDigits_4 57 f (nI (10 * x + E.at' c)) (nI c + (-1)) S := by
    intro f c x hc
    have e : S.1 58 c = nI (E.at' c) := n.at' c hc
    rw [fX5_placesAsDigits_4]
    simp (disch := omega) only [lit, lm1, nI_add, pk_mul, nm_eq, nm_eq', nm_lt, nm_lt', nm_le, nm_le', x_lt, x_le, x_eq, x_in, x_cl, x_div, x_sub, x_rem, x_min, x_max, x_and, x_or, x_xor, x_df, x_shl, bI_0, bI_1, bI_bo, lg_eq, toL_inj, ls_nI, decide_eq_false_iff_not, decide_eq_true_eq, Bool.true_eq_false, Bool.false_eq_true, bq, if_pos, if_neg, if_true, if_false, lq, Nat.reduceAdd, Nat.reduceMul, Nat.reduceSub, Nat.reduceDiv, Nat.reduceMod, e]
  show fX5_placesAsDigits_4 57 (4995 + 1 + 1 + 1 + 1 + 1) (nI 0) (nI 3) S = _
  rw [st _ 3 _ (by decide), pk_m1, st _ 2 _ (by decide), pk_m1, st _ 1 _ (by decide), pk_m1, st _ 0 _ (by decide), show nI 0 + (-1) = nM from by decide, fX5_placesAsDigits_4]
  simp (disch := omega) only [lit, lm1, nI_add, pk_mul, nm_eq, nm_eq', nm_lt, nm_lt', nm_le, nm_le', x_lt, x_le, x_eq, x_in, x_cl, x_div, x_sub, x_rem, x_min, x_max, x_and, x_or, x_xor, x_df, x_shl, bI_0, bI_1, bI_bo, lg_eq, toL_inj, ls_nI, decide_eq_false_iff_not, decide_eq_true_eq, Bool.true_eq_false, Bool.false_eq_true, bq, if_pos, if_neg, if_true, if_false, lq, Nat.reduceAdd, Nat.reduceMul, Nat.reduceSub, Nat.reduceDiv, Nat.reduceMod]
  rfl
theorem m_digits (hD : D.WF) (m : mA D E S) (x2 x4 x5 : Int32) : ∀ c f x, c ≤ D.C → c < f → fX12_judge_62 x2 x4 x5 f (nI x) (nI c - nI 1) S = fX12_judge_62 x2 x4 x5 (f - c) (nI (dg E c x)) nM S := by
  have c4 := hD.c4
  intro c
  induction c with
  | zero => intro f x _ _; rfl
  | succ c ih =>
    intro f x hc hf
    obtain ⟨f, rfl⟩ : ∃ g, f = g + 1 := ⟨f - 1, by omega⟩
    have e : nI c + (-1) = nI c - nI 1 := by
      have z : (-1 : Int32) = 0 - nI 1 := by decide
      rw [z, Int32.sub_eq_add_neg, Int32.zero_add, ← Int32.sub_eq_add_neg]
    rw [show nI (c + 1) - nI 1 = nI c from nI_pred c, fX12_judge_62, e]
    simp (disch := omega) only [lit, lm1, nI_add, pk_mul, nm_eq, nm_eq', nm_lt, nm_lt', nm_le, nm_le', x_lt, x_le, x_eq, x_in, x_cl, x_div, x_sub, x_rem, x_min, x_max, x_and, x_or, x_xor, x_df, x_shl, bI_0, bI_1, bI_bo, lg_eq, toL_inj, ls_nI, decide_eq_false_iff_not, decide_eq_true_eq, Bool.true_eq_false, Bool.false_eq_true, bq, if_pos, if_neg, if_true, if_false, lq, Nat.reduceAdd, Nat.reduceMul, Nat.reduceSub, Nat.reduceDiv, Nat.reduceMod, m.at']
    rw [ih f _ (by omega) (by omega), show f + 1 - (c + 1) = f - c by omega]
    rfl
end JU
def jdV (D : cpD) (n : Nat) (r : Nat × Nat × cpE) (k : Nat) : Int32 := if k = 0 then (if r.2.1 = 0 then nM else nI r.1) else if k = 1 then nI r.2.1 else if k = 2 then nI (dg r.2.2 4 0) else rimM r.2.2 D.C
theorem q_judge : cpQ_judge cpRl := by
  intro x1 x2 S hR
  have hq := hR.kp (kM_thr S (nI 0)) (fun k j h => h.1)
  have w1 := m_win 4 3 (by decide)
  rcases in_or x1 4 with ⟨t, ht, rfl⟩ | h1
  · rcases in_or x2 4 with ⟨k, hk, rfl⟩ | h2
    · obtain ⟨D, E, z, x, hD, hE, c, m, n, w, z9, x9, hz, hz', hx, old⟩ := hR.un
      obtain ⟨o, o1, o2, o3⟩ := hR.tray ht
      have hc : fX11_hasTray (nI t) S = some (nI 1, S) := by rw [e_hasTray, if_pos (cpLs_of ht (by decide))]; rfl
      cases o with
      | none =>
        refine ⟨-6, S, _, ?_, ?_, hq⟩
        · unfold fX11_judge
          simp (disch := omega) only [lit, lm1, nI_add, pk_mul, nm_eq, nm_eq', nm_lt, nm_lt', nm_le, nm_le', x_lt, x_le, x_eq, x_in, x_cl, x_div, x_sub, x_rem, x_min, x_max, x_and, x_or, x_xor, x_df, x_shl, bI_0, bI_1, bI_bo, lg_eq, toL_inj, ls_nI, decide_eq_false_iff_not, decide_eq_true_eq, Bool.true_eq_false, Bool.false_eq_true, bq, if_pos, if_neg, if_true, if_false, lq, Nat.reduceAdd, Nat.reduceMul, Nat.reduceSub, Nat.reduceDiv, Nat.reduceMod, hc, o1.miss, Option.isNone_none]
        · unfold fX12_judge
          simp (disch := omega) only [lit, lm1, nI_add, pk_mul, nm_eq, nm_eq', nm_lt, nm_lt', nm_le, nm_le', x_lt, x_le, x_eq, x_in, x_cl, x_div, x_sub, x_rem, x_min, x_max, x_and, x_or, x_xor, x_df, x_shl, bI_0, bI_1, bI_bo, lg_eq, toL_inj, ls_nI, decide_eq_false_iff_not, decide_eq_true_eq, Bool.true_eq_false, Bool.false_eq_true, bq, if_pos, if_neg, if_true, if_false, lq, Nat.reduceAdd, Nat.reduceMul, Nat.reduceSub, Nat.reduceDiv, Nat.reduceMod, w1, (o2.thr (nI 0)).no ht, Option.isNone_none]
          rfl
      | some y =>
        obtain ⟨N, v⟩ := y
        have hN := o3 N v rfl
        obtain ⟨r1, r2, r3, r4, r5, r6, r7⟩ := rn_sp (v := v) hD N 0 E hE
        have hri : (rn D v N 0 E).1 ≤ 40 := by omega
        -- class
        obtain ⟨A, a1, a2⟩ := e_copyN 61 57 S (by omega)
        have kA : Kp (fun q _ => 61 ≤ q ∧ q ≤ 64) S A := a2.kp (fun q j a b => ⟨a, b⟩)
        have cA' : cA D E A := ⟨c.kp kA (fun k j a b => by omega), n.kp kA (fun k j a b => by omega)⟩
        have yA := o1.kp ht kA (fun k j a b => by omega)
        obtain ⟨B, b1, b2, b3⟩ := c_doAll hD ht hN hE cA' yA
        have cB : cA D (rn D v N 0 E).2.2 B := ⟨cA'.1.kp b2 (fun k j p1 p2 q => by unfold kDc kF at q; omega), b3⟩
        have yB := yA.kp ht b2 (fun k j p1 p2 q => kDc_co q ⟨p1, p2⟩)
        have n61 : cN E B 61 := (n.cp a2).kp b2 (fun k j p1 p2 q => by unfold kDc kF at q; omega)
        have hcl : ∃ T, fX11_judge (nI t) (nI k) S = some (jdV D N (rn D v N 0 E) k, T) ∧ Kp kEc S T ∧ cN E T 57 := by
          have kSB : Kp kEc S B := (kA.le (fun q j h => ⟨Or.inr (Or.inr (scr61 h.1 h.2 j)), by omega⟩)).tr (b2.le (fun _ _ => kDc_Ec))
          have base : fX11_judge (nI t) (nI k) S = fX11_judge_75 (nI t) (nI k) (nI (rn D v N 0 E).1) (if (rn D v N 0 E).2.1 = 0 then nI 1 else nI 0) B := by
            unfold fX11_judge
            by_cases e : (rn D v N 0 E).1 = N
            · have e' : (rn D v N 0 E).2.1 = 0 := r4.mpr (by omega)
              simp (disch := omega) only [lit, lm1, nI_add, pk_mul, nm_eq, nm_eq', nm_lt, nm_lt', nm_le, nm_le', x_lt, x_le, x_eq, x_in, x_cl, x_div, x_sub, x_rem, x_min, x_max, x_and, x_or, x_xor, x_df, x_shl, bI_0, bI_1, bI_bo, lg_eq, toL_inj, ls_nI, decide_eq_false_iff_not, decide_eq_true_eq, Bool.true_eq_false, Bool.false_eq_true, bq, if_pos, if_neg, if_true, if_false, lq, Nat.reduceAdd, Nat.reduceMul, Nat.reduceSub, Nat.reduceDiv, Nat.reduceMod, hc, o1.miss, Option.isNone_some, a1, b1, yB.2.1, e, e']
            · have e' : (rn D v N 0 E).2.1 ≠ 0 := fun q => e (by have := r4.mp q; omega)
              simp (disch := omega) only [lit, lm1, nI_add, pk_mul, nm_eq, nm_eq', nm_lt, nm_lt', nm_le, nm_le', x_lt, x_le, x_eq, x_in, x_cl, x_div, x_sub, x_rem, x_min, x_max, x_and, x_or, x_xor, x_df, x_shl, bI_0, bI_1, bI_bo, lg_eq, toL_inj, ls_nI, decide_eq_false_iff_not, decide_eq_true_eq, Bool.true_eq_false, Bool.false_eq_true, bq, if_pos, if_neg, if_true, if_false, lq, Nat.reduceAdd, Nat.reduceMul, Nat.reduceSub, Nat.reduceDiv, Nat.reduceMod, hc, o1.miss, Option.isNone_some, a1, b1, yB.2.1, e, e']
          have fin : ∀ (U : cpS), Kp kDc B U → ∃ T, fX5_copyFrom 57 61 U = some ((), T) ∧ Kp kEc S T ∧ cN E T 57 := fun U hU => by
            obtain ⟨T, t1, t2⟩ := e_copyN 57 61 U (by omega)
            have nU : cN E U 61 := n61.kp hU (fun k j p1 p2 q => by unfold kDc kF at q; omega)
            exact ⟨T, t1, (kSB.tr (hU.le (fun _ _ => kDc_Ec))).tr (t2.kp (fun q j a b => ⟨Or.inl ⟨a, b⟩, by omega⟩)), nU.cp t2⟩
          rw [base]
          unfold fX11_judge_75 fX11_judge_91 fX11_judge_128 jdV
          rcases (show k = 0 ∨ k = 1 ∨ k = 2 ∨ k = 3 by omega) with rfl | rfl | rfl | rfl
          · obtain ⟨T, t1, t2, t3⟩ := fin B Kp.rf
            refine ⟨T, ?_, t2, t3⟩
            by_cases e : (rn D v N 0 E).2.1 = 0
            · simp (disch := omega) only [lit, lm1, nI_add, pk_mul, nm_eq, nm_eq', nm_lt, nm_lt', nm_le, nm_le', x_lt, x_le, x_eq, x_in, x_cl, x_div, x_sub, x_rem, x_min, x_max, x_and, x_or, x_xor, x_df, x_shl, bI_0, bI_1, bI_bo, lg_eq, toL_inj, ls_nI, decide_eq_false_iff_not, decide_eq_true_eq, Bool.true_eq_false, Bool.false_eq_true, bq, if_pos, if_neg, if_true, if_false, lq, Nat.reduceAdd, Nat.reduceMul, Nat.reduceSub, Nat.reduceDiv, Nat.reduceMod, e, t1]
            · simp (disch := omega) only [lit, lm1, nI_add, pk_mul, nm_eq, nm_eq', nm_lt, nm_lt', nm_le, nm_le', x_lt, x_le, x_eq, x_in, x_cl, x_div, x_sub, x_rem, x_min, x_max, x_and, x_or, x_xor, x_df, x_shl, bI_0, bI_1, bI_bo, lg_eq, toL_inj, ls_nI, decide_eq_false_iff_not, decide_eq_true_eq, Bool.true_eq_false, Bool.false_eq_true, bq, if_pos, if_neg, if_true, if_false, lq, Nat.reduceAdd, Nat.reduceMul, Nat.reduceSub, Nat.reduceDiv, Nat.reduceMod, e, t1]
          · by_cases e : (rn D v N 0 E).2.1 = 0
            · obtain ⟨T, t1, t2, t3⟩ := fin B Kp.rf
              refine ⟨T, ?_, t2, t3⟩
              simp (disch := omega) only [lit, lm1, nI_add, pk_mul, nm_eq, nm_eq', nm_lt, nm_lt', nm_le, nm_le', x_lt, x_le, x_eq, x_in, x_cl, x_div, x_sub, x_rem, x_min, x_max, x_and, x_or, x_xor, x_df, x_shl, bI_0, bI_1, bI_bo, lg_eq, toL_inj, ls_nI, decide_eq_false_iff_not, decide_eq_true_eq, Bool.true_eq_false, Bool.false_eq_true, bq, if_pos, if_neg, if_true, if_false, lq, Nat.reduceAdd, Nat.reduceMul, Nat.reduceSub, Nat.reduceDiv, Nat.reduceMod, e, t1]
            · have hlt : (rn D v N 0 E).1 < N := by
                have : (rn D v N 0 E).1 ≠ 0 + N := fun q => e (r4.mpr q)
                omega
              obtain ⟨U, u1, u2, u3⟩ := c_tryDeed hD r1 cB (v (rn D v N 0 E).1)
              rw [r6 e] at u1
              obtain ⟨T, t1, t2, t3⟩ := fin U u2
              refine ⟨T, ?_, t2, t3⟩
              simp (disch := omega) only [lit, lm1, nI_add, pk_mul, nm_eq, nm_eq', nm_lt, nm_lt', nm_le, nm_le', x_lt, x_le, x_eq, x_in, x_cl, x_div, x_sub, x_rem, x_min, x_max, x_and, x_or, x_xor, x_df, x_shl, bI_0, bI_1, bI_bo, lg_eq, toL_inj, ls_nI, decide_eq_false_iff_not, decide_eq_true_eq, Bool.true_eq_false, Bool.false_eq_true, bq, if_pos, if_neg, if_true, if_false, lq, Nat.reduceAdd, Nat.reduceMul, Nat.reduceSub, Nat.reduceDiv, Nat.reduceMod, e, yB.2.2 _ hlt, u1, t1]
          · obtain ⟨T, t1, t2, t3⟩ := fin B Kp.rf
            refine ⟨T, ?_, t2, t3⟩
            simp (disch := omega) only [lit, lm1, nI_add, pk_mul, nm_eq, nm_eq', nm_lt, nm_lt', nm_le, nm_le', x_lt, x_le, x_eq, x_in, x_cl, x_div, x_sub, x_rem, x_min, x_max, x_and, x_or, x_xor, x_df, x_shl, bI_0, bI_1, bI_bo, lg_eq, toL_inj, ls_nI, decide_eq_false_iff_not, decide_eq_true_eq, Bool.true_eq_false, Bool.false_eq_true, bq, if_pos, if_neg, if_true, if_false, lq, Nat.reduceAdd, Nat.reduceMul, Nat.reduceSub, Nat.reduceDiv, Nat.reduceMod, c_digits b3, t1]
          · obtain ⟨T, t1, t2, t3⟩ := fin B Kp.rf
            refine ⟨T, ?_, t2, t3⟩
            simp (disch := omega) only [lit, lm1, nI_add, pk_mul, nm_eq, nm_eq', nm_lt, nm_lt', nm_le, nm_le', x_lt, x_le, x_eq, x_in, x_cl, x_div, x_sub, x_rem, x_min, x_max, x_and, x_or, x_xor, x_df, x_shl, bI_0, bI_1, bI_bo, lg_eq, toL_inj, ls_nI, decide_eq_false_iff_not, decide_eq_true_eq, Bool.true_eq_false, Bool.false_eq_true, bq, if_pos, if_neg, if_true, if_false, lq, Nat.reduceAdd, Nat.reduceMul, Nat.reduceSub, Nat.reduceDiv, Nat.reduceMod, c_rims hD r1 cB, t1]
        obtain ⟨T, t1, t2, t3⟩ := hcl
        -- reference
        have k0 : Kp (fun q j => q < 150 ∨ (q = 150 ∧ j = 0)) S (cpI T 150 0 (nI 0)) := (t2.le (fun q j h => Or.inl h.2)).I (by exact Or.inr ⟨rfl, rfl⟩)
        have m0 : mA D E (cpI T 150 0 (nI 0)) := ⟨m.kp hD k0 (fun j _ _ _ => by omega), w.kp k0 (fun j _ _ => by omega)⟩
        have y0 : mY t (some (N, v)) (cpI T 150 0 (nI 0)) := o2.kp k0 (fun q j p1 p2 => by omega)
        obtain ⟨F, f1, f2⟩ := e_stores (cpI T 150 0 (nI 0))
        have kF' : Kp (fun q _ => q = 158) (cpI T 150 0 (nI 0)) F := f2.kp (fun j _ _ => rfl)
        have m1 : mA D E F := m0.kp hD kF' (fun q j h => by omega)
        have y1 := y0.kp kF' (fun q j p1 p2 => by omega)
        obtain ⟨G, g1, g2, g3, g4⟩ := m_tells hD ht hN hE m1 y1
        have m2 : mA D (rn D v N 0 E).2.2 G := ⟨m1.1.kp hD g2 (fun j p1 p2 p3 q => by unfold kDt kDm kG at q; omega), g3⟩
        obtain ⟨H, h1, h2⟩ := e_isAgain G
        have kH' : Kp (fun q j => q = 151 ∧ 62 ≤ j ∧ j < 80) G H := h2.kp (fun j a b => ⟨rfl, a, b⟩)
        have wH : mN E H 62 := m0.2.mv (w' := 62) (fun j hj => by
          rw [h2.2.2.1 _ (by omega) (by omega)]
          show G.1 158 (62 + j - 62) = _
          rw [show 62 + j - 62 = j by omega, g2.i (by unfold kDt kDm kG; omega), f2.2.2.1 j (by omega) hj])
        have e21 : H.1 150 21 = nI (rn D v N 0 E).2.1 := by rw [kH'.i (by omega)]; exact g4
        have hm : fX12_judge (nI t) (nI k) T = some (jdV D N (rn D v N 0 E) k, H) := by
          have e1 : fX12_judge (nI t) (nI k) T = fX12_judge_62 (nI k) (nI (rn D v N 0 E).1) (rimM (rn D v N 0 E).2.2 D.C) cpFu (nI 0) (nI D.C - nI 1) G := by
            have hno : fX12_noTray (nI t) (cpI T 150 0 (nI 0)) = some (nI 0, cpI T 150 0 (nI 0)) := y0.no ht
            unfold fX12_judge
            simp (disch := omega) only [lit, lm1, nI_add, pk_mul, nm_eq, nm_eq', nm_lt, nm_lt', nm_le, nm_le', x_lt, x_le, x_eq, x_in, x_cl, x_div, x_sub, x_rem, x_min, x_max, x_and, x_or, x_xor, x_df, x_shl, bI_0, bI_1, bI_bo, lg_eq, toL_inj, ls_nI, decide_eq_false_iff_not, decide_eq_true_eq, Bool.true_eq_false, Bool.false_eq_true, bq, if_pos, if_neg, if_true, if_false, lq, Nat.reduceAdd, Nat.reduceMul, Nat.reduceSub, Nat.reduceDiv, Nat.reduceMod, w1, hno, f1, g1, m_rims hD m2, m2.C]
          have c4 := hD.c4
          obtain ⟨g, hg⟩ : ∃ g, cpFu - D.C = g + 1 := ⟨4999 - D.C, by show 5000 - D.C = _; omega⟩
          rw [e1, m_digits hD m2 _ _ _ D.C cpFu 0 (Nat.le_refl _) (by show D.C < 5000; omega), hg, fX12_judge_62, ← dg_C hD r1]
          unfold jdV
          rcases (show k = 0 ∨ k = 1 ∨ k = 2 ∨ k = 3 by omega) with rfl | rfl | rfl | rfl
          · by_cases e : (rn D v N 0 E).2.1 = 0
            · simp (disch := omega) only [lit, lm1, nI_add, pk_mul, nm_eq, nm_eq', nm_lt, nm_lt', nm_le, nm_le', x_lt, x_le, x_eq, x_in, x_cl, x_div, x_sub, x_rem, x_min, x_max, x_and, x_or, x_xor, x_df, x_shl, bI_0, bI_1, bI_bo, lg_eq, toL_inj, ls_nI, decide_eq_false_iff_not, decide_eq_true_eq, Bool.true_eq_false, Bool.false_eq_true, bq, if_pos, if_neg, if_true, if_false, lq, Nat.reduceAdd, Nat.reduceMul, Nat.reduceSub, Nat.reduceDiv, Nat.reduceMod, h1, e21, e]
            · simp (disch := omega) only [lit, lm1, nI_add, pk_mul, nm_eq, nm_eq', nm_lt, nm_lt', nm_le, nm_le', x_lt, x_le, x_eq, x_in, x_cl, x_div, x_sub, x_rem, x_min, x_max, x_and, x_or, x_xor, x_df, x_shl, bI_0, bI_1, bI_bo, lg_eq, toL_inj, ls_nI, decide_eq_false_iff_not, decide_eq_true_eq, Bool.true_eq_false, Bool.false_eq_true, bq, if_pos, if_neg, if_true, if_false, lq, Nat.reduceAdd, Nat.reduceMul, Nat.reduceSub, Nat.reduceDiv, Nat.reduceMod, h1, e21, e]
          · simp (disch := omega) only [lit, lm1, nI_add, pk_mul, nm_eq, nm_eq', nm_lt, nm_lt', nm_le, nm_le', x_lt, x_le, x_eq, x_in, x_cl, x_div, x_sub, x_rem, x_min, x_max, x_and, x_or, x_xor, x_df, x_shl, bI_0, bI_1, bI_bo, lg_eq, toL_inj, ls_nI, decide_eq_false_iff_not, decide_eq_true_eq, Bool.true_eq_false, Bool.false_eq_true, bq, if_pos, if_neg, if_true, if_false, lq, Nat.reduceAdd, Nat.reduceMul, Nat.reduceSub, Nat.reduceDiv, Nat.reduceMod, h1, e21]
          · simp (disch := omega) only [lit, lm1, nI_add, pk_mul, nm_eq, nm_eq', nm_lt, nm_lt', nm_le, nm_le', x_lt, x_le, x_eq, x_in, x_cl, x_div, x_sub, x_rem, x_min, x_max, x_and, x_or, x_xor, x_df, x_shl, bI_0, bI_1, bI_bo, lg_eq, toL_inj, ls_nI, decide_eq_false_iff_not, decide_eq_true_eq, Bool.true_eq_false, Bool.false_eq_true, bq, if_pos, if_neg, if_true, if_false, lq, Nat.reduceAdd, Nat.reduceMul, Nat.reduceSub, Nat.reduceDiv, Nat.reduceMod, h1, e21]
          · simp (disch := omega) only [lit, lm1, nI_add, pk_mul, nm_eq, nm_eq', nm_lt, nm_lt', nm_le, nm_le', x_lt, x_le, x_eq, x_in, x_cl, x_div, x_sub, x_rem, x_min, x_max, x_and, x_or, x_xor, x_df, x_shl, bI_0, bI_1, bI_bo, lg_eq, toL_inj, ls_nI, decide_eq_false_iff_not, decide_eq_true_eq, Bool.true_eq_false, Bool.false_eq_true, bq, if_pos, if_neg, if_true, if_false, lq, Nat.reduceAdd, Nat.reduceMul, Nat.reduceSub, Nat.reduceDiv, Nat.reduceMod, h1, e21]
        have kTH : Kp (fun q j => kEnd q j ∧ 150 ≤ q) T H := (((Kp.rf.I (by exact ⟨Or.inr (Or.inr scr_thr), by decide⟩)).tr (kF'.le (fun q j h => ⟨Or.inr (Or.inr (by rw [h]; exact scr_c (by decide) (by decide) (by decide) j)), by omega⟩))).tr (g2.le (fun q j h => ⟨kDt_E h, by unfold kDt kDm kG at h; omega⟩))).tr (kH'.le (fun q j h => ⟨Or.inr (Or.inl h), by omega⟩))
        exact ⟨_, T, H, t1, hm, hR.same hD hE c m ((t2.le (fun _ _ h => h.1)).tr (kTH.le (fun _ _ h => h.1))) (t3.kp kTH (fun q j p1 p2 h => by omega)) wH⟩
    · refine ⟨-2, S, _, ?_, ?_, hq⟩
      · have hc : fX11_hasTray (nI t) S = some (nI 1, S) := by rw [e_hasTray, if_pos (cpLs_of ht (by decide))]; rfl
        unfold fX11_judge
        rcases arg_out 4 3 rfl (by decide) h2 with h | ⟨h, h', -⟩
        · simp (disch := omega) only [lit, lm1, nI_add, pk_mul, nm_eq, nm_eq', nm_lt, nm_lt', nm_le, nm_le', x_lt, x_le, x_eq, x_in, x_cl, x_div, x_sub, x_rem, x_min, x_max, x_and, x_or, x_xor, x_df, x_shl, bI_0, bI_1, bI_bo, lg_eq, toL_inj, ls_nI, decide_eq_false_iff_not, decide_eq_true_eq, Bool.true_eq_false, Bool.false_eq_true, bq, if_pos, if_neg, if_true, if_false, lq, Nat.reduceAdd, Nat.reduceMul, Nat.reduceSub, Nat.reduceDiv, Nat.reduceMod, hc, h]
        · simp (disch := omega) only [lit, lm1, nI_add, pk_mul, nm_eq, nm_eq', nm_lt, nm_lt', nm_le, nm_le', x_lt, x_le, x_eq, x_in, x_cl, x_div, x_sub, x_rem, x_min, x_max, x_and, x_or, x_xor, x_df, x_shl, bI_0, bI_1, bI_bo, lg_eq, toL_inj, ls_nI, decide_eq_false_iff_not, decide_eq_true_eq, Bool.true_eq_false, Bool.false_eq_true, bq, if_pos, if_neg, if_true, if_false, lq, Nat.reduceAdd, Nat.reduceMul, Nat.reduceSub, Nat.reduceDiv, Nat.reduceMod, hc, h, h']
      · unfold fX12_judge
        simp (disch := omega) only [lit, lm1, nI_add, pk_mul, nm_eq, nm_eq', nm_lt, nm_lt', nm_le, nm_le', x_lt, x_le, x_eq, x_in, x_cl, x_div, x_sub, x_rem, x_min, x_max, x_and, x_or, x_xor, x_df, x_shl, bI_0, bI_1, bI_bo, lg_eq, toL_inj, ls_nI, decide_eq_false_iff_not, decide_eq_true_eq, Bool.true_eq_false, Bool.false_eq_true, bq, if_pos, if_neg, if_true, if_false, lq, Nat.reduceAdd, Nat.reduceMul, Nat.reduceSub, Nat.reduceDiv, Nat.reduceMod, w1, h2]
  · refine ⟨-2, S, _, ?_, ?_, hq⟩
    · have hc : fX11_hasTray x1 S = some (nI 0, S) := by rw [e_hasTray, h1]; rfl
      unfold fX11_judge
      simp (disch := omega) only [lit, lm1, nI_add, pk_mul, nm_eq, nm_eq', nm_lt, nm_lt', nm_le, nm_le', x_lt, x_le, x_eq, x_in, x_cl, x_div, x_sub, x_rem, x_min, x_max, x_and, x_or, x_xor, x_df, x_shl, bI_0, bI_1, bI_bo, lg_eq, toL_inj, ls_nI, decide_eq_false_iff_not, decide_eq_true_eq, Bool.true_eq_false, Bool.false_eq_true, bq, if_pos, if_neg, if_true, if_false, lq, Nat.reduceAdd, Nat.reduceMul, Nat.reduceSub, Nat.reduceDiv, Nat.reduceMod, hc]
    · unfold fX12_judge
      cases h2 : cpLs' x2 4
      · simp (disch := omega) only [lit, lm1, nI_add, pk_mul, nm_eq, nm_eq', nm_lt, nm_lt', nm_le, nm_le', x_lt, x_le, x_eq, x_in, x_cl, x_div, x_sub, x_rem, x_min, x_max, x_and, x_or, x_xor, x_df, x_shl, bI_0, bI_1, bI_bo, lg_eq, toL_inj, ls_nI, decide_eq_false_iff_not, decide_eq_true_eq, Bool.true_eq_false, Bool.false_eq_true, bq, if_pos, if_neg, if_true, if_false, lq, Nat.reduceAdd, Nat.reduceMul, Nat.reduceSub, Nat.reduceDiv, Nat.reduceMod, w1, h2]
      · simp (disch := omega) only [lit, lm1, nI_add, pk_mul, nm_eq, nm_eq', nm_lt, nm_lt', nm_le, nm_le', x_lt, x_le, x_eq, x_in, x_cl, x_div, x_sub, x_rem, x_min, x_max, x_and, x_or, x_xor, x_df, x_shl, bI_0, bI_1, bI_bo, lg_eq, toL_inj, ls_nI, decide_eq_false_iff_not, decide_eq_true_eq, Bool.true_eq_false, Bool.false_eq_true, bq, if_pos, if_neg, if_true, if_false, lq, Nat.reduceAdd, Nat.reduceMul, Nat.reduceSub, Nat.reduceDiv, Nat.reduceMod, w1, h2, e_noTray2 h1]
        rfl
/-! performed -/
theorem c_beforeKeep {D : cpD} {E E' : cpE} {S A B : cpS} {x z : Nat} (n : cN E S 57) (a2 : nC S A 61 57) (hx : S.1 113 1 = nI x) (x9 : x < 10) (hz : S.1 113 2 = nI z) (z9 : z ≤ 10) (kB : Kp kDc A B) (nB : cN E' B 57) : ∃ T, fX6_keep 61 B = some ((), T) ∧ Kp (kpC x) S T ∧ T.1 113 1 = nI ((x + 1) % 10) ∧ T.1 113 2 = nI (min 10 (z + 1)) ∧ cN E' T 57 ∧ cN E T (65 + 4 * x) := by
  obtain ⟨T, t1, kT, t2, t3, tn, to, -⟩ := c_keepB n a2 hx x9 hz z9 (kB.le (fun q j h => by
    rcases h with h | h
    · exact Or.inl h
    · exact Or.inr ⟨(kF_C h).1, (kF_C h).2, by unfold kF at h; omega⟩)) nB
  exact ⟨T, t1, kT, t2, t3, tn, to⟩
theorem kDt_note {k j : Nat} (h : kDt k j) : (k = 151 ∧ 62 ≤ j ∧ j < 80) ∨ (cpScr k j ∧ 150 ≤ k ∧ k ≠ 158) := by
  rcases h with (h | h) | ⟨rfl, rfl⟩
  · exact Or.inl h
  · exact Or.inr ⟨(kG_M h).1, (kG_M h).2, by unfold kG at h; omega⟩
  · exact Or.inr ⟨⟨by decide, by decide, by decide⟩, by decide, by decide⟩
theorem q_perform : cpQ_perform cpRl := by
  intro x1 S hR
  have hq := hR.kp (kM_thr S (nI 0)) (fun k j h => h.1)
  rcases in_or x1 4 with ⟨t, ht, rfl⟩ | h1
  · obtain ⟨D, E, z, x, hD, hE, c, m, n, w, z9, x9, hz, hz', hx, old⟩ := hR.un
    obtain ⟨o, o1, o2, o3⟩ := hR.tray ht
    have hc : fX11_hasTray (nI t) S = some (nI 1, S) := by rw [e_hasTray, if_pos (cpLs_of ht (by decide))]; rfl
    cases o with
    | none =>
      refine ⟨-6, S, _, ?_, ?_, hq⟩
      · unfold fX11_perform
        simp (disch := omega) only [lit, lm1, nI_add, pk_mul, nm_eq, nm_eq', nm_lt, nm_lt', nm_le, nm_le', x_lt, x_le, x_eq, x_in, x_cl, x_div, x_sub, x_rem, x_min, x_max, x_and, x_or, x_xor, x_df, x_shl, bI_0, bI_1, bI_bo, lg_eq, toL_inj, ls_nI, decide_eq_false_iff_not, decide_eq_true_eq, Bool.true_eq_false, Bool.false_eq_true, bq, if_pos, if_neg, if_true, if_false, lq, Nat.reduceAdd, Nat.reduceMul, Nat.reduceSub, Nat.reduceDiv, Nat.reduceMod, hc, o1.miss, Option.isNone_none]
      · unfold fX12_perform
        simp (disch := omega) only [lit, lm1, nI_add, pk_mul, nm_eq, nm_eq', nm_lt, nm_lt', nm_le, nm_le', x_lt, x_le, x_eq, x_in, x_cl, x_div, x_sub, x_rem, x_min, x_max, x_and, x_or, x_xor, x_df, x_shl, bI_0, bI_1, bI_bo, lg_eq, toL_inj, ls_nI, decide_eq_false_iff_not, decide_eq_true_eq, Bool.true_eq_false, Bool.false_eq_true, bq, if_pos, if_neg, if_true, if_false, lq, Nat.reduceAdd, Nat.reduceMul, Nat.reduceSub, Nat.reduceDiv, Nat.reduceMod, (o2.thr (nI 0)).no ht, Option.isNone_none]
        rfl
    | some y =>
      obtain ⟨N, v⟩ := y
      have hN := o3 N v rfl
      obtain ⟨r1, r2, r3, r4, r5, r6, r7⟩ := rn_sp (v := v) hD N 0 E hE
      have hri : (rn D v N 0 E).1 ≤ 40 := by omega
      obtain ⟨A, a1, a2⟩ := e_copyN 61 57 S (by omega)
      have kA : Kp (fun q _ => 61 ≤ q ∧ q ≤ 64) S A := a2.kp (fun q j a b => ⟨a, b⟩)
      have cA' : cA D E A := ⟨c.kp kA (fun k j a b => by omega), n.kp kA (fun k j a b => by omega)⟩
      have yA := o1.kp ht kA (fun k j a b => by omega)
      obtain ⟨B, b1, b2, b3⟩ := c_doAll hD ht hN hE cA' yA
      by_cases e : (rn D v N 0 E).1 = 0
      · have eE := r5 e
        have kSB : Kp kEc S B := (kA.le (fun q j h => ⟨Or.inr (Or.inr (scr61 h.1 h.2 j)), by omega⟩)).tr (b2.le (fun _ _ => kDc_Ec))
        rw [eE] at b3
        have hcl : fX11_perform (nI t) S = some (nI 0, B) := by
          unfold fX11_perform
          simp (disch := omega) only [lit, lm1, nI_add, pk_mul, nm_eq, nm_eq', nm_lt, nm_lt', nm_le, nm_le', x_lt, x_le, x_eq, x_in, x_cl, x_div, x_sub, x_rem, x_min, x_max, x_and, x_or, x_xor, x_df, x_shl, bI_0, bI_1, bI_bo, lg_eq, toL_inj, ls_nI, decide_eq_false_iff_not, decide_eq_true_eq, Bool.true_eq_false, Bool.false_eq_true, bq, if_pos, if_neg, if_true, if_false, lq, Nat.reduceAdd, Nat.reduceMul, Nat.reduceSub, Nat.reduceDiv, Nat.reduceMod, hc, o1.miss, Option.isNone_some, a1, b1, e]
        have k0 : Kp (fun q j => q < 150 ∨ (q = 150 ∧ j = 0)) S (cpI B 150 0 (nI 0)) := (kSB.le (fun q j h => Or.inl h.2)).I (by exact Or.inr ⟨rfl, rfl⟩)
        have m0 : mA D E (cpI B 150 0 (nI 0)) := ⟨m.kp hD k0 (fun j _ _ _ => by omega), w.kp k0 (fun j _ _ => by omega)⟩
        have y0 : mY t (some (N, v)) (cpI B 150 0 (nI 0)) := o2.kp k0 (fun q j p1 p2 => by omega)
        obtain ⟨F, f1, f2⟩ := e_stores (cpI B 150 0 (nI 0))
        have kF' : Kp (fun q _ => q = 158) (cpI B 150 0 (nI 0)) F := f2.kp (fun j _ _ => rfl)
        have m1 : mA D E F := m0.kp hD kF' (fun q j h => by omega)
        have y1 := y0.kp kF' (fun q j p1 p2 => by omega)
        obtain ⟨G, g1, g2, g3, g4⟩ := m_tells hD ht hN hE m1 y1
        rw [eE] at g3
        have hno : fX12_noTray (nI t) (cpI B 150 0 (nI 0)) = some (nI 0, cpI B 150 0 (nI 0)) := y0.no ht
        have hm : fX12_perform (nI t) B = some (nI 0, G) := by
          unfold fX12_perform
          simp (disch := omega) only [lit, lm1, nI_add, pk_mul, nm_eq, nm_eq', nm_lt, nm_lt', nm_le, nm_le', x_lt, x_le, x_eq, x_in, x_cl, x_div, x_sub, x_rem, x_min, x_max, x_and, x_or, x_xor, x_df, x_shl, bI_0, bI_1, bI_bo, lg_eq, toL_inj, ls_nI, decide_eq_false_iff_not, decide_eq_true_eq, Bool.true_eq_false, Bool.false_eq_true, bq, if_pos, if_neg, if_true, if_false, lq, Nat.reduceAdd, Nat.reduceMul, Nat.reduceSub, Nat.reduceDiv, Nat.reduceMod, hno, f1, g1, e]
        have kBG : Kp (fun q j => kEnd q j ∧ 150 ≤ q) B G := ((Kp.rf.I (by exact ⟨Or.inr (Or.inr scr_thr), by decide⟩)).tr (kF'.le (fun q j h => ⟨Or.inr (Or.inr (by rw [h]; exact scr_c (by decide) (by decide) (by decide) j)), by omega⟩))).tr (g2.le (fun q j h => ⟨kDt_E h, by unfold kDt kDm kG at h; omega⟩))
        exact ⟨_, B, G, hcl, hm, hR.same hD hE c m ((kSB.le (fun _ _ h => h.1)).tr (kBG.le (fun _ _ h => h.1))) (b3.kp kBG (fun q j p1 p2 h => by omega)) g3⟩
      · obtain ⟨T, t1, kT, t2, t3, tn, to⟩ := c_beforeKeep (D := D) n a2 hx x9 hz z9 b2 b3
        have hcl : fX11_perform (nI t) S = some (nI (rn D v N 0 E).1, T) := by
          unfold fX11_perform
          simp (disch := omega) only [lit, lm1, nI_add, pk_mul, nm_eq, nm_eq', nm_lt, nm_lt', nm_le, nm_le', x_lt, x_le, x_eq, x_in, x_cl, x_div, x_sub, x_rem, x_min, x_max, x_and, x_or, x_xor, x_df, x_shl, bI_0, bI_1, bI_bo, lg_eq, toL_inj, ls_nI, decide_eq_false_iff_not, decide_eq_true_eq, Bool.true_eq_false, Bool.false_eq_true, bq, if_pos, if_neg, if_true, if_false, lq, Nat.reduceAdd, Nat.reduceMul, Nat.reduceSub, Nat.reduceDiv, Nat.reduceMod, hc, o1.miss, Option.isNone_some, a1, b1, e, t1]
        have kS := mT kT x9
        have m0 : mA D E (cpI T 150 0 (nI 0)) := ⟨m.kp hD kS (fun j _ _ _ => by omega), w.kp kS (fun j _ _ => by omega)⟩
        have y0 : mY t (some (N, v)) (cpI T 150 0 (nI 0)) := o2.kp kS (fun q j p1 p2 => by omega)
        obtain ⟨F, f1, f2⟩ := e_stores (cpI T 150 0 (nI 0))
        have kF' : Kp (fun q _ => q = 158) (cpI T 150 0 (nI 0)) F := f2.kp (fun j _ _ => rfl)
        have m1 : mA D E F := m0.kp hD kF' (fun q j h => by omega)
        have y1 := y0.kp kF' (fun q j p1 p2 => by omega)
        obtain ⟨G, g1, g2, g3, g4⟩ := m_tells hD ht hN hE m1 y1
        obtain ⟨U, u1, u2, u2', u3, u4, u5⟩ := m_note (S := cpI T 150 0 (nI 0)) (S1 := F) (S2 := G) (z := z) z9 (by rw [kS.i (by omega)]; exact hz') f2 g2 (fun k j h => kDt_note h)
        have hno : fX12_noTray (nI t) (cpI T 150 0 (nI 0)) = some (nI 0, cpI T 150 0 (nI 0)) := y0.no ht
        refine ⟨_, T, U, hcl, ?_, cpRl.fin2 hR hD hE r1 c m w z9 x9 old kT t2 t3 tn to u2 u3 (g3.kp u2' (fun j _ _ => by omega)) u4 u5⟩
        unfold fX12_perform
        simp (disch := omega) only [lit, lm1, nI_add, pk_mul, nm_eq, nm_eq', nm_lt, nm_lt', nm_le, nm_le', x_lt, x_le, x_eq, x_in, x_cl, x_div, x_sub, x_rem, x_min, x_max, x_and, x_or, x_xor, x_df, x_shl, bI_0, bI_1, bI_bo, lg_eq, toL_inj, ls_nI, decide_eq_false_iff_not, decide_eq_true_eq, Bool.true_eq_false, Bool.false_eq_true, bq, if_pos, if_neg, if_true, if_false, lq, Nat.reduceAdd, Nat.reduceMul, Nat.reduceSub, Nat.reduceDiv, Nat.reduceMod, hno, f1, g1, e, u1]
  · refine ⟨-2, S, _, ?_, ?_, hq⟩
    · have hc : fX11_hasTray x1 S = some (nI 0, S) := by rw [e_hasTray, h1]; rfl
      unfold fX11_perform
      simp (disch := omega) only [lit, lm1, nI_add, pk_mul, nm_eq, nm_eq', nm_lt, nm_lt', nm_le, nm_le', x_lt, x_le, x_eq, x_in, x_cl, x_div, x_sub, x_rem, x_min, x_max, x_and, x_or, x_xor, x_df, x_shl, bI_0, bI_1, bI_bo, lg_eq, toL_inj, ls_nI, decide_eq_false_iff_not, decide_eq_true_eq, Bool.true_eq_false, Bool.false_eq_true, bq, if_pos, if_neg, if_true, if_false, lq, Nat.reduceAdd, Nat.reduceMul, Nat.reduceSub, Nat.reduceDiv, Nat.reduceMod, hc]
    · unfold fX12_perform
      simp (disch := omega) only [lit, lm1, nI_add, pk_mul, nm_eq, nm_eq', nm_lt, nm_lt', nm_le, nm_le', x_lt, x_le, x_eq, x_in, x_cl, x_div, x_sub, x_rem, x_min, x_max, x_and, x_or, x_xor, x_df, x_shl, bI_0, bI_1, bI_bo, lg_eq, toL_inj, ls_nI, decide_eq_false_iff_not, decide_eq_true_eq, Bool.true_eq_false, Bool.false_eq_true, bq, if_pos, if_neg, if_true, if_false, lq, Nat.reduceAdd, Nat.reduceMul, Nat.reduceSub, Nat.reduceDiv, Nat.reduceMod, e_noTray2 h1]
      rfl
