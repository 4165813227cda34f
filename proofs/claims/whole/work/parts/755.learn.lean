/-! how a coin can go: learnt by the class, laid by the reference -/
def wv (D : cpD) (E : cpE) (r : Bool) (c a b k : Nat) : Int32 := if poN k < D.P ∧ bro D E c a b E.h (plN k) (poN k) = true then (if r then wnF D (plN k) (poN k) c a b E.h else nI ((rdT D (plN k) (poN k) c a b E.h).getD 0)) else nM
def lrn (D : cpD) (E : cpE) (r : Bool) (c : Nat) (S : cpS) : Prop := (∀ a b, a < D.K → b < D.K → S.1 121 (a * 6 + b) = nI (brN D E c a b E.h)) ∧ ∀ a b k, a < D.K → b < D.K → k < 28 → S.1 120 ((a * 6 + b) * 28 + k) = wv D E r c a b k
def kL (q j : Nat) : Prop := q = 120 ∨ q = 121 ∨ kF q j
theorem kL_C {k j : Nat} (h : kL k j) : kC k j := by
  rcases h with rfl | rfl | h
  · exact ⟨scr_c (by decide) (by decide) (by decide) j, by decide⟩
  · exact ⟨scr_c (by decide) (by decide) (by decide) j, by decide⟩
  · exact kF_C h
theorem brN_le {D : cpD} (E : cpE) (hP : D.P ≤ 8) (c fm to h : Nat) : brN D E c fm to h ≤ 28 := by
  unfold brN
  rw [← cls_mdl (brS D E c fm to h) hP]
  refine up_inv (fun i s => if poN i < D.P then brS D E c fm to h (plN i) (poN i) s else s) 28 (fun i s => s ≤ i) (fun i s _ h => ?_) 28 0 0 (by omega) (Nat.le_refl _)
  unfold brS
  split
  · split <;> omega
  · omega
section LE
variable {D : cpD} {E : cpE} {S : cpS}
theorem bro_jnd {c fm to h p q : Nat} (e : jnd D fm to = false) : bro D E c fm to h p q = false := by
  cases g : bro D E c fm to h p q
  · rfl
  · have := (wyF_0 (wy_bro.mpr g)).1; rw [e] at this; cases this
def kSt (st : Nat) (q j : Nat) : Prop := (q = 120 ∧ st * 28 ≤ j ∧ j < st * 28 + 28) ∨ (q = 121 ∧ j = st) ∨ kF q j
theorem kSt_L {st q j : Nat} (h : kSt st q j) : kL q j := by
  rcases h with h | h | h
  · exact Or.inl h.1
  · exact Or.inr (Or.inl h.1)
  · exact Or.inr (Or.inr h)
theorem c_step45 (hD : D.WF) (hE : E.WF D) (c : cA D E S) {k a b : Nat} {r : Bool} (hk : k < D.C) (ha : a < D.K) (hb : b < D.K) (h0 : S.1 121 (a * 6 + b) = nI 0) : ∃ T, fX4_learnStep_45 (nI k) (nI a) (nI b) (bI r) (nI (a * 6 + b)) (nI E.h) (bI (jnd D a b)) cpFu (nI 0) S = some ((), T) ∧ T.1 121 (a * 6 + b) = nI (brN D E k a b E.h) ∧ (∀ i, i < 28 → T.1 120 ((a * 6 + b) * 28 + i) = wv D E r k a b i) ∧ Kp (kSt (a * 6 + b)) S T := by
  have p8 := hD.p8
  have k6 := hD.k6
  have r9 := hD.r9
  unfold brN
  rw [← cls_mdl (brS D E k a b E.h) p8]
  refine up_lpR (F := fun n i (T : cpS) => fX4_learnStep_45 (nI k) (nI a) (nI b) (bI r) (nI (a * 6 + b)) (nI E.h) (bI (jnd D a b)) n i T) (K := fun T => some ((), T)) 28 (fun i s => if poN i < D.P then brS D E k a b E.h (plN i) (poN i) s else s) (fun i s T => T.1 121 (a * 6 + b) = nI s ∧ (∀ x, x < i → T.1 120 ((a * 6 + b) * 28 + x) = wv D E r k a b x) ∧ Kp (kSt (a * 6 + b)) S T) (by decide) (fun n i s T hi hI => ?_) (fun n s T hI => ?_) (i0 := 0) (s := 0) (a := S) (Nat.zero_le _) ⟨h0, fun x hx => absurd hx (by omega), Kp.rf⟩
  · obtain ⟨i1, i2, i3⟩ := hI
    have cT : cA D E T := c.cc (i3.le (fun _ _ h => kL_C (kSt_L h)))
    obtain ⟨g1, g2, g3, g4⟩ := p28 i hi
    -- what the step writes
    have fin : ∀ (U : cpS) (w : Int32) (s' : Nat), Kp kF T U → cpMax nM w = wv D E r k a b i → (s' = s + (if w < nI 0 then 0 else 1)) → fX4_learnStep_137 (nI k) (nI a) (nI b) (bI r) (nI (a * 6 + b)) (nI E.h) (bI (jnd D a b)) (nI i) w (fX4_learnStep_45 (nI k) (nI a) (nI b) (bI r) (nI (a * 6 + b)) (nI E.h) (bI (jnd D a b)) n) U = fX4_learnStep_45 (nI k) (nI a) (nI b) (bI r) (nI (a * 6 + b)) (nI E.h) (bI (jnd D a b)) n (nI (i + 1)) (cpI (cpI U 120 ((a * 6 + b) * 28 + i) (wv D E r k a b i)) 121 (a * 6 + b) (nI s')) ∧ ((cpI (cpI U 120 ((a * 6 + b) * 28 + i) (wv D E r k a b i)) 121 (a * 6 + b) (nI s')).1 121 (a * 6 + b) = nI s' ∧ (∀ x, x < i + 1 → (cpI (cpI U 120 ((a * 6 + b) * 28 + i) (wv D E r k a b i)) 121 (a * 6 + b) (nI s')).1 120 ((a * 6 + b) * 28 + x) = wv D E r k a b x) ∧ Kp (kSt (a * 6 + b)) S (cpI (cpI U 120 ((a * 6 + b) * 28 + i) (wv D E r k a b i)) 121 (a * 6 + b) (nI s'))) := by
      intro U w s' hU hw hs'
      have e1 : (cpI U 120 ((a * 6 + b) * 28 + i) (wv D E r k a b i)).1 121 (a * 6 + b) = nI s := by rw [sIr (by decide), hU.i (by unfold kF; omega)]; exact i1
      refine ⟨?_, sI1, fun x hx => ?_, ((i3.tr (hU.le (fun _ _ h => Or.inr (Or.inr h)))).I (by exact Or.inl ⟨rfl, by omega, by omega⟩)).I (by exact Or.inr (Or.inl ⟨rfl, rfl⟩))⟩
      · unfold fX4_learnStep_137
        simp (disch := omega) only [lit, lm1, nI_add, pk_mul, nm_eq, nm_eq', nm_lt, nm_lt', nm_le, nm_le', x_lt, x_le, x_eq, x_in, x_cl, x_div, x_sub, x_rem, x_min, x_max, x_and, x_or, x_xor, x_df, x_shl, bI_0, bI_1, bI_bo, lg_eq, toL_inj, ls_nI, decide_eq_false_iff_not, decide_eq_true_eq, Bool.true_eq_false, Bool.false_eq_true, bq, if_pos, if_neg, if_true, if_false, lq, Nat.reduceAdd, Nat.reduceMul, Nat.reduceSub, Nat.reduceDiv, Nat.reduceMod, hw, e1]
        rcases Classical.propComplete (w < nI 0) with q | q
        · have q' : (nI 0 ≤ w) = False := eq_false (fun h => by have q := of_eq_true q; rw [i_lt] at q; rw [i_le] at h; omega)
          rw [if_pos (of_eq_true q)] at hs'
          simp (disch := omega) only [lit, lm1, nI_add, pk_mul, nm_eq, nm_eq', nm_lt, nm_lt', nm_le, nm_le', x_lt, x_le, x_eq, x_in, x_cl, x_div, x_sub, x_rem, x_min, x_max, x_and, x_or, x_xor, x_df, x_shl, bI_0, bI_1, bI_bo, lg_eq, toL_inj, ls_nI, decide_eq_false_iff_not, decide_eq_true_eq, Bool.true_eq_false, Bool.false_eq_true, bq, if_pos, if_neg, if_true, if_false, lq, Nat.reduceAdd, Nat.reduceMul, Nat.reduceSub, Nat.reduceDiv, Nat.reduceMod, q', hs', Nat.add_zero]
        · have q' : (nI 0 ≤ w) = True := eq_true (by have q := of_eq_false q; rw [i_lt] at q; rw [i_le]; omega)
          rw [if_neg (of_eq_false q)] at hs'
          simp (disch := omega) only [lit, lm1, nI_add, pk_mul, nm_eq, nm_eq', nm_lt, nm_lt', nm_le, nm_le', x_lt, x_le, x_eq, x_in, x_cl, x_div, x_sub, x_rem, x_min, x_max, x_and, x_or, x_xor, x_df, x_shl, bI_0, bI_1, bI_bo, lg_eq, toL_inj, ls_nI, decide_eq_false_iff_not, decide_eq_true_eq, Bool.true_eq_false, Bool.false_eq_true, bq, if_pos, if_neg, if_true, if_false, lq, Nat.reduceAdd, Nat.reduceMul, Nat.reduceSub, Nat.reduceDiv, Nat.reduceMod, q', hs']
      · rw [sIr (by decide)]
        by_cases ex : x = i
        · rw [ex, sI1]
        · rw [sIn (Or.inr (by omega)), hU.i (by unfold kF; omega)]; exact i2 x (by omega)
    have mm : cpMax nM nM = nM := by decide
    have mlt : nM < nI 0 := by decide
    cases hj : jnd D a b
    · have hb0 := bro_jnd (D := D) (E := E) (c := k) (fm := a) (to := b) (h := E.h) (p := plN i) (q := poN i) hj
      have hwv : wv D E r k a b i = nM := by unfold wv; rw [hb0]; rw [if_neg (fun q => by cases q.2)]
      obtain ⟨f1, f2⟩ := fin T nM s Kp.rf (by rw [hwv]; exact mm) (by rw [if_pos mlt]; rfl)
      have hs : (if poN i < D.P then brS D E k a b E.h (plN i) (poN i) s else s) = s := by
        unfold brS; rw [hb0]; simp
      rw [hs]
      rw [hj] at f1
      refine ⟨_, ?_, f2⟩
      rw [fX4_learnStep_45]
      simp (disch := omega) only [lit, lm1, nI_add, pk_mul, nm_eq, nm_eq', nm_lt, nm_lt', nm_le, nm_le', x_lt, x_le, x_eq, x_in, x_cl, x_div, x_sub, x_rem, x_min, x_max, x_and, x_or, x_xor, x_df, x_shl, bI_0, bI_1, bI_bo, lg_eq, toL_inj, ls_nI, decide_eq_false_iff_not, decide_eq_true_eq, Bool.true_eq_false, Bool.false_eq_true, bq, if_pos, if_neg, if_true, if_false, lq, Nat.reduceAdd, Nat.reduceMul, Nat.reduceSub, Nat.reduceDiv, Nat.reduceMod, bI]
      exact f1
    · by_cases hP : poN i < D.P
      · rw [if_pos hP]
        unfold brS
        cases hbr : bro D E k a b E.h (plN i) (poN i)
        · have hwv : wv D E r k a b i = nM := by unfold wv; rw [hbr]; rw [if_neg (fun q => by cases q.2)]
          have hw0 : wyF D E (plN i) (poN i) k a b E.h ≠ 0 := fun q => by have := wy_bro.mp q; rw [hbr] at this; cases this
          obtain ⟨q1, q2, q3, q4, q5, q6⟩ := ng_pos (wyF D E (plN i) (poN i) k a b E.h) (by rcases wyF_cases D E (plN i) (poN i) k a b E.h with g | g | g | g; exact absurd g hw0; exact Or.inl g; exact Or.inr (Or.inl g); exact Or.inr (Or.inr g))
          have hmx : cpMax nM (ngI (wyF D E (plN i) (poN i) k a b E.h)) = nM := by
            rcases wyF_cases D E (plN i) (poN i) k a b E.h with g | g | g | g
            · exact absurd g hw0
            · rw [g]; decide
            · rw [g]; decide
            · rw [g]; decide
          have go : ∃ U, Kp kF T U ∧ fX4_learnStep_45 (nI k) (nI a) (nI b) (bI r) (nI (a * 6 + b)) (nI E.h) (bI true) (n + 1) (nI i) T = fX4_learnStep_137 (nI k) (nI a) (nI b) (bI r) (nI (a * 6 + b)) (nI E.h) (bI true) (nI i) (ngI (wyF D E (plN i) (poN i) k a b E.h)) (fX4_learnStep_45 (nI k) (nI a) (nI b) (bI r) (nI (a * 6 + b)) (nI E.h) (bI true) n) U := by
            cases r
            · obtain ⟨U, u1, u2, -⟩ := c_roadTaken hD hE cT (h := E.h) (p := plN i) (q := poN i) (by omega) hP hk ha hb
              rw [if_neg hw0] at u1
              refine ⟨U, u2, ?_⟩
              rw [fX4_learnStep_45]
              simp (disch := omega) only [lit, lm1, nI_add, pk_mul, nm_eq, nm_eq', nm_lt, nm_lt', nm_le, nm_le', x_lt, x_le, x_eq, x_in, x_cl, x_div, x_sub, x_rem, x_min, x_max, x_and, x_or, x_xor, x_df, x_shl, bI_0, bI_1, bI_bo, lg_eq, toL_inj, ls_nI, decide_eq_false_iff_not, decide_eq_true_eq, Bool.true_eq_false, Bool.false_eq_true, bq, if_pos, if_neg, if_true, if_false, lq, Nat.reduceAdd, Nat.reduceMul, Nat.reduceSub, Nat.reduceDiv, Nat.reduceMod, g1, g2, cT.hasPerson hD, u1]
            · obtain ⟨U, u1, u2⟩ := c_wearFrom hD hE cT (h := E.h) (p := plN i) (q := poN i) (by omega) hP hk ha hb
              rw [if_neg hw0] at u1
              refine ⟨U, u2, ?_⟩
              rw [fX4_learnStep_45]
              simp (disch := omega) only [lit, lm1, nI_add, pk_mul, nm_eq, nm_eq', nm_lt, nm_lt', nm_le, nm_le', x_lt, x_le, x_eq, x_in, x_cl, x_div, x_sub, x_rem, x_min, x_max, x_and, x_or, x_xor, x_df, x_shl, bI_0, bI_1, bI_bo, lg_eq, toL_inj, ls_nI, decide_eq_false_iff_not, decide_eq_true_eq, Bool.true_eq_false, Bool.false_eq_true, bq, if_pos, if_neg, if_true, if_false, lq, Nat.reduceAdd, Nat.reduceMul, Nat.reduceSub, Nat.reduceDiv, Nat.reduceMod, g1, g2, cT.hasPerson hD, u1]
          obtain ⟨U, u1, u2⟩ := go
          obtain ⟨f1, f2⟩ := fin U _ s u1 (by rw [hwv]; exact hmx) (by rw [if_pos (of_eq_true q2)]; rfl)
          rw [hj] at f1
          exact ⟨_, u2.trans f1, f2⟩
        · have hw0 : wyF D E (plN i) (poN i) k a b E.h = 0 := wy_bro.mpr hbr
          obtain ⟨-, -, rr, hr, hrR⟩ := wyF_0 hw0
          have go : ∃ U w, Kp kF T U ∧ cpMax nM w = wv D E r k a b i ∧ ¬ w < nI 0 ∧ fX4_learnStep_45 (nI k) (nI a) (nI b) (bI r) (nI (a * 6 + b)) (nI E.h) (bI true) (n + 1) (nI i) T = fX4_learnStep_137 (nI k) (nI a) (nI b) (bI r) (nI (a * 6 + b)) (nI E.h) (bI true) (nI i) w (fX4_learnStep_45 (nI k) (nI a) (nI b) (bI r) (nI (a * 6 + b)) (nI E.h) (bI true) n) U := by
            cases r
            · obtain ⟨U, u1, u2, -⟩ := c_roadTaken hD hE cT (h := E.h) (p := plN i) (q := poN i) (by omega) hP hk ha hb
              rw [if_pos hw0] at u1
              refine ⟨U, nI ((rdT D (plN i) (poN i) k a b E.h).getD 0), u2, ?_, ?_, ?_⟩
              · have hv : wv D E false k a b i = nI ((rdT D (plN i) (poN i) k a b E.h).getD 0) := by
                  unfold wv
                  rw [if_pos (show poN i < D.P ∧ bro D E k a b E.h (plN i) (poN i) = true from ⟨hP, hbr⟩)]; rfl
                rw [hv, hr]
                exact if_pos (of_eq_true (nm_lt (a := rr) (by omega)))
              · rw [hr]; exact nI_pos (by show rr < 2 ^ 31; omega)
              · rw [fX4_learnStep_45]
                simp (disch := omega) only [lit, lm1, nI_add, pk_mul, nm_eq, nm_eq', nm_lt, nm_lt', nm_le, nm_le', x_lt, x_le, x_eq, x_in, x_cl, x_div, x_sub, x_rem, x_min, x_max, x_and, x_or, x_xor, x_df, x_shl, bI_0, bI_1, bI_bo, lg_eq, toL_inj, ls_nI, decide_eq_false_iff_not, decide_eq_true_eq, Bool.true_eq_false, Bool.false_eq_true, bq, if_pos, if_neg, if_true, if_false, lq, Nat.reduceAdd, Nat.reduceMul, Nat.reduceSub, Nat.reduceDiv, Nat.reduceMod, g1, g2, cT.hasPerson hD, u1]
            · obtain ⟨U, u1, u2⟩ := c_wearFrom hD hE cT (h := E.h) (p := plN i) (q := poN i) (by omega) hP hk ha hb
              rw [if_pos hw0] at u1
              obtain ⟨n', n9, hn'⟩ := wnF_sp D (plN i) (poN i) k a b E.h
              refine ⟨U, wnF D (plN i) (poN i) k a b E.h, u2, ?_, ?_, ?_⟩
              · have hv : wv D E true k a b i = wnF D (plN i) (poN i) k a b E.h := by
                  unfold wv
                  rw [if_pos (show poN i < D.P ∧ bro D E k a b E.h (plN i) (poN i) = true from ⟨hP, hbr⟩)]; rfl
                rw [hv, hn']
                exact if_pos (of_eq_true (nm_lt (a := n') (by omega)))
              · rw [hn']; exact nI_pos (by omega)
              · rw [fX4_learnStep_45]
                simp (disch := omega) only [lit, lm1, nI_add, pk_mul, nm_eq, nm_eq', nm_lt, nm_lt', nm_le, nm_le', x_lt, x_le, x_eq, x_in, x_cl, x_div, x_sub, x_rem, x_min, x_max, x_and, x_or, x_xor, x_df, x_shl, bI_0, bI_1, bI_bo, lg_eq, toL_inj, ls_nI, decide_eq_false_iff_not, decide_eq_true_eq, Bool.true_eq_false, Bool.false_eq_true, bq, if_pos, if_neg, if_true, if_false, lq, Nat.reduceAdd, Nat.reduceMul, Nat.reduceSub, Nat.reduceDiv, Nat.reduceMod, g1, g2, cT.hasPerson hD, u1]
          obtain ⟨U, w, u1, u2, u3, u4⟩ := go
          obtain ⟨f1, f2⟩ := fin U w (s + 1) u1 u2 (by rw [if_neg u3])
          rw [hj] at f1
          exact ⟨_, u4.trans f1, f2⟩
      · rw [if_neg hP]
        have hwv : wv D E r k a b i = nM := by unfold wv; rw [if_neg (fun q => hP q.1)]
        obtain ⟨f1, f2⟩ := fin T nM s Kp.rf (by rw [hwv]; exact mm) (by rw [if_pos mlt]; rfl)
        rw [hj] at f1
        refine ⟨_, ?_, f2⟩
        rw [fX4_learnStep_45]
        simp (disch := omega) only [lit, lm1, nI_add, pk_mul, nm_eq, nm_eq', nm_lt, nm_lt', nm_le, nm_le', x_lt, x_le, x_eq, x_in, x_cl, x_div, x_sub, x_rem, x_min, x_max, x_and, x_or, x_xor, x_df, x_shl, bI_0, bI_1, bI_bo, lg_eq, toL_inj, ls_nI, decide_eq_false_iff_not, decide_eq_true_eq, Bool.true_eq_false, Bool.false_eq_true, bq, if_pos, if_neg, if_true, if_false, lq, Nat.reduceAdd, Nat.reduceMul, Nat.reduceSub, Nat.reduceDiv, Nat.reduceMod, g2, cT.hasPerson hD]
        exact f1
  · rw [fX4_learnStep_45]
    simp (disch := omega) only [lit, lm1, nI_add, pk_mul, nm_eq, nm_eq', nm_lt, nm_lt', nm_le, nm_le', x_lt, x_le, x_eq, x_in, x_cl, x_div, x_sub, x_rem, x_min, x_max, x_and, x_or, x_xor, x_df, x_shl, bI_0, bI_1, bI_bo, lg_eq, toL_inj, ls_nI, decide_eq_false_iff_not, decide_eq_true_eq, Bool.true_eq_false, Bool.false_eq_true, bq, if_pos, if_neg, if_true, if_false, lq, Nat.reduceAdd, Nat.reduceMul, Nat.reduceSub, Nat.reduceDiv, Nat.reduceMod]
theorem c_learnStep (hD : D.WF) (hE : E.WF D) (c : cA D E S) {k a b : Nat} {r : Bool} (hk : k < D.C) (ha : a < D.K) (hb : b < D.K) : ∃ T, fX4_learnStep (nI k) (nI a) (nI b) (bI r) S = some ((), T) ∧ T.1 121 (a * 6 + b) = nI (brN D E k a b E.h) ∧ (∀ i, i < 28 → T.1 120 ((a * 6 + b) * 28 + i) = wv D E r k a b i) ∧ Kp (kSt (a * 6 + b)) S T := by
  have k6 := hD.k6
  have k0 : Kp (kSt (a * 6 + b)) S (cpI S 121 (a * 6 + b) (nI 0)) := Kp.rf.I (by exact Or.inr (Or.inl ⟨rfl, rfl⟩))
  obtain ⟨T, t1, t2, t3, t4⟩ := c_step45 hD hE (c.cc (k0.le (fun _ _ h => kL_C (kSt_L h)))) (r := r) hk ha hb sI1
  refine ⟨T, ?_, t2, t3, k0.tr t4⟩
  unfold fX4_learnStep
  simp (disch := omega) only [lit, lm1, nI_add, pk_mul, nm_eq, nm_eq', nm_lt, nm_lt', nm_le, nm_le', x_lt, x_le, x_eq, x_in, x_cl, x_div, x_sub, x_rem, x_min, x_max, x_and, x_or, x_xor, x_df, x_shl, bI_0, bI_1, bI_bo, lg_eq, toL_inj, ls_nI, decide_eq_false_iff_not, decide_eq_true_eq, Bool.true_eq_false, Bool.false_eq_true, bq, if_pos, if_neg, if_true, if_false, lq, Nat.reduceAdd, Nat.reduceMul, Nat.reduceSub, Nat.reduceDiv, Nat.reduceMod, c.h, c_joined hD c (show a < 2 ^ 31 by omega) (show b < 2 ^ 31 by omega)]
  exact t1
theorem c_learn (hD : D.WF) (hE : E.WF D) (c : cA D E S) {k : Nat} (r : Bool) (hk : k < D.C) : ∃ T, fX4_learn (nI k) (bI r) S = some ((), T) ∧ lrn D E r k T ∧ Kp kL S T := by
  have k6 := hD.k6
  unfold fX4_learn
  simp only [lit]
  have := up_lpR (F := fun n i (T : cpS) => fX4_learn_2 (nI k) (bI r) n i T) (K := fun T => some ((), T)) D.K (fun _ (s : Unit) => s) (fun i _ T => (∀ a b, a < i → b < D.K → T.1 121 (a * 6 + b) = nI (brN D E k a b E.h)) ∧ (∀ a b x, a < i → b < D.K → x < 28 → T.1 120 ((a * 6 + b) * 28 + x) = wv D E r k a b x) ∧ Kp kL S T) (by omega) (fun n i s T hi hI => ?_) (fun n s T hI => ?_) (i0 := 0) (s := ()) (a := S) (Nat.zero_le _) ⟨fun a b ha => absurd ha (by omega), fun a b x ha => absurd ha (by omega), Kp.rf⟩
  · obtain ⟨T, t1, t2, t3, t4⟩ := this
    exact ⟨T, t1, ⟨t2, t3⟩, t4⟩
  · obtain ⟨i1, i2, i3⟩ := hI
    have inner : ∃ U, fX4_learn_13 (nI k) (bI r) (nI i) (fX4_learn_2 (nI k) (bI r) n) cpFu (nI 0) T = fX4_learn_2 (nI k) (bI r) n (nI (i + 1)) U ∧ (∀ a b, (a < i ∧ b < D.K) ∨ (a = i ∧ b < D.K) → U.1 121 (a * 6 + b) = nI (brN D E k a b E.h)) ∧ (∀ a b x, (a < i ∧ b < D.K) ∨ (a = i ∧ b < D.K) → x < 28 → U.1 120 ((a * 6 + b) * 28 + x) = wv D E r k a b x) ∧ Kp kL S U := by
      refine up_lpR (F := fun n j (T : cpS) => fX4_learn_13 (nI k) (bI r) (nI i) _ n j T) (K := fun U => fX4_learn_2 (nI k) (bI r) n (nI (i + 1)) U) D.K (fun _ (s : Unit) => s) (fun j _ U => (∀ a b, (a < i ∧ b < D.K) ∨ (a = i ∧ b < j) → U.1 121 (a * 6 + b) = nI (brN D E k a b E.h)) ∧ (∀ a b x, (a < i ∧ b < D.K) ∨ (a = i ∧ b < j) → x < 28 → U.1 120 ((a * 6 + b) * 28 + x) = wv D E r k a b x) ∧ Kp kL S U) (by omega) (fun n' j s U hj hJ => ?_) (fun n' s U hJ => ?_) (i0 := 0) (s := ()) (a := T) (Nat.zero_le _) ⟨fun a b h => i1 a b (by omega) (by omega), fun a b x h hx => i2 a b x (by omega) (by omega) hx, i3⟩
      · obtain ⟨j1, j2, j3⟩ := hJ
        have cU : cA D E U := c.cc (j3.le (fun _ _ => kL_C))
        obtain ⟨V, v1, v2, v3, v4⟩ := c_learnStep hD hE cU (r := r) hk hi hj
        refine ⟨V, ?_, fun a b h => ?_, fun a b x h hx => ?_, j3.tr (v4.le (fun _ _ => kSt_L))⟩
        · rw [fX4_learn_13]
          unfold fX4_places
          simp (disch := omega) only [lit, lm1, nI_add, pk_mul, nm_eq, nm_eq', nm_lt, nm_lt', nm_le, nm_le', x_lt, x_le, x_eq, x_in, x_cl, x_div, x_sub, x_rem, x_min, x_max, x_and, x_or, x_xor, x_df, x_shl, bI_0, bI_1, bI_bo, lg_eq, toL_inj, ls_nI, decide_eq_false_iff_not, decide_eq_true_eq, Bool.true_eq_false, Bool.false_eq_true, bq, if_pos, if_neg, if_true, if_false, lq, Nat.reduceAdd, Nat.reduceMul, Nat.reduceSub, Nat.reduceDiv, Nat.reduceMod, cU.K, v1]
        · by_cases e : a = i ∧ b = j
          · rw [e.1, e.2]; exact v2
          · rw [v4.i (by unfold kSt kF; omega)]; exact j1 a b (by omega)
        · by_cases e : a = i ∧ b = j
          · rw [e.1, e.2]; exact v3 x hx
          · rw [v4.i (by unfold kSt kF; omega)]; exact j2 a b x (by omega) hx
      · have cU : cA D E U := c.cc (hJ.2.2.le (fun _ _ => kL_C))
        rw [fX4_learn_13]
        unfold fX4_places
        simp (disch := omega) only [lit, lm1, nI_add, pk_mul, nm_eq, nm_eq', nm_lt, nm_lt', nm_le, nm_le', x_lt, x_le, x_eq, x_in, x_cl, x_div, x_sub, x_rem, x_min, x_max, x_and, x_or, x_xor, x_df, x_shl, bI_0, bI_1, bI_bo, lg_eq, toL_inj, ls_nI, decide_eq_false_iff_not, decide_eq_true_eq, Bool.true_eq_false, Bool.false_eq_true, bq, if_pos, if_neg, if_true, if_false, lq, Nat.reduceAdd, Nat.reduceMul, Nat.reduceSub, Nat.reduceDiv, Nat.reduceMod, cU.K]
    obtain ⟨U, u1, u2, u3, u4⟩ := inner
    have cT : cA D E T := c.cc (i3.le (fun _ _ => kL_C))
    refine ⟨U, ?_, fun a b ha hb => u2 a b (by omega), fun a b x ha hb hx => u3 a b x (by omega) hx, u4⟩
    rw [fX4_learn_2]
    unfold fX4_places
    simp (disch := omega) only [lit, lm1, nI_add, pk_mul, nm_eq, nm_eq', nm_lt, nm_lt', nm_le, nm_le', x_lt, x_le, x_eq, x_in, x_cl, x_div, x_sub, x_rem, x_min, x_max, x_and, x_or, x_xor, x_df, x_shl, bI_0, bI_1, bI_bo, lg_eq, toL_inj, ls_nI, decide_eq_false_iff_not, decide_eq_true_eq, Bool.true_eq_false, Bool.false_eq_true, bq, if_pos, if_neg, if_true, if_false, lq, Nat.reduceAdd, Nat.reduceMul, Nat.reduceSub, Nat.reduceDiv, Nat.reduceMod, cT.K]
    exact u1
  · have cT : cA D E T := c.cc (hI.2.2.le (fun _ _ => kL_C))
    rw [fX4_learn_2]
    unfold fX4_places
    simp (disch := omega) only [lit, lm1, nI_add, pk_mul, nm_eq, nm_eq', nm_lt, nm_lt', nm_le, nm_le', x_lt, x_le, x_eq, x_in, x_cl, x_div, x_sub, x_rem, x_min, x_max, x_and, x_or, x_xor, x_df, x_shl, bI_0, bI_1, bI_bo, lg_eq, toL_inj, ls_nI, decide_eq_false_iff_not, decide_eq_true_eq, Bool.true_eq_false, Bool.false_eq_true, bq, if_pos, if_neg, if_true, if_false, lq, Nat.reduceAdd, Nat.reduceMul, Nat.reduceSub, Nat.reduceDiv, Nat.reduceMod, cT.K]
/-! the reference -/
def brX (D : cpD) (E : cpE) (c a b : Nat) : Nat := if a < D.K ∧ b < D.K then brN D E c a b E.h else 0
def brs (D : cpD) (E : cpE) (c : Nat) (S : cpS) : Prop := ∀ a b, a < 6 → b < 6 → S.1 159 (6 * a + b) = nI (brX D E c a b)
def kB (q j : Nat) : Prop := q = 159 ∨ kH q j
def kBG (q j : Nat) : Prop := q = 159 ∨ kG q j
theorem kBG_M {k j : Nat} (h : kBG k j) : kM k j := by
  rcases h with rfl | h
  · exact ⟨scr_c (by decide) (by decide) (by decide) j, by decide⟩
  · exact kG_M h
theorem brX_le (hP : D.P ≤ 8) (c a b : Nat) : brX D E c a b ≤ 28 := by
  unfold brX
  split
  · exact brN_le E hP _ _ _ _
  · omega
theorem mF.B {T : cpS} {h : Nat} (m : mF D E S h) (hD : D.WF) (g : Kp kB S T) : mF D E T h := m.kp hD g (fun k j q => by unfold kB kH at q; omega)
theorem m_bears21 (hD : D.WF) (hE : E.WF D) (m : mF D E S E.h) {k a : Nat} (hk : k < D.C) (ha : a < 6) (h0 : ∀ x y, x < a → y < 6 → S.1 159 (6 * x + y) = nI (brX D E k x y)) (kk : Int32 → cpS → Option (Unit × cpS)) : ∃ T, fX12_laysBears_21 (nI k) (nI a) kk cpFu (nI 0) S = kk (nI (a + 1)) T ∧ (∀ x y, x < a + 1 → y < 6 → T.1 159 (6 * x + y) = nI (brX D E k x y)) ∧ Kp kB S T := by
  have k6 := hD.k6
  have p8 := hD.p8
  have := up_lpR (F := fun n b (T : cpS) => fX12_laysBears_21 (nI k) (nI a) kk n b T) (K := fun T => kk (nI (a + 1)) T) 6 (fun _ (s : Unit) => s) (fun b _ T => (∀ x y, (x < a ∧ y < 6) ∨ (x = a ∧ y < b) → T.1 159 (6 * x + y) = nI (brX D E k x y)) ∧ Kp kB S T) (by decide) (fun n b s T hb hI => ?_) (fun n s T hI => ?_) (i0 := 0) (s := ()) (a := S) (Nat.zero_le _) ⟨fun x y hx => h0 x y (by omega) (by omega), Kp.rf⟩
  · obtain ⟨T, t1, t2, t3⟩ := this
    exact ⟨T, t1, fun x y hx hy => t2 x y (by omega), t3⟩
  · obtain ⟨i1, i2⟩ := hI
    have mT := m.B hD i2
    have fin : ∀ U : cpS, Kp kH T U → fX12_laysBears_21 (nI k) (nI a) kk (n + 1) (nI b) T = fX12_laysBears_21 (nI k) (nI a) kk n (nI (b + 1)) (cpI U 159 (6 * a + b) (nI (brX D E k a b))) → ∃ a', fX12_laysBears_21 (nI k) (nI a) kk (n + 1) (nI b) T = fX12_laysBears_21 (nI k) (nI a) kk n (nI (b + 1)) a' ∧ (∀ x y, (x < a ∧ y < 6) ∨ (x = a ∧ y < b + 1) → a'.1 159 (6 * x + y) = nI (brX D E k x y)) ∧ Kp kB S a' := fun U hU he => by
      refine ⟨_, he, fun x y hx => ?_, (i2.tr (hU.le (fun _ _ q => Or.inr q))).I (by exact Or.inl rfl)⟩
      by_cases e : x = a ∧ y = b
      · rw [e.1, e.2]; exact sI1
      · rw [sIn (Or.inr (by omega)), hU.i (by unfold kH; omega)]; exact i1 x y (by omega)
    by_cases h1 : a < D.K
    · by_cases h2 : b < D.K
      · obtain ⟨U, u1, u2⟩ := m_bearersOf hD hE mT hk h1 h2
        refine fin U u2 ?_
        have e : brX D E k a b = brN D E k a b E.h := if_pos ⟨h1, h2⟩
        rw [e, fX12_laysBears_21]
        simp (disch := omega) only [lit, lm1, nI_add, pk_mul, nm_eq, nm_eq', nm_lt, nm_lt', nm_le, nm_le', x_lt, x_le, x_eq, x_in, x_cl, x_div, x_sub, x_rem, x_min, x_max, x_and, x_or, x_xor, x_df, x_shl, bI_0, bI_1, bI_bo, lg_eq, toL_inj, ls_nI, decide_eq_false_iff_not, decide_eq_true_eq, Bool.true_eq_false, Bool.false_eq_true, bq, if_pos, if_neg, if_true, if_false, lq, Nat.reduceAdd, Nat.reduceMul, Nat.reduceSub, Nat.reduceDiv, Nat.reduceMod, mT.1.isPlace hD, u1]
      · refine fin T Kp.rf ?_
        have e : brX D E k a b = 0 := if_neg (fun q => h2 q.2)
        rw [e, fX12_laysBears_21]
        simp (disch := omega) only [lit, lm1, nI_add, pk_mul, nm_eq, nm_eq', nm_lt, nm_lt', nm_le, nm_le', x_lt, x_le, x_eq, x_in, x_cl, x_div, x_sub, x_rem, x_min, x_max, x_and, x_or, x_xor, x_df, x_shl, bI_0, bI_1, bI_bo, lg_eq, toL_inj, ls_nI, decide_eq_false_iff_not, decide_eq_true_eq, Bool.true_eq_false, Bool.false_eq_true, bq, if_pos, if_neg, if_true, if_false, lq, Nat.reduceAdd, Nat.reduceMul, Nat.reduceSub, Nat.reduceDiv, Nat.reduceMod, mT.1.isPlace hD, h2, not_false_eq_true]
    · refine fin T Kp.rf ?_
      have e : brX D E k a b = 0 := if_neg (fun q => h1 q.1)
      rw [e, fX12_laysBears_21]
      simp (disch := omega) only [lit, lm1, nI_add, pk_mul, nm_eq, nm_eq', nm_lt, nm_lt', nm_le, nm_le', x_lt, x_le, x_eq, x_in, x_cl, x_div, x_sub, x_rem, x_min, x_max, x_and, x_or, x_xor, x_df, x_shl, bI_0, bI_1, bI_bo, lg_eq, toL_inj, ls_nI, decide_eq_false_iff_not, decide_eq_true_eq, Bool.true_eq_false, Bool.false_eq_true, bq, if_pos, if_neg, if_true, if_false, lq, Nat.reduceAdd, Nat.reduceMul, Nat.reduceSub, Nat.reduceDiv, Nat.reduceMod, mT.1.isPlace hD, h1, not_false_eq_true]
  · rw [fX12_laysBears_21]
    simp (disch := omega) only [lit, lm1, nI_add, pk_mul, nm_eq, nm_eq', nm_lt, nm_lt', nm_le, nm_le', x_lt, x_le, x_eq, x_in, x_cl, x_div, x_sub, x_rem, x_min, x_max, x_and, x_or, x_xor, x_df, x_shl, bI_0, bI_1, bI_bo, lg_eq, toL_inj, ls_nI, decide_eq_false_iff_not, decide_eq_true_eq, Bool.true_eq_false, Bool.false_eq_true, bq, if_pos, if_neg, if_true, if_false, lq, Nat.reduceAdd, Nat.reduceMul, Nat.reduceSub, Nat.reduceDiv, Nat.reduceMod]
theorem m_laysBears (hD : D.WF) (hE : E.WF D) (m : mA D E S) {k : Nat} (hk : k < D.C) : ∃ T, fX12_laysBears (nI k) S = some ((), T) ∧ brs D E k T ∧ mF D E T E.h ∧ Kp kBG S T := by
  obtain ⟨A, a1, a2, a3⟩ := m_laysNow hD m E.h
  have := up_lpR (F := fun n b (T : cpS) => fX12_laysBears_13 (nI k) n b T) (K := fun T => some ((), T)) 6 (fun _ (s : Unit) => s) (fun b _ T => (∀ x y, x < b → y < 6 → T.1 159 (6 * x + y) = nI (brX D E k x y)) ∧ Kp kB A T) (by decide) (fun n b s T hb hI => ?_) (fun n s T hI => ?_) (i0 := 0) (s := ()) (a := A) (Nat.zero_le _) ⟨fun x y hx _ => absurd hx (by omega), Kp.rf⟩
  · obtain ⟨T, t1, t2, t3⟩ := this
    refine ⟨T, ?_, t2, a2.B hD t3, (a3.le (fun _ _ q => Or.inr q)).tr (t3.le (fun q j h => ?_))⟩
    · unfold fX12_laysBears
      simp (disch := omega) only [lit, lm1, nI_add, pk_mul, nm_eq, nm_eq', nm_lt, nm_lt', nm_le, nm_le', x_lt, x_le, x_eq, x_in, x_cl, x_div, x_sub, x_rem, x_min, x_max, x_and, x_or, x_xor, x_df, x_shl, bI_0, bI_1, bI_bo, lg_eq, toL_inj, ls_nI, decide_eq_false_iff_not, decide_eq_true_eq, Bool.true_eq_false, Bool.false_eq_true, bq, if_pos, if_neg, if_true, if_false, lq, Nat.reduceAdd, Nat.reduceMul, Nat.reduceSub, Nat.reduceDiv, Nat.reduceMod, m.h, a1]
      exact t1
    · rcases h with h | h
      · exact Or.inl h
      · exact Or.inr (kH_G h)
  · obtain ⟨i1, i2⟩ := hI
    obtain ⟨U, u1, u2, u3⟩ := m_bears21 hD hE (a2.B hD i2) hk hb i1 (fX12_laysBears_13 (nI k) n)
    refine ⟨U, ?_, u2, i2.tr u3⟩
    rw [fX12_laysBears_13]
    simp (disch := omega) only [lit, lm1, nI_add, pk_mul, nm_eq, nm_eq', nm_lt, nm_lt', nm_le, nm_le', x_lt, x_le, x_eq, x_in, x_cl, x_div, x_sub, x_rem, x_min, x_max, x_and, x_or, x_xor, x_df, x_shl, bI_0, bI_1, bI_bo, lg_eq, toL_inj, ls_nI, decide_eq_false_iff_not, decide_eq_true_eq, Bool.true_eq_false, Bool.false_eq_true, bq, if_pos, if_neg, if_true, if_false, lq, Nat.reduceAdd, Nat.reduceMul, Nat.reduceSub, Nat.reduceDiv, Nat.reduceMod, u1]
  · rw [fX12_laysBears_13]
    simp (disch := omega) only [lit, lm1, nI_add, pk_mul, nm_eq, nm_eq', nm_lt, nm_lt', nm_le, nm_le', x_lt, x_le, x_eq, x_in, x_cl, x_div, x_sub, x_rem, x_min, x_max, x_and, x_or, x_xor, x_df, x_shl, bI_0, bI_1, bI_bo, lg_eq, toL_inj, ls_nI, decide_eq_false_iff_not, decide_eq_true_eq, Bool.true_eq_false, Bool.false_eq_true, bq, if_pos, if_neg, if_true, if_false, lq, Nat.reduceAdd, Nat.reduceMul, Nat.reduceSub, Nat.reduceDiv, Nat.reduceMod]
end LE
