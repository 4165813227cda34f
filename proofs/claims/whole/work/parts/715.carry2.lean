/-! the reference: words, roads, what wears -/
def kH (k _ : Nat) : Prop := k = 156 ∨ k = 157
def kG (k j : Nat) : Prop := k = 155 ∨ k = 156 ∨ k = 157 ∨ (k = 150 ∧ j = 19)
theorem kH_G {k j : Nat} (h : kH k j) : kG k j := by
  rcases h with h | h
  · exact Or.inr (Or.inl h)
  · exact Or.inr (Or.inr (Or.inl h))
theorem kG_M {k j : Nat} (h : kG k j) : kM k j := by
  rcases h with rfl | rfl | rfl | ⟨rfl, rfl⟩
  · exact ⟨scr_c (by decide) (by decide) (by decide) j, by decide⟩
  · exact ⟨scr_c (by decide) (by decide) (by decide) j, by decide⟩
  · exact ⟨scr_c (by decide) (by decide) (by decide) j, by decide⟩
  · exact ⟨⟨by decide, by decide, by decide⟩, by decide⟩
theorem kH_ne {k j : Nat} (h : kH k j) : k ≠ 151 := by unfold kH at h; omega
theorem kG_ne {k j : Nat} (h : kG k j) : k ≠ 151 := by unfold kG at h; omega
/-- the reference, ready for an hour -/
def mF (D : cpD) (E : cpE) (S : cpS) (h : Nat) : Prop := mA D E S ∧ fr S (cpFar D.rd D.R) ∧ S.1 150 19 = nI h
section CZ
variable {D : cpD} {E : cpE} {S : cpS}
theorem mF.kp {T : cpS} {h : Nat} (m : mF D E S h) (hD : D.WF) {f : Nat → Nat → Prop} (g : Kp f S T) (hf : ∀ k j, f k j → k ≠ 151 ∧ k ≠ 155 ∧ (k = 150 → j ≠ 19)) : mF D E T h := by
  refine ⟨m.1.kp hD g (fun k j q => (hf k j q).1), fun a b ha hb => ?_, ?_⟩
  · rw [g.i (fun q => (hf _ _ q).2.1 rfl)]; exact m.2.1 a b ha hb
  · rw [g.i (fun q => (hf _ _ q).2.2 rfl rfl)]; exact m.2.2
theorem mF.H {T : cpS} {h : Nat} (m : mF D E S h) (hD : D.WF) (g : Kp kH S T) : mF D E T h := m.kp hD g (fun k j q => by unfold kH at q; omega)
theorem m_laysNow (hD : D.WF) (m : mA D E S) (h : Nat) : ∃ T, fX12_laysNow (nI h) S = some ((), T) ∧ mF D E T h ∧ Kp kG S T := by
  obtain ⟨A, a1, a2, a3⟩ := m_laysFar hD m
  have k1 : Kp kG S A := a3.le (fun _ _ q => Or.inl q)
  refine ⟨cpI A 150 19 (nI h), ?_, ⟨m.kp hD (k1.I (by exact Or.inr (Or.inr (Or.inr ⟨rfl, rfl⟩)))) (fun _ _ => kG_ne), fun a b ha hb => ?_, sI1⟩, k1.I (by exact Or.inr (Or.inr (Or.inr ⟨rfl, rfl⟩)))⟩
  · unfold fX12_laysNow
    simp (disch := omega) only [lit, lm1, nI_add, pk_mul, nm_eq, nm_eq', nm_lt, nm_lt', nm_le, nm_le', x_lt, x_le, x_eq, x_in, x_cl, x_div, x_sub, x_rem, x_min, x_max, x_and, x_or, x_xor, x_df, x_shl, bI_0, bI_1, bI_bo, lg_eq, toL_inj, ls_nI, decide_eq_false_iff_not, decide_eq_true_eq, Bool.true_eq_false, Bool.false_eq_true, bq, if_pos, if_neg, if_true, if_false, lq, Nat.reduceAdd, Nat.reduceMul, Nat.reduceSub, Nat.reduceDiv, Nat.reduceMod, a1]
  · rw [sIr (by decide)]; exact a2 a b ha hb
theorem m_longOf (hD : D.WF) (m : mA D E S) {r : Nat} (hr : r < D.R) : fX12_longOf (nI r) S = some (nI (D.rd r).2.2, S) := by
  have r9 := hD.r9
  unfold fX12_longOf
  simp (disch := omega) only [lit, lm1, nI_add, pk_mul, nm_eq, nm_eq', nm_lt, nm_lt', nm_le, nm_le', x_lt, x_le, x_eq, x_in, x_cl, x_div, x_sub, x_rem, x_min, x_max, x_and, x_or, x_xor, x_df, x_shl, bI_0, bI_1, bI_bo, lg_eq, toL_inj, ls_nI, decide_eq_false_iff_not, decide_eq_true_eq, Bool.true_eq_false, Bool.false_eq_true, bq, if_pos, if_neg, if_true, if_false, lq, Nat.reduceAdd, Nat.reduceMul, Nat.reduceSub, Nat.reduceDiv, Nat.reduceMod, m.r3]
theorem m_laysWords (hD : D.WF) {p q c fm r h : Nat} (m : mF D E S h) (hp : p < D.P) (hq : q < D.P) (hc : c < D.C) (hf : fm < D.K) (hr : r < D.R) : ∃ T, fX12_laysWords (nI p) (nI q) (nI c) (nI fm) (nI r) S = some ((), T) ∧ Kp kH S T ∧ ∀ j, j < 6 → T.1 157 j = fw D p q c fm r h j := by
  have p8 := hD.p8
  have c4 := hD.c4
  have k6 := hD.k6
  obtain ⟨a1, a2⟩ := hD.hm p hp
  obtain ⟨b1, b2⟩ := hD.hm q hq
  have t1 : Kp kH S (cpI S 157 0 (nI (D.st p + D.st q))) := Kp.rf.I (by exact Or.inr rfl)
  have t2 := t1.I (k := 157) (j := 1) (x := nI (D.wt c)) (by exact Or.inr rfl)
  have t3 := t2.I (k := 157) (j := 2) (x := nI (cpFar D.rd D.R (D.hm p) fm + cpFar D.rd D.R (D.hm q) fm)) (by exact Or.inr rfl)
  have t4 := t3.I (k := 157) (j := 3) (x := nI (D.rd r).2.2) (by exact Or.inr rfl)
  have t5 := t4.I (k := 157) (j := 4) (x := nI h) (by exact Or.inr rfl)
  have t6 := t5.I (k := 157) (j := 5) (x := nI (min (D.st p) (D.st q))) (by exact Or.inr rfl)
  have m0 := m.1
  have m1 := m.H hD t1
  have m2 := m.H hD t2
  have m3 := m.H hD t3
  have m4 := m.H hD t4
  have f1 : (cpI (cpI S 157 0 (nI (D.st p + D.st q))) 157 1 (nI (D.wt c))).1 155 (6 * fm + D.hm p) = nI (cpFar D.rd D.R (D.hm p) fm) := by rw [(m2.2.1 fm (D.hm p) (by omega) (by omega)).1, far_sy _ _ (show fm < 6 by omega) (show D.hm p < 6 by omega)]
  have f2 : (cpI (cpI S 157 0 (nI (D.st p + D.st q))) 157 1 (nI (D.wt c))).1 155 (6 * fm + D.hm q) = nI (cpFar D.rd D.R (D.hm q) fm) := by rw [(m2.2.1 fm (D.hm q) (by omega) (by omega)).1, far_sy _ _ (show fm < 6 by omega) (show D.hm q < 6 by omega)]
  refine ⟨_, ?_, t6, fun j h1 => ?_⟩
  · unfold fX12_laysWords
    simp (disch := omega) only [lit, lm1, nI_add, pk_mul, nm_eq, nm_eq', nm_lt, nm_lt', nm_le, nm_le', x_lt, x_le, x_eq, x_in, x_cl, x_div, x_sub, x_rem, x_min, x_max, x_and, x_or, x_xor, x_df, x_shl, bI_0, bI_1, bI_bo, lg_eq, toL_inj, ls_nI, decide_eq_false_iff_not, decide_eq_true_eq, Bool.true_eq_false, Bool.false_eq_true, bq, if_pos, if_neg, if_true, if_false, lq, Nat.reduceAdd, Nat.reduceMul, Nat.reduceSub, Nat.reduceDiv, Nat.reduceMod, m0.st, m1.1.wt, m2.1.hm, f1, f2, m_longOf hD m3.1 hr, m4.2.2]
    by_cases e : D.st q ≤ D.st p
    · rw [if_pos e, Nat.min_eq_right e]
    · rw [if_neg e, Nat.min_eq_left (by omega)]
  · have : j = 0 ∨ j = 1 ∨ j = 2 ∨ j = 3 ∨ j = 4 ∨ j = 5 := by omega
    rcases this with rfl | rfl | rfl | rfl | rfl | rfl <;> simp (disch := omega) only [sI1, sIn] <;> rfl
theorem kH156 {k j : Nat} (h : k156 k j) : kH k j := Or.inl h
theorem m_mayBy (hD : D.WF) {p q c fm r h : Nat} (m : mF D E S h) (hp : p < D.P) (hq : q < D.P) (hc : c < D.C) (hf : fm < D.K) (hr : r < D.R) : ∃ T, fX12_mayBy (nI p) (nI q) (nI c) (nI fm) (nI r) S = some (bI (may D p q c fm r h), T) ∧ Kp kH S T := by
  obtain ⟨A, a1, a2, a3⟩ := m_laysWords hD m hp hq hc hf hr
  have mA' := m.H hD a2
  obtain ⟨l1, l2⟩ := mA'.1.1.la
  obtain ⟨l5, l6, l7, l8, l9⟩ := hD.la
  have e5 : A.1 151 5 = (if D.ta = true then 1 else 0) := l1
  cases ht : D.ta with
  | true =>
    obtain ⟨f, f1, f2, f3, f4⟩ := l2 ht
    have f2' : A.1 151 (7 + 0) = nI f := f2
    have f3' : A.1 151 (9 + 0) = nI D.la.length := f3
    obtain ⟨T, t1, t2, t3, t4⟩ := m_reckonL (w := fw D p q c fm r h) (law := 0) (fm := f) (L := D.la.length) (by decide) f1 D.la 0 [] [] cpFu A (by omega) f3' f2' (fun j hj => by have := f4 j hj; rw [Nat.zero_add] at this; rw [Nat.zero_add]; exact this) l8 trivial trivial a3 (by show _ < 5000; omega)
    obtain ⟨e1, -⟩ := rkV_sp t3
    rw [e1] at t2
    have t0 : T.1 156 0 = rkV (fw D p q c fm r h) D.la := t2.1
    rw [t0, may_0 hD] at t1
    have t1' : fX12_reckons (nI 0) A = some (bI (may D p q c fm r h), T) := by
      unfold fX12_reckons
      simp only [lit]
      exact t1
    have e5' : A.1 151 5 = nI 1 := by rw [e5, ht]; rfl
    refine ⟨T, ?_, a2.tr (t4.le (fun _ _ => kH156))⟩
    unfold fX12_mayBy
    simp (disch := omega) only [lit, lm1, nI_add, pk_mul, nm_eq, nm_eq', nm_lt, nm_lt', nm_le, nm_le', x_lt, x_le, x_eq, x_in, x_cl, x_div, x_sub, x_rem, x_min, x_max, x_and, x_or, x_xor, x_df, x_shl, bI_0, bI_1, bI_bo, lg_eq, toL_inj, ls_nI, decide_eq_false_iff_not, decide_eq_true_eq, Bool.true_eq_false, Bool.false_eq_true, bq, if_pos, if_neg, if_true, if_false, lq, Nat.reduceAdd, Nat.reduceMul, Nat.reduceSub, Nat.reduceDiv, Nat.reduceMod, a1, e5', t1']
    cases may D p q c fm r h <;> rfl
  | false =>
    have hl := l9 ht
    have e5' : A.1 151 5 = nI 0 := by rw [e5, ht]; rfl
    have w0 : A.1 157 0 = nI (D.st p + D.st q) := a3 0 (by decide)
    have w1 : A.1 157 1 = nI (D.wt c) := a3 1 (by decide)
    have s1 := (hD.hm p hp).2
    have s2 := (hD.hm q hq).2
    have s3 := (hD.wt c hc).1
    have hm : may D p q c fm r h = decide (D.wt c ≤ D.st p + D.st q) := by
      unfold may
      have : rkV (fw D p q c fm r h) [1000, 1001, 2004, 2008] = nI 1 - (if nI (D.wt c) ≤ nI (D.st p + D.st q) then nI 0 else nI 1) := rfl
      rw [hl, this]
      by_cases e : D.wt c ≤ D.st p + D.st q
      · rw [if_pos (by rw [x_le (by omega) (by omega)]; exact e), decide_eq_true e]; rfl
      · rw [if_neg (by rw [x_le (by omega) (by omega)]; exact e), decide_eq_false e]; rfl
    refine ⟨A, ?_, a2⟩
    rw [hm]
    unfold fX12_mayBy
    simp (disch := omega) only [lit, lm1, nI_add, pk_mul, nm_eq, nm_eq', nm_lt, nm_lt', nm_le, nm_le', x_lt, x_le, x_eq, x_in, x_cl, x_div, x_sub, x_rem, x_min, x_max, x_and, x_or, x_xor, x_df, x_shl, bI_0, bI_1, bI_bo, lg_eq, toL_inj, ls_nI, decide_eq_false_iff_not, decide_eq_true_eq, Bool.true_eq_false, Bool.false_eq_true, bq, if_pos, if_neg, if_true, if_false, lq, Nat.reduceAdd, Nat.reduceMul, Nat.reduceSub, Nat.reduceDiv, Nat.reduceMod, a1, e5', w0, w1]
    by_cases e : D.st p + D.st q < D.wt c
    · rw [if_pos e, decide_eq_false (by omega)]; rfl
    · rw [if_neg e, decide_eq_true (by omega)]; rfl
theorem m_wearsBy (hD : D.WF) {p q c fm r h : Nat} (m : mF D E S h) (hp : p < D.P) (hq : q < D.P) (hc : c < D.C) (hf : fm < D.K) (hr : r < D.R) : ∃ T, fX12_wearsBy (nI p) (nI q) (nI c) (nI fm) (nI r) S = some (wrr D p q c fm r h, T) ∧ Kp kH S T := by
  obtain ⟨A, a1, a2, a3⟩ := m_laysWords hD m hp hq hc hf hr
  have mA' := m.H hD a2
  obtain ⟨l1, l2⟩ := mA'.1.1.lb
  obtain ⟨l5, l6, l7, l8, l9⟩ := hD.lb
  have e5 : A.1 151 6 = (if D.tb = true then 1 else 0) := l1
  unfold wrr
  cases ht : D.tb with
  | true =>
    obtain ⟨f, f1, f2, f3, f4⟩ := l2 ht
    have f2' : A.1 151 (7 + 1) = nI f := f2
    have f3' : A.1 151 (9 + 1) = nI D.lb.length := f3
    obtain ⟨T, t1, t2, t3, t4⟩ := m_reckonL (w := fw D p q c fm r h) (law := 1) (fm := f) (L := D.lb.length) (by decide) f1 D.lb 0 [] [] cpFu A (by omega) f3' f2' (fun j hj => by have := f4 j hj; rw [Nat.zero_add] at this; rw [Nat.zero_add]; exact this) l8 trivial trivial a3 (by show _ < 5000; omega)
    obtain ⟨e1, -⟩ := rkV_sp t3
    rw [e1] at t2
    have t0 : T.1 156 0 = rkV (fw D p q c fm r h) D.lb := t2.1
    rw [t0] at t1
    have t1' : fX12_reckons (nI 1) A = some (rkV (fw D p q c fm r h) D.lb, T) := by
      unfold fX12_reckons
      simp only [lit]
      exact t1
    have e5' : A.1 151 6 = nI 1 := by rw [e5, ht]; rfl
    refine ⟨T, ?_, a2.tr (t4.le (fun _ _ => kH156))⟩
    unfold fX12_wearsBy
    simp (disch := omega) only [lit, lm1, nI_add, pk_mul, nm_eq, nm_eq', nm_lt, nm_lt', nm_le, nm_le', x_lt, x_le, x_eq, x_in, x_cl, x_div, x_sub, x_rem, x_min, x_max, x_and, x_or, x_xor, x_df, x_shl, bI_0, bI_1, bI_bo, lg_eq, toL_inj, ls_nI, decide_eq_false_iff_not, decide_eq_true_eq, Bool.true_eq_false, Bool.false_eq_true, bq, if_pos, if_neg, if_true, if_false, lq, Nat.reduceAdd, Nat.reduceMul, Nat.reduceSub, Nat.reduceDiv, Nat.reduceMod, a1, e5', t1', m_cl9]
  | false =>
    have hl := l9 ht
    have e5' : A.1 151 6 = nI 0 := by rw [e5, ht]; rfl
    have w3 : A.1 157 3 = nI (D.rd r).2.2 := a3 3 (by decide)
    have hw : rkV (fw D p q c fm r h) D.lb = nI (D.rd r).2.2 := by rw [hl]; rfl
    refine ⟨A, ?_, a2⟩
    rw [hw]
    unfold fX12_wearsBy
    simp (disch := omega) only [lit, lm1, nI_add, pk_mul, nm_eq, nm_eq', nm_lt, nm_lt', nm_le, nm_le', x_lt, x_le, x_eq, x_in, x_cl, x_div, x_sub, x_rem, x_min, x_max, x_and, x_or, x_xor, x_df, x_shl, bI_0, bI_1, bI_bo, lg_eq, toL_inj, ls_nI, decide_eq_false_iff_not, decide_eq_true_eq, Bool.true_eq_false, Bool.false_eq_true, bq, if_pos, if_neg, if_true, if_false, lq, Nat.reduceAdd, Nat.reduceMul, Nat.reduceSub, Nat.reduceDiv, Nat.reduceMod, a1, e5', w3, m_cl9]
theorem m_roadFor (hD : D.WF) (hE : E.WF D) {p q c fm to h : Nat} (m : mF D E S h) (hp : p < D.P) (hq : q < D.P) (hc : c < D.C) (hf : fm < D.K) (ht : to < D.K) : ∃ T, fX12_roadFor (nI p) (nI q) (nI c) (nI fm) (nI to) S = some (if (E.fd p).testBit q then nM else oI (rdT D p q c fm to h), T) ∧ Kp kH S T := by
  have p8 := hD.p8
  have r9 := hD.r9
  have k6 := hD.k6
  cases hb : (E.fd p).testBit q
  · obtain ⟨T, t1, t2⟩ : ∃ T, fX12_roadFor_14 (nI p) (nI q) (nI c) (nI fm) (nI to) cpFu (nI 0) S = some (oI (rdT D p q c fm to h), T) ∧ Kp kH S T := by
      refine ff_lp (F := fun n r (T : cpS) => fX12_roadFor_14 (nI p) (nI q) (nI c) (nI fm) (nI to) n r T) D.R (fun r => jn D r fm to && may D p q c fm r h) (fun _ T => Kp kH S T) (fun o x => ∃ T, x = some (oI o, T) ∧ Kp kH S T) (by omega) (fun n r T hr hI hp' => ?_) (fun n r T hr hI hp' => ?_) (fun n T hI => ?_) (i0 := 0) (a := S) (Nat.zero_le _) Kp.rf
      · have mT := m.H hD hI
        cases hj : jn D r fm to
        · refine ⟨T, ?_, hI⟩
          rw [fX12_roadFor_14]
          simp (disch := omega) only [lit, lm1, nI_add, pk_mul, nm_eq, nm_eq', nm_lt, nm_lt', nm_le, nm_le', x_lt, x_le, x_eq, x_in, x_cl, x_div, x_sub, x_rem, x_min, x_max, x_and, x_or, x_xor, x_df, x_shl, bI_0, bI_1, bI_bo, lg_eq, toL_inj, ls_nI, decide_eq_false_iff_not, decide_eq_true_eq, Bool.true_eq_false, Bool.false_eq_true, bq, if_pos, if_neg, if_true, if_false, lq, Nat.reduceAdd, Nat.reduceMul, Nat.reduceSub, Nat.reduceDiv, Nat.reduceMod, mT.1.R, m_joins hD mT.1 hr (show fm < 2 ^ 31 by omega) (show to < 2 ^ 31 by omega), hj]
        · rw [hj, Bool.true_and] at hp'
          obtain ⟨U, u1, u2⟩ := m_mayBy hD mT hp hq hc hf hr
          refine ⟨U, ?_, hI.tr u2⟩
          rw [fX12_roadFor_14]
          simp (disch := omega) only [lit, lm1, nI_add, pk_mul, nm_eq, nm_eq', nm_lt, nm_lt', nm_le, nm_le', x_lt, x_le, x_eq, x_in, x_cl, x_div, x_sub, x_rem, x_min, x_max, x_and, x_or, x_xor, x_df, x_shl, bI_0, bI_1, bI_bo, lg_eq, toL_inj, ls_nI, decide_eq_false_iff_not, decide_eq_true_eq, Bool.true_eq_false, Bool.false_eq_true, bq, if_pos, if_neg, if_true, if_false, lq, Nat.reduceAdd, Nat.reduceMul, Nat.reduceSub, Nat.reduceDiv, Nat.reduceMod, mT.1.R, m_joins hD mT.1 hr (show fm < 2 ^ 31 by omega) (show to < 2 ^ 31 by omega), hj, u1, hp']
      · have mT := m.H hD hI
        have hj : jn D r fm to = true := by cases e : jn D r fm to; rw [e] at hp'; cases hp'; rfl
        rw [hj, Bool.true_and] at hp'
        obtain ⟨U, u1, u2⟩ := m_mayBy hD mT hp hq hc hf hr
        refine ⟨U, ?_, hI.tr u2⟩
        rw [fX12_roadFor_14]
        simp (disch := omega) only [lit, lm1, nI_add, pk_mul, nm_eq, nm_eq', nm_lt, nm_lt', nm_le, nm_le', x_lt, x_le, x_eq, x_in, x_cl, x_div, x_sub, x_rem, x_min, x_max, x_and, x_or, x_xor, x_df, x_shl, bI_0, bI_1, bI_bo, lg_eq, toL_inj, ls_nI, decide_eq_false_iff_not, decide_eq_true_eq, Bool.true_eq_false, Bool.false_eq_true, bq, if_pos, if_neg, if_true, if_false, lq, Nat.reduceAdd, Nat.reduceMul, Nat.reduceSub, Nat.reduceDiv, Nat.reduceMod, mT.1.R, m_joins hD mT.1 hr (show fm < 2 ^ 31 by omega) (show to < 2 ^ 31 by omega), hj, u1, hp']
        rfl
      · have mT := m.H hD hI
        refine ⟨T, ?_, hI⟩
        rw [fX12_roadFor_14]
        simp (disch := omega) only [lit, lm1, nI_add, pk_mul, nm_eq, nm_eq', nm_lt, nm_lt', nm_le, nm_le', x_lt, x_le, x_eq, x_in, x_cl, x_div, x_sub, x_rem, x_min, x_max, x_and, x_or, x_xor, x_df, x_shl, bI_0, bI_1, bI_bo, lg_eq, toL_inj, ls_nI, decide_eq_false_iff_not, decide_eq_true_eq, Bool.true_eq_false, Bool.false_eq_true, bq, if_pos, if_neg, if_true, if_false, lq, Nat.reduceAdd, Nat.reduceMul, Nat.reduceSub, Nat.reduceDiv, Nat.reduceMod, mT.1.R]
        rfl
    refine ⟨T, ?_, t2⟩
    unfold fX12_roadFor
    simp (disch := omega) only [lit, lm1, nI_add, pk_mul, nm_eq, nm_eq', nm_lt, nm_lt', nm_le, nm_le', x_lt, x_le, x_eq, x_in, x_cl, x_div, x_sub, x_rem, x_min, x_max, x_and, x_or, x_xor, x_df, x_shl, bI_0, bI_1, bI_bo, lg_eq, toL_inj, ls_nI, decide_eq_false_iff_not, decide_eq_true_eq, Bool.true_eq_false, Bool.false_eq_true, bq, if_pos, if_neg, if_true, if_false, lq, Nat.reduceAdd, Nat.reduceMul, Nat.reduceSub, Nat.reduceDiv, Nat.reduceMod, m.1.quarrelled hD hE (show p < 8 by omega) (show q < 8 by omega), hb]
    exact t1
  · refine ⟨S, ?_, Kp.rf⟩
    unfold fX12_roadFor
    simp (disch := omega) only [lit, lm1, nI_add, pk_mul, nm_eq, nm_eq', nm_lt, nm_lt', nm_le, nm_le', x_lt, x_le, x_eq, x_in, x_cl, x_div, x_sub, x_rem, x_min, x_max, x_and, x_or, x_xor, x_df, x_shl, bI_0, bI_1, bI_bo, lg_eq, toL_inj, ls_nI, decide_eq_false_iff_not, decide_eq_true_eq, Bool.true_eq_false, Bool.false_eq_true, bq, if_pos, if_neg, if_true, if_false, lq, Nat.reduceAdd, Nat.reduceMul, Nat.reduceSub, Nat.reduceDiv, Nat.reduceMod, m.1.quarrelled hD hE (show p < 8 by omega) (show q < 8 by omega), hb]
/-! from where a coin is -/
def wy (D : cpD) (E : cpE) (p q c to h : Nat) : Nat := wyF D E p q c (E.at' c) to h
def wnF (D : cpD) (p q c fm to h : Nat) : Int32 := wrr D p q c fm ((rdT D p q c fm to h).getD 0) h
def wnI (D : cpD) (E : cpE) (p q c to h : Nat) : Int32 := wnF D p q c (E.at' c) to h
theorem wyF_cases (D : cpD) (E : cpE) (p q c fm to h : Nat) : wyF D E p q c fm to h = 0 ∨ wyF D E p q c fm to h = 2 ∨ wyF D E p q c fm to h = 3 ∨ wyF D E p q c fm to h = 4 := by
  unfold wyF
  split
  · omega
  · split
    · omega
    · cases rdT D p q c fm to h with
      | none => exact Or.inr (Or.inr (Or.inr rfl))
      | some _ => exact Or.inl rfl
theorem wyF_0 {p q c fm to h : Nat} (e : wyF D E p q c fm to h = 0) : jnd D fm to = true ∧ (E.fd p).testBit q = false ∧ ∃ r, rdT D p q c fm to h = some r ∧ r < D.R := by
  unfold wyF at e
  cases h1 : jnd D fm to
  · rw [h1] at e; simp at e
  · rw [h1] at e
    cases h2 : (E.fd p).testBit q
    · rw [h2] at e
      cases h3 : rdT D p q c fm to h with
      | none => rw [h3] at e; simp at e
      | some r =>
        obtain ⟨g1, g2, g3, g4⟩ := (ff_some _ _ _).mp h3
        exact ⟨rfl, rfl, r, rfl, by omega⟩
    · rw [h2] at e; simp at e
theorem c_wearFrom (hD : D.WF) (hE : E.WF D) (c : cA D E S) {p q k fm to h : Nat} (hp : p < D.P) (hq : q < D.P) (hk : k < D.C) (hf : fm < D.K) (ht : to < D.K) : ∃ T, fX0_wearFrom (nI p) (nI q) (nI k) (nI fm) (nI to) (nI h) S = some (if wyF D E p q k fm to h = 0 then wnF D p q k fm to h else ngI (wyF D E p q k fm to h), T) ∧ Kp kF S T := by
  obtain ⟨A, a1, a2, a3⟩ := c_roadTaken hD hE c (h := h) hp hq hk hf ht
  by_cases e : wyF D E p q k fm to h = 0
  · obtain ⟨-, -, r, hr, hrR⟩ := wyF_0 e
    have r9 := hD.r9
    have e' := e
    rw [if_pos e] at a1
    have a3' := a3 e
    rw [hr] at a1 a3'
    obtain ⟨T, t1, t2⟩ := c_wears hD (c.F a2) a3'
    refine ⟨T, ?_, a2.tr t2⟩
    rw [if_pos e]
    unfold fX0_wearFrom wnF wrr cl9
    rw [hr]
    simp only [Option.getD_some] at a1 t1 ⊢
    simp (disch := omega) only [lit, lm1, nI_add, pk_mul, nm_eq, nm_eq', nm_lt, nm_lt', nm_le, nm_le', x_lt, x_le, x_eq, x_in, x_cl, x_div, x_sub, x_rem, x_min, x_max, x_and, x_or, x_xor, x_df, x_shl, bI_0, bI_1, bI_bo, lg_eq, toL_inj, ls_nI, decide_eq_false_iff_not, decide_eq_true_eq, Bool.true_eq_false, Bool.false_eq_true, bq, if_pos, if_neg, if_true, if_false, lq, Nat.reduceAdd, Nat.reduceMul, Nat.reduceSub, Nat.reduceDiv, Nat.reduceMod, a1, t1]
  · refine ⟨A, ?_, a2⟩
    rw [if_neg e] at a1 ⊢
    have hn : (nI 0 ≤ ngI (wyF D E p q k fm to h)) = False := by
      rcases wyF_cases D E p q k fm to h with g | g | g | g
      · exact absurd g e
      · rw [g]; exact eq_false (by decide)
      · rw [g]; exact eq_false (by decide)
      · rw [g]; exact eq_false (by decide)
    unfold fX0_wearFrom
    simp (disch := omega) only [lit, lm1, nI_add, pk_mul, nm_eq, nm_eq', nm_lt, nm_lt', nm_le, nm_le', x_lt, x_le, x_eq, x_in, x_cl, x_div, x_sub, x_rem, x_min, x_max, x_and, x_or, x_xor, x_df, x_shl, bI_0, bI_1, bI_bo, lg_eq, toL_inj, ls_nI, decide_eq_false_iff_not, decide_eq_true_eq, Bool.true_eq_false, Bool.false_eq_true, bq, if_pos, if_neg, if_true, if_false, lq, Nat.reduceAdd, Nat.reduceMul, Nat.reduceSub, Nat.reduceDiv, Nat.reduceMod, a1, hn]
theorem wnF_sp (D : cpD) (p q c fm to h : Nat) : ∃ n, n ≤ 9 ∧ wnF D p q c fm to h = nI n := cl9_sp _
theorem c_wearAt (hD : D.WF) (hE : E.WF D) (c : cA D E S) {p q k to h : Nat} (hp : p < D.P) (hq : q < D.P) (hn : p ≠ q) (hk : k < D.C) (ht : to < D.K) : ∃ T, fX0_wearAt (nI p) (nI q) (nI k) (nI to) (nI h) S = some (if wy D E p q k to h = 0 then wnI D E p q k to h else ngI (wy D E p q k to h), T) ∧ Kp kF S T := by
  have c4 := hD.c4
  have k6 := hD.k6
  obtain ⟨T, t1, t2⟩ := c_wearFrom hD hE c (h := h) hp hq hk (hE.at' k hk) ht
  refine ⟨T, ?_, t2⟩
  unfold fX0_wearAt
  rw [c_areTwo1 hD c.1 hp hq hn]
  simp (disch := omega) only [lit, lm1, nI_add, pk_mul, nm_eq, nm_eq', nm_lt, nm_lt', nm_le, nm_le', x_lt, x_le, x_eq, x_in, x_cl, x_div, x_sub, x_rem, x_min, x_max, x_and, x_or, x_xor, x_df, x_shl, bI_0, bI_1, bI_bo, lg_eq, toL_inj, ls_nI, decide_eq_false_iff_not, decide_eq_true_eq, Bool.true_eq_false, Bool.false_eq_true, bq, if_pos, if_neg, if_true, if_false, lq, Nat.reduceAdd, Nat.reduceMul, Nat.reduceSub, Nat.reduceDiv, Nat.reduceMod, c.hasCoin hD, c.hasPlace hD, c.at', t1]
  rfl
theorem c_wearAtN (hD : D.WF) (c : cA D E S) {x1 x2 x3 x4 x5 : Int32} (h : ((cpLs' x1 D.P && cpLs' x2 D.P && decide (¬ x1 = x2)) && cpLs' x3 D.C && cpLs' x4 D.K) = false) : fX0_wearAt x1 x2 x3 x4 x5 S = some (nM, S) := by
  unfold fX0_wearAt
  cases h1 : (cpLs' x1 D.P && cpLs' x2 D.P && decide (¬ x1 = x2))
  · simp (disch := omega) only [lit, lm1, nI_add, pk_mul, nm_eq, nm_eq', nm_lt, nm_lt', nm_le, nm_le', x_lt, x_le, x_eq, x_in, x_cl, x_div, x_sub, x_rem, x_min, x_max, x_and, x_or, x_xor, x_df, x_shl, bI_0, bI_1, bI_bo, lg_eq, toL_inj, ls_nI, decide_eq_false_iff_not, decide_eq_true_eq, Bool.true_eq_false, Bool.false_eq_true, bq, if_pos, if_neg, if_true, if_false, lq, Nat.reduceAdd, Nat.reduceMul, Nat.reduceSub, Nat.reduceDiv, Nat.reduceMod, c_areTwo hD c.1, h1]
  · cases h2 : cpLs' x3 D.C
    · simp (disch := omega) only [lit, lm1, nI_add, pk_mul, nm_eq, nm_eq', nm_lt, nm_lt', nm_le, nm_le', x_lt, x_le, x_eq, x_in, x_cl, x_div, x_sub, x_rem, x_min, x_max, x_and, x_or, x_xor, x_df, x_shl, bI_0, bI_1, bI_bo, lg_eq, toL_inj, ls_nI, decide_eq_false_iff_not, decide_eq_true_eq, Bool.true_eq_false, Bool.false_eq_true, bq, if_pos, if_neg, if_true, if_false, lq, Nat.reduceAdd, Nat.reduceMul, Nat.reduceSub, Nat.reduceDiv, Nat.reduceMod, c_areTwo hD c.1, h1, c.hasCoin hD, h2]
    · cases h3 : cpLs' x4 D.K
      · simp (disch := omega) only [lit, lm1, nI_add, pk_mul, nm_eq, nm_eq', nm_lt, nm_lt', nm_le, nm_le', x_lt, x_le, x_eq, x_in, x_cl, x_div, x_sub, x_rem, x_min, x_max, x_and, x_or, x_xor, x_df, x_shl, bI_0, bI_1, bI_bo, lg_eq, toL_inj, ls_nI, decide_eq_false_iff_not, decide_eq_true_eq, Bool.true_eq_false, Bool.false_eq_true, bq, if_pos, if_neg, if_true, if_false, lq, Nat.reduceAdd, Nat.reduceMul, Nat.reduceSub, Nat.reduceDiv, Nat.reduceMod, c_areTwo hD c.1, h1, c.hasCoin hD, h2, c.hasPlace hD, h3]
      · rw [h1, h2, h3] at h; cases h
theorem m_whyCarry (hD : D.WF) (hE : E.WF D) (m : mA D E S) {p q k to h : Nat} (hp : p < D.P) (hq : q < D.P) (hn : p ≠ q) (hk : k < D.C) (ht : to < D.K) : ∃ T, fX12_whyCarry (nI p) (nI q) (nI k) (nI to) (nI h) S = some (nI (wy D E p q k to h), T) ∧ Kp kG S T := by
  have p8 := hD.p8
  have c4 := hD.c4
  have k6 := hD.k6
  have hf := hE.at' k hk
  unfold wy wyF
  cases hj : jnd D (E.at' k) to
  · refine ⟨S, ?_, Kp.rf⟩
    unfold fX12_whyCarry
    simp (disch := omega) only [lit, lm1, nI_add, pk_mul, nm_eq, nm_eq', nm_lt, nm_lt', nm_le, nm_le', x_lt, x_le, x_eq, x_in, x_cl, x_div, x_sub, x_rem, x_min, x_max, x_and, x_or, x_xor, x_df, x_shl, bI_0, bI_1, bI_bo, lg_eq, toL_inj, ls_nI, decide_eq_false_iff_not, decide_eq_true_eq, Bool.true_eq_false, Bool.false_eq_true, bq, if_pos, if_neg, if_true, if_false, lq, Nat.reduceAdd, Nat.reduceMul, Nat.reduceSub, Nat.reduceDiv, Nat.reduceMod, m.isPerson hD, m.isCoin hD, m.isPlace hD, m.at', m_joined hD m (show E.at' k < 2 ^ 31 by omega) (show to < 2 ^ 31 by omega), hj, hn]
  · cases hb : (E.fd p).testBit q
    · obtain ⟨A, a1, a2, a3⟩ := m_laysNow hD m h
      obtain ⟨T, t1, t2⟩ := m_roadFor hD hE a2 hp hq hk hf ht
      rw [hb] at t1
      refine ⟨T, ?_, a3.tr (t2.le (fun _ _ => kH_G))⟩
      unfold fX12_whyCarry
      simp (disch := omega) only [lit, lm1, nI_add, pk_mul, nm_eq, nm_eq', nm_lt, nm_lt', nm_le, nm_le', x_lt, x_le, x_eq, x_in, x_cl, x_div, x_sub, x_rem, x_min, x_max, x_and, x_or, x_xor, x_df, x_shl, bI_0, bI_1, bI_bo, lg_eq, toL_inj, ls_nI, decide_eq_false_iff_not, decide_eq_true_eq, Bool.true_eq_false, Bool.false_eq_true, bq, if_pos, if_neg, if_true, if_false, lq, Nat.reduceAdd, Nat.reduceMul, Nat.reduceSub, Nat.reduceDiv, Nat.reduceMod, m.isPerson hD, m.isCoin hD, m.isPlace hD, m.at', m_joined hD m (show E.at' k < 2 ^ 31 by omega) (show to < 2 ^ 31 by omega), hj, hn, m.quarrelled hD hE (show p < 8 by omega) (show q < 8 by omega), hb, a1, a2.1.at', t1]
      cases hr : rdT D p q k (E.at' k) to h with
      | none => rfl
      | some r =>
        obtain ⟨g1, g2, g3, g4⟩ := (ff_some _ _ _).mp hr
        have r9 := hD.r9
        simp (disch := omega) only [lit, lm1, nI_add, pk_mul, nm_eq, nm_eq', nm_lt, nm_lt', nm_le, nm_le', x_lt, x_le, x_eq, x_in, x_cl, x_div, x_sub, x_rem, x_min, x_max, x_and, x_or, x_xor, x_df, x_shl, bI_0, bI_1, bI_bo, lg_eq, toL_inj, ls_nI, decide_eq_false_iff_not, decide_eq_true_eq, Bool.true_eq_false, Bool.false_eq_true, bq, if_pos, if_neg, if_true, if_false, lq, Nat.reduceAdd, Nat.reduceMul, Nat.reduceSub, Nat.reduceDiv, Nat.reduceMod, oI]
    · refine ⟨S, ?_, Kp.rf⟩
      unfold fX12_whyCarry
      simp (disch := omega) only [lit, lm1, nI_add, pk_mul, nm_eq, nm_eq', nm_lt, nm_lt', nm_le, nm_le', x_lt, x_le, x_eq, x_in, x_cl, x_div, x_sub, x_rem, x_min, x_max, x_and, x_or, x_xor, x_df, x_shl, bI_0, bI_1, bI_bo, lg_eq, toL_inj, ls_nI, decide_eq_false_iff_not, decide_eq_true_eq, Bool.true_eq_false, Bool.false_eq_true, bq, if_pos, if_neg, if_true, if_false, lq, Nat.reduceAdd, Nat.reduceMul, Nat.reduceSub, Nat.reduceDiv, Nat.reduceMod, m.isPerson hD, m.isCoin hD, m.isPlace hD, m.at', m_joined hD m (show E.at' k < 2 ^ 31 by omega) (show to < 2 ^ 31 by omega), hj, hn, m.quarrelled hD hE (show p < 8 by omega) (show q < 8 by omega), hb]
theorem m_whyCarryN (hD : D.WF) (m : mA D E S) {x1 x2 x3 x4 x5 : Int32} (h : ((cpLs' x1 D.P && cpLs' x2 D.P && decide (¬ x1 = x2)) && cpLs' x3 D.C && cpLs' x4 D.K) = false) : fX12_whyCarry x1 x2 x3 x4 x5 S = some (nI 1, S) := by
  unfold fX12_whyCarry
  have bf : bI false = (0 : Int32) := rfl
  have bt : ¬ bI true = (0 : Int32) := by decide
  rw [m.isPerson hD, bq]
  cases h1 : cpLs' x1 D.P
  · rw [if_pos bf]; rfl
  · rw [if_neg bt, m.isPerson hD, bq]
    cases h2 : cpLs' x2 D.P
    · rw [if_pos bf]; rfl
    · rw [if_neg bt]
      by_cases h3 : x1 = x2
      · rw [if_pos h3]; rfl
      · rw [if_neg h3, m.isCoin hD, bq]
        cases h4 : cpLs' x3 D.C
        · rw [if_pos bf]; rfl
        · rw [if_neg bt, m.isPlace hD, bq]
          cases h5 : cpLs' x4 D.K
          · rw [if_pos bf]; rfl
          · rw [h1, h2, h4, h5, decide_eq_true h3] at h; cases h
theorem m_wornTo (hD : D.WF) (hE : E.WF D) (m : mA D E S) {p q k to h : Nat} (hp : p < D.P) (hq : q < D.P) (hk : k < D.C) (ht : to < D.K) (hw : wy D E p q k to h = 0) : ∃ T, fX12_wornTo (nI p) (nI q) (nI k) (nI to) (nI h) S = some (wnI D E p q k to h, T) ∧ Kp kG S T := by
  have c4 := hD.c4
  have hf := hE.at' k hk
  obtain ⟨e1, e2, r, e3, e4⟩ := wyF_0 hw
  obtain ⟨A, a1, a2, a3⟩ := m_laysNow hD m h
  obtain ⟨B, b1, b2⟩ := m_roadFor hD hE a2 hp hq hk hf ht
  rw [e2, e3] at b1
  obtain ⟨T, t1, t2⟩ := m_wearsBy hD (a2.H hD b2) hp hq hk hf e4
  refine ⟨T, ?_, (a3.tr (b2.le (fun _ _ => kH_G))).tr (t2.le (fun _ _ => kH_G))⟩
  have b1' : fX12_roadFor (nI p) (nI q) (nI k) (nI (E.at' k)) (nI to) A = some (nI r, B) := b1
  unfold fX12_wornTo wnI wnF
  rw [e3]
  simp (disch := omega) only [lit, lm1, nI_add, pk_mul, nm_eq, nm_eq', nm_lt, nm_lt', nm_le, nm_le', x_lt, x_le, x_eq, x_in, x_cl, x_div, x_sub, x_rem, x_min, x_max, x_and, x_or, x_xor, x_df, x_shl, bI_0, bI_1, bI_bo, lg_eq, toL_inj, ls_nI, decide_eq_false_iff_not, decide_eq_true_eq, Bool.true_eq_false, Bool.false_eq_true, bq, if_pos, if_neg, if_true, if_false, lq, Nat.reduceAdd, Nat.reduceMul, Nat.reduceSub, Nat.reduceDiv, Nat.reduceMod, a1, a2.1.at', b1', t1]
  rfl
end CZ
/-- two, a coin and a place: there, or not -/
theorem arg4 (D : cpD) (hP : D.P ≤ 8) (x1 x2 x3 x4 : Int32) : (∃ p q c t, p < D.P ∧ q < D.P ∧ p ≠ q ∧ c < D.C ∧ t < D.K ∧ x1 = nI p ∧ x2 = nI q ∧ x3 = nI c ∧ x4 = nI t) ∨ ((cpLs' x1 D.P && cpLs' x2 D.P && decide (¬ x1 = x2)) && cpLs' x3 D.C && cpLs' x4 D.K) = false := by
  rcases two_or x1 x2 D.P hP with ⟨p, q, hp, hq, hn, rfl, rfl⟩ | h
  · rcases in_or x3 D.C with ⟨c, hc, rfl⟩ | h
    · rcases in_or x4 D.K with ⟨t, ht, rfl⟩ | h
      · exact Or.inl ⟨p, q, c, t, hp, hq, hn, hc, ht, rfl, rfl, rfl, rfl⟩
      · right; rw [h, Bool.and_false]
    · right; rw [h, Bool.and_false, Bool.false_and]
  · right; rw [h, Bool.false_and, Bool.false_and]
theorem ng_pos (k : Nat) (h : k = 2 ∨ k = 3 ∨ k = 4) : (nI 0 ≤ ngI k) = False ∧ (ngI k < nI 0) = True ∧ (ngI k = nM) = False ∧ -(ngI k) = nI k ∧ (nI k = nI 0) = False ∧ (nI k = nI 1) = False := by
  rcases h with rfl | rfl | rfl
  · exact ⟨eq_false (by decide), eq_true (by decide), eq_false (by decide), by decide, eq_false (by decide), eq_false (by decide)⟩
  · exact ⟨eq_false (by decide), eq_true (by decide), eq_false (by decide), by decide, eq_false (by decide), eq_false (by decide)⟩
  · exact ⟨eq_false (by decide), eq_true (by decide), eq_false (by decide), by decide, eq_false (by decide), eq_false (by decide)⟩
theorem q_why : cpQ_why cpRl := by
  intro x1 x2 x3 x4 S hR
  refine q1 hR (fun D E hD hE => ?_)
  rcases arg4 D hD.p8 x1 x2 x3 x4 with ⟨p, q, k, t, hp, hq, hn, hk, ht, rfl, rfl, rfl, rfl⟩ | h
  · refine ⟨nI (wy D E p q k t E.h), fun S c => ?_, fun S m => ?_⟩
    · obtain ⟨T, t1, t2⟩ := c_wearAt hD hE c (h := E.h) hp hq hn hk ht
      refine ⟨T, ?_, t2.le (fun _ _ => kF_C)⟩
      unfold fX11_why
      rw [c.h, t1, bq]
      by_cases e : wy D E p q k t E.h = 0
      · obtain ⟨n, n9, hn'⟩ := wnF_sp D p q k (E.at' k) t E.h
        rw [if_pos e, e, show wnI D E p q k t E.h = nI n from hn']
        simp (disch := omega) only [lit, lm1, nI_add, pk_mul, nm_eq, nm_eq', nm_lt, nm_lt', nm_le, nm_le', x_lt, x_le, x_eq, x_in, x_cl, x_div, x_sub, x_rem, x_min, x_max, x_and, x_or, x_xor, x_df, x_shl, bI_0, bI_1, bI_bo, lg_eq, toL_inj, ls_nI, decide_eq_false_iff_not, decide_eq_true_eq, Bool.true_eq_false, Bool.false_eq_true, bq, if_pos, if_neg, if_true, if_false, lq, Nat.reduceAdd, Nat.reduceMul, Nat.reduceSub, Nat.reduceDiv, Nat.reduceMod]
      · obtain ⟨g1, g2, g3, g4, g5, g6⟩ := ng_pos (wy D E p q k t E.h) (by rcases wyF_cases D E p q k (E.at' k) t E.h with g | g | g | g; exact absurd g e; exact Or.inl g; exact Or.inr (Or.inl g); exact Or.inr (Or.inr g))
        rw [if_neg e]
        simp (disch := omega) only [lit, lm1, nI_add, pk_mul, nm_eq, nm_eq', nm_lt, nm_lt', nm_le, nm_le', x_lt, x_le, x_eq, x_in, x_cl, x_div, x_sub, x_rem, x_min, x_max, x_and, x_or, x_xor, x_df, x_shl, bI_0, bI_1, bI_bo, lg_eq, toL_inj, ls_nI, decide_eq_false_iff_not, decide_eq_true_eq, Bool.true_eq_false, Bool.false_eq_true, bq, if_pos, if_neg, if_true, if_false, lq, Nat.reduceAdd, Nat.reduceMul, Nat.reduceSub, Nat.reduceDiv, Nat.reduceMod, g1, g4]
    · have m0 := m.thr hD (nI 0)
      obtain ⟨T, t1, t2⟩ := m_whyCarry hD hE m0 (h := E.h) hp hq hn hk ht
      refine ⟨T, ?_, (kM_thr S (nI 0)).tr (t2.le (fun _ _ => kG_M))⟩
      unfold fX12_why
      simp (disch := omega) only [lit, lm1, nI_add, pk_mul, nm_eq, nm_eq', nm_lt, nm_lt', nm_le, nm_le', x_lt, x_le, x_eq, x_in, x_cl, x_div, x_sub, x_rem, x_min, x_max, x_and, x_or, x_xor, x_df, x_shl, bI_0, bI_1, bI_bo, lg_eq, toL_inj, ls_nI, decide_eq_false_iff_not, decide_eq_true_eq, Bool.true_eq_false, Bool.false_eq_true, bq, if_pos, if_neg, if_true, if_false, lq, Nat.reduceAdd, Nat.reduceMul, Nat.reduceSub, Nat.reduceDiv, Nat.reduceMod, m0.h, t1]
  · refine ⟨nI 1, fun S c => ⟨S, ?_, Kp.rf⟩, fun S m => ⟨_, ?_, kM_thr S (nI 0)⟩⟩
    · unfold fX11_why
      simp (disch := omega) only [lit, lm1, nI_add, pk_mul, nm_eq, nm_eq', nm_lt, nm_lt', nm_le, nm_le', x_lt, x_le, x_eq, x_in, x_cl, x_div, x_sub, x_rem, x_min, x_max, x_and, x_or, x_xor, x_df, x_shl, bI_0, bI_1, bI_bo, lg_eq, toL_inj, ls_nI, decide_eq_false_iff_not, decide_eq_true_eq, Bool.true_eq_false, Bool.false_eq_true, bq, if_pos, if_neg, if_true, if_false, lq, Nat.reduceAdd, Nat.reduceMul, Nat.reduceSub, Nat.reduceDiv, Nat.reduceMod, c_wearAtN hD c h]
      rfl
    · unfold fX12_why
      simp (disch := omega) only [lit, lm1, nI_add, pk_mul, nm_eq, nm_eq', nm_lt, nm_lt', nm_le, nm_le', x_lt, x_le, x_eq, x_in, x_cl, x_div, x_sub, x_rem, x_min, x_max, x_and, x_or, x_xor, x_df, x_shl, bI_0, bI_1, bI_bo, lg_eq, toL_inj, ls_nI, decide_eq_false_iff_not, decide_eq_true_eq, Bool.true_eq_false, Bool.false_eq_true, bq, if_pos, if_neg, if_true, if_false, lq, Nat.reduceAdd, Nat.reduceMul, Nat.reduceSub, Nat.reduceDiv, Nat.reduceMod, m_whyCarryN hD (m.thr hD (nI 0)) h]
theorem q_worn : cpQ_worn cpRl := by
  intro x1 x2 x3 x4 S hR
  refine q1 hR (fun D E hD hE => ?_)
  rcases arg4 D hD.p8 x1 x2 x3 x4 with ⟨p, q, k, t, hp, hq, hn, hk, ht, rfl, rfl, rfl, rfl⟩ | h
  · refine ⟨if wy D E p q k t E.h = 0 then wnI D E p q k t E.h else -5, fun S c => ?_, fun S m => ?_⟩
    · obtain ⟨T, t1, t2⟩ := c_wearAt hD hE c (h := E.h) hp hq hn hk ht
      refine ⟨T, ?_, t2.le (fun _ _ => kF_C)⟩
      unfold fX11_worn
      rw [c.h, t1, bq]
      by_cases e : wy D E p q k t E.h = 0
      · obtain ⟨n, n9, hn'⟩ := wnF_sp D p q k (E.at' k) t E.h
        rw [if_pos e, if_pos e, show wnI D E p q k t E.h = nI n from hn']
        simp (disch := omega) only [lit, lm1, nI_add, pk_mul, nm_eq, nm_eq', nm_lt, nm_lt', nm_le, nm_le', x_lt, x_le, x_eq, x_in, x_cl, x_div, x_sub, x_rem, x_min, x_max, x_and, x_or, x_xor, x_df, x_shl, bI_0, bI_1, bI_bo, lg_eq, toL_inj, ls_nI, decide_eq_false_iff_not, decide_eq_true_eq, Bool.true_eq_false, Bool.false_eq_true, bq, if_pos, if_neg, if_true, if_false, lq, Nat.reduceAdd, Nat.reduceMul, Nat.reduceSub, Nat.reduceDiv, Nat.reduceMod]
      · obtain ⟨g1, g2, g3, g4, g5, g6⟩ := ng_pos (wy D E p q k t E.h) (by rcases wyF_cases D E p q k (E.at' k) t E.h with g | g | g | g; exact absurd g e; exact Or.inl g; exact Or.inr (Or.inl g); exact Or.inr (Or.inr g))
        rw [if_neg e, if_neg e]
        simp (disch := omega) only [lit, lm1, nI_add, pk_mul, nm_eq, nm_eq', nm_lt, nm_lt', nm_le, nm_le', x_lt, x_le, x_eq, x_in, x_cl, x_div, x_sub, x_rem, x_min, x_max, x_and, x_or, x_xor, x_df, x_shl, bI_0, bI_1, bI_bo, lg_eq, toL_inj, ls_nI, decide_eq_false_iff_not, decide_eq_true_eq, Bool.true_eq_false, Bool.false_eq_true, bq, if_pos, if_neg, if_true, if_false, lq, Nat.reduceAdd, Nat.reduceMul, Nat.reduceSub, Nat.reduceDiv, Nat.reduceMod, g1, g3]
    · have m0 := m.thr hD (nI 0)
      obtain ⟨T, t1, t2⟩ := m_whyCarry hD hE m0 (h := E.h) hp hq hn hk ht
      have mT := m0.kp hD t2 (fun _ _ => kG_ne)
      by_cases e : wy D E p q k t E.h = 0
      · obtain ⟨U, u1, u2⟩ := m_wornTo hD hE mT (h := E.h) hp hq hk ht e
        refine ⟨U, ?_, ((kM_thr S (nI 0)).tr (t2.le (fun _ _ => kG_M))).tr (u2.le (fun _ _ => kG_M))⟩
        rw [if_pos e]
        rw [e] at t1
        unfold fX12_worn
        simp (disch := omega) only [lit, lm1, nI_add, pk_mul, nm_eq, nm_eq', nm_lt, nm_lt', nm_le, nm_le', x_lt, x_le, x_eq, x_in, x_cl, x_div, x_sub, x_rem, x_min, x_max, x_and, x_or, x_xor, x_df, x_shl, bI_0, bI_1, bI_bo, lg_eq, toL_inj, ls_nI, decide_eq_false_iff_not, decide_eq_true_eq, Bool.true_eq_false, Bool.false_eq_true, bq, if_pos, if_neg, if_true, if_false, lq, Nat.reduceAdd, Nat.reduceMul, Nat.reduceSub, Nat.reduceDiv, Nat.reduceMod, m0.h, t1, mT.h, u1]
      · obtain ⟨g1, g2, g3, g4, g5, g6⟩ := ng_pos (wy D E p q k t E.h) (by rcases wyF_cases D E p q k (E.at' k) t E.h with g | g | g | g; exact absurd g e; exact Or.inl g; exact Or.inr (Or.inl g); exact Or.inr (Or.inr g))
        refine ⟨T, ?_, (kM_thr S (nI 0)).tr (t2.le (fun _ _ => kG_M))⟩
        rw [if_neg e]
        unfold fX12_worn
        simp (disch := omega) only [lit, lm1, nI_add, pk_mul, nm_eq, nm_eq', nm_lt, nm_lt', nm_le, nm_le', x_lt, x_le, x_eq, x_in, x_cl, x_div, x_sub, x_rem, x_min, x_max, x_and, x_or, x_xor, x_df, x_shl, bI_0, bI_1, bI_bo, lg_eq, toL_inj, ls_nI, decide_eq_false_iff_not, decide_eq_true_eq, Bool.true_eq_false, Bool.false_eq_true, bq, if_pos, if_neg, if_true, if_false, lq, Nat.reduceAdd, Nat.reduceMul, Nat.reduceSub, Nat.reduceDiv, Nat.reduceMod, m0.h, t1, g5, g6]
  · refine ⟨-2, fun S c => ⟨S, ?_, Kp.rf⟩, fun S m => ⟨_, ?_, kM_thr S (nI 0)⟩⟩
    · unfold fX11_worn
      simp (disch := omega) only [lit, lm1, nI_add, pk_mul, nm_eq, nm_eq', nm_lt, nm_lt', nm_le, nm_le', x_lt, x_le, x_eq, x_in, x_cl, x_div, x_sub, x_rem, x_min, x_max, x_and, x_or, x_xor, x_df, x_shl, bI_0, bI_1, bI_bo, lg_eq, toL_inj, ls_nI, decide_eq_false_iff_not, decide_eq_true_eq, Bool.true_eq_false, Bool.false_eq_true, bq, if_pos, if_neg, if_true, if_false, lq, Nat.reduceAdd, Nat.reduceMul, Nat.reduceSub, Nat.reduceDiv, Nat.reduceMod, c_wearAtN hD c h, eq_self]
    · unfold fX12_worn
      simp (disch := omega) only [lit, lm1, nI_add, pk_mul, nm_eq, nm_eq', nm_lt, nm_lt', nm_le, nm_le', x_lt, x_le, x_eq, x_in, x_cl, x_div, x_sub, x_rem, x_min, x_max, x_and, x_or, x_xor, x_df, x_shl, bI_0, bI_1, bI_bo, lg_eq, toL_inj, ls_nI, decide_eq_false_iff_not, decide_eq_true_eq, Bool.true_eq_false, Bool.false_eq_true, bq, if_pos, if_neg, if_true, if_false, lq, Nat.reduceAdd, Nat.reduceMul, Nat.reduceSub, Nat.reduceDiv, Nat.reduceMod, m_whyCarryN hD (m.thr hD (nI 0)) h]
