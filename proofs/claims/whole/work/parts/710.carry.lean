/-! who may carry what, how much it wears -/
/-- what the laws speak of -/
def fw (D : cpD) (p q c fm r h : Nat) (j : Nat) : Int32 := if j = 0 then nI (D.st p + D.st q) else if j = 1 then nI (D.wt c) else if j = 2 then nI (cpFar D.rd D.R (D.hm p) fm + cpFar D.rd D.R (D.hm q) fm) else if j = 3 then nI (D.rd r).2.2 else if j = 4 then nI h else nI (min (D.st p) (D.st q))
def rkV (w : Nat → Int32) (l : List Nat) : Int32 := (evL w l []).headD 0
theorem rkV_sp {w : Nat → Int32} {l : List Nat} {b : Bool} (h : ty [b] (evL w l [])) : evL w l [] = [rkV w l] ∧ (b = true → tru (rkV w l)) := by
  obtain ⟨r, e, h1⟩ := ty_one h
  unfold rkV
  rw [e]; exact ⟨rfl, h1⟩
theorem snd_ty {w : Nat → Int32} : ∀ {l : List Nat} {ks : List Bool} {en : List Bool} {vs : List Int32}, cpSnd l ks en → ty ks vs → ty en (evL w l vs)
  | [], ks, en, vs, h, g => by
    have : ks = en := h
    rw [← this]; exact g
  | k :: l, ks, en, vs, ⟨_, t, h1, h2⟩, g => snd_ty (l := l) h2 (ev_shape w g h1).2
def may (D : cpD) (p q c fm r h : Nat) : Bool := decide (rkV (fw D p q c fm r h) D.la = nI 1)
theorem la_tru {D : cpD} (hD : D.WF) (w : Nat → Int32) : tru (rkV w D.la) := (rkV_sp (snd_ty (w := w) (vs := []) hD.la.2.2.2.1 trivial)).2 rfl
theorem may_0 {D : cpD} (hD : D.WF) (p q c fm r h : Nat) : rkV (fw D p q c fm r h) D.la = bI (may D p q c fm r h) := by
  unfold may
  rcases la_tru hD (fw D p q c fm r h) with e | e
  · rw [e, decide_eq_false (by decide)]; rfl
  · rw [e, decide_eq_true rfl]; rfl
def cl9 (x : Int32) : Int32 := cpMax (nI 0) (cpMin (nI 9) x)
theorem cl9_sp (x : Int32) : ∃ n, n ≤ 9 ∧ cl9 x = nI n := by
  unfold cl9 cpMin
  by_cases h : x < nI 9
  · rw [if_pos h]
    unfold cpMax
    by_cases h2 : nI 0 < x
    · rw [if_pos h2]
      have hp : ¬ x < 0 := fun q => by
        have z : (0 : Int32).toInt = 0 := by decide
        have z2 : (nI 0).toInt = 0 := by decide
        rw [i_lt] at q h2
        omega
      obtain ⟨j, j1, rfl⟩ := nI_of (x := x) hp
      exact ⟨j, by rw [x_lt j1 (by decide)] at h; omega, rfl⟩
    · rw [if_neg h2]; exact ⟨0, by omega, rfl⟩
  · rw [if_neg h]; exact ⟨9, by omega, by decide⟩
theorem m_cl9 (x : Int32) (S : cpS) : fX12_wearsBy_36 x S = some (cl9 x, S) := by
  unfold fX12_wearsBy_36 cl9 cpMax cpMin
  have z0 : (nI 0).toInt = 0 := by decide
  have z9 : (nI 9).toInt = 9 := by decide
  simp only [lit]
  by_cases h0 : nI 0 ≤ x
  · rw [if_pos h0]
    by_cases h9 : x ≤ nI 9
    · rw [if_pos h9]
      by_cases h : x < nI 9
      · rw [if_pos h]
        by_cases h2 : nI 0 < x
        · rw [if_pos h2]
        · rw [if_neg h2]
          have : x = nI 0 := Int32.toInt_inj.mp (by rw [i_lt] at h2; rw [i_le] at h0; omega)
          rw [this]
      · rw [if_neg h]
        have : x = nI 9 := Int32.toInt_inj.mp (by rw [i_lt] at h; rw [i_le] at h9; omega)
        rw [this]; rfl
    · rw [if_neg h9, if_neg (show ¬ x < nI 9 from fun q => h9 (by rw [i_lt] at q; rw [i_le]; omega))]; rfl
  · rw [if_neg h0, if_pos (show x < nI 9 by rw [i_le] at h0; rw [i_lt]; omega), if_neg (show ¬ nI 0 < x by rw [i_le] at h0; rw [i_lt]; omega)]
/-- how much it wears by a road -/
def wrr (D : cpD) (p q c fm r h : Nat) : Int32 := cl9 (rkV (fw D p q c fm r h) D.lb)
def rdT (D : cpD) (p q c fm to h : Nat) : Option Nat := ff (fun r => jn D r fm to && may D p q c fm r h) D.R 0
section CY
variable {D : cpD} {E : cpE} {S : cpS}
def kF (k _ : Nat) : Prop := k = 14 ∨ k = 118
theorem kF_C {k j : Nat} (h : kF k j) : kC k j := by
  rcases h with rfl | rfl
  · exact ⟨scr_c (by decide) (by decide) (by decide) j, by decide⟩
  · exact ⟨scr_c (by decide) (by decide) (by decide) j, by decide⟩
theorem cA.F {T : cpS} (c : cA D E S) (g : Kp kF S T) : cA D E T := c.kp g (fun k j h => Or.inl (kF_C h).1.1)
theorem c_distance (hD : D.WF) (c : cA D E S) {a b : Nat} (ha : a < D.K) (hb : b < D.K) : fX10_distance 1 (nI a) (nI b) S = some (nI (cpFar D.rd D.R a b), S) := by
  have k6 := hD.k6
  have e := c.far a b ha hb
  rw [show 6 * a + b = a * 6 + b by omega] at e
  unfold fX10_distance
  simp (disch := omega) only [lit, lm1, nI_add, pk_mul, nm_eq, nm_eq', nm_lt, nm_lt', nm_le, nm_le', x_lt, x_le, x_eq, x_in, x_cl, x_div, x_sub, x_rem, x_min, x_max, x_and, x_or, x_xor, x_df, x_shl, bI_0, bI_1, bI_bo, lg_eq, toL_inj, ls_nI, decide_eq_false_iff_not, decide_eq_true_eq, Bool.true_eq_false, Bool.false_eq_true, bq, if_pos, if_neg, if_true, if_false, lq, Nat.reduceAdd, Nat.reduceMul, Nat.reduceSub, Nat.reduceDiv, Nat.reduceMod, e]
theorem c_face (hD : D.WF) (c : cA D E S) {p q k fm h : Nat} (hp : p < D.P) (hq : q < D.P) (hk : k < D.C) (hf : fm < D.K) : ∃ T, fX0_face (nI p) (nI q) (nI k) (nI fm) (nI h) S = some ((), T) ∧ Kp kF S T ∧ ∀ r j, j < 6 → j ≠ 3 → T.1 118 j = fw D p q k fm r h j := by
  have p8 := hD.p8
  have c4 := hD.c4
  obtain ⟨a1, a2⟩ := hD.hm p hp
  obtain ⟨b1, b2⟩ := hD.hm q hq
  have t1 : Kp kF S (cpI S 118 0 (nI (D.st p + D.st q))) := Kp.rf.I (by exact Or.inr rfl)
  have t2 := t1.I (k := 118) (j := 5) (x := nI (min (D.st p) (D.st q))) (by exact Or.inr rfl)
  have t3 := t2.I (k := 118) (j := 1) (x := nI (D.wt k)) (by exact Or.inr rfl)
  have t4 := t3.I (k := 118) (j := 2) (x := nI (cpFar D.rd D.R (D.hm p) fm + cpFar D.rd D.R (D.hm q) fm)) (by exact Or.inr rfl)
  have t5 := t4.I (k := 118) (j := 4) (x := nI h) (by exact Or.inr rfl)
  refine ⟨_, ?_, t5, fun r j h1 h2 => ?_⟩
  · have c1 := c.F t1
    have c2 := c.F t2
    have c3 := c.F t3
    unfold fX0_face
    simp (disch := omega) only [lit, lm1, nI_add, pk_mul, nm_eq, nm_eq', nm_lt, nm_lt', nm_le, nm_le', x_lt, x_le, x_eq, x_in, x_cl, x_div, x_sub, x_rem, x_min, x_max, x_and, x_or, x_xor, x_df, x_shl, bI_0, bI_1, bI_bo, lg_eq, toL_inj, ls_nI, decide_eq_false_iff_not, decide_eq_true_eq, Bool.true_eq_false, Bool.false_eq_true, bq, if_pos, if_neg, if_true, if_false, lq, Nat.reduceAdd, Nat.reduceMul, Nat.reduceSub, Nat.reduceDiv, Nat.reduceMod, c.st, c1.st, c2.wt, c3.hm, c_distance hD c3 a1 hf, c_distance hD c3 b1 hf]
  · have : j = 0 ∨ j = 1 ∨ j = 2 ∨ j = 4 ∨ j = 5 := by omega
    rcases this with rfl | rfl | rfl | rfl | rfl <;> simp (disch := omega) only [sI1, sIn] <;> rfl
theorem c_may (hD : D.WF) (c : cA D E S) {w : Nat → Int32} (hw : ∀ j, j < 6 → S.1 118 j = w j) : ∃ T, fX3_reckon 12 (nI 1) S = some (rkV w D.la, T) ∧ Kp kF S T ∧ T.1 118 = S.1 118 := by
  obtain ⟨a, l1, l2, l3, l4⟩ := c.1.la
  obtain ⟨l5, l6, l7, l8, l9⟩ := hD.la
  obtain ⟨T, t1, t2, t3, t4⟩ := c_reckonL (w := w) (N := a + D.la.length) (by omega) D.la a [] [] cpFu S rfl l4 l8 trivial trivial hw (by show _ < 5000; omega)
  obtain ⟨e1, -⟩ := rkV_sp t3
  rw [e1] at t2
  have t0 : T.1 14 0 = rkV w D.la := t2.1
  have e2 : S.1 12 2 = nI a := l2
  have e3 : S.1 12 3 = nI (a + D.la.length) := l3
  refine ⟨T, ?_, t4.le (fun _ _ h => Or.inl h), funext fun j => t4.i (by unfold k14; omega)⟩
  unfold fX3_reckon fX3_reckon_15
  simp (disch := omega) only [lit, lm1, nI_add, pk_mul, nm_eq, nm_eq', nm_lt, nm_lt', nm_le, nm_le', x_lt, x_le, x_eq, x_in, x_cl, x_div, x_sub, x_rem, x_min, x_max, x_and, x_or, x_xor, x_df, x_shl, bI_0, bI_1, bI_bo, lg_eq, toL_inj, ls_nI, decide_eq_false_iff_not, decide_eq_true_eq, Bool.true_eq_false, Bool.false_eq_true, bq, if_pos, if_neg, if_true, if_false, lq, Nat.reduceAdd, Nat.reduceMul, Nat.reduceSub, Nat.reduceDiv, Nat.reduceMod, e2, e3]
  rw [← t0]; exact t1
theorem c_wears (hD : D.WF) (c : cA D E S) {w : Nat → Int32} (hw : ∀ j, j < 6 → S.1 118 j = w j) : ∃ T, fX3_reckon 12 (nI 0) S = some (rkV w D.lb, T) ∧ Kp kF S T := by
  obtain ⟨a, l1, l2, l3, l4⟩ := c.1.lb
  obtain ⟨l5, l6, l7, l8, l9⟩ := hD.lb
  obtain ⟨T, t1, t2, t3, t4⟩ := c_reckonL (w := w) (N := a + D.lb.length) (by omega) D.lb a [] [] cpFu S rfl l4 l8 trivial trivial hw (by show _ < 5000; omega)
  obtain ⟨e1, -⟩ := rkV_sp t3
  rw [e1] at t2
  have t0 : T.1 14 0 = rkV w D.lb := t2.1
  have e2 : S.1 12 4 = nI a := l2
  have e3 : S.1 12 5 = nI (a + D.lb.length) := l3
  refine ⟨T, ?_, t4.le (fun _ _ h => Or.inl h)⟩
  unfold fX3_reckon fX3_reckon_15
  simp (disch := omega) only [lit, lm1, nI_add, pk_mul, nm_eq, nm_eq', nm_lt, nm_lt', nm_le, nm_le', x_lt, x_le, x_eq, x_in, x_cl, x_div, x_sub, x_rem, x_min, x_max, x_and, x_or, x_xor, x_df, x_shl, bI_0, bI_1, bI_bo, lg_eq, toL_inj, ls_nI, decide_eq_false_iff_not, decide_eq_true_eq, Bool.true_eq_false, Bool.false_eq_true, bq, if_pos, if_neg, if_true, if_false, lq, Nat.reduceAdd, Nat.reduceMul, Nat.reduceSub, Nat.reduceDiv, Nat.reduceMod, e2, e3]
  rw [← t0]; exact t1
/-- facts: all but the road's length -/
def fct (D : cpD) (S : cpS) (p q c fm h : Nat) : Prop := ∀ r j, j < 6 → j ≠ 3 → S.1 118 j = fw D p q c fm r h j
theorem fct.on {p q c fm h r : Nat} (f : fct D S p q c fm h) (hr : S.1 118 3 = nI (D.rd r).2.2) : ∀ j, j < 6 → S.1 118 j = fw D p q c fm r h j := fun j hj => by
  by_cases e : j = 3
  · rw [e, hr]; rfl
  · exact f r j hj e
theorem fct_i {p q c fm h : Nat} (f : fct D S p q c fm h) {x : Int32} : fct D (cpI S 118 3 x) p q c fm h := fun r j hj h3 => by rw [sIn (Or.inr h3)]; exact f r j hj h3
theorem c_road46 (hD : D.WF) (c : cA D E S) {p q k fm to h : Nat} (hf : fm < D.K) (ht : to < D.K) (f : fct D S p q k fm h) : ∃ T, fX0_roadTaken_46 (nI fm) (nI to) cpFu (nI 0) S = some (match rdT D p q k fm to h with | none => -4 | some r => nI r, T) ∧ Kp kF S T ∧ ∀ r, rdT D p q k fm to h = some r → ∀ j, j < 6 → T.1 118 j = fw D p q k fm r h j := by
  have r9 := hD.r9
  have k6 := hD.k6
  refine ff_lp (F := fun n r (T : cpS) => fX0_roadTaken_46 (nI fm) (nI to) n r T) D.R (fun r => jn D r fm to && may D p q k fm r h) (fun _ T => fct D T p q k fm h ∧ Kp kF S T) (fun o x => ∃ T, x = some (match o with | none => -4 | some r => nI r, T) ∧ Kp kF S T ∧ ∀ r, o = some r → ∀ j, j < 6 → T.1 118 j = fw D p q k fm r h j) (by omega) (fun n r T hr hI hp => ?_) (fun n r T hr hI hp => ?_) (fun n T hI => ?_) (i0 := 0) (a := S) (Nat.zero_le _) ⟨f, Kp.rf⟩
  · obtain ⟨i1, i2⟩ := hI
    have cT := c.F i2
    cases hj : jn D r fm to
    · refine ⟨T, ?_, i1, i2⟩
      rw [fX0_roadTaken_46]
      simp (disch := omega) only [lit, lm1, nI_add, pk_mul, nm_eq, nm_eq', nm_lt, nm_lt', nm_le, nm_le', x_lt, x_le, x_eq, x_in, x_cl, x_div, x_sub, x_rem, x_min, x_max, x_and, x_or, x_xor, x_df, x_shl, bI_0, bI_1, bI_bo, lg_eq, toL_inj, ls_nI, decide_eq_false_iff_not, decide_eq_true_eq, Bool.true_eq_false, Bool.false_eq_true, bq, if_pos, if_neg, if_true, if_false, lq, Nat.reduceAdd, Nat.reduceMul, Nat.reduceSub, Nat.reduceDiv, Nat.reduceMod, cT.R, c_joins hD cT hr (show fm < 2 ^ 31 by omega) (show to < 2 ^ 31 by omega), hj]
    · have i3 : Kp kF S (cpI T 118 3 (nI (D.rd r).2.2)) := i2.I (by exact Or.inr rfl)
      obtain ⟨U, u1, u2, u3⟩ := c_may hD (c.F i3) ((fct_i i1 (x := nI (D.rd r).2.2)).on (r := r) sI1)
      rw [hj, Bool.true_and] at hp
      refine ⟨U, ?_, ?_, i3.tr u2⟩
      · rw [fX0_roadTaken_46]
        simp (disch := omega) only [lit, lm1, nI_add, pk_mul, nm_eq, nm_eq', nm_lt, nm_lt', nm_le, nm_le', x_lt, x_le, x_eq, x_in, x_cl, x_div, x_sub, x_rem, x_min, x_max, x_and, x_or, x_xor, x_df, x_shl, bI_0, bI_1, bI_bo, lg_eq, toL_inj, ls_nI, decide_eq_false_iff_not, decide_eq_true_eq, Bool.true_eq_false, Bool.false_eq_true, bq, if_pos, if_neg, if_true, if_false, lq, Nat.reduceAdd, Nat.reduceMul, Nat.reduceSub, Nat.reduceDiv, Nat.reduceMod, cT.R, c_joins hD cT hr (show fm < 2 ^ 31 by omega) (show to < 2 ^ 31 by omega), hj, cT.r3, u1, may_0 hD, hp]
      · intro r' j hj h3; rw [u3]; exact fct_i i1 r' j hj h3
  · obtain ⟨i1, i2⟩ := hI
    have cT := c.F i2
    have hj : jn D r fm to = true := by cases e : jn D r fm to; rw [e] at hp; cases hp; rfl
    have i3 : Kp kF S (cpI T 118 3 (nI (D.rd r).2.2)) := i2.I (by exact Or.inr rfl)
    have i4 := (fct_i i1 (x := nI (D.rd r).2.2)).on (r := r) sI1
    obtain ⟨U, u1, u2, u3⟩ := c_may hD (c.F i3) i4
    rw [hj, Bool.true_and] at hp
    refine ⟨U, ?_, i3.tr u2, fun r' e j hj => ?_⟩
    · rw [fX0_roadTaken_46]
      simp (disch := omega) only [lit, lm1, nI_add, pk_mul, nm_eq, nm_eq', nm_lt, nm_lt', nm_le, nm_le', x_lt, x_le, x_eq, x_in, x_cl, x_div, x_sub, x_rem, x_min, x_max, x_and, x_or, x_xor, x_df, x_shl, bI_0, bI_1, bI_bo, lg_eq, toL_inj, ls_nI, decide_eq_false_iff_not, decide_eq_true_eq, Bool.true_eq_false, Bool.false_eq_true, bq, if_pos, if_neg, if_true, if_false, lq, Nat.reduceAdd, Nat.reduceMul, Nat.reduceSub, Nat.reduceDiv, Nat.reduceMod, cT.R, c_joins hD cT hr (show fm < 2 ^ 31 by omega) (show to < 2 ^ 31 by omega), hj, cT.r3, u1, may_0 hD, hp]
    · cases e; rw [u3]; exact i4 j hj
  · have cT := c.F hI.2
    refine ⟨T, ?_, hI.2, fun r e => by cases e⟩
    rw [fX0_roadTaken_46]
    simp (disch := omega) only [lit, lm1, nI_add, pk_mul, nm_eq, nm_eq', nm_lt, nm_lt', nm_le, nm_le', x_lt, x_le, x_eq, x_in, x_cl, x_div, x_sub, x_rem, x_min, x_max, x_and, x_or, x_xor, x_df, x_shl, bI_0, bI_1, bI_bo, lg_eq, toL_inj, ls_nI, decide_eq_false_iff_not, decide_eq_true_eq, Bool.true_eq_false, Bool.false_eq_true, bq, if_pos, if_neg, if_true, if_false, lq, Nat.reduceAdd, Nat.reduceMul, Nat.reduceSub, Nat.reduceDiv, Nat.reduceMod, cT.R]
/-- why two can't carry it from a place to another one: 2, 3, 4 -/
def wyF (D : cpD) (E : cpE) (p q c fm to h : Nat) : Nat := if jnd D fm to = false then 2 else if (E.fd p).testBit q then 3 else match rdT D p q c fm to h with
  | none => 4
  | some _ => 0
def ngI (k : Nat) : Int32 := -(nI k)
theorem c_roadTaken (hD : D.WF) (hE : E.WF D) (c : cA D E S) {p q k fm to h : Nat} (hp : p < D.P) (hq : q < D.P) (hk : k < D.C) (hf : fm < D.K) (ht : to < D.K) : ∃ T, fX0_roadTaken (nI p) (nI q) (nI k) (nI fm) (nI to) (nI h) S = some (if wyF D E p q k fm to h = 0 then nI ((rdT D p q k fm to h).getD 0) else ngI (wyF D E p q k fm to h), T) ∧ Kp kF S T ∧ (wyF D E p q k fm to h = 0 → ∀ j, j < 6 → T.1 118 j = fw D p q k fm ((rdT D p q k fm to h).getD 0) h j) := by
  have p8 := hD.p8
  have k6 := hD.k6
  unfold wyF
  cases hj : jnd D fm to
  · refine ⟨S, ?_, Kp.rf, fun e => absurd e (by simp)⟩
    unfold fX0_roadTaken
    simp (disch := omega) only [lit, lm1, nI_add, pk_mul, nm_eq, nm_eq', nm_lt, nm_lt', nm_le, nm_le', x_lt, x_le, x_eq, x_in, x_cl, x_div, x_sub, x_rem, x_min, x_max, x_and, x_or, x_xor, x_df, x_shl, bI_0, bI_1, bI_bo, lg_eq, toL_inj, ls_nI, decide_eq_false_iff_not, decide_eq_true_eq, Bool.true_eq_false, Bool.false_eq_true, bq, if_pos, if_neg, if_true, if_false, lq, Nat.reduceAdd, Nat.reduceMul, Nat.reduceSub, Nat.reduceDiv, Nat.reduceMod, c_joined hD c (show fm < 2 ^ 31 by omega) (show to < 2 ^ 31 by omega), hj]
    rfl
  · cases hb : (E.fd p).testBit q
    · obtain ⟨A, a1, a2, a3⟩ := c_face hD c (h := h) hp hq hk hf
      obtain ⟨T, t1, t2, t3⟩ := c_road46 hD (c.F a2) hf ht (p := p) (q := q) (k := k) (h := h) a3
      have hh : fX0_roadTaken (nI p) (nI q) (nI k) (nI fm) (nI to) (nI h) S = some (match rdT D p q k fm to h with | none => -4 | some r => nI r, T) := by
        unfold fX0_roadTaken
        simp (disch := omega) only [lit, lm1, nI_add, pk_mul, nm_eq, nm_eq', nm_lt, nm_lt', nm_le, nm_le', x_lt, x_le, x_eq, x_in, x_cl, x_div, x_sub, x_rem, x_min, x_max, x_and, x_or, x_xor, x_df, x_shl, bI_0, bI_1, bI_bo, lg_eq, toL_inj, ls_nI, decide_eq_false_iff_not, decide_eq_true_eq, Bool.true_eq_false, Bool.false_eq_true, bq, if_pos, if_neg, if_true, if_false, lq, Nat.reduceAdd, Nat.reduceMul, Nat.reduceSub, Nat.reduceDiv, Nat.reduceMod, c_joined hD c (show fm < 2 ^ 31 by omega) (show to < 2 ^ 31 by omega), hj, c.feuding hD hE (show p < 8 by omega) (show q < 8 by omega), hb, a1]
        exact t1
      refine ⟨T, ?_, a2.tr t2, ?_⟩
      · rw [hh]
        cases rdT D p q k fm to h <;> rfl
      · cases hr : rdT D p q k fm to h with
        | none => intro e; exact absurd e (by simp)
        | some r => intro _; exact t3 r hr
    · refine ⟨S, ?_, Kp.rf, fun e => absurd e (by simp)⟩
      unfold fX0_roadTaken
      simp (disch := omega) only [lit, lm1, nI_add, pk_mul, nm_eq, nm_eq', nm_lt, nm_lt', nm_le, nm_le', x_lt, x_le, x_eq, x_in, x_cl, x_div, x_sub, x_rem, x_min, x_max, x_and, x_or, x_xor, x_df, x_shl, bI_0, bI_1, bI_bo, lg_eq, toL_inj, ls_nI, decide_eq_false_iff_not, decide_eq_true_eq, Bool.true_eq_false, Bool.false_eq_true, bq, if_pos, if_neg, if_true, if_false, lq, Nat.reduceAdd, Nat.reduceMul, Nat.reduceSub, Nat.reduceDiv, Nat.reduceMod, c_joined hD c (show fm < 2 ^ 31 by omega) (show to < 2 ^ 31 by omega), hj, c.feuding hD hE (show p < 8 by omega) (show q < 8 by omega), hb]
      rfl
end CY
