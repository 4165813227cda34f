/-! rests, lifters -/
theorem x_maxM {a : Nat} (h : a < 2 ^ 31) : cpMax (nI a) nM = nI a := by
  unfold cpMax
  rw [if_neg (by rw [nm_lt' h]; exact id)]
def rsS (D : cpD) (E : cpE) (t set : Nat) (s : Nat × Nat × Nat) : Nat × Nat × Nat := if lif D E t set = set then (s.1 + 1, if s.1 = 0 then cnt set else min (cnt set) s.2.1, if s.1 = 0 then cnt set else max (cnt set) s.2.2) else s
def rst (D : cpD) (E : cpE) (t : Nat) : Nat × Nat × Nat := up (rsS D E t) (2 ^ D.P) 0 (0, 0, 0)
def rsF (s : Nat × Nat × Nat) : Int32 := if s.1 = 0 then nM else nI s.2.1
def rsM (s : Nat × Nat × Nat) : Int32 := if s.1 = 0 then nM else nI s.2.2
def rsO (i : Nat) (s : Nat × Nat × Nat) : Prop := s.1 ≤ i ∧ s.2.1 ≤ 8 ∧ s.2.2 ≤ 8
theorem rsO.st {D : cpD} {E : cpE} {t i : Nat} {s : Nat × Nat × Nat} (h : rsO i s) : rsO (i + 1) (rsS D E t i s) := by
  have hc := cnt_le i
  obtain ⟨h1, h2, h3⟩ := h
  unfold rsS
  split
  · refine ⟨by (try dsimp only); omega, ?_, ?_⟩
    · (try dsimp only); split <;> omega
    · (try dsimp only); split <;> omega
  · exact ⟨by omega, h2, h3⟩
def k127 (k _ : Nat) : Prop := k = 127
theorem k127_C {k j : Nat} (h : k127 k j) : kC k j := by
  unfold k127 at h; subst h
  exact ⟨scr_c (by decide) (by decide) (by decide) j, by decide⟩
section CQ
variable {D : cpD} {E : cpE} {S : cpS}
theorem c_findRests (hD : D.WF) (c : cA D E S) {t : Nat} (ht : t ≤ 8) : ∃ T, fX1_findRests (nI t) S = some ((), T) ∧ Kp kC S T ∧ T.1 127 4 = nI (rst D E t).1 ∧ T.1 127 5 = rsF (rst D E t) ∧ T.1 127 6 = rsM (rst D E t) := by
  have p2 := p2_256 hD
  have e1 := ev_1 D
  have h0 : Kp k127 S (cpI (cpI (cpI S 127 4 (nI 0)) 127 5 nM) 127 6 nM) := ((Kp.rf.I (by exact rfl)).I (by exact rfl)).I (by exact rfl)
  have hf : fX1_findRests (nI t) S = fX1_findRests_17 (nI t) cpFu (nI 0) (cpI (cpI (cpI S 127 4 (nI 0)) 127 5 nM) 127 6 nM) := by
    unfold fX1_findRests
    simp (disch := omega) only [lit, lm1, nI_add, pk_mul, nm_eq, nm_eq', nm_lt, nm_lt', nm_le, nm_le', x_lt, x_le, x_eq, x_in, x_cl, x_div, x_sub, x_rem, x_min, x_max, x_and, x_or, x_xor, x_df, x_shl, bI_0, bI_1, bI_bo, lg_eq, toL_inj, ls_nI, decide_eq_false_iff_not, decide_eq_true_eq, Bool.true_eq_false, Bool.false_eq_true, bq, if_pos, if_neg, if_true, if_false, lq, Nat.reduceAdd, Nat.reduceMul, Nat.reduceSub, Nat.reduceDiv, Nat.reduceMod]
  have := up_lpR (F := fun n i (T : cpS) => fX1_findRests_17 (nI t) n i T) (K := fun T => some ((), T)) (2 ^ D.P) (rsS D E t) (fun i s T => T.1 127 4 = nI s.1 ∧ T.1 127 5 = rsF s ∧ T.1 127 6 = rsM s ∧ Kp k127 S T ∧ rsO i s) (by omega) (fun n i s T hi hI => ?_) (fun n s T hI => ?_) (i0 := 0) (s := (0, 0, 0)) (a := cpI (cpI (cpI S 127 4 (nI 0)) 127 5 nM) 127 6 nM) (Nat.zero_le _) ⟨by rw [sIn (Or.inr (by decide)), sIn (Or.inr (by decide)), sI1], by rw [sIn (Or.inr (by decide)), sI1]; rfl, by rw [sI1]; rfl, h0, by unfold rsO; decide⟩
  · obtain ⟨T, t1, t2, t3, t4, t5, -⟩ := this
    exact ⟨T, hf.trans t1, t5.le (fun _ _ => k127_C), t2, t3, t4⟩
  · obtain ⟨i1, i2, i3, i4, i5⟩ := hI
    have cT : cA D E T := c.kp i4 (fun k j h => Or.inl (k127_C h).1.1)
    have hl := lif_lt D E t i
    have hO := i5.st (D := D) (E := E) (t := t)
    have hc := cnt_le i
    obtain ⟨o1, o2, o3⟩ := i5
    have hb : i < 256 := by omega
    by_cases h : lif D E t i = i
    · have hs : rsS D E t i s = (s.1 + 1, if s.1 = 0 then cnt i else min (cnt i) s.2.1, if s.1 = 0 then cnt i else max (cnt i) s.2.2) := by unfold rsS; rw [if_pos h]
      refine ⟨cpI (cpI (cpI T 127 5 (rsF (rsS D E t i s))) 127 6 (rsM (rsS D E t i s))) 127 4 (nI (rsS D E t i s).1), ?_, sI1, by rw [sIn (Or.inr (by decide)), sIn (Or.inr (by decide)), sI1], by rw [sIn (Or.inr (by decide)), sI1], ((i4.I (by exact rfl)).I (by exact rfl)).I (by exact rfl), hO⟩
      (try dsimp only)
      have e6 : ∀ x, (cpI T 127 5 x).1 127 6 = rsM s := fun x => by rw [sIn (Or.inr (by decide))]; exact i3
      have e4 : ∀ x y, (cpI (cpI T 127 5 x) 127 6 y).1 127 4 = nI s.1 := fun x y => by rw [sIn (Or.inr (by decide)), sIn (Or.inr (by decide))]; exact i1
      rw [fX1_findRests_17, hs]
      unfold fX1_findRests_60
      by_cases h4 : s.1 = 0
      · have r1 : rsM s = nM := if_pos h4
        have r2 : ∀ x y, rsF (s.1 + 1, x, y) = nI x := fun x y => if_neg (by omega)
        have r3 : ∀ x y, rsM (s.1 + 1, x, y) = nI y := fun x y => if_neg (by omega)
        rw [r2, r3]
        simp (disch := omega) only [lit, lm1, nI_add, pk_mul, nm_eq, nm_eq', nm_lt, nm_lt', nm_le, nm_le', x_lt, x_le, x_eq, x_in, x_cl, x_div, x_sub, x_rem, x_min, x_max, x_and, x_or, x_xor, x_df, x_shl, bI_0, bI_1, bI_bo, lg_eq, toL_inj, ls_nI, decide_eq_false_iff_not, decide_eq_true_eq, Bool.true_eq_false, Bool.false_eq_true, bq, if_pos, if_neg, if_true, if_false, lq, Nat.reduceAdd, Nat.reduceMul, Nat.reduceSub, Nat.reduceDiv, Nat.reduceMod, c_every hD cT, c_liftNext hD cT hi ht, h, c_bc hb, i1, i2, e6, e4, h4, r1, x_maxM]
      · have r1 : rsM s = nI s.2.2 := if_neg h4
        have r1' : rsF s = nI s.2.1 := if_neg h4
        have r2 : ∀ x y, rsF (s.1 + 1, x, y) = nI x := fun x y => if_neg (by omega)
        have r3 : ∀ x y, rsM (s.1 + 1, x, y) = nI y := fun x y => if_neg (by omega)
        rw [r2, r3]
        simp (disch := omega) only [lit, lm1, nI_add, pk_mul, nm_eq, nm_eq', nm_lt, nm_lt', nm_le, nm_le', x_lt, x_le, x_eq, x_in, x_cl, x_div, x_sub, x_rem, x_min, x_max, x_and, x_or, x_xor, x_df, x_shl, bI_0, bI_1, bI_bo, lg_eq, toL_inj, ls_nI, decide_eq_false_iff_not, decide_eq_true_eq, Bool.true_eq_false, Bool.false_eq_true, bq, if_pos, if_neg, if_true, if_false, lq, Nat.reduceAdd, Nat.reduceMul, Nat.reduceSub, Nat.reduceDiv, Nat.reduceMod, c_every hD cT, c_liftNext hD cT hi ht, h, c_bc hb, i1, i2, e6, e4, h4, r1, r1']
    · refine ⟨T, ?_, ?_⟩
      · (try dsimp only)
        rw [fX1_findRests_17]
        simp (disch := omega) only [lit, lm1, nI_add, pk_mul, nm_eq, nm_eq', nm_lt, nm_lt', nm_le, nm_le', x_lt, x_le, x_eq, x_in, x_cl, x_div, x_sub, x_rem, x_min, x_max, x_and, x_or, x_xor, x_df, x_shl, bI_0, bI_1, bI_bo, lg_eq, toL_inj, ls_nI, decide_eq_false_iff_not, decide_eq_true_eq, Bool.true_eq_false, Bool.false_eq_true, bq, if_pos, if_neg, if_true, if_false, lq, Nat.reduceAdd, Nat.reduceMul, Nat.reduceSub, Nat.reduceDiv, Nat.reduceMod, c_every hD cT, c_liftNext hD cT hi ht, h]
      · have hs : rsS D E t i s = s := by unfold rsS; rw [if_neg h]
        rw [hs] at hO ⊢
        exact ⟨i1, i2, i3, i4, hO⟩
  · have cT : cA D E T := c.kp hI.2.2.2.1 (fun k j h => Or.inl (k127_C h).1.1)
    (try dsimp only)
    rw [fX1_findRests_17]
    simp (disch := omega) only [lit, lm1, nI_add, pk_mul, nm_eq, nm_eq', nm_lt, nm_lt', nm_le, nm_le', x_lt, x_le, x_eq, x_in, x_cl, x_div, x_sub, x_rem, x_min, x_max, x_and, x_or, x_xor, x_df, x_shl, bI_0, bI_1, bI_bo, lg_eq, toL_inj, ls_nI, decide_eq_false_iff_not, decide_eq_true_eq, Bool.true_eq_false, Bool.false_eq_true, bq, if_pos, if_neg, if_true, if_false, lq, Nat.reduceAdd, Nat.reduceMul, Nat.reduceSub, Nat.reduceDiv, Nat.reduceMod, c_every hD cT]
def rsP (k : Nat) (s : Nat × Nat × Nat) : Int32 := if k = 0 then nI s.1 else if k = 1 then rsF s else rsM s
theorem m_rests46 (hD : D.WF) (m : mA D E S) {t k : Nat} (ht : t ≤ 8) (hk : k < 3) : fX12_rests_46 (nI t) (nI k) cpFu (nI 0) nM nM (nI 0) S = some (rsP k (rst D E t), S) := by
  have p2 := p2_256 hD
  have e1 := ev_1 D
  refine up_lp (F := fun n i (a : Int32 × Int32 × Int32) => fX12_rests_46 (nI t) (nI k) n a.1 a.2.1 a.2.2 i S) (K := fun s => some (rsP k s, S)) (2 ^ D.P) (rsS D E t) rsO (fun s => (nI s.1, rsF s, rsM s)) (by omega) (fun n i s hi ok => ⟨?_, ok.st⟩) (fun n s ok => ?_) (Nat.zero_le _) (s := (0, 0, 0)) (by unfold rsO; decide)
  · (try dsimp only)
    have hl := lif_lt D E t i
    have hc := cnt_le i
    obtain ⟨o1, o2, o3⟩ := ok
    have hb : i < 256 := by omega
    rw [fX12_rests_46]
    by_cases h : lif D E t i = i
    · have hs : rsS D E t i s = (s.1 + 1, if s.1 = 0 then cnt i else min (cnt i) s.2.1, if s.1 = 0 then cnt i else max (cnt i) s.2.2) := by unfold rsS; rw [if_pos h]
      have r2 : ∀ x y, rsF (s.1 + 1, x, y) = nI x := fun x y => if_neg (by omega)
      have r3 : ∀ x y, rsM (s.1 + 1, x, y) = nI y := fun x y => if_neg (by omega)
      rw [hs, r2, r3]
      unfold fX12_rests_99
      by_cases h4 : s.1 = 0
      · have r1 : rsM s = nM := if_pos h4
        have r1' : rsF s = nM := if_pos h4
        simp (disch := omega) only [lit, lm1, nI_add, pk_mul, nm_eq, nm_eq', nm_lt, nm_lt', nm_le, nm_le', x_lt, x_le, x_eq, x_in, x_cl, x_div, x_sub, x_rem, x_min, x_max, x_and, x_or, x_xor, x_df, x_shl, bI_0, bI_1, bI_bo, lg_eq, toL_inj, ls_nI, decide_eq_false_iff_not, decide_eq_true_eq, Bool.true_eq_false, Bool.false_eq_true, bq, if_pos, if_neg, if_true, if_false, lq, Nat.reduceAdd, Nat.reduceMul, Nat.reduceSub, Nat.reduceDiv, Nat.reduceMod, m_every hD m, m_liftsTo hD m hi ht, h, m_bits hb, h4, r1, r1', eq_self]
      · have r1 : rsM s = nI s.2.2 := if_neg h4
        have r1' : rsF s = nI s.2.1 := if_neg h4
        by_cases h5 : s.2.1 ≤ cnt i
        · have h5' : min (cnt i) s.2.1 = s.2.1 := by omega
          by_cases h6 : cnt i ≤ s.2.2
          · have h6' : max (cnt i) s.2.2 = s.2.2 := by omega
            simp (disch := omega) only [lit, lm1, nI_add, pk_mul, nm_eq, nm_eq', nm_lt, nm_lt', nm_le, nm_le', x_lt, x_le, x_eq, x_in, x_cl, x_div, x_sub, x_rem, x_min, x_max, x_and, x_or, x_xor, x_df, x_shl, bI_0, bI_1, bI_bo, lg_eq, toL_inj, ls_nI, decide_eq_false_iff_not, decide_eq_true_eq, Bool.true_eq_false, Bool.false_eq_true, bq, if_pos, if_neg, if_true, if_false, lq, Nat.reduceAdd, Nat.reduceMul, Nat.reduceSub, Nat.reduceDiv, Nat.reduceMod, m_every hD m, m_liftsTo hD m hi ht, h, m_bits hb, h4, r1, r1', h5, h5', h6, h6']
          · have h6' : max (cnt i) s.2.2 = cnt i := by omega
            simp (disch := omega) only [lit, lm1, nI_add, pk_mul, nm_eq, nm_eq', nm_lt, nm_lt', nm_le, nm_le', x_lt, x_le, x_eq, x_in, x_cl, x_div, x_sub, x_rem, x_min, x_max, x_and, x_or, x_xor, x_df, x_shl, bI_0, bI_1, bI_bo, lg_eq, toL_inj, ls_nI, decide_eq_false_iff_not, decide_eq_true_eq, Bool.true_eq_false, Bool.false_eq_true, bq, if_pos, if_neg, if_true, if_false, lq, Nat.reduceAdd, Nat.reduceMul, Nat.reduceSub, Nat.reduceDiv, Nat.reduceMod, m_every hD m, m_liftsTo hD m hi ht, h, m_bits hb, h4, r1, r1', h5, h5', h6, h6']
        · have h5' : min (cnt i) s.2.1 = cnt i := by omega
          by_cases h6 : cnt i ≤ s.2.2
          · have h6' : max (cnt i) s.2.2 = s.2.2 := by omega
            simp (disch := omega) only [lit, lm1, nI_add, pk_mul, nm_eq, nm_eq', nm_lt, nm_lt', nm_le, nm_le', x_lt, x_le, x_eq, x_in, x_cl, x_div, x_sub, x_rem, x_min, x_max, x_and, x_or, x_xor, x_df, x_shl, bI_0, bI_1, bI_bo, lg_eq, toL_inj, ls_nI, decide_eq_false_iff_not, decide_eq_true_eq, Bool.true_eq_false, Bool.false_eq_true, bq, if_pos, if_neg, if_true, if_false, lq, Nat.reduceAdd, Nat.reduceMul, Nat.reduceSub, Nat.reduceDiv, Nat.reduceMod, m_every hD m, m_liftsTo hD m hi ht, h, m_bits hb, h4, r1, r1', h5, h5', h6, h6']
          · have h6' : max (cnt i) s.2.2 = cnt i := by omega
            simp (disch := omega) only [lit, lm1, nI_add, pk_mul, nm_eq, nm_eq', nm_lt, nm_lt', nm_le, nm_le', x_lt, x_le, x_eq, x_in, x_cl, x_div, x_sub, x_rem, x_min, x_max, x_and, x_or, x_xor, x_df, x_shl, bI_0, bI_1, bI_bo, lg_eq, toL_inj, ls_nI, decide_eq_false_iff_not, decide_eq_true_eq, Bool.true_eq_false, Bool.false_eq_true, bq, if_pos, if_neg, if_true, if_false, lq, Nat.reduceAdd, Nat.reduceMul, Nat.reduceSub, Nat.reduceDiv, Nat.reduceMod, m_every hD m, m_liftsTo hD m hi ht, h, m_bits hb, h4, r1, r1', h5, h5', h6, h6']
    · have hs : rsS D E t i s = s := by unfold rsS; rw [if_neg h]
      rw [hs]
      simp (disch := omega) only [lit, lm1, nI_add, pk_mul, nm_eq, nm_eq', nm_lt, nm_lt', nm_le, nm_le', x_lt, x_le, x_eq, x_in, x_cl, x_div, x_sub, x_rem, x_min, x_max, x_and, x_or, x_xor, x_df, x_shl, bI_0, bI_1, bI_bo, lg_eq, toL_inj, ls_nI, decide_eq_false_iff_not, decide_eq_true_eq, Bool.true_eq_false, Bool.false_eq_true, bq, if_pos, if_neg, if_true, if_false, lq, Nat.reduceAdd, Nat.reduceMul, Nat.reduceSub, Nat.reduceDiv, Nat.reduceMod, m_every hD m, m_liftsTo hD m hi ht, h]
  · (try dsimp only)
    rw [fX12_rests_46]
    rcases (show k = 0 ∨ k = 1 ∨ k = 2 by omega) with rfl | rfl | rfl
    · simp (disch := omega) only [lit, lm1, nI_add, pk_mul, nm_eq, nm_eq', nm_lt, nm_lt', nm_le, nm_le', x_lt, x_le, x_eq, x_in, x_cl, x_div, x_sub, x_rem, x_min, x_max, x_and, x_or, x_xor, x_df, x_shl, bI_0, bI_1, bI_bo, lg_eq, toL_inj, ls_nI, decide_eq_false_iff_not, decide_eq_true_eq, Bool.true_eq_false, Bool.false_eq_true, bq, if_pos, if_neg, if_true, if_false, lq, Nat.reduceAdd, Nat.reduceMul, Nat.reduceSub, Nat.reduceDiv, Nat.reduceMod, m_every hD m]; rfl
    · simp (disch := omega) only [lit, lm1, nI_add, pk_mul, nm_eq, nm_eq', nm_lt, nm_lt', nm_le, nm_le', x_lt, x_le, x_eq, x_in, x_cl, x_div, x_sub, x_rem, x_min, x_max, x_and, x_or, x_xor, x_df, x_shl, bI_0, bI_1, bI_bo, lg_eq, toL_inj, ls_nI, decide_eq_false_iff_not, decide_eq_true_eq, Bool.true_eq_false, Bool.false_eq_true, bq, if_pos, if_neg, if_true, if_false, lq, Nat.reduceAdd, Nat.reduceMul, Nat.reduceSub, Nat.reduceDiv, Nat.reduceMod, m_every hD m]; rfl
    · simp (disch := omega) only [lit, lm1, nI_add, pk_mul, nm_eq, nm_eq', nm_lt, nm_lt', nm_le, nm_le', x_lt, x_le, x_eq, x_in, x_cl, x_div, x_sub, x_rem, x_min, x_max, x_and, x_or, x_xor, x_df, x_shl, bI_0, bI_1, bI_bo, lg_eq, toL_inj, ls_nI, decide_eq_false_iff_not, decide_eq_true_eq, Bool.true_eq_false, Bool.false_eq_true, bq, if_pos, if_neg, if_true, if_false, lq, Nat.reduceAdd, Nat.reduceMul, Nat.reduceSub, Nat.reduceDiv, Nat.reduceMod, m_every hD m]; rfl
/-! lifters -/
def sto (D : cpD) (set : Nat) : Nat := up (fun p s => if set.testBit p then s + D.st p else s) D.P 0 0
theorem sto_le {D : cpD} (hD : D.WF) (set : Nat) : sto D set ≤ 72 := by
  have p8 := hD.p8
  have := up_inv (fun p s => if set.testBit p then s + D.st p else s) D.P (fun i s => s ≤ 9 * i) (fun i s hi h => by have := (hD.hm i hi).2; (try dsimp only); split <;> omega) D.P 0 0 (by omega) (by omega)
  unfold sto
  omega
def lfB (set : Nat) (o : Option Nat) : Option Nat := match o with
  | none => some set
  | some b => if cnt set < cnt b then some set else some b
def lfS (D : cpD) (w set : Nat) (o : Option Nat) : Option Nat := if sto D set < w then o else lfB set o
def lft (D : cpD) (w : Nat) : Option Nat := up (lfS D w) (2 ^ D.P) 0 none
def lfO (D : cpD) (o : Option Nat) : Prop := ∀ b, o = some b → b < 2 ^ D.P
theorem lfO.st {D : cpD} {w i : Nat} {o : Option Nat} (h : lfO D o) (hi : i < 2 ^ D.P) : lfO D (lfS D w i o) := by
  intro b hb
  unfold lfS lfB at hb
  split at hb
  · exact h b hb
  · cases o with
    | none => cases hb; exact hi
    | some x =>
      (try dsimp only at hb)
      split at hb
      · cases hb; exact hi
      · exact h b hb
theorem lft_O (D : cpD) (w : Nat) : lfO D (lft D w) := up_inv (lfS D w) (2 ^ D.P) (fun _ o => lfO D o) (fun i o hi h => h.st hi) (2 ^ D.P) 0 none (by omega) (fun b hb => by cases hb)
theorem c_strengthOf (hD : D.WF) (c : cA D E S) {set : Nat} (hs : set < 2 ^ D.P) : fX1_strengthOf (nI set) S = some (nI (sto D set), S) := by
  have p8 := hD.p8
  have p2 := p2_256 hD
  unfold fX1_strengthOf sto
  simp only [lit]
  refine up_lp (F := fun n i (x : Int32) => fX1_strengthOf_4 (nI set) n x i S) (K := fun s => some (nI s, S)) D.P (fun p s => if set.testBit p then s + D.st p else s) (fun _ _ => True) nI (by omega) (fun n i s hi ok => ⟨?_, trivial⟩) (fun n s ok => ?_) (Nat.zero_le _) trivial
  · (try dsimp only)
    rw [fX1_strengthOf_4]
    simp (disch := omega) only [lit, lm1, nI_add, pk_mul, nm_eq, nm_eq', nm_lt, nm_lt', nm_le, nm_le', x_lt, x_le, x_eq, x_in, x_cl, x_div, x_sub, x_rem, x_min, x_max, x_and, x_or, x_xor, x_df, x_shl, bI_0, bI_1, bI_bo, lg_eq, toL_inj, ls_nI, decide_eq_false_iff_not, decide_eq_true_eq, Bool.true_eq_false, Bool.false_eq_true, bq, if_pos, if_neg, if_true, if_false, lq, Nat.reduceAdd, Nat.reduceMul, Nat.reduceSub, Nat.reduceDiv, Nat.reduceMod, c.P, c.st, e_isIn]
    cases hb : set.testBit i <;> rfl
  · (try dsimp only)
    rw [fX1_strengthOf_4]
    simp (disch := omega) only [lit, lm1, nI_add, pk_mul, nm_eq, nm_eq', nm_lt, nm_lt', nm_le, nm_le', x_lt, x_le, x_eq, x_in, x_cl, x_div, x_sub, x_rem, x_min, x_max, x_and, x_or, x_xor, x_df, x_shl, bI_0, bI_1, bI_bo, lg_eq, toL_inj, ls_nI, decide_eq_false_iff_not, decide_eq_true_eq, Bool.true_eq_false, Bool.false_eq_true, bq, if_pos, if_neg, if_true, if_false, lq, Nat.reduceAdd, Nat.reduceMul, Nat.reduceSub, Nat.reduceDiv, Nat.reduceMod, c.P]
theorem c_fewestLifters (hD : D.WF) (c : cA D E S) {w : Nat} (hw : w ≤ 99) : fX1_fewestLifters (nI w) S = some (oI (lft D w), S) := by
  have p2 := p2_256 hD
  have e1 := ev_1 D
  unfold fX1_fewestLifters lft
  simp only [lit, lm1]
  refine up_lp (F := fun n i (x : Int32) => fX1_fewestLifters_4 (nI w) n x i S) (K := fun o => some (oI o, S)) (2 ^ D.P) (lfS D w) (fun _ o => lfO D o) oI (by omega) (fun n i o hi ok => ⟨?_, ok.st hi⟩) (fun n s ok => ?_) (Nat.zero_le _) (s := none) (fun b hb => by cases hb)
  · (try dsimp only)
    have hsl := sto_le hD i
    have hb : i < 256 := by omega
    have hc := cnt_le i
    rw [fX1_fewestLifters_4]
    unfold fX1_fewestLifters_33 lfS lfB
    cases o with
    | none =>
      by_cases h : sto D i < w
      · simp (disch := omega) only [lit, lm1, nI_add, pk_mul, nm_eq, nm_eq', nm_lt, nm_lt', nm_le, nm_le', x_lt, x_le, x_eq, x_in, x_cl, x_div, x_sub, x_rem, x_min, x_max, x_and, x_or, x_xor, x_df, x_shl, bI_0, bI_1, bI_bo, lg_eq, toL_inj, ls_nI, decide_eq_false_iff_not, decide_eq_true_eq, Bool.true_eq_false, Bool.false_eq_true, bq, if_pos, if_neg, if_true, if_false, lq, Nat.reduceAdd, Nat.reduceMul, Nat.reduceSub, Nat.reduceDiv, Nat.reduceMod, c_every hD c, c_strengthOf hD c hi, h, oI, eq_self]
      · simp (disch := omega) only [lit, lm1, nI_add, pk_mul, nm_eq, nm_eq', nm_lt, nm_lt', nm_le, nm_le', x_lt, x_le, x_eq, x_in, x_cl, x_div, x_sub, x_rem, x_min, x_max, x_and, x_or, x_xor, x_df, x_shl, bI_0, bI_1, bI_bo, lg_eq, toL_inj, ls_nI, decide_eq_false_iff_not, decide_eq_true_eq, Bool.true_eq_false, Bool.false_eq_true, bq, if_pos, if_neg, if_true, if_false, lq, Nat.reduceAdd, Nat.reduceMul, Nat.reduceSub, Nat.reduceDiv, Nat.reduceMod, c_every hD c, c_strengthOf hD c hi, h, oI, eq_self]
    | some b =>
      have hb2 := ok b rfl
      have hb3 : b < 256 := by omega
      have hc2 := cnt_le b
      by_cases h : sto D i < w
      · by_cases h2 : cnt i < cnt b
        · simp (disch := omega) only [lit, lm1, nI_add, pk_mul, nm_eq, nm_eq', nm_lt, nm_lt', nm_le, nm_le', x_lt, x_le, x_eq, x_in, x_cl, x_div, x_sub, x_rem, x_min, x_max, x_and, x_or, x_xor, x_df, x_shl, bI_0, bI_1, bI_bo, lg_eq, toL_inj, ls_nI, decide_eq_false_iff_not, decide_eq_true_eq, Bool.true_eq_false, Bool.false_eq_true, bq, if_pos, if_neg, if_true, if_false, lq, Nat.reduceAdd, Nat.reduceMul, Nat.reduceSub, Nat.reduceDiv, Nat.reduceMod, c_every hD c, c_strengthOf hD c hi, h, oI, c_bc hb, c_bc hb3, h2]
        · simp (disch := omega) only [lit, lm1, nI_add, pk_mul, nm_eq, nm_eq', nm_lt, nm_lt', nm_le, nm_le', x_lt, x_le, x_eq, x_in, x_cl, x_div, x_sub, x_rem, x_min, x_max, x_and, x_or, x_xor, x_df, x_shl, bI_0, bI_1, bI_bo, lg_eq, toL_inj, ls_nI, decide_eq_false_iff_not, decide_eq_true_eq, Bool.true_eq_false, Bool.false_eq_true, bq, if_pos, if_neg, if_true, if_false, lq, Nat.reduceAdd, Nat.reduceMul, Nat.reduceSub, Nat.reduceDiv, Nat.reduceMod, c_every hD c, c_strengthOf hD c hi, h, oI, c_bc hb, c_bc hb3, h2]
      · by_cases h2 : cnt i < cnt b
        · simp (disch := omega) only [lit, lm1, nI_add, pk_mul, nm_eq, nm_eq', nm_lt, nm_lt', nm_le, nm_le', x_lt, x_le, x_eq, x_in, x_cl, x_div, x_sub, x_rem, x_min, x_max, x_and, x_or, x_xor, x_df, x_shl, bI_0, bI_1, bI_bo, lg_eq, toL_inj, ls_nI, decide_eq_false_iff_not, decide_eq_true_eq, Bool.true_eq_false, Bool.false_eq_true, bq, if_pos, if_neg, if_true, if_false, lq, Nat.reduceAdd, Nat.reduceMul, Nat.reduceSub, Nat.reduceDiv, Nat.reduceMod, c_every hD c, c_strengthOf hD c hi, h, oI, c_bc hb, c_bc hb3, h2]
        · simp (disch := omega) only [lit, lm1, nI_add, pk_mul, nm_eq, nm_eq', nm_lt, nm_lt', nm_le, nm_le', x_lt, x_le, x_eq, x_in, x_cl, x_div, x_sub, x_rem, x_min, x_max, x_and, x_or, x_xor, x_df, x_shl, bI_0, bI_1, bI_bo, lg_eq, toL_inj, ls_nI, decide_eq_false_iff_not, decide_eq_true_eq, Bool.true_eq_false, Bool.false_eq_true, bq, if_pos, if_neg, if_true, if_false, lq, Nat.reduceAdd, Nat.reduceMul, Nat.reduceSub, Nat.reduceDiv, Nat.reduceMod, c_every hD c, c_strengthOf hD c hi, h, oI, c_bc hb, c_bc hb3, h2]
  · (try dsimp only)
    rw [fX1_fewestLifters_4]
    simp (disch := omega) only [lit, lm1, nI_add, pk_mul, nm_eq, nm_eq', nm_lt, nm_lt', nm_le, nm_le', x_lt, x_le, x_eq, x_in, x_cl, x_div, x_sub, x_rem, x_min, x_max, x_and, x_or, x_xor, x_df, x_shl, bI_0, bI_1, bI_bo, lg_eq, toL_inj, ls_nI, decide_eq_false_iff_not, decide_eq_true_eq, Bool.true_eq_false, Bool.false_eq_true, bq, if_pos, if_neg, if_true, if_false, lq, Nat.reduceAdd, Nat.reduceMul, Nat.reduceSub, Nat.reduceDiv, Nat.reduceMod, c_every hD c]
theorem m_lift53 (hD : D.WF) (m : mA D E S) {w i : Nat} {x2 : Int32} {o : Option Nat} (hw : w ≤ 99) (hi : i < 2 ^ D.P) (ok : lfO D o) (k : Int32 → Int32 → cpS → Option (Int32 × cpS)) : fX12_lifters_53 (nI w) x2 (oI o) (nI i) k cpFu (nI 0) (nI 0) S = k (oI (lfS D w i o)) (nI (i + 1)) S := by
  have p8 := hD.p8
  have p2 := p2_256 hD
  have hsl := sto_le hD i
  unfold sto at hsl
  have := up_lp (F := fun n j (x : Int32) => fX12_lifters_53 (nI w) x2 (oI o) (nI i) k n x j S) (K := fun s => if s < w then k (oI o) (nI (i + 1)) S else k (oI (lfB i o)) (nI (i + 1)) S) D.P (fun p s => if i.testBit p then s + D.st p else s) (fun j s => s ≤ 9 * j) nI (by omega) (fun n j s hj ok => ⟨?_, ?_⟩) (fun n s ok' => ?_) (Nat.zero_le _) (s := 0) (by omega)
  · refine this.trans ?_
    unfold lfS
    show (if sto D i < w then _ else _) = _
    split <;> rfl
  · (try dsimp only)
    rw [fX12_lifters_53]
    simp (disch := omega) only [lit, lm1, nI_add, pk_mul, nm_eq, nm_eq', nm_lt, nm_lt', nm_le, nm_le', x_lt, x_le, x_eq, x_in, x_cl, x_div, x_sub, x_rem, x_min, x_max, x_and, x_or, x_xor, x_df, x_shl, bI_0, bI_1, bI_bo, lg_eq, toL_inj, ls_nI, decide_eq_false_iff_not, decide_eq_true_eq, Bool.true_eq_false, Bool.false_eq_true, bq, if_pos, if_neg, if_true, if_false, lq, Nat.reduceAdd, Nat.reduceMul, Nat.reduceSub, Nat.reduceDiv, Nat.reduceMod, m.P, m.st, m_isIn, Nat.add_zero]
    cases hb : i.testBit j <;> rfl
  · have := (hD.hm j hj).2
    (try dsimp only); split <;> omega
  · (try dsimp only)
    have hb : i < 256 := by omega
    have hc := cnt_le i
    rw [fX12_lifters_53]
    unfold lfB
    cases o with
    | none =>
      by_cases h : s < w
      · simp (disch := omega) only [lit, lm1, nI_add, pk_mul, nm_eq, nm_eq', nm_lt, nm_lt', nm_le, nm_le', x_lt, x_le, x_eq, x_in, x_cl, x_div, x_sub, x_rem, x_min, x_max, x_and, x_or, x_xor, x_df, x_shl, bI_0, bI_1, bI_bo, lg_eq, toL_inj, ls_nI, decide_eq_false_iff_not, decide_eq_true_eq, Bool.true_eq_false, Bool.false_eq_true, bq, if_pos, if_neg, if_true, if_false, lq, Nat.reduceAdd, Nat.reduceMul, Nat.reduceSub, Nat.reduceDiv, Nat.reduceMod, m.P, h, oI, eq_self]
      · simp (disch := omega) only [lit, lm1, nI_add, pk_mul, nm_eq, nm_eq', nm_lt, nm_lt', nm_le, nm_le', x_lt, x_le, x_eq, x_in, x_cl, x_div, x_sub, x_rem, x_min, x_max, x_and, x_or, x_xor, x_df, x_shl, bI_0, bI_1, bI_bo, lg_eq, toL_inj, ls_nI, decide_eq_false_iff_not, decide_eq_true_eq, Bool.true_eq_false, Bool.false_eq_true, bq, if_pos, if_neg, if_true, if_false, lq, Nat.reduceAdd, Nat.reduceMul, Nat.reduceSub, Nat.reduceDiv, Nat.reduceMod, m.P, h, oI, eq_self]
    | some b =>
      have hb2 := ok b rfl
      have hb3 : b < 256 := by omega
      have hc2 := cnt_le b
      by_cases h : s < w
      · simp (disch := omega) only [lit, lm1, nI_add, pk_mul, nm_eq, nm_eq', nm_lt, nm_lt', nm_le, nm_le', x_lt, x_le, x_eq, x_in, x_cl, x_div, x_sub, x_rem, x_min, x_max, x_and, x_or, x_xor, x_df, x_shl, bI_0, bI_1, bI_bo, lg_eq, toL_inj, ls_nI, decide_eq_false_iff_not, decide_eq_true_eq, Bool.true_eq_false, Bool.false_eq_true, bq, if_pos, if_neg, if_true, if_false, lq, Nat.reduceAdd, Nat.reduceMul, Nat.reduceSub, Nat.reduceDiv, Nat.reduceMod, m.P, h, oI]
      · by_cases h2 : cnt i < cnt b
        · simp (disch := omega) only [lit, lm1, nI_add, pk_mul, nm_eq, nm_eq', nm_lt, nm_lt', nm_le, nm_le', x_lt, x_le, x_eq, x_in, x_cl, x_div, x_sub, x_rem, x_min, x_max, x_and, x_or, x_xor, x_df, x_shl, bI_0, bI_1, bI_bo, lg_eq, toL_inj, ls_nI, decide_eq_false_iff_not, decide_eq_true_eq, Bool.true_eq_false, Bool.false_eq_true, bq, if_pos, if_neg, if_true, if_false, lq, Nat.reduceAdd, Nat.reduceMul, Nat.reduceSub, Nat.reduceDiv, Nat.reduceMod, m.P, h, oI, m_bits hb, m_bits hb3, h2]
        · simp (disch := omega) only [lit, lm1, nI_add, pk_mul, nm_eq, nm_eq', nm_lt, nm_lt', nm_le, nm_le', x_lt, x_le, x_eq, x_in, x_cl, x_div, x_sub, x_rem, x_min, x_max, x_and, x_or, x_xor, x_df, x_shl, bI_0, bI_1, bI_bo, lg_eq, toL_inj, ls_nI, decide_eq_false_iff_not, decide_eq_true_eq, Bool.true_eq_false, Bool.false_eq_true, bq, if_pos, if_neg, if_true, if_false, lq, Nat.reduceAdd, Nat.reduceMul, Nat.reduceSub, Nat.reduceDiv, Nat.reduceMod, m.P, h, oI, m_bits hb, m_bits hb3, h2]
def szS (k : Nat) (o : Option Nat) : Int32 := match o with
  | none => nM
  | some b => if k = 0 then nI (cnt b) else nI b
theorem m_lifters38 (hD : D.WF) (m : mA D E S) {w k : Nat} (hw : w ≤ 99) (hk : k < 2) : fX12_lifters_38 (nI w) (nI k) cpFu nM (nI 0) S = some (szS k (lft D w), S) := by
  have p2 := p2_256 hD
  have e1 := ev_1 D
  refine up_lp (F := fun n i (x : Int32) => fX12_lifters_38 (nI w) (nI k) n x i S) (K := fun o => some (szS k o, S)) (2 ^ D.P) (lfS D w) (fun _ o => lfO D o) oI (by omega) (fun n i o hi ok => ⟨?_, ok.st hi⟩) (fun n o ok => ?_) (Nat.zero_le _) (s := none) (fun b hb => by cases hb)
  · (try dsimp only)
    rw [fX12_lifters_38]
    simp (disch := omega) only [lit, lm1, nI_add, pk_mul, nm_eq, nm_eq', nm_lt, nm_lt', nm_le, nm_le', x_lt, x_le, x_eq, x_in, x_cl, x_div, x_sub, x_rem, x_min, x_max, x_and, x_or, x_xor, x_df, x_shl, bI_0, bI_1, bI_bo, lg_eq, toL_inj, ls_nI, decide_eq_false_iff_not, decide_eq_true_eq, Bool.true_eq_false, Bool.false_eq_true, bq, if_pos, if_neg, if_true, if_false, lq, Nat.reduceAdd, Nat.reduceMul, Nat.reduceSub, Nat.reduceDiv, Nat.reduceMod, m_every hD m, m_lift53 hD m hw hi ok]
  · (try dsimp only)
    rw [fX12_lifters_38]
    cases o with
    | none => simp (disch := omega) only [lit, lm1, nI_add, pk_mul, nm_eq, nm_eq', nm_lt, nm_lt', nm_le, nm_le', x_lt, x_le, x_eq, x_in, x_cl, x_div, x_sub, x_rem, x_min, x_max, x_and, x_or, x_xor, x_df, x_shl, bI_0, bI_1, bI_bo, lg_eq, toL_inj, ls_nI, decide_eq_false_iff_not, decide_eq_true_eq, Bool.true_eq_false, Bool.false_eq_true, bq, if_pos, if_neg, if_true, if_false, lq, Nat.reduceAdd, Nat.reduceMul, Nat.reduceSub, Nat.reduceDiv, Nat.reduceMod, m_every hD m, oI, eq_self]; rfl
    | some b =>
      have hb2 := ok b rfl
      have hb3 : b < 256 := by omega
      rcases (show k = 0 ∨ k = 1 by omega) with rfl | rfl
      · simp (disch := omega) only [lit, lm1, nI_add, pk_mul, nm_eq, nm_eq', nm_lt, nm_lt', nm_le, nm_le', x_lt, x_le, x_eq, x_in, x_cl, x_div, x_sub, x_rem, x_min, x_max, x_and, x_or, x_xor, x_df, x_shl, bI_0, bI_1, bI_bo, lg_eq, toL_inj, ls_nI, decide_eq_false_iff_not, decide_eq_true_eq, Bool.true_eq_false, Bool.false_eq_true, bq, if_pos, if_neg, if_true, if_false, lq, Nat.reduceAdd, Nat.reduceMul, Nat.reduceSub, Nat.reduceDiv, Nat.reduceMod, m_every hD m, oI, m_bits hb3]; rfl
      · simp (disch := omega) only [lit, lm1, nI_add, pk_mul, nm_eq, nm_eq', nm_lt, nm_lt', nm_le, nm_le', x_lt, x_le, x_eq, x_in, x_cl, x_div, x_sub, x_rem, x_min, x_max, x_and, x_or, x_xor, x_df, x_shl, bI_0, bI_1, bI_bo, lg_eq, toL_inj, ls_nI, decide_eq_false_iff_not, decide_eq_true_eq, Bool.true_eq_false, Bool.false_eq_true, bq, if_pos, if_neg, if_true, if_false, lq, Nat.reduceAdd, Nat.reduceMul, Nat.reduceSub, Nat.reduceDiv, Nat.reduceMod, m_every hD m, oI, m_bits hb3]; rfl
theorem c_sizeOrSet {o : Option Nat} {k : Nat} (h : ∀ b, o = some b → b < 256) (hk : k < 2) (S : cpS) : fX11_sizeOrSet (oI o) (nI k) S = some (szS k o, S) := by
  unfold fX11_sizeOrSet
  cases o with
  | none => simp (disch := omega) only [lit, lm1, nI_add, pk_mul, nm_eq, nm_eq', nm_lt, nm_lt', nm_le, nm_le', x_lt, x_le, x_eq, x_in, x_cl, x_div, x_sub, x_rem, x_min, x_max, x_and, x_or, x_xor, x_df, x_shl, bI_0, bI_1, bI_bo, lg_eq, toL_inj, ls_nI, decide_eq_false_iff_not, decide_eq_true_eq, Bool.true_eq_false, Bool.false_eq_true, bq, if_pos, if_neg, if_true, if_false, lq, Nat.reduceAdd, Nat.reduceMul, Nat.reduceSub, Nat.reduceDiv, Nat.reduceMod, oI, eq_self]; rfl
  | some b =>
    have hb := h b rfl
    rcases (show k = 0 ∨ k = 1 by omega) with rfl | rfl
    · simp (disch := omega) only [lit, lm1, nI_add, pk_mul, nm_eq, nm_eq', nm_lt, nm_lt', nm_le, nm_le', x_lt, x_le, x_eq, x_in, x_cl, x_div, x_sub, x_rem, x_min, x_max, x_and, x_or, x_xor, x_df, x_shl, bI_0, bI_1, bI_bo, lg_eq, toL_inj, ls_nI, decide_eq_false_iff_not, decide_eq_true_eq, Bool.true_eq_false, Bool.false_eq_true, bq, if_pos, if_neg, if_true, if_false, lq, Nat.reduceAdd, Nat.reduceMul, Nat.reduceSub, Nat.reduceDiv, Nat.reduceMod, oI, c_bc hb]; rfl
    · simp (disch := omega) only [lit, lm1, nI_add, pk_mul, nm_eq, nm_eq', nm_lt, nm_lt', nm_le, nm_le', x_lt, x_le, x_eq, x_in, x_cl, x_div, x_sub, x_rem, x_min, x_max, x_and, x_or, x_xor, x_df, x_shl, bI_0, bI_1, bI_bo, lg_eq, toL_inj, ls_nI, decide_eq_false_iff_not, decide_eq_true_eq, Bool.true_eq_false, Bool.false_eq_true, bq, if_pos, if_neg, if_true, if_false, lq, Nat.reduceAdd, Nat.reduceMul, Nat.reduceSub, Nat.reduceDiv, Nat.reduceMod, oI]; rfl
theorem c_isWeight {w : Nat} (h : w < 100) (S : cpS) : fX11_isWeight (nI w) S = some (nI 1, S) := by
  unfold fX11_isWeight
  simp (disch := omega) only [lit, lm1, nI_add, pk_mul, nm_eq, nm_eq', nm_lt, nm_lt', nm_le, nm_le', x_lt, x_le, x_eq, x_in, x_cl, x_div, x_sub, x_rem, x_min, x_max, x_and, x_or, x_xor, x_df, x_shl, bI_0, bI_1, bI_bo, lg_eq, toL_inj, ls_nI, decide_eq_false_iff_not, decide_eq_true_eq, Bool.true_eq_false, Bool.false_eq_true, bq, if_pos, if_neg, if_true, if_false, lq, Nat.reduceAdd, Nat.reduceMul, Nat.reduceSub, Nat.reduceDiv, Nat.reduceMod]
theorem c_isWeightO {x : Int32} (h : cpLs' x 100 = false) (S : cpS) : fX11_isWeight x S = some (nI 0, S) := by
  unfold fX11_isWeight
  rcases arg_out 100 99 rfl (by decide) h with h | ⟨h, -, h', -⟩
  · simp (disch := omega) only [lit, lm1, nI_add, pk_mul, nm_eq, nm_eq', nm_lt, nm_lt', nm_le, nm_le', x_lt, x_le, x_eq, x_in, x_cl, x_div, x_sub, x_rem, x_min, x_max, x_and, x_or, x_xor, x_df, x_shl, bI_0, bI_1, bI_bo, lg_eq, toL_inj, ls_nI, decide_eq_false_iff_not, decide_eq_true_eq, Bool.true_eq_false, Bool.false_eq_true, bq, if_pos, if_neg, if_true, if_false, lq, Nat.reduceAdd, Nat.reduceMul, Nat.reduceSub, Nat.reduceDiv, Nat.reduceMod, h]
  · simp (disch := omega) only [lit, lm1, nI_add, pk_mul, nm_eq, nm_eq', nm_lt, nm_lt', nm_le, nm_le', x_lt, x_le, x_eq, x_in, x_cl, x_div, x_sub, x_rem, x_min, x_max, x_and, x_or, x_xor, x_df, x_shl, bI_0, bI_1, bI_bo, lg_eq, toL_inj, ls_nI, decide_eq_false_iff_not, decide_eq_true_eq, Bool.true_eq_false, Bool.false_eq_true, bq, if_pos, if_neg, if_true, if_false, lq, Nat.reduceAdd, Nat.reduceMul, Nat.reduceSub, Nat.reduceDiv, Nat.reduceMod, h, h']
end CQ
theorem q_rests : cpQ_rests cpRl := by
  intro x1 x2 S hR
  refine q1 hR (fun D E hD hE => ?_)
  have w1 := m_win 3 2 (by decide)
  have w2 := m_win 9 8 (by decide)
  rcases in_or x2 3 with ⟨k, hk, rfl⟩ | h2
  · rcases in_or x1 9 with ⟨t, ht, rfl⟩ | h1
    · refine ⟨rsP k (rst D E t), fun S c => ?_, fun S m => ?_⟩
      · obtain ⟨T, t1, t2, t3, t4, t5⟩ := c_findRests hD c (show t ≤ 8 by omega)
        refine ⟨T, ?_, t2⟩
        unfold fX11_rests
        rcases (show k = 0 ∨ k = 1 ∨ k = 2 by omega) with rfl | rfl | rfl
        · simp (disch := omega) only [lit, lm1, nI_add, pk_mul, nm_eq, nm_eq', nm_lt, nm_lt', nm_le, nm_le', x_lt, x_le, x_eq, x_in, x_cl, x_div, x_sub, x_rem, x_min, x_max, x_and, x_or, x_xor, x_df, x_shl, bI_0, bI_1, bI_bo, lg_eq, toL_inj, ls_nI, decide_eq_false_iff_not, decide_eq_true_eq, Bool.true_eq_false, Bool.false_eq_true, bq, if_pos, if_neg, if_true, if_false, lq, Nat.reduceAdd, Nat.reduceMul, Nat.reduceSub, Nat.reduceDiv, Nat.reduceMod, t1, t3]; rfl
        · simp (disch := omega) only [lit, lm1, nI_add, pk_mul, nm_eq, nm_eq', nm_lt, nm_lt', nm_le, nm_le', x_lt, x_le, x_eq, x_in, x_cl, x_div, x_sub, x_rem, x_min, x_max, x_and, x_or, x_xor, x_df, x_shl, bI_0, bI_1, bI_bo, lg_eq, toL_inj, ls_nI, decide_eq_false_iff_not, decide_eq_true_eq, Bool.true_eq_false, Bool.false_eq_true, bq, if_pos, if_neg, if_true, if_false, lq, Nat.reduceAdd, Nat.reduceMul, Nat.reduceSub, Nat.reduceDiv, Nat.reduceMod, t1, t4]; rfl
        · simp (disch := omega) only [lit, lm1, nI_add, pk_mul, nm_eq, nm_eq', nm_lt, nm_lt', nm_le, nm_le', x_lt, x_le, x_eq, x_in, x_cl, x_div, x_sub, x_rem, x_min, x_max, x_and, x_or, x_xor, x_df, x_shl, bI_0, bI_1, bI_bo, lg_eq, toL_inj, ls_nI, decide_eq_false_iff_not, decide_eq_true_eq, Bool.true_eq_false, Bool.false_eq_true, bq, if_pos, if_neg, if_true, if_false, lq, Nat.reduceAdd, Nat.reduceMul, Nat.reduceSub, Nat.reduceDiv, Nat.reduceMod, t1, t5]; rfl
      · refine ⟨_, ?_, kM_thr S (nI 0)⟩
        unfold fX12_rests
        simp (disch := omega) only [lit, lm1, nI_add, pk_mul, nm_eq, nm_eq', nm_lt, nm_lt', nm_le, nm_le', x_lt, x_le, x_eq, x_in, x_cl, x_div, x_sub, x_rem, x_min, x_max, x_and, x_or, x_xor, x_df, x_shl, bI_0, bI_1, bI_bo, lg_eq, toL_inj, ls_nI, decide_eq_false_iff_not, decide_eq_true_eq, Bool.true_eq_false, Bool.false_eq_true, bq, if_pos, if_neg, if_true, if_false, lq, Nat.reduceAdd, Nat.reduceMul, Nat.reduceSub, Nat.reduceDiv, Nat.reduceMod, w1, w2, m_rests46 hD (m.thr hD (nI 0)) (show t ≤ 8 by omega) hk]
    · refine ⟨-3, fun S c => ⟨S, ?_, Kp.rf⟩, fun S m => ⟨_, ?_, kM_thr S (nI 0)⟩⟩
      · unfold fX11_rests
        rcases arg_out 9 8 rfl (by decide) h1 with h | ⟨h, h', -⟩
        · simp (disch := omega) only [lit, lm1, nI_add, pk_mul, nm_eq, nm_eq', nm_lt, nm_lt', nm_le, nm_le', x_lt, x_le, x_eq, x_in, x_cl, x_div, x_sub, x_rem, x_min, x_max, x_and, x_or, x_xor, x_df, x_shl, bI_0, bI_1, bI_bo, lg_eq, toL_inj, ls_nI, decide_eq_false_iff_not, decide_eq_true_eq, Bool.true_eq_false, Bool.false_eq_true, bq, if_pos, if_neg, if_true, if_false, lq, Nat.reduceAdd, Nat.reduceMul, Nat.reduceSub, Nat.reduceDiv, Nat.reduceMod, h]
        · simp (disch := omega) only [lit, lm1, nI_add, pk_mul, nm_eq, nm_eq', nm_lt, nm_lt', nm_le, nm_le', x_lt, x_le, x_eq, x_in, x_cl, x_div, x_sub, x_rem, x_min, x_max, x_and, x_or, x_xor, x_df, x_shl, bI_0, bI_1, bI_bo, lg_eq, toL_inj, ls_nI, decide_eq_false_iff_not, decide_eq_true_eq, Bool.true_eq_false, Bool.false_eq_true, bq, if_pos, if_neg, if_true, if_false, lq, Nat.reduceAdd, Nat.reduceMul, Nat.reduceSub, Nat.reduceDiv, Nat.reduceMod, h, h']
      · unfold fX12_rests
        simp (disch := omega) only [lit, lm1, nI_add, pk_mul, nm_eq, nm_eq', nm_lt, nm_lt', nm_le, nm_le', x_lt, x_le, x_eq, x_in, x_cl, x_div, x_sub, x_rem, x_min, x_max, x_and, x_or, x_xor, x_df, x_shl, bI_0, bI_1, bI_bo, lg_eq, toL_inj, ls_nI, decide_eq_false_iff_not, decide_eq_true_eq, Bool.true_eq_false, Bool.false_eq_true, bq, if_pos, if_neg, if_true, if_false, lq, Nat.reduceAdd, Nat.reduceMul, Nat.reduceSub, Nat.reduceDiv, Nat.reduceMod, w1, w2, h1]
  · refine ⟨-2, fun S c => ⟨S, ?_, Kp.rf⟩, fun S m => ⟨_, ?_, kM_thr S (nI 0)⟩⟩
    · unfold fX11_rests
      rcases arg_out 3 2 rfl (by decide) h2 with h | ⟨h, h', -⟩
      · simp (disch := omega) only [lit, lm1, nI_add, pk_mul, nm_eq, nm_eq', nm_lt, nm_lt', nm_le, nm_le', x_lt, x_le, x_eq, x_in, x_cl, x_div, x_sub, x_rem, x_min, x_max, x_and, x_or, x_xor, x_df, x_shl, bI_0, bI_1, bI_bo, lg_eq, toL_inj, ls_nI, decide_eq_false_iff_not, decide_eq_true_eq, Bool.true_eq_false, Bool.false_eq_true, bq, if_pos, if_neg, if_true, if_false, lq, Nat.reduceAdd, Nat.reduceMul, Nat.reduceSub, Nat.reduceDiv, Nat.reduceMod, h]
      · simp (disch := omega) only [lit, lm1, nI_add, pk_mul, nm_eq, nm_eq', nm_lt, nm_lt', nm_le, nm_le', x_lt, x_le, x_eq, x_in, x_cl, x_div, x_sub, x_rem, x_min, x_max, x_and, x_or, x_xor, x_df, x_shl, bI_0, bI_1, bI_bo, lg_eq, toL_inj, ls_nI, decide_eq_false_iff_not, decide_eq_true_eq, Bool.true_eq_false, Bool.false_eq_true, bq, if_pos, if_neg, if_true, if_false, lq, Nat.reduceAdd, Nat.reduceMul, Nat.reduceSub, Nat.reduceDiv, Nat.reduceMod, h, h']
    · unfold fX12_rests
      simp (disch := omega) only [lit, lm1, nI_add, pk_mul, nm_eq, nm_eq', nm_lt, nm_lt', nm_le, nm_le', x_lt, x_le, x_eq, x_in, x_cl, x_div, x_sub, x_rem, x_min, x_max, x_and, x_or, x_xor, x_df, x_shl, bI_0, bI_1, bI_bo, lg_eq, toL_inj, ls_nI, decide_eq_false_iff_not, decide_eq_true_eq, Bool.true_eq_false, Bool.false_eq_true, bq, if_pos, if_neg, if_true, if_false, lq, Nat.reduceAdd, Nat.reduceMul, Nat.reduceSub, Nat.reduceDiv, Nat.reduceMod, w1, h2]
theorem q_lifters : cpQ_lifters cpRl := by
  intro x1 x2 S hR
  refine q0 hR (fun D E hD hE => ?_)
  have p2 := p2_256 hD
  have w1 := m_win 2 1 (by decide)
  have w2 := m_win 100 99 (by decide)
  rcases in_or x2 2 with ⟨k, hk, rfl⟩ | h2
  · have e2 : ∀ S, fX11_lifters x1 (nI k) S = fX11_lifters_12 x1 (nI k) S := fun S => by
      unfold fX11_lifters
      rcases (show k = 0 ∨ k = 1 by omega) with rfl | rfl
      · simp (disch := omega) only [lit, lm1, nI_add, pk_mul, nm_eq, nm_eq', nm_lt, nm_lt', nm_le, nm_le', x_lt, x_le, x_eq, x_in, x_cl, x_div, x_sub, x_rem, x_min, x_max, x_and, x_or, x_xor, x_df, x_shl, bI_0, bI_1, bI_bo, lg_eq, toL_inj, ls_nI, decide_eq_false_iff_not, decide_eq_true_eq, Bool.true_eq_false, Bool.false_eq_true, bq, if_pos, if_neg, if_true, if_false, lq, Nat.reduceAdd, Nat.reduceMul, Nat.reduceSub, Nat.reduceDiv, Nat.reduceMod]
      · simp (disch := omega) only [lit, lm1, nI_add, pk_mul, nm_eq, nm_eq', nm_lt, nm_lt', nm_le, nm_le', x_lt, x_le, x_eq, x_in, x_cl, x_div, x_sub, x_rem, x_min, x_max, x_and, x_or, x_xor, x_df, x_shl, bI_0, bI_1, bI_bo, lg_eq, toL_inj, ls_nI, decide_eq_false_iff_not, decide_eq_true_eq, Bool.true_eq_false, Bool.false_eq_true, bq, if_pos, if_neg, if_true, if_false, lq, Nat.reduceAdd, Nat.reduceMul, Nat.reduceSub, Nat.reduceDiv, Nat.reduceMod]
    rcases in_or x1 100 with ⟨w, hw, rfl⟩ | h1
    · refine ⟨szS k (lft D w), fun S c => ?_, fun S m => ?_⟩
      · rw [e2]
        unfold fX11_lifters_12
        simp (disch := omega) only [lit, lm1, nI_add, pk_mul, nm_eq, nm_eq', nm_lt, nm_lt', nm_le, nm_le', x_lt, x_le, x_eq, x_in, x_cl, x_div, x_sub, x_rem, x_min, x_max, x_and, x_or, x_xor, x_df, x_shl, bI_0, bI_1, bI_bo, lg_eq, toL_inj, ls_nI, decide_eq_false_iff_not, decide_eq_true_eq, Bool.true_eq_false, Bool.false_eq_true, bq, if_pos, if_neg, if_true, if_false, lq, Nat.reduceAdd, Nat.reduceMul, Nat.reduceSub, Nat.reduceDiv, Nat.reduceMod, c_isWeight hw, c_fewestLifters hD c (show w ≤ 99 by omega), c_sizeOrSet (fun b hb => Nat.lt_of_lt_of_le (lft_O D w b hb) p2) hk]
      · unfold fX12_lifters
        simp (disch := omega) only [lit, lm1, nI_add, pk_mul, nm_eq, nm_eq', nm_lt, nm_lt', nm_le, nm_le', x_lt, x_le, x_eq, x_in, x_cl, x_div, x_sub, x_rem, x_min, x_max, x_and, x_or, x_xor, x_df, x_shl, bI_0, bI_1, bI_bo, lg_eq, toL_inj, ls_nI, decide_eq_false_iff_not, decide_eq_true_eq, Bool.true_eq_false, Bool.false_eq_true, bq, if_pos, if_neg, if_true, if_false, lq, Nat.reduceAdd, Nat.reduceMul, Nat.reduceSub, Nat.reduceDiv, Nat.reduceMod, w1, w2, m_lifters38 hD m (show w ≤ 99 by omega) hk]
    · refine ⟨-3, fun S c => ?_, fun S m => ?_⟩
      · rw [e2]
        unfold fX11_lifters_12
        simp (disch := omega) only [lit, lm1, nI_add, pk_mul, nm_eq, nm_eq', nm_lt, nm_lt', nm_le, nm_le', x_lt, x_le, x_eq, x_in, x_cl, x_div, x_sub, x_rem, x_min, x_max, x_and, x_or, x_xor, x_df, x_shl, bI_0, bI_1, bI_bo, lg_eq, toL_inj, ls_nI, decide_eq_false_iff_not, decide_eq_true_eq, Bool.true_eq_false, Bool.false_eq_true, bq, if_pos, if_neg, if_true, if_false, lq, Nat.reduceAdd, Nat.reduceMul, Nat.reduceSub, Nat.reduceDiv, Nat.reduceMod, c_isWeightO h1]
      · unfold fX12_lifters
        simp (disch := omega) only [lit, lm1, nI_add, pk_mul, nm_eq, nm_eq', nm_lt, nm_lt', nm_le, nm_le', x_lt, x_le, x_eq, x_in, x_cl, x_div, x_sub, x_rem, x_min, x_max, x_and, x_or, x_xor, x_df, x_shl, bI_0, bI_1, bI_bo, lg_eq, toL_inj, ls_nI, decide_eq_false_iff_not, decide_eq_true_eq, Bool.true_eq_false, Bool.false_eq_true, bq, if_pos, if_neg, if_true, if_false, lq, Nat.reduceAdd, Nat.reduceMul, Nat.reduceSub, Nat.reduceDiv, Nat.reduceMod, w1, w2, h1]
  · refine ⟨-2, fun S c => ?_, fun S m => ?_⟩
    · unfold fX11_lifters
      simp (disch := omega) only [lit, lm1, nI_add, pk_mul, nm_eq, nm_eq', nm_lt, nm_lt', nm_le, nm_le', x_lt, x_le, x_eq, x_in, x_cl, x_div, x_sub, x_rem, x_min, x_max, x_and, x_or, x_xor, x_df, x_shl, bI_0, bI_1, bI_bo, lg_eq, toL_inj, ls_nI, decide_eq_false_iff_not, decide_eq_true_eq, Bool.true_eq_false, Bool.false_eq_true, bq, if_pos, if_neg, if_true, if_false, lq, Nat.reduceAdd, Nat.reduceMul, Nat.reduceSub, Nat.reduceDiv, Nat.reduceMod, arg_ne 0 h2 (by decide) (by decide), arg_ne 1 h2 (by decide) (by decide)]
    · unfold fX12_lifters
      simp (disch := omega) only [lit, lm1, nI_add, pk_mul, nm_eq, nm_eq', nm_lt, nm_lt', nm_le, nm_le', x_lt, x_le, x_eq, x_in, x_cl, x_div, x_sub, x_rem, x_min, x_max, x_and, x_or, x_xor, x_df, x_shl, bI_0, bI_1, bI_bo, lg_eq, toL_inj, ls_nI, decide_eq_false_iff_not, decide_eq_true_eq, Bool.true_eq_false, Bool.false_eq_true, bq, if_pos, if_neg, if_true, if_false, lq, Nat.reduceAdd, Nat.reduceMul, Nat.reduceSub, Nat.reduceDiv, Nat.reduceMod, w1, h2]
