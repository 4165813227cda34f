/-! pairs in their order; bearers; carry -/
def plN (k : Nat) : Nat := [0, 0, 0, 0, 0, 0, 0, 1, 1, 1, 1, 1, 1, 2, 2, 2, 2, 2, 3, 3, 3, 3, 4, 4, 4, 5, 5, 6].getD k 0
def poN (k : Nat) : Nat := [1, 2, 3, 4, 5, 6, 7, 2, 3, 4, 5, 6, 7, 3, 4, 5, 6, 7, 4, 5, 6, 7, 5, 6, 7, 6, 7, 7].getD k 0
theorem p28 : ∀ k, k < 28 → cpLs k = nI (plN k) ∧ cpOs k = nI (poN k) ∧ plN k < poN k ∧ poN k < 8 := by decide +kernel
theorem cls_mdl {σ : Type} (f : Nat → Nat → σ → σ) {P : Nat} (hP : P ≤ 8) (s : σ) : up (fun k s => if poN k < P then f (plN k) (poN k) s else s) 28 0 s = up (fun p s => up (fun q s => f p q s) (P - (p + 1)) (p + 1) s) P 0 s := by
  rcases (show P = 0 ∨ P = 1 ∨ P = 2 ∨ P = 3 ∨ P = 4 ∨ P = 5 ∨ P = 6 ∨ P = 7 ∨ P = 8 by omega) with rfl | rfl | rfl | rfl | rfl | rfl | rfl | rfl | rfl <;> rfl
/-- two can carry it from a place to another one -/
def bro (D : cpD) (E : cpE) (c fm to h p q : Nat) : Bool := !(E.fd p).testBit q && (rdT D p q c fm to h).isSome
def brS (D : cpD) (E : cpE) (c fm to h p q s : Nat) : Nat := if bro D E c fm to h p q then s + 1 else s
def brN (D : cpD) (E : cpE) (c fm to h : Nat) : Nat := up (fun p s => up (fun q s => brS D E c fm to h p q s) (D.P - (p + 1)) (p + 1) s) D.P 0 0
section BE
variable {D : cpD} {E : cpE} {S : cpS}
theorem wy_bro {p q c fm to h : Nat} : wyF D E p q c fm to h = 0 ↔ bro D E c fm to h p q = true := by
  constructor
  · intro e
    obtain ⟨-, e2, r, e3, -⟩ := wyF_0 e
    unfold bro
    rw [e2, e3]; rfl
  · intro e
    unfold bro at e
    cases h2 : (E.fd p).testBit q
    · rw [h2] at e
      cases h3 : rdT D p q c fm to h with
      | none => rw [h3] at e; cases e
      | some r =>
        obtain ⟨g1, g2, g3, g4⟩ := (ff_some _ _ _).mp h3
        have hj : jn D r fm to = true := by cases e : jn D r fm to; (try dsimp only at g3); rw [e] at g3; cases g3; rfl
        have hjd : jnd D fm to = true := by
          unfold jnd
          cases e : ff (fun r => jn D r fm to) D.R 0 with
          | none => have := (ff_none D.R 0).mp e r (by omega) (by omega); (try dsimp only at this); rw [hj] at this; cases this
          | some k => rfl
        unfold wyF
        rw [hjd, h2, h3]; rfl
    · rw [h2] at e; cases e
theorem c_bearers17 (hD : D.WF) (hE : E.WF D) (c : cA D E S) {k to : Nat} (hk : k < D.C) (ht : to < D.K) : ∃ T, fX11_bearers_17 (nI k) (nI to) cpFu (nI 0) (nI 0) S = some (nI (brN D E k (E.at' k) to E.h), T) ∧ Kp kF S T := by
  have p8 := hD.p8
  unfold brN
  rw [← cls_mdl (brS D E k (E.at' k) to E.h) p8]
  have := up_lpR (F := fun n i (a : Int32 × cpS) => fX11_bearers_17 (nI k) (nI to) n a.1 i a.2) (K := fun a => some (a.1, a.2)) 28 (fun i s => if poN i < D.P then brS D E k (E.at' k) to E.h (plN i) (poN i) s else s) (fun i s a => a.1 = nI s ∧ Kp kF S a.2) (by decide) (fun n i s a hi hI => ?_) (fun n s a hI => ?_) (i0 := 0) (s := 0) (a := (nI 0, S)) (Nat.zero_le _) ⟨rfl, Kp.rf⟩
  · obtain ⟨a, t1, t2, t3⟩ := this
    refine ⟨a.2, ?_, t3⟩
    rw [t2] at t1; exact t1
  · obtain ⟨x, T⟩ := a
    obtain ⟨i1, i2⟩ := hI
    have j1 : x = nI s := i1
    have j2 : Kp kF S T := i2
    clear i1 i2
    subst j1
    have i2 := j2
    have cT := c.F i2
    obtain ⟨g1, g2, g3, g4⟩ := p28 i hi
    by_cases hP : poN i < D.P
    · obtain ⟨U, u1, u2⟩ := c_wearAt hD hE cT (h := E.h) (p := plN i) (q := poN i) (by omega) hP (by omega) hk ht
      rw [if_pos hP]
      unfold brS
      by_cases e : wy D E (plN i) (poN i) k to E.h = 0
      · obtain ⟨n', n9, hn'⟩ := wnF_sp D (plN i) (poN i) k (E.at' k) to E.h
        rw [if_pos e, show wnI D E (plN i) (poN i) k to E.h = nI n' from hn'] at u1
        refine ⟨(nI (s + 1), U), ?_, ?_, i2.tr u2⟩
        · rw [fX11_bearers_17]
          simp (disch := omega) only [lit, lm1, nI_add, pk_mul, nm_eq, nm_eq', nm_lt, nm_lt', nm_le, nm_le', x_lt, x_le, x_eq, x_in, x_cl, x_div, x_sub, x_rem, x_min, x_max, x_and, x_or, x_xor, x_df, x_shl, bI_0, bI_1, bI_bo, lg_eq, toL_inj, ls_nI, decide_eq_false_iff_not, decide_eq_true_eq, Bool.true_eq_false, Bool.false_eq_true, bq, if_pos, if_neg, if_true, if_false, lq, Nat.reduceAdd, Nat.reduceMul, Nat.reduceSub, Nat.reduceDiv, Nat.reduceMod, g1, g2, cT.h, u1]
        · rw [if_pos (wy_bro.mp e)]
      · obtain ⟨q1, q2, q3, q4, q5, q6⟩ := ng_pos (wy D E (plN i) (poN i) k to E.h) (by rcases wyF_cases D E (plN i) (poN i) k (E.at' k) to E.h with g | g | g | g; exact absurd g e; exact Or.inl g; exact Or.inr (Or.inl g); exact Or.inr (Or.inr g))
        rw [if_neg e] at u1
        refine ⟨(nI s, U), ?_, ?_, i2.tr u2⟩
        · rw [fX11_bearers_17]
          simp (disch := omega) only [lit, lm1, nI_add, pk_mul, nm_eq, nm_eq', nm_lt, nm_lt', nm_le, nm_le', x_lt, x_le, x_eq, x_in, x_cl, x_div, x_sub, x_rem, x_min, x_max, x_and, x_or, x_xor, x_df, x_shl, bI_0, bI_1, bI_bo, lg_eq, toL_inj, ls_nI, decide_eq_false_iff_not, decide_eq_true_eq, Bool.true_eq_false, Bool.false_eq_true, bq, if_pos, if_neg, if_true, if_false, lq, Nat.reduceAdd, Nat.reduceMul, Nat.reduceSub, Nat.reduceDiv, Nat.reduceMod, g1, g2, cT.h, u1, q2]
        · rw [if_neg (fun q => e (wy_bro.mpr q))]
    · rw [if_neg hP]
      have hN := c_wearAtN hD cT (x1 := nI (plN i)) (x2 := nI (poN i)) (x3 := nI k) (x4 := nI to) (x5 := nI E.h) (by rw [ls_nI (show poN i < 2 ^ 31 by omega), decide_eq_false hP]; simp)
      refine ⟨(nI s, T), ?_, rfl, i2⟩
      rw [fX11_bearers_17]
      simp (disch := omega) only [lit, lm1, nI_add, pk_mul, nm_eq, nm_eq', nm_lt, nm_lt', nm_le, nm_le', x_lt, x_le, x_eq, x_in, x_cl, x_div, x_sub, x_rem, x_min, x_max, x_and, x_or, x_xor, x_df, x_shl, bI_0, bI_1, bI_bo, lg_eq, toL_inj, ls_nI, decide_eq_false_iff_not, decide_eq_true_eq, Bool.true_eq_false, Bool.false_eq_true, bq, if_pos, if_neg, if_true, if_false, lq, Nat.reduceAdd, Nat.reduceMul, Nat.reduceSub, Nat.reduceDiv, Nat.reduceMod, g1, g2, cT.h, hN]
  · rw [fX11_bearers_17]
    simp (disch := omega) only [lit, lm1, nI_add, pk_mul, nm_eq, nm_eq', nm_lt, nm_lt', nm_le, nm_le', x_lt, x_le, x_eq, x_in, x_cl, x_div, x_sub, x_rem, x_min, x_max, x_and, x_or, x_xor, x_df, x_shl, bI_0, bI_1, bI_bo, lg_eq, toL_inj, ls_nI, decide_eq_false_iff_not, decide_eq_true_eq, Bool.true_eq_false, Bool.false_eq_true, bq, if_pos, if_neg, if_true, if_false, lq, Nat.reduceAdd, Nat.reduceMul, Nat.reduceSub, Nat.reduceDiv, Nat.reduceMod]
theorem m_bear23 (hD : D.WF) (hE : E.WF D) {k fm to h p s : Nat} (m : mF D E S h) (hk : k < D.C) (hf : fm < D.K) (ht : to < D.K) (hp : p < D.P) (kk : Int32 → Int32 → cpS → Option (Int32 × cpS)) : ∃ T, fX12_bearersOf_23 (nI k) (nI fm) (nI to) (nI p) kk cpFu (nI s) (nI (p + 1)) S = kk (nI (up (fun q s => brS D E k fm to h p q s) (D.P - (p + 1)) (p + 1) s)) (nI (p + 1)) T ∧ Kp kH S T := by
  have p8 := hD.p8
  have r9 := hD.r9
  have := up_lpR (F := fun n i (a : Int32 × cpS) => fX12_bearersOf_23 (nI k) (nI fm) (nI to) (nI p) kk n a.1 i a.2) (K := fun a => kk a.1 (nI (p + 1)) a.2) D.P (fun q s => brS D E k fm to h p q s) (fun i s a => a.1 = nI s ∧ Kp kH S a.2) (by omega) (fun n i s a hi hI => ?_) (fun n s a hI => ?_) (i0 := p + 1) (s := s) (a := (nI s, S)) (by omega) ⟨rfl, Kp.rf⟩
  · obtain ⟨a, t1, t2, t3⟩ := this
    refine ⟨a.2, ?_, t3⟩
    rw [t2] at t1; exact t1
  · obtain ⟨x, T⟩ := a
    obtain ⟨i1, i2⟩ := hI
    have j1 : x = nI s := i1
    have j2 : Kp kH S T := i2
    clear i1 i2
    subst j1
    have i2 := j2
    have mT := m.H hD i2
    obtain ⟨U, u1, u2⟩ := m_roadFor hD hE mT hp hi hk hf ht
    refine ⟨(nI (brS D E k fm to h p i s), U), ?_, rfl, i2.tr u2⟩
    rw [fX12_bearersOf_23]
    unfold brS bro
    cases hb : (E.fd p).testBit i
    · rw [hb] at u1
      cases hr : rdT D p i k fm to h with
      | none =>
        rw [hr] at u1
        simp (disch := omega) only [lit, lm1, nI_add, pk_mul, nm_eq, nm_eq', nm_lt, nm_lt', nm_le, nm_le', x_lt, x_le, x_eq, x_in, x_cl, x_div, x_sub, x_rem, x_min, x_max, x_and, x_or, x_xor, x_df, x_shl, bI_0, bI_1, bI_bo, lg_eq, toL_inj, ls_nI, decide_eq_false_iff_not, decide_eq_true_eq, Bool.true_eq_false, Bool.false_eq_true, bq, if_pos, if_neg, if_true, if_false, lq, Nat.reduceAdd, Nat.reduceMul, Nat.reduceSub, Nat.reduceDiv, Nat.reduceMod, mT.1.P, u1, oI, eq_self, Nat.add_zero]
        rfl
      | some r =>
        obtain ⟨g1, g2, g3, g4⟩ := (ff_some _ _ _).mp hr
        rw [hr] at u1
        simp (disch := omega) only [lit, lm1, nI_add, pk_mul, nm_eq, nm_eq', nm_lt, nm_lt', nm_le, nm_le', x_lt, x_le, x_eq, x_in, x_cl, x_div, x_sub, x_rem, x_min, x_max, x_and, x_or, x_xor, x_df, x_shl, bI_0, bI_1, bI_bo, lg_eq, toL_inj, ls_nI, decide_eq_false_iff_not, decide_eq_true_eq, Bool.true_eq_false, Bool.false_eq_true, bq, if_pos, if_neg, if_true, if_false, lq, Nat.reduceAdd, Nat.reduceMul, Nat.reduceSub, Nat.reduceDiv, Nat.reduceMod, mT.1.P, u1, oI]
        rfl
    · rw [hb] at u1
      simp (disch := omega) only [lit, lm1, nI_add, pk_mul, nm_eq, nm_eq', nm_lt, nm_lt', nm_le, nm_le', x_lt, x_le, x_eq, x_in, x_cl, x_div, x_sub, x_rem, x_min, x_max, x_and, x_or, x_xor, x_df, x_shl, bI_0, bI_1, bI_bo, lg_eq, toL_inj, ls_nI, decide_eq_false_iff_not, decide_eq_true_eq, Bool.true_eq_false, Bool.false_eq_true, bq, if_pos, if_neg, if_true, if_false, lq, Nat.reduceAdd, Nat.reduceMul, Nat.reduceSub, Nat.reduceDiv, Nat.reduceMod, mT.1.P, u1, eq_self, Nat.add_zero]
      rfl
  · have mT := m.H hD hI.2
    rw [fX12_bearersOf_23]
    simp (disch := omega) only [lit, lm1, nI_add, pk_mul, nm_eq, nm_eq', nm_lt, nm_lt', nm_le, nm_le', x_lt, x_le, x_eq, x_in, x_cl, x_div, x_sub, x_rem, x_min, x_max, x_and, x_or, x_xor, x_df, x_shl, bI_0, bI_1, bI_bo, lg_eq, toL_inj, ls_nI, decide_eq_false_iff_not, decide_eq_true_eq, Bool.true_eq_false, Bool.false_eq_true, bq, if_pos, if_neg, if_true, if_false, lq, Nat.reduceAdd, Nat.reduceMul, Nat.reduceSub, Nat.reduceDiv, Nat.reduceMod, mT.1.P]
theorem m_bearersOf (hD : D.WF) (hE : E.WF D) {k fm to h : Nat} (m : mF D E S h) (hk : k < D.C) (hf : fm < D.K) (ht : to < D.K) : ∃ T, fX12_bearersOf (nI k) (nI fm) (nI to) S = some (nI (brN D E k fm to h), T) ∧ Kp kH S T := by
  have p8 := hD.p8
  unfold fX12_bearersOf brN
  simp only [lit]
  have := up_lpR (F := fun n i (a : Int32 × cpS) => fX12_bearersOf_6 (nI k) (nI fm) (nI to) n a.1 i a.2) (K := fun a => some (a.1, a.2)) D.P (fun p s => up (fun q s => brS D E k fm to h p q s) (D.P - (p + 1)) (p + 1) s) (fun i s a => a.1 = nI s ∧ Kp kH S a.2) (by omega) (fun n i s a hi hI => ?_) (fun n s a hI => ?_) (i0 := 0) (s := 0) (a := (nI 0, S)) (Nat.zero_le _) ⟨rfl, Kp.rf⟩
  · obtain ⟨a, t1, t2, t3⟩ := this
    refine ⟨a.2, ?_, t3⟩
    rw [t2] at t1; exact t1
  · obtain ⟨x, T⟩ := a
    obtain ⟨i1, i2⟩ := hI
    have j1 : x = nI s := i1
    have j2 : Kp kH S T := i2
    clear i1 i2
    subst j1
    have i2 := j2
    have mT := m.H hD i2
    obtain ⟨U, u1, u2⟩ := m_bear23 hD hE mT (s := s) hk hf ht hi (fX12_bearersOf_6 (nI k) (nI fm) (nI to) n)
    refine ⟨(nI (up (fun q s => brS D E k fm to h i q s) (D.P - (i + 1)) (i + 1) s), U), ?_, rfl, i2.tr u2⟩
    rw [fX12_bearersOf_6]
    simp (disch := omega) only [lit, lm1, nI_add, pk_mul, nm_eq, nm_eq', nm_lt, nm_lt', nm_le, nm_le', x_lt, x_le, x_eq, x_in, x_cl, x_div, x_sub, x_rem, x_min, x_max, x_and, x_or, x_xor, x_df, x_shl, bI_0, bI_1, bI_bo, lg_eq, toL_inj, ls_nI, decide_eq_false_iff_not, decide_eq_true_eq, Bool.true_eq_false, Bool.false_eq_true, bq, if_pos, if_neg, if_true, if_false, lq, Nat.reduceAdd, Nat.reduceMul, Nat.reduceSub, Nat.reduceDiv, Nat.reduceMod, mT.1.P, u1]
  · have mT := m.H hD hI.2
    rw [fX12_bearersOf_6]
    simp (disch := omega) only [lit, lm1, nI_add, pk_mul, nm_eq, nm_eq', nm_lt, nm_lt', nm_le, nm_le', x_lt, x_le, x_eq, x_in, x_cl, x_div, x_sub, x_rem, x_min, x_max, x_and, x_or, x_xor, x_df, x_shl, bI_0, bI_1, bI_bo, lg_eq, toL_inj, ls_nI, decide_eq_false_iff_not, decide_eq_true_eq, Bool.true_eq_false, Bool.false_eq_true, bq, if_pos, if_neg, if_true, if_false, lq, Nat.reduceAdd, Nat.reduceMul, Nat.reduceSub, Nat.reduceDiv, Nat.reduceMod, mT.1.P]
theorem c_coinAndPlace (hD : D.WF) (c : cA D E S) (x y : Int32) : fX11_coinAndPlace x y S = some (bI (cpLs' x D.C && cpLs' y D.K), S) := by
  unfold fX11_coinAndPlace
  cases h1 : cpLs' x D.C
  · simp (disch := omega) only [lit, lm1, nI_add, pk_mul, nm_eq, nm_eq', nm_lt, nm_lt', nm_le, nm_le', x_lt, x_le, x_eq, x_in, x_cl, x_div, x_sub, x_rem, x_min, x_max, x_and, x_or, x_xor, x_df, x_shl, bI_0, bI_1, bI_bo, lg_eq, toL_inj, ls_nI, decide_eq_false_iff_not, decide_eq_true_eq, Bool.true_eq_false, Bool.false_eq_true, bq, if_pos, if_neg, if_true, if_false, lq, Nat.reduceAdd, Nat.reduceMul, Nat.reduceSub, Nat.reduceDiv, Nat.reduceMod, c.hasCoin hD, h1]; rfl
  · cases h2 : cpLs' y D.K
    · simp (disch := omega) only [lit, lm1, nI_add, pk_mul, nm_eq, nm_eq', nm_lt, nm_lt', nm_le, nm_le', x_lt, x_le, x_eq, x_in, x_cl, x_div, x_sub, x_rem, x_min, x_max, x_and, x_or, x_xor, x_df, x_shl, bI_0, bI_1, bI_bo, lg_eq, toL_inj, ls_nI, decide_eq_false_iff_not, decide_eq_true_eq, Bool.true_eq_false, Bool.false_eq_true, bq, if_pos, if_neg, if_true, if_false, lq, Nat.reduceAdd, Nat.reduceMul, Nat.reduceSub, Nat.reduceDiv, Nat.reduceMod, c.hasCoin hD, h1, c.hasPlace hD, h2]; rfl
    · simp (disch := omega) only [lit, lm1, nI_add, pk_mul, nm_eq, nm_eq', nm_lt, nm_lt', nm_le, nm_le', x_lt, x_le, x_eq, x_in, x_cl, x_div, x_sub, x_rem, x_min, x_max, x_and, x_or, x_xor, x_df, x_shl, bI_0, bI_1, bI_bo, lg_eq, toL_inj, ls_nI, decide_eq_false_iff_not, decide_eq_true_eq, Bool.true_eq_false, Bool.false_eq_true, bq, if_pos, if_neg, if_true, if_false, lq, Nat.reduceAdd, Nat.reduceMul, Nat.reduceSub, Nat.reduceDiv, Nat.reduceMod, c.hasCoin hD, h1, c.hasPlace hD, h2]; rfl
theorem arg2 (D : cpD) (x y : Int32) : (∃ c t, c < D.C ∧ t < D.K ∧ x = nI c ∧ y = nI t) ∨ (cpLs' x D.C && cpLs' y D.K) = false := by
  rcases in_or x D.C with ⟨c, hc, rfl⟩ | h
  · rcases in_or y D.K with ⟨t, ht, rfl⟩ | h
    · exact Or.inl ⟨c, t, hc, ht, rfl, rfl⟩
    · right; rw [h, Bool.and_false]
  · right; rw [h, Bool.false_and]
theorem c_cap1 (hD : D.WF) (c : cA D E S) {k t : Nat} (hk : k < D.C) (ht : t < D.K) : fX11_coinAndPlace (nI k) (nI t) S = some (nI 1, S) := by
  have c4 := hD.c4
  have k6 := hD.k6
  rw [c_coinAndPlace hD c, cpLs_of hk (by omega), cpLs_of ht (by omega)]; rfl
theorem m_noCoin (hD : D.WF) (m : mA D E S) (x y : Int32) : fX12_noCoin x y S = some (if (cpLs' x D.C && cpLs' y D.K) then nI 0 else -2, S) := by
  unfold fX12_noCoin
  cases h1 : cpLs' x D.C
  · simp (disch := omega) only [lit, lm1, nI_add, pk_mul, nm_eq, nm_eq', nm_lt, nm_lt', nm_le, nm_le', x_lt, x_le, x_eq, x_in, x_cl, x_div, x_sub, x_rem, x_min, x_max, x_and, x_or, x_xor, x_df, x_shl, bI_0, bI_1, bI_bo, lg_eq, toL_inj, ls_nI, decide_eq_false_iff_not, decide_eq_true_eq, Bool.true_eq_false, Bool.false_eq_true, bq, if_pos, if_neg, if_true, if_false, lq, Nat.reduceAdd, Nat.reduceMul, Nat.reduceSub, Nat.reduceDiv, Nat.reduceMod, m.isCoin hD, h1]; rfl
  · cases h2 : cpLs' y D.K
    · simp (disch := omega) only [lit, lm1, nI_add, pk_mul, nm_eq, nm_eq', nm_lt, nm_lt', nm_le, nm_le', x_lt, x_le, x_eq, x_in, x_cl, x_div, x_sub, x_rem, x_min, x_max, x_and, x_or, x_xor, x_df, x_shl, bI_0, bI_1, bI_bo, lg_eq, toL_inj, ls_nI, decide_eq_false_iff_not, decide_eq_true_eq, Bool.true_eq_false, Bool.false_eq_true, bq, if_pos, if_neg, if_true, if_false, lq, Nat.reduceAdd, Nat.reduceMul, Nat.reduceSub, Nat.reduceDiv, Nat.reduceMod, m.isCoin hD, h1, m.isPlace hD, h2]; rfl
    · simp (disch := omega) only [lit, lm1, nI_add, pk_mul, nm_eq, nm_eq', nm_lt, nm_lt', nm_le, nm_le', x_lt, x_le, x_eq, x_in, x_cl, x_div, x_sub, x_rem, x_min, x_max, x_and, x_or, x_xor, x_df, x_shl, bI_0, bI_1, bI_bo, lg_eq, toL_inj, ls_nI, decide_eq_false_iff_not, decide_eq_true_eq, Bool.true_eq_false, Bool.false_eq_true, bq, if_pos, if_neg, if_true, if_false, lq, Nat.reduceAdd, Nat.reduceMul, Nat.reduceSub, Nat.reduceDiv, Nat.reduceMod, m.isCoin hD, h1, m.isPlace hD, h2]; rfl
theorem m_noCoin1 (hD : D.WF) (m : mA D E S) {k t : Nat} (hk : k < D.C) (ht : t < D.K) : fX12_noCoin (nI k) (nI t) S = some (nI 0, S) := by
  have c4 := hD.c4
  have k6 := hD.k6
  rw [m_noCoin hD m, cpLs_of hk (by omega), cpLs_of ht (by omega)]; rfl
end BE
theorem q_bearers : cpQ_bearers cpRl := by
  intro x1 x2 S hR
  refine q1 hR (fun D E hD hE => ?_)
  have c4 := hD.c4
  rcases arg2 D x1 x2 with ⟨k, t, hk, ht, rfl, rfl⟩ | h
  · refine ⟨nI (brN D E k (E.at' k) t E.h), fun S c => ?_, fun S m => ?_⟩
    · obtain ⟨T, t1, t2⟩ := c_bearers17 hD hE c hk ht
      refine ⟨T, ?_, t2.le (fun _ _ => kF_C)⟩
      unfold fX11_bearers
      rw [c_cap1 hD c hk ht]
      simp (disch := omega) only [lit, lm1, nI_add, pk_mul, nm_eq, nm_eq', nm_lt, nm_lt', nm_le, nm_le', x_lt, x_le, x_eq, x_in, x_cl, x_div, x_sub, x_rem, x_min, x_max, x_and, x_or, x_xor, x_df, x_shl, bI_0, bI_1, bI_bo, lg_eq, toL_inj, ls_nI, decide_eq_false_iff_not, decide_eq_true_eq, Bool.true_eq_false, Bool.false_eq_true, bq, if_pos, if_neg, if_true, if_false, lq, Nat.reduceAdd, Nat.reduceMul, Nat.reduceSub, Nat.reduceDiv, Nat.reduceMod, t1]
    · have m0 := m.thr hD (nI 0)
      obtain ⟨A, a1, a2, a3⟩ := m_laysNow hD m0 E.h
      obtain ⟨T, t1, t2⟩ := m_bearersOf hD hE a2 hk (hE.at' k hk) ht
      refine ⟨T, ?_, ((kM_thr S (nI 0)).tr (a3.le (fun _ _ => kG_M))).tr (t2.le (fun _ _ q => kG_M (kH_G q)))⟩
      have k6 := hD.k6
      unfold fX12_bearers
      simp (disch := omega) only [lit, lm1, nI_add, pk_mul, nm_eq, nm_eq', nm_lt, nm_lt', nm_le, nm_le', x_lt, x_le, x_eq, x_in, x_cl, x_div, x_sub, x_rem, x_min, x_max, x_and, x_or, x_xor, x_df, x_shl, bI_0, bI_1, bI_bo, lg_eq, toL_inj, ls_nI, decide_eq_false_iff_not, decide_eq_true_eq, Bool.true_eq_false, Bool.false_eq_true, bq, if_pos, if_neg, if_true, if_false, lq, Nat.reduceAdd, Nat.reduceMul, Nat.reduceSub, Nat.reduceDiv, Nat.reduceMod, m0.isCoin hD, m0.isPlace hD, m0.h, a1, a2.1.at', t1]
  · refine ⟨-2, fun S c => ⟨S, ?_, Kp.rf⟩, fun S m => ⟨_, ?_, kM_thr S (nI 0)⟩⟩
    · unfold fX11_bearers
      simp (disch := omega) only [lit, lm1, nI_add, pk_mul, nm_eq, nm_eq', nm_lt, nm_lt', nm_le, nm_le', x_lt, x_le, x_eq, x_in, x_cl, x_div, x_sub, x_rem, x_min, x_max, x_and, x_or, x_xor, x_df, x_shl, bI_0, bI_1, bI_bo, lg_eq, toL_inj, ls_nI, decide_eq_false_iff_not, decide_eq_true_eq, Bool.true_eq_false, Bool.false_eq_true, bq, if_pos, if_neg, if_true, if_false, lq, Nat.reduceAdd, Nat.reduceMul, Nat.reduceSub, Nat.reduceDiv, Nat.reduceMod, c_coinAndPlace hD c, h]
    · have m0 := m.thr hD (nI 0)
      unfold fX12_bearers
      cases h1 : cpLs' x1 D.C
      · simp (disch := omega) only [lit, lm1, nI_add, pk_mul, nm_eq, nm_eq', nm_lt, nm_lt', nm_le, nm_le', x_lt, x_le, x_eq, x_in, x_cl, x_div, x_sub, x_rem, x_min, x_max, x_and, x_or, x_xor, x_df, x_shl, bI_0, bI_1, bI_bo, lg_eq, toL_inj, ls_nI, decide_eq_false_iff_not, decide_eq_true_eq, Bool.true_eq_false, Bool.false_eq_true, bq, if_pos, if_neg, if_true, if_false, lq, Nat.reduceAdd, Nat.reduceMul, Nat.reduceSub, Nat.reduceDiv, Nat.reduceMod, m0.isCoin hD, h1]
      · cases h2 : cpLs' x2 D.K
        · simp (disch := omega) only [lit, lm1, nI_add, pk_mul, nm_eq, nm_eq', nm_lt, nm_lt', nm_le, nm_le', x_lt, x_le, x_eq, x_in, x_cl, x_div, x_sub, x_rem, x_min, x_max, x_and, x_or, x_xor, x_df, x_shl, bI_0, bI_1, bI_bo, lg_eq, toL_inj, ls_nI, decide_eq_false_iff_not, decide_eq_true_eq, Bool.true_eq_false, Bool.false_eq_true, bq, if_pos, if_neg, if_true, if_false, lq, Nat.reduceAdd, Nat.reduceMul, Nat.reduceSub, Nat.reduceDiv, Nat.reduceMod, m0.isCoin hD, h1, m0.isPlace hD, h2]
        · rw [h1, h2] at h; cases h
/-! carried -/
def cpE.mv (E : cpE) (k to : Nat) (w : Int32) : cpE := (fun i => if i = k then to else E.at' i, fun i => if i = k then E.rim k + w else E.rim i, E.fd, E.h, E.ca + nI 1)
theorem cpE.WF.mv {E : cpE} {D : cpD} (hE : E.WF D) {k to : Nat} {w : Int32} (hk : k < D.C) (ht : to < D.K) : (E.mv k to w).WF D := by
  refine ⟨fun c hc => ?_, fun c h1 h2 => ?_, hE.fd, hE.sy, hE.ir, hE.fz, hE.h9⟩
  · show (if c = k then to else E.at' c) < D.K
    split
    · exact ht
    · exact hE.at' c hc
  · show (if c = k then to else E.at' c) = 0 ∧ (if c = k then E.rim k + w else E.rim c) = 0
    rw [if_neg (by omega), if_neg (by omega)]; exact hE.no c h1 h2
theorem c_move {D : cpD} {E : cpE} {S : cpS} (hD : D.WF) (n : cN E S 57) {k to : Nat} {w : Int32} (hk : k < D.C) : ∃ T, fX5_move 57 (nI k) (nI to) w S = some ((), T) ∧ Kp (fun q _ => 57 ≤ q ∧ q ≤ 60) S T ∧ cN (E.mv k to w) T 57 := by
  have c4 := hD.c4
  have e1 : S.1 59 k = E.rim k := n.rim k (by omega)
  have e2 : S.1 57 4 = E.ca := n.ca
  have e3 : (cpI S 58 k (nI to)).1 59 k = E.rim k := by rw [sIr (by decide)]; exact e1
  have e4 : (cpI (cpI S 58 k (nI to)) 59 k (E.rim k + w)).1 57 4 = E.ca := by rw [sIr (by decide), sIr (by decide)]; exact e2
  refine ⟨cpI (cpI (cpI S 58 k (nI to)) 59 k (E.rim k + w)) 57 4 (E.ca + nI 1), ?_, ((Kp.rf.I (by exact ⟨by decide, by decide⟩)).I (by exact ⟨by decide, by decide⟩)).I (by exact ⟨by decide, by decide⟩), fun i hi => ?_, fun i hi => ?_, fun i hi => ?_, ?_, ?_⟩
  · unfold fX5_move
    simp (disch := omega) only [lit, lm1, nI_add, pk_mul, nm_eq, nm_eq', nm_lt, nm_lt', nm_le, nm_le', x_lt, x_le, x_eq, x_in, x_cl, x_div, x_sub, x_rem, x_min, x_max, x_and, x_or, x_xor, x_df, x_shl, bI_0, bI_1, bI_bo, lg_eq, toL_inj, ls_nI, decide_eq_false_iff_not, decide_eq_true_eq, Bool.true_eq_false, Bool.false_eq_true, bq, if_pos, if_neg, if_true, if_false, lq, Nat.reduceAdd, Nat.reduceMul, Nat.reduceSub, Nat.reduceDiv, Nat.reduceMod, e3, e4]
  · show (cpI (cpI (cpI S 58 k (nI to)) 59 k (E.rim k + w)) 57 4 (E.ca + nI 1)).1 58 i = nI (if i = k then to else E.at' i)
    rw [sIr (by decide), sIr (by decide)]
    by_cases e : i = k
    · rw [if_pos e, e, sI1]
    · rw [if_neg e, sIn (Or.inr e)]; exact n.at' i hi
  · show (cpI (cpI (cpI S 58 k (nI to)) 59 k (E.rim k + w)) 57 4 (E.ca + nI 1)).1 59 i = (if i = k then E.rim k + w else E.rim i)
    rw [sIr (by decide)]
    by_cases e : i = k
    · rw [if_pos e, e, sI1]
    · rw [if_neg e, sIn (Or.inr e), sIr (by decide)]; exact n.rim i hi
  · rw [sIr (by decide), sIr (by decide), sIr (by decide)]; exact n.fd i hi
  · rw [sIn (Or.inr (by decide)), sIr (by decide), sIr (by decide)]; exact n.h
  · exact sI1
theorem m_goesCarry {D : cpD} {E : cpE} {S : cpS} (hD : D.WF) (hE : E.WF D) (m : mA D E S) {p q k to : Nat} (hp : p < D.P) (hq : q < D.P) (hk : k < D.C) (ht : to < D.K) (hw : wy D E p q k to E.h = 0) : ∃ T, fX12_goesCarry (nI p) (nI q) (nI k) (nI to) S = some (wnI D E p q k to E.h, T) ∧ Kp (fun q j => (q = 151 ∧ 62 ≤ j ∧ j < 80) ∨ kG q j) S T ∧ mN (E.mv k to (wnI D E p q k to E.h)) T 62 := by
  have c4 := hD.c4
  obtain ⟨A, a1, a2⟩ := m_wornTo hD hE m hp hq hk ht hw
  have mA' := m.kp hD a2 (fun _ _ => kG_ne)
  have e1 := mA'.rim k (by omega)
  have e2 := mA'.ca
  generalize wnI D E p q k to E.h = w at a1
  have e4 : (cpI (cpI A 151 (66 + k) (E.rim k + w)) 151 (62 + k) (nI to)).1 151 79 = E.ca := by rw [sIn (Or.inr (by omega)), sIn (Or.inr (by omega))]; exact e2
  refine ⟨cpI (cpI (cpI A 151 (66 + k) (E.rim k + w)) 151 (62 + k) (nI to)) 151 79 (E.ca + nI 1), ?_, (((a2.le (fun _ _ q => Or.inr q)).I (by exact Or.inl ⟨rfl, by omega, by omega⟩)).I (by exact Or.inl ⟨rfl, by omega, by omega⟩)).I (by exact Or.inl ⟨rfl, by omega, by omega⟩), fun i hi => ?_, fun i hi => ?_, fun i hi => ?_, ?_, ?_⟩
  · unfold fX12_goesCarry
    simp (disch := omega) only [lit, lm1, nI_add, pk_mul, nm_eq, nm_eq', nm_lt, nm_lt', nm_le, nm_le', x_lt, x_le, x_eq, x_in, x_cl, x_div, x_sub, x_rem, x_min, x_max, x_and, x_or, x_xor, x_df, x_shl, bI_0, bI_1, bI_bo, lg_eq, toL_inj, ls_nI, decide_eq_false_iff_not, decide_eq_true_eq, Bool.true_eq_false, Bool.false_eq_true, bq, if_pos, if_neg, if_true, if_false, lq, Nat.reduceAdd, Nat.reduceMul, Nat.reduceSub, Nat.reduceDiv, Nat.reduceMod, m.h, a1, e1, e4]
  · show (cpI (cpI (cpI A 151 (66 + k) (E.rim k + w)) 151 (62 + k) (nI to)) 151 79 (E.ca + nI 1)).1 151 (62 + i) = nI (if i = k then to else E.at' i)
    rw [sIn (Or.inr (by omega))]
    by_cases e : i = k
    · rw [if_pos e, e, sI1]
    · rw [if_neg e, sIn (Or.inr (by omega)), sIn (Or.inr (by omega))]; exact mA'.at' i hi
  · show (cpI (cpI (cpI A 151 (66 + k) (E.rim k + w)) 151 (62 + k) (nI to)) 151 79 (E.ca + nI 1)).1 151 (66 + i) = (if i = k then E.rim k + w else E.rim i)
    rw [sIn (Or.inr (by omega)), sIn (Or.inr (by omega))]
    by_cases e : i = k
    · rw [if_pos e, e, sI1]
    · rw [if_neg e, sIn (Or.inr (by omega))]; exact mA'.rim i hi
  · rw [sIn (Or.inr (by omega)), sIn (Or.inr (by omega)), sIn (Or.inr (by omega))]; exact mA'.fd i hi
  · rw [sIn (Or.inr (by omega)), sIn (Or.inr (by omega)), sIn (Or.inr (by omega))]; exact mA'.h
  · exact sI1
theorem q_carry : cpQ_carry cpRl := by
  intro x1 x2 x3 x4 S hR
  obtain ⟨D, E, z, x, hD, hE, c, m, n, w, z9, x9, hz, hz', hx, old⟩ := hR.un
  have cS : cA D E S := ⟨c, n⟩
  have mS : mA D E S := ⟨m, w⟩
  rcases arg4 D hD.p8 x1 x2 x3 x4 with ⟨p, q, k, t, hp, hq, hn, hk, ht, rfl, rfl, rfl, rfl⟩ | h
  · obtain ⟨A, a1, a2⟩ := c_wearAt hD hE cS (h := E.h) hp hq hn hk ht
    have cA' := cS.F a2
    by_cases e : wy D E p q k t E.h = 0
    · rw [if_pos e] at a1
      obtain ⟨n', n9, hn'⟩ := wnF_sp D p q k (E.at' k) t E.h
      have hn' : wnI D E p q k t E.h = nI n' := hn'
      have eA : ∀ j, A.1 113 j = S.1 113 j := fun j => a2.i (by unfold kF; omega)
      obtain ⟨B, b1, b2, b3, b4, b5⟩ := e_keep (S := A) (k := 57) (x := x) (z := z) (by rw [eA, hx]) x9 (by rw [eA, hz]) z9 (by omega)
      obtain ⟨T, t1, t2, t3⟩ := c_move hD (cA'.2.kp b5 (fun k j a b => by omega)) (k := k) (to := t) (w := wnI D E p q k t E.h) hk
      have kT : Kp (kpC x) S T := by
        refine ((a2.le ?_).tr (b5.le ?_)).tr (t2.le ?_)
        · intro q j h; exact Or.inr (Or.inr (Or.inr (kF_C h)))
        · intro q j h
          rcases h with h | h
          · exact Or.inr (Or.inl h)
          · exact Or.inr (Or.inr (Or.inl h))
        · intro q j h; exact Or.inl h
      have hc : fX11_carry (nI p) (nI q) (nI k) (nI t) S = some (wnI D E p q k t E.h, T) := by
        unfold fX11_carry
        rw [cS.h, a1, bq]
        rw [hn'] at t1 ⊢
        simp (disch := omega) only [lit, lm1, nI_add, pk_mul, nm_eq, nm_eq', nm_lt, nm_lt', nm_le, nm_le', x_lt, x_le, x_eq, x_in, x_cl, x_div, x_sub, x_rem, x_min, x_max, x_and, x_or, x_xor, x_df, x_shl, bI_0, bI_1, bI_bo, lg_eq, toL_inj, ls_nI, decide_eq_false_iff_not, decide_eq_true_eq, Bool.true_eq_false, Bool.false_eq_true, bq, if_pos, if_neg, if_true, if_false, lq, Nat.reduceAdd, Nat.reduceMul, Nat.reduceSub, Nat.reduceDiv, Nat.reduceMod, b1, t1]
      have kS := mT kT x9
      have m0 : mA D E (cpI T 150 0 (nI 0)) := ⟨m.kp hD kS (fun j _ _ _ => by omega), w.kp kS (fun j _ _ => by omega)⟩
      have z0 : (cpI T 150 0 (nI 0)).1 151 80 = nI z := by rw [kS.i (by omega)]; exact hz'
      obtain ⟨F, f1, f2⟩ := m_whyCarry hD hE m0 (h := E.h) hp hq hn hk ht
      rw [e] at f1
      have m1 := m0.kp hD f2 (fun _ _ => kG_ne)
      obtain ⟨G, g1, g2⟩ := e_stores F
      have kG' : Kp (fun k _ => k = 158) F G := g2.kp (fun j _ _ => rfl)
      have m2 : mA D E G := m1.kp hD kG' (fun k j h => by omega)
      obtain ⟨H, h1, h2, h3⟩ := m_goesCarry hD hE m2 hp hq hk ht e
      obtain ⟨U, u1, u2, u2', u3, u4, u5⟩ := m_note (S := F) (S1 := G) (S2 := H) (z := z) z9 (by rw [f2.i (by unfold kG; omega)]; exact z0) g2 h2 (fun k j h => by
        rcases h with h | h
        · exact Or.inl h
        · exact Or.inr ⟨(kG_M h).1, (kG_M h).2, by unfold kG at h; omega⟩)
      have un : mN (E.mv k t (wnI D E p q k t E.h)) U 62 := h3.kp u2' (fun j _ _ => by omega)
      have e151 : ∀ j, F.1 151 j = (cpI T 150 0 (nI 0)).1 151 j := fun j => f2.i (by unfold kG; omega)
      refine ⟨_, T, U, hc, ?_, cpRl.fin2 hR hD hE (hE.mv hk ht) c m w z9 x9 old kT (by rw [t2.i (by omega)]; exact b2) (by rw [t2.i (by omega)]; exact b3) t3 ((b4 E cA'.2).kp t2 (fun k j a b => by omega)) ((f2.le (fun k j h => Or.inr (kG_M h))).tr u2) u3 un (fun j hj => by rw [u4 j hj, e151]) (fun i i1 i2 j hj => by rw [u5 i i1 i2 j hj, e151])⟩
      unfold fX12_carry
      simp (disch := omega) only [lit, lm1, nI_add, pk_mul, nm_eq, nm_eq', nm_lt, nm_lt', nm_le, nm_le', x_lt, x_le, x_eq, x_in, x_cl, x_div, x_sub, x_rem, x_min, x_max, x_and, x_or, x_xor, x_df, x_shl, bI_0, bI_1, bI_bo, lg_eq, toL_inj, ls_nI, decide_eq_false_iff_not, decide_eq_true_eq, Bool.true_eq_false, Bool.false_eq_true, bq, if_pos, if_neg, if_true, if_false, lq, Nat.reduceAdd, Nat.reduceMul, Nat.reduceSub, Nat.reduceDiv, Nat.reduceMod, m0.h, f1, g1, h1, u1]
    · obtain ⟨g1, g2, g3, g4, g5, g6⟩ := ng_pos (wy D E p q k t E.h) (by rcases wyF_cases D E p q k (E.at' k) t E.h with g | g | g | g; exact absurd g e; exact Or.inl g; exact Or.inr (Or.inl g); exact Or.inr (Or.inr g))
      rw [if_neg e] at a1
      have kS : Kp (fun k j => kF k j ∨ (k = 150 ∧ j = 0)) S (cpI A 150 0 (nI 0)) := (a2.le (fun _ _ h => Or.inl h)).I (by exact Or.inr ⟨rfl, rfl⟩)
      have m0 : mA D E (cpI A 150 0 (nI 0)) := mS.kp hD kS (fun k j h => by unfold kF at h; omega)
      obtain ⟨F, f1, f2⟩ := m_whyCarry hD hE m0 (h := E.h) hp hq hn hk ht
      refine ⟨(-10 : Int32) + ngI (wy D E p q k t E.h), A, F, ?_, ?_, hR.kp ((kS.le (fun _ _ h => Or.inl h)).tr (f2.le (fun _ _ h => Or.inr h))) ?_⟩
      · unfold fX11_carry
        rw [cS.h, a1, bq]
        simp (disch := omega) only [lit, lm1, nI_add, pk_mul, nm_eq, nm_eq', nm_lt, nm_lt', nm_le, nm_le', x_lt, x_le, x_eq, x_in, x_cl, x_div, x_sub, x_rem, x_min, x_max, x_and, x_or, x_xor, x_df, x_shl, bI_0, bI_1, bI_bo, lg_eq, toL_inj, ls_nI, decide_eq_false_iff_not, decide_eq_true_eq, Bool.true_eq_false, Bool.false_eq_true, bq, if_pos, if_neg, if_true, if_false, lq, Nat.reduceAdd, Nat.reduceMul, Nat.reduceSub, Nat.reduceDiv, Nat.reduceMod, g1]
      · unfold fX12_carry
        simp (disch := omega) only [lit, lm1, nI_add, pk_mul, nm_eq, nm_eq', nm_lt, nm_lt', nm_le, nm_le', x_lt, x_le, x_eq, x_in, x_cl, x_div, x_sub, x_rem, x_min, x_max, x_and, x_or, x_xor, x_df, x_shl, bI_0, bI_1, bI_bo, lg_eq, toL_inj, ls_nI, decide_eq_false_iff_not, decide_eq_true_eq, Bool.true_eq_false, Bool.false_eq_true, bq, if_pos, if_neg, if_true, if_false, lq, Nat.reduceAdd, Nat.reduceMul, Nat.reduceSub, Nat.reduceDiv, Nat.reduceMod, m0.h, f1, g5]
        rcases wyF_cases D E p q k (E.at' k) t E.h with g | g | g | g
        · exact absurd g e
        · rw [show wy D E p q k t E.h = 2 from g]; rfl
        · rw [show wy D E p q k t E.h = 3 from g]; rfl
        · rw [show wy D E p q k t E.h = 4 from g]; rfl
      · intro k j h
        rcases h with (h | ⟨h, h'⟩) | h
        · exact (kF_C h).1
        · subst h; subst h'; exact scr_thr
        · exact (kG_M h).1
  · refine ⟨-11, S, cpI S 150 0 (nI 0), ?_, ?_, hR.kp (kM_thr S (nI 0)) (fun k j h => h.1)⟩
    · unfold fX11_carry
      simp (disch := omega) only [lit, lm1, nI_add, pk_mul, nm_eq, nm_eq', nm_lt, nm_lt', nm_le, nm_le', x_lt, x_le, x_eq, x_in, x_cl, x_div, x_sub, x_rem, x_min, x_max, x_and, x_or, x_xor, x_df, x_shl, bI_0, bI_1, bI_bo, lg_eq, toL_inj, ls_nI, decide_eq_false_iff_not, decide_eq_true_eq, Bool.true_eq_false, Bool.false_eq_true, bq, if_pos, if_neg, if_true, if_false, lq, Nat.reduceAdd, Nat.reduceMul, Nat.reduceSub, Nat.reduceDiv, Nat.reduceMod, c_wearAtN hD cS h]
      rfl
    · unfold fX12_carry
      simp (disch := omega) only [lit, lm1, nI_add, pk_mul, nm_eq, nm_eq', nm_lt, nm_lt', nm_le, nm_le', x_lt, x_le, x_eq, x_in, x_cl, x_div, x_sub, x_rem, x_min, x_max, x_and, x_or, x_xor, x_df, x_shl, bI_0, bI_1, bI_bo, lg_eq, toL_inj, ls_nI, decide_eq_false_iff_not, decide_eq_true_eq, Bool.true_eq_false, Bool.false_eq_true, bq, if_pos, if_neg, if_true, if_false, lq, Nat.reduceAdd, Nat.reduceMul, Nat.reduceSub, Nat.reduceDiv, Nat.reduceMod, m_whyCarryN hD (mS.thr hD (nI 0)) h]
      rfl
