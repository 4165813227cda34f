/-! some two may carry it along a road -/
def sm2 (D : cpD) (E : cpE) (c fm r p q : Nat) : Bool := !(E.fd p).testBit q && may D p q c fm r E.h
def smO (D : cpD) (E : cpE) (c fm r : Nat) : Option Nat := gD (fun p q _ => sm2 D E c fm r p q) D.P 1 0
def smY (D : cpD) (E : cpE) (c fm r : Nat) : Bool := (smO D E c fm r).isSome
theorem gS_1 (f : Nat → Nat → Bool) (p q : Nat) : gS (fun p q _ => f p q) 1 0 p q none = if f p q = true then some (dn 0 p q 0) else none := by
  unfold gS
  (try dsimp only)
  rw [ff]
  cases f p q
  · rfl
  · rfl
section SM
variable {D : cpD} {E : cpE} {S : cpS}
theorem c_someMay (hD : D.WF) (hE : E.WF D) (c : cA D E S) {k fm r : Nat} (hk : k < D.C) (hf : fm < D.K) (hr : r < D.R) : ∃ T, fX0_someMayOn (nI k) (nI fm) (nI r) S = some (bI (smY D E k fm r), T) ∧ Kp kF S T := by
  have p8 := hD.p8
  have r9 := hD.r9
  unfold smY smO
  rw [← gD_cls _ 1 0 p8]
  refine up_lpE (F := fun n i (T : cpS) => fX0_someMayOn_3 (nI k) (nI fm) (nI r) n i T) 28 (gC (fun p q _ => sm2 D E k fm r p q) D.P 1 0) (fun _ T => Kp kF S T) (fun o x => ∃ T, x = some (bI o.isSome, T) ∧ Kp kF S T) (by decide) (fun i v => by unfold gC gS; split <;> rfl) (fun n i T hi hT hs => ?_) (fun n i T v hi hT hs => ?_) (fun n T hT => ⟨T, ?_, hT⟩) (i0 := 0) (a := S) (Nat.zero_le _) Kp.rf
  · have cT := c.F hT
    obtain ⟨g1, g2, g3, g4⟩ := p28 i hi
    unfold gC at hs
    rw [fX0_someMayOn_3]
    by_cases hP : poN i < D.P
    · rw [if_pos hP, gS_1] at hs
      cases hb : (E.fd (plN i)).testBit (poN i)
      · obtain ⟨A, a1, a2, a3⟩ := c_face hD cT (h := E.h) (p := plN i) (q := poN i) (by omega) hP hk hf
        have cA' := cT.F a2
        have kA : Kp kF T (cpI A 118 3 (nI (D.rd r).2.2)) := a2.I (by exact Or.inr rfl)
        have fA : fct D A (plN i) (poN i) k fm E.h := a3
        obtain ⟨U, u1, u2, u3⟩ := c_may hD (cT.F kA) ((fct_i fA (x := nI (D.rd r).2.2)).on (r := r) sI1)
        have hm : may D (plN i) (poN i) k fm r E.h = false := by
          cases hm : may D (plN i) (poN i) k fm r E.h
          · rfl
          · exfalso
            unfold sm2 at hs
            rw [hb, hm] at hs
            cases hs
        refine ⟨U, ?_, (hT.tr kA).tr u2⟩
        simp (disch := omega) only [lit, lm1, nI_add, pk_mul, nm_eq, nm_eq', nm_lt, nm_lt', nm_le, nm_le', x_lt, x_le, x_eq, x_in, x_cl, x_div, x_sub, x_rem, x_min, x_max, x_and, x_or, x_xor, x_df, x_shl, bI_0, bI_1, bI_bo, lg_eq, toL_inj, ls_nI, decide_eq_false_iff_not, decide_eq_true_eq, Bool.true_eq_false, Bool.false_eq_true, bq, if_pos, if_neg, if_true, if_false, lq, Nat.reduceAdd, Nat.reduceMul, Nat.reduceSub, Nat.reduceDiv, Nat.reduceMod, g1, g2, cT.hasPerson hD, cT.feuding hD hE (show plN i < 8 by omega) g4, hb, cT.h, a1, cA'.r3 r hr, u1, may_0 hD, hm]
      · refine ⟨T, ?_, hT⟩
        simp (disch := omega) only [lit, lm1, nI_add, pk_mul, nm_eq, nm_eq', nm_lt, nm_lt', nm_le, nm_le', x_lt, x_le, x_eq, x_in, x_cl, x_div, x_sub, x_rem, x_min, x_max, x_and, x_or, x_xor, x_df, x_shl, bI_0, bI_1, bI_bo, lg_eq, toL_inj, ls_nI, decide_eq_false_iff_not, decide_eq_true_eq, Bool.true_eq_false, Bool.false_eq_true, bq, if_pos, if_neg, if_true, if_false, lq, Nat.reduceAdd, Nat.reduceMul, Nat.reduceSub, Nat.reduceDiv, Nat.reduceMod, g1, g2, cT.hasPerson hD, cT.feuding hD hE (show plN i < 8 by omega) g4, hb]
    · refine ⟨T, ?_, hT⟩
      simp (disch := omega) only [lit, lm1, nI_add, pk_mul, nm_eq, nm_eq', nm_lt, nm_lt', nm_le, nm_le', x_lt, x_le, x_eq, x_in, x_cl, x_div, x_sub, x_rem, x_min, x_max, x_and, x_or, x_xor, x_df, x_shl, bI_0, bI_1, bI_bo, lg_eq, toL_inj, ls_nI, decide_eq_false_iff_not, decide_eq_true_eq, Bool.true_eq_false, Bool.false_eq_true, bq, if_pos, if_neg, if_true, if_false, lq, Nat.reduceAdd, Nat.reduceMul, Nat.reduceSub, Nat.reduceDiv, Nat.reduceMod, g1, g2, cT.hasPerson hD]
  · have cT := c.F hT
    obtain ⟨g1, g2, g3, g4⟩ := p28 i hi
    unfold gC at hs
    rw [fX0_someMayOn_3]
    by_cases hP : poN i < D.P
    · rw [if_pos hP, gS_1] at hs
      have hsm : sm2 D E k fm r (plN i) (poN i) = true := by
        cases h : sm2 D E k fm r (plN i) (poN i)
        · rw [h] at hs; cases hs
        · rfl
      unfold sm2 at hsm
      rw [Bool.and_eq_true] at hsm
      have hb : (E.fd (plN i)).testBit (poN i) = false := by
        cases h : (E.fd (plN i)).testBit (poN i)
        · rfl
        · rw [h] at hsm; cases hsm.1
      obtain ⟨A, a1, a2, a3⟩ := c_face hD cT (h := E.h) (p := plN i) (q := poN i) (by omega) hP hk hf
      have cA' := cT.F a2
      have kA : Kp kF T (cpI A 118 3 (nI (D.rd r).2.2)) := a2.I (by exact Or.inr rfl)
      have fA : fct D A (plN i) (poN i) k fm E.h := a3
      obtain ⟨U, u1, u2, u3⟩ := c_may hD (cT.F kA) ((fct_i fA (x := nI (D.rd r).2.2)).on (r := r) sI1)
      refine ⟨U, ?_, (hT.tr kA).tr u2⟩
      simp (disch := omega) only [lit, lm1, nI_add, pk_mul, nm_eq, nm_eq', nm_lt, nm_lt', nm_le, nm_le', x_lt, x_le, x_eq, x_in, x_cl, x_div, x_sub, x_rem, x_min, x_max, x_and, x_or, x_xor, x_df, x_shl, bI_0, bI_1, bI_bo, lg_eq, toL_inj, ls_nI, decide_eq_false_iff_not, decide_eq_true_eq, Bool.true_eq_false, Bool.false_eq_true, bq, if_pos, if_neg, if_true, if_false, lq, Nat.reduceAdd, Nat.reduceMul, Nat.reduceSub, Nat.reduceDiv, Nat.reduceMod, g1, g2, cT.hasPerson hD, cT.feuding hD hE (show plN i < 8 by omega) g4, hb, cT.h, a1, cA'.r3 r hr, u1, may_0 hD, hsm.2]
      rfl
    · rw [if_neg hP] at hs; cases hs
  · rw [fX0_someMayOn_3]
    simp (disch := omega) only [lit, lm1, nI_add, pk_mul, nm_eq, nm_eq', nm_lt, nm_lt', nm_le, nm_le', x_lt, x_le, x_eq, x_in, x_cl, x_div, x_sub, x_rem, x_min, x_max, x_and, x_or, x_xor, x_df, x_shl, bI_0, bI_1, bI_bo, lg_eq, toL_inj, ls_nI, decide_eq_false_iff_not, decide_eq_true_eq, Bool.true_eq_false, Bool.false_eq_true, bq, if_pos, if_neg, if_true, if_false, lq, Nat.reduceAdd, Nat.reduceMul, Nat.reduceSub, Nat.reduceDiv, Nat.reduceMod]
    rfl
theorem m_may20 (hD : D.WF) (hE : E.WF D) (m : mF D E S E.h) {k fm r p : Nat} (hk : k < D.C) (hf : fm < D.K) (hr : r < D.R) (hp : p < D.P) (k3 : Int32 → cpS → Option (Int32 × cpS)) : ∃ T, Kp kH S T ∧ fX12_someMay_20 (nI k) (nI fm) (nI r) (nI p) k3 cpFu (nI (p + 1)) S = match up (fun q s => gS (fun p q _ => sm2 D E k fm r p q) 1 0 p q s) (D.P - (p + 1)) (p + 1) none with
    | none => k3 (nI (p + 1)) T
    | some _ => some (nI 1, T) := by
  have p8 := hD.p8
  refine up_lpE (F := fun f q (T : cpS) => fX12_someMay_20 (nI k) (nI fm) (nI r) (nI p) k3 f q T) D.P (fun q s => gS (fun p q _ => sm2 D E k fm r p q) 1 0 p q s) (fun _ T => Kp kH S T) (fun o x => ∃ T, Kp kH S T ∧ x = match o with
    | none => k3 (nI (p + 1)) T
    | some _ => some (nI 1, T)) (by omega) (fun i v => rfl) (fun f q T hq hT hs => ?_) (fun f q T v hq hT hs => ?_) (fun f T hT => ⟨T, hT, ?_⟩) (i0 := p + 1) (a := S) (by omega) Kp.rf
  · have mT := m.H hD hT
    (try dsimp only at hs)
    rw [gS_1] at hs
    rw [fX12_someMay_20]
    cases hb : (E.fd p).testBit q
    · obtain ⟨U, u1, u2⟩ := m_mayBy hD mT hp hq hk hf hr
      have hm : may D p q k fm r E.h = false := by
        cases hm : may D p q k fm r E.h
        · rfl
        · exfalso
          unfold sm2 at hs
          rw [hb, hm] at hs
          cases hs
      rw [hm] at u1
      refine ⟨U, ?_, hT.tr u2⟩
      simp (disch := omega) only [lit, lm1, nI_add, pk_mul, nm_eq, nm_eq', nm_lt, nm_lt', nm_le, nm_le', x_lt, x_le, x_eq, x_in, x_cl, x_div, x_sub, x_rem, x_min, x_max, x_and, x_or, x_xor, x_df, x_shl, bI_0, bI_1, bI_bo, lg_eq, toL_inj, ls_nI, decide_eq_false_iff_not, decide_eq_true_eq, Bool.true_eq_false, Bool.false_eq_true, bq, if_pos, if_neg, if_true, if_false, lq, Nat.reduceAdd, Nat.reduceMul, Nat.reduceSub, Nat.reduceDiv, Nat.reduceMod, mT.1.P, mT.1.quarrelled hD hE (show p < 8 by omega) (show q < 8 by omega), hb, u1]
    · refine ⟨T, ?_, hT⟩
      simp (disch := omega) only [lit, lm1, nI_add, pk_mul, nm_eq, nm_eq', nm_lt, nm_lt', nm_le, nm_le', x_lt, x_le, x_eq, x_in, x_cl, x_div, x_sub, x_rem, x_min, x_max, x_and, x_or, x_xor, x_df, x_shl, bI_0, bI_1, bI_bo, lg_eq, toL_inj, ls_nI, decide_eq_false_iff_not, decide_eq_true_eq, Bool.true_eq_false, Bool.false_eq_true, bq, if_pos, if_neg, if_true, if_false, lq, Nat.reduceAdd, Nat.reduceMul, Nat.reduceSub, Nat.reduceDiv, Nat.reduceMod, mT.1.P, mT.1.quarrelled hD hE (show p < 8 by omega) (show q < 8 by omega), hb]
  · have mT := m.H hD hT
    (try dsimp only at hs)
    rw [gS_1] at hs
    have hsm : sm2 D E k fm r p q = true := by
      cases h : sm2 D E k fm r p q
      · rw [h] at hs; cases hs
      · rfl
    unfold sm2 at hsm
    rw [Bool.and_eq_true] at hsm
    have hb : (E.fd p).testBit q = false := by
      cases h : (E.fd p).testBit q
      · rfl
      · rw [h] at hsm; cases hsm.1
    obtain ⟨U, u1, u2⟩ := m_mayBy hD mT hp hq hk hf hr
    rw [hsm.2] at u1
    refine ⟨U, hT.tr u2, ?_⟩
    rw [fX12_someMay_20]
    simp (disch := omega) only [lit, lm1, nI_add, pk_mul, nm_eq, nm_eq', nm_lt, nm_lt', nm_le, nm_le', x_lt, x_le, x_eq, x_in, x_cl, x_div, x_sub, x_rem, x_min, x_max, x_and, x_or, x_xor, x_df, x_shl, bI_0, bI_1, bI_bo, lg_eq, toL_inj, ls_nI, decide_eq_false_iff_not, decide_eq_true_eq, Bool.true_eq_false, Bool.false_eq_true, bq, if_pos, if_neg, if_true, if_false, lq, Nat.reduceAdd, Nat.reduceMul, Nat.reduceSub, Nat.reduceDiv, Nat.reduceMod, mT.1.P, mT.1.quarrelled hD hE (show p < 8 by omega) (show q < 8 by omega), hb, u1]
  · have mT := m.H hD hT
    rw [fX12_someMay_20]
    simp (disch := omega) only [lit, lm1, nI_add, pk_mul, nm_eq, nm_eq', nm_lt, nm_lt', nm_le, nm_le', x_lt, x_le, x_eq, x_in, x_cl, x_div, x_sub, x_rem, x_min, x_max, x_and, x_or, x_xor, x_df, x_shl, bI_0, bI_1, bI_bo, lg_eq, toL_inj, ls_nI, decide_eq_false_iff_not, decide_eq_true_eq, Bool.true_eq_false, Bool.false_eq_true, bq, if_pos, if_neg, if_true, if_false, lq, Nat.reduceAdd, Nat.reduceMul, Nat.reduceSub, Nat.reduceDiv, Nat.reduceMod, mT.1.P]
theorem m_someMay (hD : D.WF) (hE : E.WF D) (m : mF D E S E.h) {k fm r : Nat} (hk : k < D.C) (hf : fm < D.K) (hr : r < D.R) : ∃ T, fX12_someMay (nI k) (nI fm) (nI r) S = some (bI (smY D E k fm r), T) ∧ Kp kH S T := by
  have p8 := hD.p8
  unfold smY smO gD
  refine up_lpE (F := fun f p (T : cpS) => fX12_someMay_3 (nI k) (nI fm) (nI r) f p T) D.P (fun p s => up (fun q s => gS (fun p q _ => sm2 D E k fm r p q) 1 0 p q s) (D.P - (p + 1)) (p + 1) s) (fun _ T => Kp kH S T) (fun o x => ∃ T, x = some (bI o.isSome, T) ∧ Kp kH S T) (by omega) (fun i v => up_so (fun _ _ => rfl) _ _ _) (fun f p T hp hT hs => ?_) (fun f p T v hp hT hs => ?_) (fun f T hT => ⟨T, ?_, hT⟩) (i0 := 0) (a := S) (Nat.zero_le _) Kp.rf
  · have mT := m.H hD hT
    obtain ⟨U, u1, u2⟩ := m_may20 hD hE mT hk hf hr hp (fX12_someMay_3 (nI k) (nI fm) (nI r) f)
    (try dsimp only at hs)
    rw [hs] at u2
    refine ⟨U, ?_, hT.tr u1⟩
    rw [fX12_someMay_3]
    simp (disch := omega) only [lit, lm1, nI_add, pk_mul, nm_eq, nm_eq', nm_lt, nm_lt', nm_le, nm_le', x_lt, x_le, x_eq, x_in, x_cl, x_div, x_sub, x_rem, x_min, x_max, x_and, x_or, x_xor, x_df, x_shl, bI_0, bI_1, bI_bo, lg_eq, toL_inj, ls_nI, decide_eq_false_iff_not, decide_eq_true_eq, Bool.true_eq_false, Bool.false_eq_true, bq, if_pos, if_neg, if_true, if_false, lq, Nat.reduceAdd, Nat.reduceMul, Nat.reduceSub, Nat.reduceDiv, Nat.reduceMod, mT.1.P]
    exact u2
  · have mT := m.H hD hT
    obtain ⟨U, u1, u2⟩ := m_may20 hD hE mT hk hf hr hp (fX12_someMay_3 (nI k) (nI fm) (nI r) f)
    (try dsimp only at hs)
    rw [hs] at u2
    refine ⟨U, ?_, hT.tr u1⟩
    rw [fX12_someMay_3]
    simp (disch := omega) only [lit, lm1, nI_add, pk_mul, nm_eq, nm_eq', nm_lt, nm_lt', nm_le, nm_le', x_lt, x_le, x_eq, x_in, x_cl, x_div, x_sub, x_rem, x_min, x_max, x_and, x_or, x_xor, x_df, x_shl, bI_0, bI_1, bI_bo, lg_eq, toL_inj, ls_nI, decide_eq_false_iff_not, decide_eq_true_eq, Bool.true_eq_false, Bool.false_eq_true, bq, if_pos, if_neg, if_true, if_false, lq, Nat.reduceAdd, Nat.reduceMul, Nat.reduceSub, Nat.reduceDiv, Nat.reduceMod, mT.1.P]
    exact u2
  · have mT := m.H hD hT
    rw [fX12_someMay_3]
    simp (disch := omega) only [lit, lm1, nI_add, pk_mul, nm_eq, nm_eq', nm_lt, nm_lt', nm_le, nm_le', x_lt, x_le, x_eq, x_in, x_cl, x_div, x_sub, x_rem, x_min, x_max, x_and, x_or, x_xor, x_df, x_shl, bI_0, bI_1, bI_bo, lg_eq, toL_inj, ls_nI, decide_eq_false_iff_not, decide_eq_true_eq, Bool.true_eq_false, Bool.false_eq_true, bq, if_pos, if_neg, if_true, if_false, lq, Nat.reduceAdd, Nat.reduceMul, Nat.reduceSub, Nat.reduceDiv, Nat.reduceMod, mT.1.P]
    rfl
end SM
