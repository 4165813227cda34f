/-! pairs -/
def cpr (D : cpD) (E : cpE) (w p q : Nat) : Bool := !(E.fd p).testBit q && decide (w ≤ D.st p + D.st q)
def lst (x : Nat) : Nat := (ff (fun q => x.testBit q) 8 0).getD 0
theorem lst_sp {x P : Nat} (hP : P ≤ 8) (hx : x < 2 ^ P) (h0 : x ≠ 0) : x.testBit (lst x) = true ∧ (∀ q, q < lst x → x.testBit q = false) ∧ lst x < P := by
  unfold lst
  cases h : ff (fun q => x.testBit q) 8 0 with
  | none =>
    exfalso
    apply h0
    apply Nat.eq_of_testBit_eq
    intro i
    rw [Nat.zero_testBit]
    by_cases hi : i < 8
    · exact (ff_none 8 0).mp h i (by omega) (by omega)
    · exact bit_ge hx (by omega)
  | some k =>
    obtain ⟨h1, h2, h3, h4⟩ := (ff_some 8 0 k).mp h
    refine ⟨h3, fun q hq => h4 q (by omega) hq, ?_⟩
    show k < P
    by_cases e : k < P
    · exact e
    · have := bit_ge hx (show P ≤ k by omega); (try dsimp only at h3); rw [this] at h3; cases h3
theorem df_sm : ∀ x, x < 256 → ∀ q, q < 8 → x.testBit q = true → cpDf x (2 ^ q) < x := by decide +kernel
def mpI (D : cpD) (E : cpE) (w : Nat) (t : Nat → Nat) (p rest q a : Nat) : Nat := if rest.testBit q && cpr D E w p q then max a (1 + t (cpDf rest (2 ^ q))) else a
def mp (D : cpD) (E : cpE) (w : Nat) (t : Nat → Nat) (s : Nat) : Nat := if s = 0 then 0 else up (mpI D E w t (lst s) (cpDf s (2 ^ lst s))) (D.P - (lst s + 1)) (lst s + 1) (t (cpDf s (2 ^ lst s)))
def tbS (D : cpD) (E : cpE) (w s : Nat) (t : Nat → Nat) : Nat → Nat := fun x => if x = s then mp D E w t s else t x
def tb (D : cpD) (E : cpE) (w : Nat) : Nat → Nat := up (tbS D E w) (2 ^ D.P) 0 (fun _ => 0)
def tbO (i : Nat) (t : Nat → Nat) : Prop := ∀ x, x < i → t x ≤ x
section PR
variable {D : cpD} {E : cpE} {S : cpS}
theorem mp_le (hD : D.WF) {w s : Nat} {t : Nat → Nat} (hs : s < 2 ^ D.P) (ht : tbO s t) : mp D E w t s ≤ s := by
  have p8 := hD.p8
  have p2 := p2_256 hD
  unfold mp
  split
  · exact Nat.zero_le _
  · rename_i h0
    obtain ⟨h1, h2, h3⟩ := lst_sp p8 hs h0
    have h4 := df_sm s (by omega) (lst s) (by omega) h1
    refine up_inv _ D.P (fun _ a => a ≤ s) (fun i a hi h => ?_) (D.P - (lst s + 1)) (lst s + 1) _ (by omega) (by have := ht _ h4; omega)
    unfold mpI
    split
    · rename_i hb
      have hb1 : (cpDf s (2 ^ lst s)).testBit i = true := by
        cases e : (cpDf s (2 ^ lst s)).testBit i
        · rw [e] at hb; cases hb
        · rfl
      have h5 := df_sm (cpDf s (2 ^ lst s)) (by omega) i (by omega) hb1
      have := ht _ (show cpDf (cpDf s (2 ^ lst s)) (2 ^ i) < s by omega)
      omega
    · exact h
theorem tbO.st (hD : D.WF) {w i : Nat} {t : Nat → Nat} (h : tbO i t) (hi : i < 2 ^ D.P) : tbO (i + 1) (tbS D E w i t) := by
  intro x hx
  unfold tbS
  split
  · rename_i e; rw [e]; exact mp_le hD hi h
  · exact h x (by omega)
theorem tb_O (hD : D.WF) (w : Nat) : tbO (2 ^ D.P) (tb D E w) := up_inv (tbS D E w) (2 ^ D.P) tbO (fun i t hi h => h.st hD hi) (2 ^ D.P) 0 _ (by omega) (fun x hx => absurd hx (by omega))
theorem c_canPair (hD : D.WF) (hE : E.WF D) (c : cA D E S) {p q w : Nat} (hp : p < D.P) (hq : q < D.P) (hw : w ≤ 99) : fX1_canPair (nI p) (nI q) (nI w) S = some (bI (cpr D E w p q), S) := by
  have p8 := hD.p8
  have s1 := (hD.hm p hp).2
  have s2 := (hD.hm q hq).2
  unfold fX1_canPair cpr
  cases hb : (E.fd p).testBit q
  · by_cases h : D.st p + D.st q < w
    · simp (disch := omega) only [lit, lm1, nI_add, pk_mul, nm_eq, nm_eq', nm_lt, nm_lt', nm_le, nm_le', x_lt, x_le, x_eq, x_in, x_cl, x_div, x_sub, x_rem, x_min, x_max, x_and, x_or, x_xor, x_df, x_shl, bI_0, bI_1, bI_bo, lg_eq, toL_inj, ls_nI, decide_eq_false_iff_not, decide_eq_true_eq, Bool.true_eq_false, Bool.false_eq_true, bq, if_pos, if_neg, if_true, if_false, lq, Nat.reduceAdd, Nat.reduceMul, Nat.reduceSub, Nat.reduceDiv, Nat.reduceMod, c.feuding hD hE (show p < 8 by omega) (show q < 8 by omega), hb, c.st, h]
      rw [decide_eq_false (by omega)]; rfl
    · simp (disch := omega) only [lit, lm1, nI_add, pk_mul, nm_eq, nm_eq', nm_lt, nm_lt', nm_le, nm_le', x_lt, x_le, x_eq, x_in, x_cl, x_div, x_sub, x_rem, x_min, x_max, x_and, x_or, x_xor, x_df, x_shl, bI_0, bI_1, bI_bo, lg_eq, toL_inj, ls_nI, decide_eq_false_iff_not, decide_eq_true_eq, Bool.true_eq_false, Bool.false_eq_true, bq, if_pos, if_neg, if_true, if_false, lq, Nat.reduceAdd, Nat.reduceMul, Nat.reduceSub, Nat.reduceDiv, Nat.reduceMod, c.feuding hD hE (show p < 8 by omega) (show q < 8 by omega), hb, c.st, h]
      rw [decide_eq_true (by omega)]; rfl
  · simp (disch := omega) only [lit, lm1, nI_add, pk_mul, nm_eq, nm_eq', nm_lt, nm_lt', nm_le, nm_le', x_lt, x_le, x_eq, x_in, x_cl, x_div, x_sub, x_rem, x_min, x_max, x_and, x_or, x_xor, x_df, x_shl, bI_0, bI_1, bI_bo, lg_eq, toL_inj, ls_nI, decide_eq_false_iff_not, decide_eq_true_eq, Bool.true_eq_false, Bool.false_eq_true, bq, if_pos, if_neg, if_true, if_false, lq, Nat.reduceAdd, Nat.reduceMul, Nat.reduceSub, Nat.reduceDiv, Nat.reduceMod, c.feuding hD hE (show p < 8 by omega) (show q < 8 by omega), hb]
    rfl
theorem m_canPair (hD : D.WF) (hE : E.WF D) (m : mA D E S) {p q w : Nat} (hp : p < D.P) (hq : q < D.P) (hw : w ≤ 99) : fX12_canPair (nI p) (nI q) (nI w) S = some (bI (cpr D E w p q), S) := by
  have p8 := hD.p8
  have s1 := (hD.hm p hp).2
  have s2 := (hD.hm q hq).2
  unfold fX12_canPair cpr
  cases hb : (E.fd p).testBit q
  · by_cases h : D.st p + D.st q < w
    · simp (disch := omega) only [lit, lm1, nI_add, pk_mul, nm_eq, nm_eq', nm_lt, nm_lt', nm_le, nm_le', x_lt, x_le, x_eq, x_in, x_cl, x_div, x_sub, x_rem, x_min, x_max, x_and, x_or, x_xor, x_df, x_shl, bI_0, bI_1, bI_bo, lg_eq, toL_inj, ls_nI, decide_eq_false_iff_not, decide_eq_true_eq, Bool.true_eq_false, Bool.false_eq_true, bq, if_pos, if_neg, if_true, if_false, lq, Nat.reduceAdd, Nat.reduceMul, Nat.reduceSub, Nat.reduceDiv, Nat.reduceMod, m.quarrelled hD hE (show p < 8 by omega) (show q < 8 by omega), hb, m.st, h]
      rw [decide_eq_false (by omega)]; rfl
    · simp (disch := omega) only [lit, lm1, nI_add, pk_mul, nm_eq, nm_eq', nm_lt, nm_lt', nm_le, nm_le', x_lt, x_le, x_eq, x_in, x_cl, x_div, x_sub, x_rem, x_min, x_max, x_and, x_or, x_xor, x_df, x_shl, bI_0, bI_1, bI_bo, lg_eq, toL_inj, ls_nI, decide_eq_false_iff_not, decide_eq_true_eq, Bool.true_eq_false, Bool.false_eq_true, bq, if_pos, if_neg, if_true, if_false, lq, Nat.reduceAdd, Nat.reduceMul, Nat.reduceSub, Nat.reduceDiv, Nat.reduceMod, m.quarrelled hD hE (show p < 8 by omega) (show q < 8 by omega), hb, m.st, h]
      rw [decide_eq_true (by omega)]; rfl
  · simp (disch := omega) only [lit, lm1, nI_add, pk_mul, nm_eq, nm_eq', nm_lt, nm_lt', nm_le, nm_le', x_lt, x_le, x_eq, x_in, x_cl, x_div, x_sub, x_rem, x_min, x_max, x_and, x_or, x_xor, x_df, x_shl, bI_0, bI_1, bI_bo, lg_eq, toL_inj, ls_nI, decide_eq_false_iff_not, decide_eq_true_eq, Bool.true_eq_false, Bool.false_eq_true, bq, if_pos, if_neg, if_true, if_false, lq, Nat.reduceAdd, Nat.reduceMul, Nat.reduceSub, Nat.reduceDiv, Nat.reduceMod, m.quarrelled hD hE (show p < 8 by omega) (show q < 8 by omega), hb]
    rfl
theorem c_leastIn (hD : D.WF) (c : cA D E S) {x : Nat} (hx : x < 2 ^ D.P) (h0 : x ≠ 0) : fX1_leastIn (nI x) S = some (nI (lst x), S) := by
  have p8 := hD.p8
  have p2 := p2_256 hD
  obtain ⟨h1, h2, h3⟩ := lst_sp p8 hx h0
  have e : (ff (fun q => x.testBit q) (D.P - 1) 0).getD (D.P - 1) = lst x := by
    cases h : ff (fun q => x.testBit q) (D.P - 1) 0 with
    | none =>
      have := (ff_none (D.P - 1) 0).mp h
      show D.P - 1 = lst x
      by_cases e : lst x < D.P - 1
      · have := this (lst x) (by omega) (by omega); (try dsimp only at this); rw [h1] at this; cases this
      · omega
    | some k =>
      obtain ⟨g1, g2, g3, g4⟩ := (ff_some (D.P - 1) 0 k).mp h
      show k = lst x
      by_cases e : k < lst x
      · have := h2 k e; (try dsimp only at g3); rw [this] at g3; cases g3
      · by_cases e : lst x < k
        · have := g4 (lst x) (by omega) e; (try dsimp only at this); rw [h1] at this; cases this
        · omega
  rw [← e]
  unfold fX1_leastIn
  simp only [lit]
  refine ff_lp (F := fun f i (T : cpS) => fX1_leastIn_2 (nI x) f i T) (D.P - 1) (fun q => x.testBit q) (fun _ T => T = S) (fun o r => r = some (nI (o.getD (D.P - 1)), S)) (by omega) (fun f i T hi hT hp' => ⟨S, ?_, rfl⟩) (fun f i T hi hT hp' => ?_) (fun f T hT => ?_) (i0 := 0) (a := S) (Nat.zero_le _) rfl
  · subst hT
    (try dsimp only)
    rw [fX1_leastIn_2]
    simp (disch := omega) only [lit, lm1, nI_add, pk_mul, nm_eq, nm_eq', nm_lt, nm_lt', nm_le, nm_le', x_lt, x_le, x_eq, x_in, x_cl, x_div, x_sub, x_rem, x_min, x_max, x_and, x_or, x_xor, x_df, x_shl, bI_0, bI_1, bI_bo, lg_eq, toL_inj, ls_nI, decide_eq_false_iff_not, decide_eq_true_eq, Bool.true_eq_false, Bool.false_eq_true, bq, if_pos, if_neg, if_true, if_false, lq, Nat.reduceAdd, Nat.reduceMul, Nat.reduceSub, Nat.reduceDiv, Nat.reduceMod, c.P, e_isIn, hp']
  · subst hT
    (try dsimp only)
    rw [fX1_leastIn_2]
    simp (disch := omega) only [lit, lm1, nI_add, pk_mul, nm_eq, nm_eq', nm_lt, nm_lt', nm_le, nm_le', x_lt, x_le, x_eq, x_in, x_cl, x_div, x_sub, x_rem, x_min, x_max, x_and, x_or, x_xor, x_df, x_shl, bI_0, bI_1, bI_bo, lg_eq, toL_inj, ls_nI, decide_eq_false_iff_not, decide_eq_true_eq, Bool.true_eq_false, Bool.false_eq_true, bq, if_pos, if_neg, if_true, if_false, lq, Nat.reduceAdd, Nat.reduceMul, Nat.reduceSub, Nat.reduceDiv, Nat.reduceMod, c.P, e_isIn, hp']
    rfl
  · subst hT
    (try dsimp only)
    rw [fX1_leastIn_2]
    simp (disch := omega) only [lit, lm1, nI_add, pk_mul, nm_eq, nm_eq', nm_lt, nm_lt', nm_le, nm_le', x_lt, x_le, x_eq, x_in, x_cl, x_div, x_sub, x_rem, x_min, x_max, x_and, x_or, x_xor, x_df, x_shl, bI_0, bI_1, bI_bo, lg_eq, toL_inj, ls_nI, decide_eq_false_iff_not, decide_eq_true_eq, Bool.true_eq_false, Bool.false_eq_true, bq, if_pos, if_neg, if_true, if_false, lq, Nat.reduceAdd, Nat.reduceMul, Nat.reduceSub, Nat.reduceDiv, Nat.reduceMod, c.P]
    rfl
def tbC (k : Nat) (S : cpS) (i : Nat) (t : Nat → Nat) : Prop := ∀ x, x < i → S.1 k x = nI (t x)
theorem c_mostPairs (hD : D.WF) (hE : E.WF D) (c : cA D E S) {w s : Nat} {t : Nat → Nat} (hw : w ≤ 99) (hs : s < 2 ^ D.P) (ht : tbO s t) (hc : tbC 128 S s t) : fX1_mostPairsIn (nI s) (nI w) S = some (nI (mp D E w t s), S) := by
  have p8 := hD.p8
  have p2 := p2_256 hD
  unfold fX1_mostPairsIn mp
  by_cases h0 : s = 0
  · simp (disch := omega) only [lit, lm1, nI_add, pk_mul, nm_eq, nm_eq', nm_lt, nm_lt', nm_le, nm_le', x_lt, x_le, x_eq, x_in, x_cl, x_div, x_sub, x_rem, x_min, x_max, x_and, x_or, x_xor, x_df, x_shl, bI_0, bI_1, bI_bo, lg_eq, toL_inj, ls_nI, decide_eq_false_iff_not, decide_eq_true_eq, Bool.true_eq_false, Bool.false_eq_true, bq, if_pos, if_neg, if_true, if_false, lq, Nat.reduceAdd, Nat.reduceMul, Nat.reduceSub, Nat.reduceDiv, Nat.reduceMod, h0]
  · obtain ⟨h1, h2, h3⟩ := lst_sp p8 hs h0
    have h4 := df_sm s (by omega) (lst s) (by omega) h1
    have h5 := ht _ h4
    rw [if_neg h0]
    simp (disch := omega) only [lit, lm1, nI_add, pk_mul, nm_eq, nm_eq', nm_lt, nm_lt', nm_le, nm_le', x_lt, x_le, x_eq, x_in, x_cl, x_div, x_sub, x_rem, x_min, x_max, x_and, x_or, x_xor, x_df, x_shl, bI_0, bI_1, bI_bo, lg_eq, toL_inj, ls_nI, decide_eq_false_iff_not, decide_eq_true_eq, Bool.true_eq_false, Bool.false_eq_true, bq, if_pos, if_neg, if_true, if_false, lq, Nat.reduceAdd, Nat.reduceMul, Nat.reduceSub, Nat.reduceDiv, Nat.reduceMod, h0, c_leastIn hD c hs h0, hc _ h4]
    refine up_lp (F := fun n i (x : Int32) => fX1_mostPairsIn_35 (nI w) (nI (lst s)) (nI (cpDf s (2 ^ lst s))) n x i S) (K := fun a => some (nI a, S)) D.P (mpI D E w t (lst s) (cpDf s (2 ^ lst s))) (fun _ a => a ≤ s) nI (by omega) (fun n i a hi ok => ?_) (fun n a ok => ?_) (by omega) (by omega)
    · (try dsimp only)
      rw [fX1_mostPairsIn_35]
      unfold mpI
      cases hb : (cpDf s (2 ^ lst s)).testBit i
      · refine ⟨?_, ?_⟩
        · simp (disch := omega) only [lit, lm1, nI_add, pk_mul, nm_eq, nm_eq', nm_lt, nm_lt', nm_le, nm_le', x_lt, x_le, x_eq, x_in, x_cl, x_div, x_sub, x_rem, x_min, x_max, x_and, x_or, x_xor, x_df, x_shl, bI_0, bI_1, bI_bo, lg_eq, toL_inj, ls_nI, decide_eq_false_iff_not, decide_eq_true_eq, Bool.true_eq_false, Bool.false_eq_true, bq, if_pos, if_neg, if_true, if_false, lq, Nat.reduceAdd, Nat.reduceMul, Nat.reduceSub, Nat.reduceDiv, Nat.reduceMod, c.P, e_isIn, hb, Bool.false_and]
        · rw [Bool.false_and]; exact ok
      · have h6 := df_sm (cpDf s (2 ^ lst s)) (by omega) i (by omega) hb
        have h7 : cpDf (cpDf s (2 ^ lst s)) (2 ^ i) < s := by omega
        have h8 := ht _ h7
        cases hr : cpr D E w (lst s) i
        · refine ⟨?_, ?_⟩
          · simp (disch := omega) only [lit, lm1, nI_add, pk_mul, nm_eq, nm_eq', nm_lt, nm_lt', nm_le, nm_le', x_lt, x_le, x_eq, x_in, x_cl, x_div, x_sub, x_rem, x_min, x_max, x_and, x_or, x_xor, x_df, x_shl, bI_0, bI_1, bI_bo, lg_eq, toL_inj, ls_nI, decide_eq_false_iff_not, decide_eq_true_eq, Bool.true_eq_false, Bool.false_eq_true, bq, if_pos, if_neg, if_true, if_false, lq, Nat.reduceAdd, Nat.reduceMul, Nat.reduceSub, Nat.reduceDiv, Nat.reduceMod, c.P, e_isIn, hb, c_canPair hD hE c h3 hi hw, hr, Bool.true_and]
          · rw [Bool.and_false]; exact ok
        · refine ⟨?_, ?_⟩
          · simp (disch := omega) only [lit, lm1, nI_add, pk_mul, nm_eq, nm_eq', nm_lt, nm_lt', nm_le, nm_le', x_lt, x_le, x_eq, x_in, x_cl, x_div, x_sub, x_rem, x_min, x_max, x_and, x_or, x_xor, x_df, x_shl, bI_0, bI_1, bI_bo, lg_eq, toL_inj, ls_nI, decide_eq_false_iff_not, decide_eq_true_eq, Bool.true_eq_false, Bool.false_eq_true, bq, if_pos, if_neg, if_true, if_false, lq, Nat.reduceAdd, Nat.reduceMul, Nat.reduceSub, Nat.reduceDiv, Nat.reduceMod, c.P, e_isIn, hb, c_canPair hD hE c h3 hi hw, hr, Bool.true_and, hc _ h7]
          · rw [Bool.and_true, if_pos rfl]; omega
    · (try dsimp only)
      rw [fX1_mostPairsIn_35]
      simp (disch := omega) only [lit, lm1, nI_add, pk_mul, nm_eq, nm_eq', nm_lt, nm_lt', nm_le, nm_le', x_lt, x_le, x_eq, x_in, x_cl, x_div, x_sub, x_rem, x_min, x_max, x_and, x_or, x_xor, x_df, x_shl, bI_0, bI_1, bI_bo, lg_eq, toL_inj, ls_nI, decide_eq_false_iff_not, decide_eq_true_eq, Bool.true_eq_false, Bool.false_eq_true, bq, if_pos, if_neg, if_true, if_false, lq, Nat.reduceAdd, Nat.reduceMul, Nat.reduceSub, Nat.reduceDiv, Nat.reduceMod, c.P]
def k128 (k _ : Nat) : Prop := k = 128
def k129 (k _ : Nat) : Prop := k = 128 ∨ k = 129
theorem k129_C {k j : Nat} (h : k129 k j) : kC k j := by
  rcases h with rfl | rfl
  · exact ⟨scr_c (by decide) (by decide) (by decide) j, by decide⟩
  · exact ⟨scr_c (by decide) (by decide) (by decide) j, by decide⟩
theorem cA.k129 {T : cpS} (c : cA D E S) (g : Kp k129 S T) : cA D E T := c.kp g (fun k j h => Or.inl (k129_C h).1.1)
def fp (D : cpD) (E : cpE) (w : Nat) (t : Nat → Nat) (left p : Nat) : Option Nat := ff (fun q => (cpDf left (2 ^ p)).testBit q && cpr D E w p q && decide (1 + t (cpDf (cpDf left (2 ^ p)) (2 ^ q)) = t left)) (D.P - (p + 1)) (p + 1)
theorem c_firstPartner (hD : D.WF) (hE : E.WF D) (c : cA D E S) {w left p : Nat} {t : Nat → Nat} (hw : w ≤ 99) (hl : left < 2 ^ D.P) (hp : p < D.P) (hb : left.testBit p = true) (ht : tbO (2 ^ D.P) t) (hc : tbC 128 S (2 ^ D.P) t) : fX1_firstPartner (nI left) (nI p) (nI w) S = some (oI (fp D E w t left p), S) := by
  have p8 := hD.p8
  have p2 := p2_256 hD
  have h4 := df_sm left (by omega) p (by omega) hb
  have h5 := ht _ hl
  unfold fX1_firstPartner fp
  simp (disch := omega) only [lit, lm1, nI_add, pk_mul, nm_eq, nm_eq', nm_lt, nm_lt', nm_le, nm_le', x_lt, x_le, x_eq, x_in, x_cl, x_div, x_sub, x_rem, x_min, x_max, x_and, x_or, x_xor, x_df, x_shl, bI_0, bI_1, bI_bo, lg_eq, toL_inj, ls_nI, decide_eq_false_iff_not, decide_eq_true_eq, Bool.true_eq_false, Bool.false_eq_true, bq, if_pos, if_neg, if_true, if_false, lq, Nat.reduceAdd, Nat.reduceMul, Nat.reduceSub, Nat.reduceDiv, Nat.reduceMod]
  refine ff_lp (F := fun f i (T : cpS) => fX1_firstPartner_14 (nI left) (nI p) (nI w) (nI (cpDf left (2 ^ p))) f i T) D.P _ (fun _ T => T = S) (fun o r => r = some (oI o, S)) (by omega) (fun f i T hi hT hp' => ⟨S, ?_, rfl⟩) (fun f i T hi hT hp' => ?_) (fun f T hT => ?_) (a := S) (by omega) rfl
  · subst hT
    (try dsimp only at hp' ⊢)
    rw [fX1_firstPartner_14]
    cases hb : (cpDf left (2 ^ p)).testBit i
    · simp (disch := omega) only [lit, lm1, nI_add, pk_mul, nm_eq, nm_eq', nm_lt, nm_lt', nm_le, nm_le', x_lt, x_le, x_eq, x_in, x_cl, x_div, x_sub, x_rem, x_min, x_max, x_and, x_or, x_xor, x_df, x_shl, bI_0, bI_1, bI_bo, lg_eq, toL_inj, ls_nI, decide_eq_false_iff_not, decide_eq_true_eq, Bool.true_eq_false, Bool.false_eq_true, bq, if_pos, if_neg, if_true, if_false, lq, Nat.reduceAdd, Nat.reduceMul, Nat.reduceSub, Nat.reduceDiv, Nat.reduceMod, c.P, e_isIn, hb]
    · have h6 := df_sm (cpDf left (2 ^ p)) (by omega) i (by omega) hb
      have h7 : cpDf (cpDf left (2 ^ p)) (2 ^ i) < 2 ^ D.P := by omega
      have h8 := ht _ h7
      cases hr : cpr D E w p i
      · simp (disch := omega) only [lit, lm1, nI_add, pk_mul, nm_eq, nm_eq', nm_lt, nm_lt', nm_le, nm_le', x_lt, x_le, x_eq, x_in, x_cl, x_div, x_sub, x_rem, x_min, x_max, x_and, x_or, x_xor, x_df, x_shl, bI_0, bI_1, bI_bo, lg_eq, toL_inj, ls_nI, decide_eq_false_iff_not, decide_eq_true_eq, Bool.true_eq_false, Bool.false_eq_true, bq, if_pos, if_neg, if_true, if_false, lq, Nat.reduceAdd, Nat.reduceMul, Nat.reduceSub, Nat.reduceDiv, Nat.reduceMod, c.P, e_isIn, hb, c_canPair hD hE c hp hi hw, hr]
      · rw [hb, hr, Bool.true_and, Bool.true_and] at hp'
        have := of_decide_eq_false hp'
        simp (disch := omega) only [lit, lm1, nI_add, pk_mul, nm_eq, nm_eq', nm_lt, nm_lt', nm_le, nm_le', x_lt, x_le, x_eq, x_in, x_cl, x_div, x_sub, x_rem, x_min, x_max, x_and, x_or, x_xor, x_df, x_shl, bI_0, bI_1, bI_bo, lg_eq, toL_inj, ls_nI, decide_eq_false_iff_not, decide_eq_true_eq, Bool.true_eq_false, Bool.false_eq_true, bq, if_pos, if_neg, if_true, if_false, lq, Nat.reduceAdd, Nat.reduceMul, Nat.reduceSub, Nat.reduceDiv, Nat.reduceMod, c.P, e_isIn, hb, c_canPair hD hE c hp hi hw, hr, hc _ h7, hc _ hl, this]
  · subst hT
    (try dsimp only at hp' ⊢)
    rw [fX1_firstPartner_14]
    cases hb : (cpDf left (2 ^ p)).testBit i
    · rw [hb] at hp'; cases hp'
    · have h6 := df_sm (cpDf left (2 ^ p)) (by omega) i (by omega) hb
      have h7 : cpDf (cpDf left (2 ^ p)) (2 ^ i) < 2 ^ D.P := by omega
      have h8 := ht _ h7
      cases hr : cpr D E w p i
      · rw [hb, hr] at hp'; cases hp'
      · rw [hb, hr, Bool.true_and, Bool.true_and] at hp'
        have := of_decide_eq_true hp'
        simp (disch := omega) only [lit, lm1, nI_add, pk_mul, nm_eq, nm_eq', nm_lt, nm_lt', nm_le, nm_le', x_lt, x_le, x_eq, x_in, x_cl, x_div, x_sub, x_rem, x_min, x_max, x_and, x_or, x_xor, x_df, x_shl, bI_0, bI_1, bI_bo, lg_eq, toL_inj, ls_nI, decide_eq_false_iff_not, decide_eq_true_eq, Bool.true_eq_false, Bool.false_eq_true, bq, if_pos, if_neg, if_true, if_false, lq, Nat.reduceAdd, Nat.reduceMul, Nat.reduceSub, Nat.reduceDiv, Nat.reduceMod, c.P, e_isIn, hb, c_canPair hD hE c hp hi hw, hr, hc _ h7, hc _ hl, this]
        rfl
  · subst hT
    (try dsimp only)
    rw [fX1_firstPartner_14]
    simp (disch := omega) only [lit, lm1, nI_add, pk_mul, nm_eq, nm_eq', nm_lt, nm_lt', nm_le, nm_le', x_lt, x_le, x_eq, x_in, x_cl, x_div, x_sub, x_rem, x_min, x_max, x_and, x_or, x_xor, x_df, x_shl, bI_0, bI_1, bI_bo, lg_eq, toL_inj, ls_nI, decide_eq_false_iff_not, decide_eq_true_eq, Bool.true_eq_false, Bool.false_eq_true, bq, if_pos, if_neg, if_true, if_false, lq, Nat.reduceAdd, Nat.reduceMul, Nat.reduceSub, Nat.reduceDiv, Nat.reduceMod, c.P]
    rfl
theorem fp_sp {w left p q : Nat} {t : Nat → Nat} (h : fp D E w t left p = some q) : p < q ∧ (cpDf left (2 ^ p)).testBit q = true ∧ q < p + 1 + (D.P - (p + 1)) := by
  obtain ⟨h1, h2, h3, -⟩ := (ff_some _ _ _).mp h
  refine ⟨by omega, ?_, h2⟩
  cases e : (cpDf left (2 ^ p)).testBit q
  · (try dsimp only at h3); rw [e] at h3; cases h3
  · rfl
def lfR (left p : Nat) (o : Option Nat) : Nat := match o with
  | none => cpDf left (2 ^ p)
  | some q => cpDf (cpDf left (2 ^ p)) (2 ^ q)
def paS (D : cpD) (E : cpE) (w : Nat) (t : Nat → Nat) (p : Nat) (a : Nat × (Nat → Option Nat)) : Nat × (Nat → Option Nat) := if a.1.testBit p then (lfR a.1 p (fp D E w t a.1 p), match fp D E w t a.1 p with
  | none => a.2
  | some q => fun x => if x = q then some p else if x = p then some q else a.2 x) else a
def wi (D : cpD) (E : cpE) (w : Nat) (t : Nat → Nat) (x : Nat) : Nat → Nat → Nat → Option Nat
  | 0, _, _ => none
  | d + 1, p, left => if left.testBit p then (if p = x then fp D E w t left p else if fp D E w t left p = some x then some p else wi D E w t x d (p + 1) (lfR left p (fp D E w t left p))) else wi D E w t x d (p + 1) left
theorem lfR_lt {left p n : Nat} (o : Option Nat) (h : left < 2 ^ n) : lfR left p o < 2 ^ n := by
  unfold lfR
  cases o with
  | none => exact df_lt h
  | some q => exact df_lt (df_lt h)
theorem lfR_bit {left p x : Nat} (o : Option Nat) : (lfR left p o).testBit x = (left.testBit x && decide (p ≠ x) && decide (o ≠ some x)) := by
  unfold lfR
  cases o with
  | none => (try dsimp only); rw [df_bit, Nat.testBit_two_pow]; by_cases h : p = x <;> simp [h]
  | some q => (try dsimp only); rw [df_bit, df_bit, Nat.testBit_two_pow, Nat.testBit_two_pow]; by_cases h : p = x <;> by_cases g : q = x <;> simp [h, g]
theorem pa_wi {w : Nat} {t : Nat → Nat} {x : Nat} (hx : x < D.P) : ∀ d p left pa, p + d = D.P → (∀ q, q < p → left.testBit q = false) → left < 2 ^ D.P → (∀ y, left.testBit y = true → pa y = none) → (up (paS D E w t) d p (left, pa)).2 x = if left.testBit x then wi D E w t x d p left else pa x := by
  intro d
  induction d with
  | zero =>
    intro p left pa h hl hb hy
    rw [hl x (by omega)]; rfl
  | succ d ih =>
    intro p left pa h hl hb hy
    rw [up, wi]
    by_cases hp : left.testBit p = true
    · have e1 : paS D E w t p (left, pa) = (lfR left p (fp D E w t left p), match fp D E w t left p with | none => pa | some q => fun x => if x = q then some p else if x = p then some q else pa x) := by unfold paS; rw [if_pos hp]
      have hl' : ∀ q, q < p + 1 → (lfR left p (fp D E w t left p)).testBit q = false := fun q hq => by
        rw [lfR_bit]
        by_cases e : q = p
        · rw [e]; simp
        · rw [hl q (by omega)]; rfl
      rw [e1, if_pos hp]
      cases hf : fp D E w t left p with
      | none =>
        (try dsimp only)
        rw [hf] at hl'
        rw [ih (p + 1) (lfR left p none) pa (by omega) hl' (lfR_lt _ hb) (fun y h => hy y (by rw [lfR_bit] at h; cases e : left.testBit y; rw [e] at h; cases h; rfl)), lfR_bit]
        by_cases e : p = x
        · subst e; rw [hp, if_pos rfl]; simp; exact hy p hp
        · rw [if_neg e]; simp [e]
      | some q =>
        obtain ⟨q1, q2, q3⟩ := fp_sp hf
        have q4 : left.testBit q = true := by rw [df_bit] at q2; cases e : left.testBit q; rw [e] at q2; cases q2; rfl
        (try dsimp only)
        rw [hf] at hl'
        rw [ih (p + 1) (lfR left p (some q)) _ (by omega) hl' (lfR_lt _ hb) (fun y h => ?_), lfR_bit]
        · by_cases e : p = x
          · subst e
            rw [hp, if_pos rfl]
            simp [show ¬ p = q by omega]
          · by_cases e' : q = x
            · subst e'
              rw [q4, if_neg e]; simp
            · rw [if_neg e]
              simp [e, e', Ne.symm e', Ne.symm e]
        · rw [lfR_bit] at h
          have y1 : p ≠ y := fun e => by rw [e] at h; simp at h
          have y2 : q ≠ y := fun e => by rw [e] at h; simp at h
          have y3 : left.testBit y = true := by cases e : left.testBit y; rw [e] at h; cases h; rfl
          rw [if_neg (Ne.symm y2), if_neg (Ne.symm y1)]; exact hy y y3
    · have hp' : left.testBit p = false := by simpa using hp
      have e1 : paS D E w t p (left, pa) = (left, pa) := by unfold paS; rw [if_neg hp]
      rw [e1, if_neg hp]
      refine ih (p + 1) left pa (by omega) (fun q hq => ?_) hb hy
      by_cases e : q = p
      · rw [e]; exact hp'
      · exact hl q (by omega)
theorem e_fillI (k nk : Nat) (x : Int32) (hk : nk < 5000) (S : cpS) : ∃ T, fJ7_fill_53178 k nk x S = some ((), T) ∧ fI S T k 0 nk (fun _ => x) := by
  have := up_lpR (F := fun n i (T : cpS) => fJ7_fill_53178_5 k nk x (nI nk) n i T) (K := fun T => some ((), T)) nk (fun _ (s : Unit) => s) (fun i _ T => fI S T k 0 i (fun _ => x)) (by omega) (fun n i s T hi hI => ?_) (fun n s T hI => ?_) (i0 := 0) (s := ()) (a := S) (Nat.zero_le _) (fI.rf S k 0 _)
  · obtain ⟨T, t1, t2⟩ := this
    refine ⟨T, ?_, t2⟩
    unfold fJ7_fill_53178
    simp (disch := omega) only [lit, lm1, nI_add, pk_mul, nm_eq, nm_eq', nm_lt, nm_lt', nm_le, nm_le', x_lt, x_le, x_eq, x_in, x_cl, x_div, x_sub, x_rem, x_min, x_max, x_and, x_or, x_xor, x_df, x_shl, bI_0, bI_1, bI_bo, lg_eq, toL_inj, ls_nI, decide_eq_false_iff_not, decide_eq_true_eq, Bool.true_eq_false, Bool.false_eq_true, bq, if_pos, if_neg, if_true, if_false, lq, Nat.reduceAdd, Nat.reduceMul, Nat.reduceSub, Nat.reduceDiv, Nat.reduceMod]
    exact t1
  · refine ⟨cpI T k i x, ?_, hI.nx rfl (by omega)⟩
    (try dsimp only)
    rw [fJ7_fill_53178_5]
    simp (disch := omega) only [lit, lm1, nI_add, pk_mul, nm_eq, nm_eq', nm_lt, nm_lt', nm_le, nm_le', x_lt, x_le, x_eq, x_in, x_cl, x_div, x_sub, x_rem, x_min, x_max, x_and, x_or, x_xor, x_df, x_shl, bI_0, bI_1, bI_bo, lg_eq, toL_inj, ls_nI, decide_eq_false_iff_not, decide_eq_true_eq, Bool.true_eq_false, Bool.false_eq_true, bq, if_pos, if_neg, if_true, if_false, lq, Nat.reduceAdd, Nat.reduceMul, Nat.reduceSub, Nat.reduceDiv, Nat.reduceMod]
  · (try dsimp only)
    rw [fJ7_fill_53178_5]
    simp (disch := omega) only [lit, lm1, nI_add, pk_mul, nm_eq, nm_eq', nm_lt, nm_lt', nm_le, nm_le', x_lt, x_le, x_eq, x_in, x_cl, x_div, x_sub, x_rem, x_min, x_max, x_and, x_or, x_xor, x_df, x_shl, bI_0, bI_1, bI_bo, lg_eq, toL_inj, ls_nI, decide_eq_false_iff_not, decide_eq_true_eq, Bool.true_eq_false, Bool.false_eq_true, bq, if_pos, if_neg, if_true, if_false, lq, Nat.reduceAdd, Nat.reduceMul, Nat.reduceSub, Nat.reduceDiv, Nat.reduceMod]
theorem c_part (hD : D.WF) (hE : E.WF D) (c : cA D E S) {w : Nat} (hw : w ≤ 99) : ∃ T, fX1_part (nI w) S = some ((), T) ∧ Kp kC S T ∧ tbC 128 T (2 ^ D.P) (tb D E w) ∧ ∀ x, x < 8 → T.1 129 x = oI ((up (paS D E w (tb D E w)) D.P 0 (D.ev, fun _ => none)).2 x) := by
  have p8 := hD.p8
  have p2 := p2_256 hD
  have e1 := ev_1 D
  obtain ⟨A, a1, a2, a3, a4⟩ : ∃ A, fX1_part_2 (nI w) cpFu (nI 0) S = (cpB (fJ7_fill_53178 129 8 (-1 : Int32) A) fun _ S4 => cpB (fX1_everybody S4) fun z5 S6 => fX1_part_43 (nI w) cpFu z5 (nI 0) S6) ∧ tbC 128 A (2 ^ D.P) (tb D E w) ∧ tbO (2 ^ D.P) (tb D E w) ∧ Kp k129 S A := by
    refine up_lpR (F := fun n i (T : cpS) => fX1_part_2 (nI w) n i T) (K := fun A => cpB (fJ7_fill_53178 129 8 (-1 : Int32) A) fun _ S4 => cpB (fX1_everybody S4) fun z5 S6 => fX1_part_43 (nI w) cpFu z5 (nI 0) S6) (2 ^ D.P) (tbS D E w) (fun i t T => tbC 128 T i t ∧ tbO i t ∧ Kp k129 S T) (by omega) (fun n i t T hi hI => ?_) (fun n t T hI => ?_) (i0 := 0) (s := fun _ => 0) (a := S) (Nat.zero_le _) ⟨fun x hx => absurd hx (by omega), fun x hx => absurd hx (by omega), Kp.rf⟩
    · obtain ⟨i1, i2, i3⟩ := hI
      have cT := c.k129 i3
      refine ⟨cpI T 128 i (nI (mp D E w t i)), ?_, fun x hx => ?_, i2.st hD hi, i3.I (by exact Or.inl rfl)⟩
      · (try dsimp only)
        rw [fX1_part_2]
        simp (disch := omega) only [lit, lm1, nI_add, pk_mul, nm_eq, nm_eq', nm_lt, nm_lt', nm_le, nm_le', x_lt, x_le, x_eq, x_in, x_cl, x_div, x_sub, x_rem, x_min, x_max, x_and, x_or, x_xor, x_df, x_shl, bI_0, bI_1, bI_bo, lg_eq, toL_inj, ls_nI, decide_eq_false_iff_not, decide_eq_true_eq, Bool.true_eq_false, Bool.false_eq_true, bq, if_pos, if_neg, if_true, if_false, lq, Nat.reduceAdd, Nat.reduceMul, Nat.reduceSub, Nat.reduceDiv, Nat.reduceMod, c_every hD cT, c_mostPairs hD hE cT hw hi i2 i1]
      · unfold tbS
        by_cases e : x = i
        · rw [if_pos e, e, sI1]
        · rw [if_neg e, sIn (Or.inr e)]; exact i1 x (by omega)
    · have cT := c.k129 hI.2.2
      (try dsimp only)
      rw [fX1_part_2]
      simp (disch := omega) only [lit, lm1, nI_add, pk_mul, nm_eq, nm_eq', nm_lt, nm_lt', nm_le, nm_le', x_lt, x_le, x_eq, x_in, x_cl, x_div, x_sub, x_rem, x_min, x_max, x_and, x_or, x_xor, x_df, x_shl, bI_0, bI_1, bI_bo, lg_eq, toL_inj, ls_nI, decide_eq_false_iff_not, decide_eq_true_eq, Bool.true_eq_false, Bool.false_eq_true, bq, if_pos, if_neg, if_true, if_false, lq, Nat.reduceAdd, Nat.reduceMul, Nat.reduceSub, Nat.reduceDiv, Nat.reduceMod, c_every hD cT]
  obtain ⟨B, b1, b2⟩ := e_fillI 129 8 (-1) (by decide) A
  have kB : Kp k129 A B := b2.kp (fun j _ _ => Or.inr rfl)
  have cB : cA D E B := (c.k129 a4).k129 kB
  have tB : tbC 128 B (2 ^ D.P) (tb D E w) := fun x hx => by rw [b2.2.1 128 (by decide)]; exact a2 x hx
  obtain ⟨U, u1, u2, u3, u4⟩ : ∃ U : Int32 × cpS, fX1_part_43 (nI w) cpFu (nI D.ev) (nI 0) B = some ((), U.2) ∧ Kp k129 B U.2 ∧ tbC 128 U.2 (2 ^ D.P) (tb D E w) ∧ ∀ x, x < 8 → U.2.1 129 x = oI ((up (paS D E w (tb D E w)) D.P 0 (D.ev, fun _ => none)).2 x) := by
    have := up_lpR (F := fun n i (a : Int32 × cpS) => fX1_part_43 (nI w) n a.1 i a.2) (K := fun a => some ((), a.2)) D.P (paS D E w (tb D E w)) (fun i s a => a.1 = nI s.1 ∧ s.1 < 2 ^ D.P ∧ Kp k129 B a.2 ∧ tbC 128 a.2 (2 ^ D.P) (tb D E w) ∧ ∀ x, x < 8 → a.2.1 129 x = oI (s.2 x)) (by omega) (fun n i s a hi hI => ?_) (fun n s a hI => ?_) (i0 := 0) (s := (D.ev, fun _ => none)) (a := (nI D.ev, B)) (Nat.zero_le _) ⟨rfl, ev_lt2 D, Kp.rf, tB, fun x hx => b2.2.2.1 x (by omega) hx⟩
    · obtain ⟨a, t1, t2, t3, t4, t5, t6⟩ := this
      exact ⟨a, t1, t4, t5, t6⟩
    · obtain ⟨x2, T⟩ := a
      obtain ⟨i1, i2, i3, i4, i5⟩ := hI
      (try dsimp only at i1 i3 i4 i5)
      subst i1
      have cT : cA D E T := cB.k129 i3
      by_cases hb : s.1.testBit i = true
      · have e1 : paS D E w (tb D E w) i s = (lfR s.1 i (fp D E w (tb D E w) s.1 i), match fp D E w (tb D E w) s.1 i with | none => s.2 | some q => fun x => if x = q then some i else if x = i then some q else s.2 x) := by unfold paS; rw [if_pos hb]
        rw [e1]
        cases hf : fp D E w (tb D E w) s.1 i with
        | none =>
          refine ⟨(nI (lfR s.1 i none), T), ?_, rfl, (show lfR s.1 i none < 2 ^ D.P from lfR_lt _ i2), i3, i4, i5⟩
          (try dsimp only)
          rw [fX1_part_43]
          simp (disch := omega) only [lit, lm1, nI_add, pk_mul, nm_eq, nm_eq', nm_lt, nm_lt', nm_le, nm_le', x_lt, x_le, x_eq, x_in, x_cl, x_div, x_sub, x_rem, x_min, x_max, x_and, x_or, x_xor, x_df, x_shl, bI_0, bI_1, bI_bo, lg_eq, toL_inj, ls_nI, decide_eq_false_iff_not, decide_eq_true_eq, Bool.true_eq_false, Bool.false_eq_true, bq, if_pos, if_neg, if_true, if_false, lq, Nat.reduceAdd, Nat.reduceMul, Nat.reduceSub, Nat.reduceDiv, Nat.reduceMod, cT.P, e_isIn, hb, c_firstPartner hD hE cT hw i2 hi hb a3 i4, hf, oI, eq_self]
          rfl
        | some q =>
          obtain ⟨q1, q2, q3⟩ := fp_sp hf
          refine ⟨(nI (lfR s.1 i (some q)), cpI (cpI T 129 i (nI q)) 129 q (nI i)), ?_, rfl, (show lfR s.1 i (some q) < 2 ^ D.P from lfR_lt _ i2), (i3.I (by exact Or.inr rfl)).I (by exact Or.inr rfl), fun x hx => by rw [sIr (by decide), sIr (by decide)]; exact i4 x hx, fun x hx => ?_⟩
          · (try dsimp only)
            rw [fX1_part_43]
            simp (disch := omega) only [lit, lm1, nI_add, pk_mul, nm_eq, nm_eq', nm_lt, nm_lt', nm_le, nm_le', x_lt, x_le, x_eq, x_in, x_cl, x_div, x_sub, x_rem, x_min, x_max, x_and, x_or, x_xor, x_df, x_shl, bI_0, bI_1, bI_bo, lg_eq, toL_inj, ls_nI, decide_eq_false_iff_not, decide_eq_true_eq, Bool.true_eq_false, Bool.false_eq_true, bq, if_pos, if_neg, if_true, if_false, lq, Nat.reduceAdd, Nat.reduceMul, Nat.reduceSub, Nat.reduceDiv, Nat.reduceMod, cT.P, e_isIn, hb, c_firstPartner hD hE cT hw i2 hi hb a3 i4, hf, oI]
            rfl
          · (try dsimp only)
            by_cases e : x = q
            · rw [if_pos e, e, sI1]; rfl
            · rw [if_neg e, sIn (Or.inr e)]
              by_cases e' : x = i
              · rw [if_pos e', e', sI1]; rfl
              · rw [if_neg e', sIn (Or.inr e')]; exact i5 x hx
      · have e1 : paS D E w (tb D E w) i s = s := by unfold paS; rw [if_neg hb]
        rw [e1]
        refine ⟨(nI s.1, T), ?_, rfl, i2, i3, i4, i5⟩
        (try dsimp only)
        rw [fX1_part_43]
        simp (disch := omega) only [lit, lm1, nI_add, pk_mul, nm_eq, nm_eq', nm_lt, nm_lt', nm_le, nm_le', x_lt, x_le, x_eq, x_in, x_cl, x_div, x_sub, x_rem, x_min, x_max, x_and, x_or, x_xor, x_df, x_shl, bI_0, bI_1, bI_bo, lg_eq, toL_inj, ls_nI, decide_eq_false_iff_not, decide_eq_true_eq, Bool.true_eq_false, Bool.false_eq_true, bq, if_pos, if_neg, if_true, if_false, lq, Nat.reduceAdd, Nat.reduceMul, Nat.reduceSub, Nat.reduceDiv, Nat.reduceMod, cT.P, e_isIn, show s.1.testBit i = false by simpa using hb]
    · have cT : cA D E a.2 := cB.k129 hI.2.2.1
      (try dsimp only)
      rw [fX1_part_43]
      simp (disch := omega) only [lit, lm1, nI_add, pk_mul, nm_eq, nm_eq', nm_lt, nm_lt', nm_le, nm_le', x_lt, x_le, x_eq, x_in, x_cl, x_div, x_sub, x_rem, x_min, x_max, x_and, x_or, x_xor, x_df, x_shl, bI_0, bI_1, bI_bo, lg_eq, toL_inj, ls_nI, decide_eq_false_iff_not, decide_eq_true_eq, Bool.true_eq_false, Bool.false_eq_true, bq, if_pos, if_neg, if_true, if_false, lq, Nat.reduceAdd, Nat.reduceMul, Nat.reduceSub, Nat.reduceDiv, Nat.reduceMod, cT.P]
  refine ⟨U.2, ?_, ((a4.tr kB).tr u2).le (fun _ _ => k129_C), u3, u4⟩
  unfold fX1_part
  simp only [lit]
  rw [a1, b1, bq, c_every hD cB, bq]
  exact u1
def k166 (k _ : Nat) : Prop := k = 166
theorem k166_M {k j : Nat} (h : k166 k j) : kM k j := by
  unfold k166 at h; subst h
  exact ⟨scr_c (by decide) (by decide) (by decide) j, by decide⟩
theorem m_pairs49 (hD : D.WF) (hE : E.WF D) (m : mA D E S) {w s : Nat} {t : Nat → Nat} (hw : w ≤ 99) (h0 : s ≠ 0) (hs : s < 2 ^ D.P) (ht : tbO s t) (hc : tbC 166 S s t) (k : Int32 → cpS → Option (Unit × cpS)) : fX12_laysPairs_49 (nI w) (nI s) (nI (lst s)) (nI (cpDf s (2 ^ lst s))) k cpFu (nI (t (cpDf s (2 ^ lst s)))) (nI (lst s + 1)) S = k (nI (s + 1)) (cpI S 166 s (nI (mp D E w t s))) := by
  have p8 := hD.p8
  have p2 := p2_256 hD
  obtain ⟨h1, h2, h3⟩ := lst_sp p8 hs h0
  have h4 := df_sm s (by omega) (lst s) (by omega) h1
  have h5 := ht _ h4
  unfold mp
  rw [if_neg h0]
  refine up_lp (F := fun n i (x : Int32) => fX12_laysPairs_49 (nI w) (nI s) (nI (lst s)) (nI (cpDf s (2 ^ lst s))) k n x i S) (K := fun a => k (nI (s + 1)) (cpI S 166 s (nI a))) D.P (mpI D E w t (lst s) (cpDf s (2 ^ lst s))) (fun _ a => a ≤ s) nI (by omega) (fun n i a hi ok => ?_) (fun n a ok => ?_) (by omega) (by omega)
  · (try dsimp only)
    rw [fX12_laysPairs_49]
    unfold mpI
    cases hb : (cpDf s (2 ^ lst s)).testBit i
    · refine ⟨?_, ?_⟩
      · simp (disch := omega) only [lit, lm1, nI_add, pk_mul, nm_eq, nm_eq', nm_lt, nm_lt', nm_le, nm_le', x_lt, x_le, x_eq, x_in, x_cl, x_div, x_sub, x_rem, x_min, x_max, x_and, x_or, x_xor, x_df, x_shl, bI_0, bI_1, bI_bo, lg_eq, toL_inj, ls_nI, decide_eq_false_iff_not, decide_eq_true_eq, Bool.true_eq_false, Bool.false_eq_true, bq, if_pos, if_neg, if_true, if_false, lq, Nat.reduceAdd, Nat.reduceMul, Nat.reduceSub, Nat.reduceDiv, Nat.reduceMod, m.P, m_isIn, hb, Bool.false_and]
      · rw [Bool.false_and]; exact ok
    · have h6 := df_sm (cpDf s (2 ^ lst s)) (by omega) i (by omega) hb
      have h7 : cpDf (cpDf s (2 ^ lst s)) (2 ^ i) < s := by omega
      have h8 := ht _ h7
      cases hr : cpr D E w (lst s) i
      · refine ⟨?_, ?_⟩
        · simp (disch := omega) only [lit, lm1, nI_add, pk_mul, nm_eq, nm_eq', nm_lt, nm_lt', nm_le, nm_le', x_lt, x_le, x_eq, x_in, x_cl, x_div, x_sub, x_rem, x_min, x_max, x_and, x_or, x_xor, x_df, x_shl, bI_0, bI_1, bI_bo, lg_eq, toL_inj, ls_nI, decide_eq_false_iff_not, decide_eq_true_eq, Bool.true_eq_false, Bool.false_eq_true, bq, if_pos, if_neg, if_true, if_false, lq, Nat.reduceAdd, Nat.reduceMul, Nat.reduceSub, Nat.reduceDiv, Nat.reduceMod, m.P, m_isIn, hb, m_canPair hD hE m h3 hi hw, hr, Bool.true_and]
        · rw [Bool.and_false]; exact ok
      · refine ⟨?_, ?_⟩
        · by_cases h9 : 1 + t (cpDf (cpDf s (2 ^ lst s)) (2 ^ i)) ≤ a
          · simp (disch := omega) only [lit, lm1, nI_add, pk_mul, nm_eq, nm_eq', nm_lt, nm_lt', nm_le, nm_le', x_lt, x_le, x_eq, x_in, x_cl, x_div, x_sub, x_rem, x_min, x_max, x_and, x_or, x_xor, x_df, x_shl, bI_0, bI_1, bI_bo, lg_eq, toL_inj, ls_nI, decide_eq_false_iff_not, decide_eq_true_eq, Bool.true_eq_false, Bool.false_eq_true, bq, if_pos, if_neg, if_true, if_false, lq, Nat.reduceAdd, Nat.reduceMul, Nat.reduceSub, Nat.reduceDiv, Nat.reduceMod, m.P, m_isIn, hb, m_canPair hD hE m h3 hi hw, hr, Bool.true_and, hc _ h7, h9, Nat.max_eq_left]
          · simp (disch := omega) only [lit, lm1, nI_add, pk_mul, nm_eq, nm_eq', nm_lt, nm_lt', nm_le, nm_le', x_lt, x_le, x_eq, x_in, x_cl, x_div, x_sub, x_rem, x_min, x_max, x_and, x_or, x_xor, x_df, x_shl, bI_0, bI_1, bI_bo, lg_eq, toL_inj, ls_nI, decide_eq_false_iff_not, decide_eq_true_eq, Bool.true_eq_false, Bool.false_eq_true, bq, if_pos, if_neg, if_true, if_false, lq, Nat.reduceAdd, Nat.reduceMul, Nat.reduceSub, Nat.reduceDiv, Nat.reduceMod, m.P, m_isIn, hb, m_canPair hD hE m h3 hi hw, hr, Bool.true_and, hc _ h7, h9, Nat.max_eq_right]
        · rw [Bool.and_true, if_pos rfl]; omega
  · (try dsimp only)
    rw [fX12_laysPairs_49]
    simp (disch := omega) only [lit, lm1, nI_add, pk_mul, nm_eq, nm_eq', nm_lt, nm_lt', nm_le, nm_le', x_lt, x_le, x_eq, x_in, x_cl, x_div, x_sub, x_rem, x_min, x_max, x_and, x_or, x_xor, x_df, x_shl, bI_0, bI_1, bI_bo, lg_eq, toL_inj, ls_nI, decide_eq_false_iff_not, decide_eq_true_eq, Bool.true_eq_false, Bool.false_eq_true, bq, if_pos, if_neg, if_true, if_false, lq, Nat.reduceAdd, Nat.reduceMul, Nat.reduceSub, Nat.reduceDiv, Nat.reduceMod, m.P]
theorem m_laysPairs (hD : D.WF) (hE : E.WF D) (m : mA D E S) {w : Nat} (hw : w ≤ 99) : ∃ T, fX12_laysPairs (nI w) S = some ((), T) ∧ Kp kM S T ∧ tbC 166 T (2 ^ D.P) (tb D E w) := by
  have p8 := hD.p8
  have p2 := p2_256 hD
  have pp := Nat.two_pow_pos D.P
  have e0 : tb D E w = up (tbS D E w) (2 ^ D.P - 1) 1 (tbS D E w 0 (fun _ => 0)) := by
    unfold tb
    obtain ⟨N, hN⟩ : ∃ N, 2 ^ D.P = N + 1 := ⟨2 ^ D.P - 1, by omega⟩
    rw [hN, up]; rfl
  have z0 : ∀ x, tbS D E w 0 (fun _ => 0) x = 0 := fun x => by unfold tbS mp; by_cases e : x = 0 <;> simp [e]
  have := up_lpR (F := fun n i (T : cpS) => fX12_laysPairs_9 (nI w) n i T) (K := fun T => some ((), T)) (2 ^ D.P) (tbS D E w) (fun i t T => tbC 166 T i t ∧ tbO i t ∧ Kp k166 S T ∧ 1 ≤ i) (by omega) (fun n i t T hi hI => ?_) (fun n t T hI => ?_) (i0 := 1) (s := tbS D E w 0 (fun _ => 0)) (a := cpI S 166 0 (nI 0)) (by omega) ⟨fun x hx => ?_, fun x hx => by rw [z0]; omega, Kp.rf.I (by exact rfl), Nat.le_refl _⟩
  · obtain ⟨T, t1, t2, t3, t4, -⟩ := this
    rw [← e0] at t2
    refine ⟨T, ?_, t4.le (fun _ _ => k166_M), t2⟩
    unfold fX12_laysPairs
    simp (disch := omega) only [lit, lm1, nI_add, pk_mul, nm_eq, nm_eq', nm_lt, nm_lt', nm_le, nm_le', x_lt, x_le, x_eq, x_in, x_cl, x_div, x_sub, x_rem, x_min, x_max, x_and, x_or, x_xor, x_df, x_shl, bI_0, bI_1, bI_bo, lg_eq, toL_inj, ls_nI, decide_eq_false_iff_not, decide_eq_true_eq, Bool.true_eq_false, Bool.false_eq_true, bq, if_pos, if_neg, if_true, if_false, lq, Nat.reduceAdd, Nat.reduceMul, Nat.reduceSub, Nat.reduceDiv, Nat.reduceMod]
    exact t1
  · obtain ⟨i1, i2, i3, i4⟩ := hI
    have mT : mA D E T := m.kp hD i3 (fun _ _ h => kM_ne (k166_M h))
    obtain ⟨h1, h2, h3⟩ := lst_sp p8 hi (show i ≠ 0 by omega)
    have h4 := df_sm i (by omega) (lst i) (by omega) h1
    refine ⟨cpI T 166 i (nI (mp D E w t i)), ?_, fun x hx => ?_, i2.st hD hi, i3.I (by exact rfl), by omega⟩
    · (try dsimp only)
      rw [fX12_laysPairs_9]
      simp (disch := omega) only [lit, lm1, nI_add, pk_mul, nm_eq, nm_eq', nm_lt, nm_lt', nm_le, nm_le', x_lt, x_le, x_eq, x_in, x_cl, x_div, x_sub, x_rem, x_min, x_max, x_and, x_or, x_xor, x_df, x_shl, bI_0, bI_1, bI_bo, lg_eq, toL_inj, ls_nI, decide_eq_false_iff_not, decide_eq_true_eq, Bool.true_eq_false, Bool.false_eq_true, bq, if_pos, if_neg, if_true, if_false, lq, Nat.reduceAdd, Nat.reduceMul, Nat.reduceSub, Nat.reduceDiv, Nat.reduceMod, mT.P, m_leastOf (show i < 2 ^ 31 by omega) (show lst i < 30 by omega) h1 h2, i1 _ h4, m_pairs49 hD hE mT hw (show i ≠ 0 by omega) hi i2 i1]
    · unfold tbS
      by_cases e : x = i
      · rw [if_pos e, e, sI1]
      · rw [if_neg e, sIn (Or.inr e)]; exact i1 x (by omega)
  · have mT : mA D E T := m.kp hD hI.2.2.1 (fun _ _ h => kM_ne (k166_M h))
    (try dsimp only)
    rw [fX12_laysPairs_9]
    simp (disch := omega) only [lit, lm1, nI_add, pk_mul, nm_eq, nm_eq', nm_lt, nm_lt', nm_le, nm_le', x_lt, x_le, x_eq, x_in, x_cl, x_div, x_sub, x_rem, x_min, x_max, x_and, x_or, x_xor, x_df, x_shl, bI_0, bI_1, bI_bo, lg_eq, toL_inj, ls_nI, decide_eq_false_iff_not, decide_eq_true_eq, Bool.true_eq_false, Bool.false_eq_true, bq, if_pos, if_neg, if_true, if_false, lq, Nat.reduceAdd, Nat.reduceMul, Nat.reduceSub, Nat.reduceDiv, Nat.reduceMod, mT.P]
  · rw [z0, show x = 0 by omega]; exact sI1
theorem m_partnerIn (hD : D.WF) (hE : E.WF D) (m : mA D E S) {w left p : Nat} {t : Nat → Nat} (hw : w ≤ 99) (hl : left < 2 ^ D.P) (hp : p < D.P) (hb : left.testBit p = true) (hq : ∀ q, q < p → left.testBit q = false) (ht : tbO (2 ^ D.P) t) (hc : tbC 166 S (2 ^ D.P) t) : fX12_partnerIn (nI left) (nI w) S = some (oI (fp D E w t left p), S) := by
  have p8 := hD.p8
  have p2 := p2_256 hD
  have h4 := df_sm left (by omega) p (by omega) hb
  have h5 := ht _ hl
  unfold fX12_partnerIn fp
  simp (disch := omega) only [lit, lm1, nI_add, pk_mul, nm_eq, nm_eq', nm_lt, nm_lt', nm_le, nm_le', x_lt, x_le, x_eq, x_in, x_cl, x_div, x_sub, x_rem, x_min, x_max, x_and, x_or, x_xor, x_df, x_shl, bI_0, bI_1, bI_bo, lg_eq, toL_inj, ls_nI, decide_eq_false_iff_not, decide_eq_true_eq, Bool.true_eq_false, Bool.false_eq_true, bq, if_pos, if_neg, if_true, if_false, lq, Nat.reduceAdd, Nat.reduceMul, Nat.reduceSub, Nat.reduceDiv, Nat.reduceMod, m_leastOf (show left < 2 ^ 31 by omega) (show p < 30 by omega) hb hq]
  refine ff_lp (F := fun f i (T : cpS) => fX12_partnerIn_19 (nI left) (nI w) (nI p) (nI (cpDf left (2 ^ p))) f i T) D.P _ (fun _ T => T = S) (fun o r => r = some (oI o, S)) (by omega) (fun f i T hi hT hp' => ⟨S, ?_, rfl⟩) (fun f i T hi hT hp' => ?_) (fun f T hT => ?_) (a := S) (by omega) rfl
  · subst hT
    (try dsimp only at hp' ⊢)
    rw [fX12_partnerIn_19]
    cases hb : (cpDf left (2 ^ p)).testBit i
    · simp (disch := omega) only [lit, lm1, nI_add, pk_mul, nm_eq, nm_eq', nm_lt, nm_lt', nm_le, nm_le', x_lt, x_le, x_eq, x_in, x_cl, x_div, x_sub, x_rem, x_min, x_max, x_and, x_or, x_xor, x_df, x_shl, bI_0, bI_1, bI_bo, lg_eq, toL_inj, ls_nI, decide_eq_false_iff_not, decide_eq_true_eq, Bool.true_eq_false, Bool.false_eq_true, bq, if_pos, if_neg, if_true, if_false, lq, Nat.reduceAdd, Nat.reduceMul, Nat.reduceSub, Nat.reduceDiv, Nat.reduceMod, m.P, m_isIn, hb]
    · have h6 := df_sm (cpDf left (2 ^ p)) (by omega) i (by omega) hb
      have h7 : cpDf (cpDf left (2 ^ p)) (2 ^ i) < 2 ^ D.P := by omega
      have h8 := ht _ h7
      cases hr : cpr D E w p i
      · simp (disch := omega) only [lit, lm1, nI_add, pk_mul, nm_eq, nm_eq', nm_lt, nm_lt', nm_le, nm_le', x_lt, x_le, x_eq, x_in, x_cl, x_div, x_sub, x_rem, x_min, x_max, x_and, x_or, x_xor, x_df, x_shl, bI_0, bI_1, bI_bo, lg_eq, toL_inj, ls_nI, decide_eq_false_iff_not, decide_eq_true_eq, Bool.true_eq_false, Bool.false_eq_true, bq, if_pos, if_neg, if_true, if_false, lq, Nat.reduceAdd, Nat.reduceMul, Nat.reduceSub, Nat.reduceDiv, Nat.reduceMod, m.P, m_isIn, hb, m_canPair hD hE m hp hi hw, hr]
      · rw [hb, hr, Bool.true_and, Bool.true_and] at hp'
        have := of_decide_eq_false hp'
        simp (disch := omega) only [lit, lm1, nI_add, pk_mul, nm_eq, nm_eq', nm_lt, nm_lt', nm_le, nm_le', x_lt, x_le, x_eq, x_in, x_cl, x_div, x_sub, x_rem, x_min, x_max, x_and, x_or, x_xor, x_df, x_shl, bI_0, bI_1, bI_bo, lg_eq, toL_inj, ls_nI, decide_eq_false_iff_not, decide_eq_true_eq, Bool.true_eq_false, Bool.false_eq_true, bq, if_pos, if_neg, if_true, if_false, lq, Nat.reduceAdd, Nat.reduceMul, Nat.reduceSub, Nat.reduceDiv, Nat.reduceMod, m.P, m_isIn, hb, m_canPair hD hE m hp hi hw, hr, hc _ h7, hc _ hl, this]
  · subst hT
    (try dsimp only at hp' ⊢)
    rw [fX12_partnerIn_19]
    cases hb : (cpDf left (2 ^ p)).testBit i
    · rw [hb] at hp'; cases hp'
    · have h6 := df_sm (cpDf left (2 ^ p)) (by omega) i (by omega) hb
      have h7 : cpDf (cpDf left (2 ^ p)) (2 ^ i) < 2 ^ D.P := by omega
      have h8 := ht _ h7
      cases hr : cpr D E w p i
      · rw [hb, hr] at hp'; cases hp'
      · rw [hb, hr, Bool.true_and, Bool.true_and] at hp'
        have := of_decide_eq_true hp'
        simp (disch := omega) only [lit, lm1, nI_add, pk_mul, nm_eq, nm_eq', nm_lt, nm_lt', nm_le, nm_le', x_lt, x_le, x_eq, x_in, x_cl, x_div, x_sub, x_rem, x_min, x_max, x_and, x_or, x_xor, x_df, x_shl, bI_0, bI_1, bI_bo, lg_eq, toL_inj, ls_nI, decide_eq_false_iff_not, decide_eq_true_eq, Bool.true_eq_false, Bool.false_eq_true, bq, if_pos, if_neg, if_true, if_false, lq, Nat.reduceAdd, Nat.reduceMul, Nat.reduceSub, Nat.reduceDiv, Nat.reduceMod, m.P, m_isIn, hb, m_canPair hD hE m hp hi hw, hr, hc _ h7, hc _ hl, this]
        rfl
  · subst hT
    (try dsimp only)
    rw [fX12_partnerIn_19]
    simp (disch := omega) only [lit, lm1, nI_add, pk_mul, nm_eq, nm_eq', nm_lt, nm_lt', nm_le, nm_le', x_lt, x_le, x_eq, x_in, x_cl, x_div, x_sub, x_rem, x_min, x_max, x_and, x_or, x_xor, x_df, x_shl, bI_0, bI_1, bI_bo, lg_eq, toL_inj, ls_nI, decide_eq_false_iff_not, decide_eq_true_eq, Bool.true_eq_false, Bool.false_eq_true, bq, if_pos, if_neg, if_true, if_false, lq, Nat.reduceAdd, Nat.reduceMul, Nat.reduceSub, Nat.reduceDiv, Nat.reduceMod, m.P]
    rfl
theorem m_with42 (hD : D.WF) (hE : E.WF D) (m : mA D E S) {w x : Nat} {t : Nat → Nat} (hw : w ≤ 99) (hx : x < D.P) (ht : tbO (2 ^ D.P) t) (hc : tbC 166 S (2 ^ D.P) t) : ∀ d p left f, p + d = D.P → d < f → (∀ q, q < p → left.testBit q = false) → left < 2 ^ D.P → fX12_with_42 (nI w) (nI x) f (nI left) S = some (oI (wi D E w t x d p left), S) := by
  have p8 := hD.p8
  have p2 := p2_256 hD
  intro d
  induction d with
  | zero =>
    intro p left f h hf hl hb
    obtain ⟨f, rfl⟩ : ∃ g, f = g + 1 := ⟨f - 1, by omega⟩
    have e0 : left = 0 := by
      apply Nat.eq_of_testBit_eq
      intro i
      rw [Nat.zero_testBit]
      by_cases hi : i < D.P
      · exact hl i (by omega)
      · exact bit_ge hb (by omega)
    rw [e0, fX12_with_42]
    simp (disch := omega) only [lit, lm1, nI_add, pk_mul, nm_eq, nm_eq', nm_lt, nm_lt', nm_le, nm_le', x_lt, x_le, x_eq, x_in, x_cl, x_div, x_sub, x_rem, x_min, x_max, x_and, x_or, x_xor, x_df, x_shl, bI_0, bI_1, bI_bo, lg_eq, toL_inj, ls_nI, decide_eq_false_iff_not, decide_eq_true_eq, Bool.true_eq_false, Bool.false_eq_true, bq, if_pos, if_neg, if_true, if_false, lq, Nat.reduceAdd, Nat.reduceMul, Nat.reduceSub, Nat.reduceDiv, Nat.reduceMod]
    rfl
  | succ d ih =>
    intro p left f h hf hl hb
    rw [wi]
    by_cases hp : left.testBit p = true
    · obtain ⟨f, rfl⟩ : ∃ g, f = g + 1 := ⟨f - 1, by omega⟩
      have h0 : left ≠ 0 := fun e => by rw [e, Nat.zero_testBit] at hp; cases hp
      have hl' : ∀ q, q < p + 1 → (lfR left p (fp D E w t left p)).testBit q = false := fun q hq => by
        rw [lfR_bit]
        by_cases e : q = p
        · rw [e]; simp
        · rw [hl q (by omega)]; rfl
      have hi := ih (p + 1) (lfR left p (fp D E w t left p)) f (by omega) (by omega) hl' (lfR_lt _ hb)
      rw [if_pos hp, fX12_with_42]
      cases hf : fp D E w t left p with
      | none =>
        rw [hf] at hi
        by_cases e : p = x
        · subst e
          rw [if_pos rfl]
          simp (disch := omega) only [lit, lm1, nI_add, pk_mul, nm_eq, nm_eq', nm_lt, nm_lt', nm_le, nm_le', x_lt, x_le, x_eq, x_in, x_cl, x_div, x_sub, x_rem, x_min, x_max, x_and, x_or, x_xor, x_df, x_shl, bI_0, bI_1, bI_bo, lg_eq, toL_inj, ls_nI, decide_eq_false_iff_not, decide_eq_true_eq, Bool.true_eq_false, Bool.false_eq_true, bq, if_pos, if_neg, if_true, if_false, lq, Nat.reduceAdd, Nat.reduceMul, Nat.reduceSub, Nat.reduceDiv, Nat.reduceMod, h0, m_leastOf (show left < 2 ^ 31 by omega) (show p < 30 by omega) hp hl, m_partnerIn hD hE m hw hb (show p < D.P by omega) hp hl ht hc, hf]
        · rw [if_neg e, if_neg (show ¬ (none : Option Nat) = some x from fun h => by cases h), ← hi]
          simp (disch := omega) only [lit, lm1, nI_add, pk_mul, nm_eq, nm_eq', nm_lt, nm_lt', nm_le, nm_le', x_lt, x_le, x_eq, x_in, x_cl, x_div, x_sub, x_rem, x_min, x_max, x_and, x_or, x_xor, x_df, x_shl, bI_0, bI_1, bI_bo, lg_eq, toL_inj, ls_nI, decide_eq_false_iff_not, decide_eq_true_eq, Bool.true_eq_false, Bool.false_eq_true, bq, if_pos, if_neg, if_true, if_false, lq, Nat.reduceAdd, Nat.reduceMul, Nat.reduceSub, Nat.reduceDiv, Nat.reduceMod, h0, m_leastOf (show left < 2 ^ 31 by omega) (show p < 30 by omega) hp hl, m_partnerIn hD hE m hw hb (show p < D.P by omega) hp hl ht hc, hf, oI, eq_self, e]
          rfl
      | some q =>
        obtain ⟨q1, q2, q3⟩ := fp_sp hf
        rw [hf] at hi
        by_cases e : p = x
        · subst e
          rw [if_pos rfl]
          simp (disch := omega) only [lit, lm1, nI_add, pk_mul, nm_eq, nm_eq', nm_lt, nm_lt', nm_le, nm_le', x_lt, x_le, x_eq, x_in, x_cl, x_div, x_sub, x_rem, x_min, x_max, x_and, x_or, x_xor, x_df, x_shl, bI_0, bI_1, bI_bo, lg_eq, toL_inj, ls_nI, decide_eq_false_iff_not, decide_eq_true_eq, Bool.true_eq_false, Bool.false_eq_true, bq, if_pos, if_neg, if_true, if_false, lq, Nat.reduceAdd, Nat.reduceMul, Nat.reduceSub, Nat.reduceDiv, Nat.reduceMod, h0, m_leastOf (show left < 2 ^ 31 by omega) (show p < 30 by omega) hp hl, m_partnerIn hD hE m hw hb (show p < D.P by omega) hp hl ht hc, hf]
        · by_cases e' : q = x
          · rw [if_neg e, if_pos (show some q = some x by rw [e'])]
            simp (disch := omega) only [lit, lm1, nI_add, pk_mul, nm_eq, nm_eq', nm_lt, nm_lt', nm_le, nm_le', x_lt, x_le, x_eq, x_in, x_cl, x_div, x_sub, x_rem, x_min, x_max, x_and, x_or, x_xor, x_df, x_shl, bI_0, bI_1, bI_bo, lg_eq, toL_inj, ls_nI, decide_eq_false_iff_not, decide_eq_true_eq, Bool.true_eq_false, Bool.false_eq_true, bq, if_pos, if_neg, if_true, if_false, lq, Nat.reduceAdd, Nat.reduceMul, Nat.reduceSub, Nat.reduceDiv, Nat.reduceMod, h0, m_leastOf (show left < 2 ^ 31 by omega) (show p < 30 by omega) hp hl, m_partnerIn hD hE m hw hb (show p < D.P by omega) hp hl ht hc, hf, oI, e, e']
          · rw [if_neg e, if_neg (show ¬ some q = some x from fun h => e' (Option.some.inj h)), ← hi]
            simp (disch := omega) only [lit, lm1, nI_add, pk_mul, nm_eq, nm_eq', nm_lt, nm_lt', nm_le, nm_le', x_lt, x_le, x_eq, x_in, x_cl, x_div, x_sub, x_rem, x_min, x_max, x_and, x_or, x_xor, x_df, x_shl, bI_0, bI_1, bI_bo, lg_eq, toL_inj, ls_nI, decide_eq_false_iff_not, decide_eq_true_eq, Bool.true_eq_false, Bool.false_eq_true, bq, if_pos, if_neg, if_true, if_false, lq, Nat.reduceAdd, Nat.reduceMul, Nat.reduceSub, Nat.reduceDiv, Nat.reduceMod, h0, m_leastOf (show left < 2 ^ 31 by omega) (show p < 30 by omega) hp hl, m_partnerIn hD hE m hw hb (show p < D.P by omega) hp hl ht hc, hf, oI, e, e']
            rfl
    · rw [if_neg hp]
      refine ih (p + 1) left f (by omega) (by omega) (fun q hq => ?_) hb
      by_cases e : q = p
      · rw [e]; simpa using hp
      · exact hl q (by omega)
end PR
theorem q_pairs : cpQ_pairs cpRl := by
  intro x1 S hR
  refine q1 hR (fun D E hD hE => ?_)
  have p2 := p2_256 hD
  have e1 := ev_1 D
  have w1 := m_win 100 99 (by decide)
  rcases in_or x1 100 with ⟨w, hw, rfl⟩ | h1
  · refine ⟨nI (tb D E w D.ev), fun S c => ?_, fun S m => ?_⟩
    · obtain ⟨T, t1, t2, t3, -⟩ := c_part hD hE c (show w ≤ 99 by omega)
      refine ⟨T, ?_, t2⟩
      unfold fX11_pairs
      simp (disch := omega) only [lit, lm1, nI_add, pk_mul, nm_eq, nm_eq', nm_lt, nm_lt', nm_le, nm_le', x_lt, x_le, x_eq, x_in, x_cl, x_div, x_sub, x_rem, x_min, x_max, x_and, x_or, x_xor, x_df, x_shl, bI_0, bI_1, bI_bo, lg_eq, toL_inj, ls_nI, decide_eq_false_iff_not, decide_eq_true_eq, Bool.true_eq_false, Bool.false_eq_true, bq, if_pos, if_neg, if_true, if_false, lq, Nat.reduceAdd, Nat.reduceMul, Nat.reduceSub, Nat.reduceDiv, Nat.reduceMod, c_isWeight hw, t1, c_every hD (c.cc t2), t3 D.ev (by omega)]
    · have m0 := m.thr hD (nI 0)
      obtain ⟨T, t1, t2, t3⟩ := m_laysPairs hD hE m0 (show w ≤ 99 by omega)
      refine ⟨T, ?_, (kM_thr S (nI 0)).tr t2⟩
      unfold fX12_pairs
      simp (disch := omega) only [lit, lm1, nI_add, pk_mul, nm_eq, nm_eq', nm_lt, nm_lt', nm_le, nm_le', x_lt, x_le, x_eq, x_in, x_cl, x_div, x_sub, x_rem, x_min, x_max, x_and, x_or, x_xor, x_df, x_shl, bI_0, bI_1, bI_bo, lg_eq, toL_inj, ls_nI, decide_eq_false_iff_not, decide_eq_true_eq, Bool.true_eq_false, Bool.false_eq_true, bq, if_pos, if_neg, if_true, if_false, lq, Nat.reduceAdd, Nat.reduceMul, Nat.reduceSub, Nat.reduceDiv, Nat.reduceMod, w1, t1, m_every hD (m0.mm hD t2), t3 D.ev (by omega)]
  · refine ⟨-3, fun S c => ⟨S, ?_, Kp.rf⟩, fun S m => ⟨_, ?_, kM_thr S (nI 0)⟩⟩
    · unfold fX11_pairs
      simp (disch := omega) only [lit, lm1, nI_add, pk_mul, nm_eq, nm_eq', nm_lt, nm_lt', nm_le, nm_le', x_lt, x_le, x_eq, x_in, x_cl, x_div, x_sub, x_rem, x_min, x_max, x_and, x_or, x_xor, x_df, x_shl, bI_0, bI_1, bI_bo, lg_eq, toL_inj, ls_nI, decide_eq_false_iff_not, decide_eq_true_eq, Bool.true_eq_false, Bool.false_eq_true, bq, if_pos, if_neg, if_true, if_false, lq, Nat.reduceAdd, Nat.reduceMul, Nat.reduceSub, Nat.reduceDiv, Nat.reduceMod, c_isWeightO h1]
    · unfold fX12_pairs
      simp (disch := omega) only [lit, lm1, nI_add, pk_mul, nm_eq, nm_eq', nm_lt, nm_lt', nm_le, nm_le', x_lt, x_le, x_eq, x_in, x_cl, x_div, x_sub, x_rem, x_min, x_max, x_and, x_or, x_xor, x_df, x_shl, bI_0, bI_1, bI_bo, lg_eq, toL_inj, ls_nI, decide_eq_false_iff_not, decide_eq_true_eq, Bool.true_eq_false, Bool.false_eq_true, bq, if_pos, if_neg, if_true, if_false, lq, Nat.reduceAdd, Nat.reduceMul, Nat.reduceSub, Nat.reduceDiv, Nat.reduceMod, w1, h1]
theorem q_with : cpQ_with cpRl := by
  intro x1 x2 S hR
  refine q1 hR (fun D E hD hE => ?_)
  have p8 := hD.p8
  have p2 := p2_256 hD
  have e1 := ev_1 D
  have w1 := m_win 100 99 (by decide)
  rcases in_or x2 D.P with ⟨x, hx, rfl⟩ | h2
  · rcases in_or x1 100 with ⟨w, hw, rfl⟩ | h1
    · have e2 : (up (paS D E w (tb D E w)) D.P 0 (D.ev, fun _ => none)).2 x = wi D E w (tb D E w) x D.P 0 D.ev := by
        rw [pa_wi hx D.P 0 D.ev (fun _ => none) (by omega) (fun q hq => absurd hq (by omega)) (ev_lt2 D) (fun _ _ => rfl), ev_bit, decide_eq_true hx]; rfl
      refine ⟨oI (wi D E w (tb D E w) x D.P 0 D.ev), fun S c => ?_, fun S m => ?_⟩
      · obtain ⟨T, t1, t2, t3, t4⟩ := c_part hD hE c (show w ≤ 99 by omega)
        refine ⟨T, ?_, t2⟩
        unfold fX11_with
        simp (disch := omega) only [lit, lm1, nI_add, pk_mul, nm_eq, nm_eq', nm_lt, nm_lt', nm_le, nm_le', x_lt, x_le, x_eq, x_in, x_cl, x_div, x_sub, x_rem, x_min, x_max, x_and, x_or, x_xor, x_df, x_shl, bI_0, bI_1, bI_bo, lg_eq, toL_inj, ls_nI, decide_eq_false_iff_not, decide_eq_true_eq, Bool.true_eq_false, Bool.false_eq_true, bq, if_pos, if_neg, if_true, if_false, lq, Nat.reduceAdd, Nat.reduceMul, Nat.reduceSub, Nat.reduceDiv, Nat.reduceMod, c.hasPerson hD, c_isWeight hw, t1, t4 x (by omega), e2]
      · have m0 := m.thr hD (nI 0)
        obtain ⟨T, t1, t2, t3⟩ := m_laysPairs hD hE m0 (show w ≤ 99 by omega)
        have := m_with42 hD hE (m0.mm hD t2) (show w ≤ 99 by omega) hx (tb_O hD w) t3 D.P 0 D.ev cpFu (by omega) (by show D.P < 5000; omega) (fun q hq => absurd hq (by omega)) (ev_lt2 D)
        refine ⟨T, ?_, (kM_thr S (nI 0)).tr t2⟩
        unfold fX12_with
        simp (disch := omega) only [lit, lm1, nI_add, pk_mul, nm_eq, nm_eq', nm_lt, nm_lt', nm_le, nm_le', x_lt, x_le, x_eq, x_in, x_cl, x_div, x_sub, x_rem, x_min, x_max, x_and, x_or, x_xor, x_df, x_shl, bI_0, bI_1, bI_bo, lg_eq, toL_inj, ls_nI, decide_eq_false_iff_not, decide_eq_true_eq, Bool.true_eq_false, Bool.false_eq_true, bq, if_pos, if_neg, if_true, if_false, lq, Nat.reduceAdd, Nat.reduceMul, Nat.reduceSub, Nat.reduceDiv, Nat.reduceMod, m0.isPerson hD, w1, t1, m_every hD (m0.mm hD t2), this]
    · refine ⟨-3, fun S c => ⟨S, ?_, Kp.rf⟩, fun S m => ⟨_, ?_, kM_thr S (nI 0)⟩⟩
      · unfold fX11_with
        simp (disch := omega) only [lit, lm1, nI_add, pk_mul, nm_eq, nm_eq', nm_lt, nm_lt', nm_le, nm_le', x_lt, x_le, x_eq, x_in, x_cl, x_div, x_sub, x_rem, x_min, x_max, x_and, x_or, x_xor, x_df, x_shl, bI_0, bI_1, bI_bo, lg_eq, toL_inj, ls_nI, decide_eq_false_iff_not, decide_eq_true_eq, Bool.true_eq_false, Bool.false_eq_true, bq, if_pos, if_neg, if_true, if_false, lq, Nat.reduceAdd, Nat.reduceMul, Nat.reduceSub, Nat.reduceDiv, Nat.reduceMod, c.hasPerson hD, c_isWeightO h1]
      · unfold fX12_with
        simp (disch := omega) only [lit, lm1, nI_add, pk_mul, nm_eq, nm_eq', nm_lt, nm_lt', nm_le, nm_le', x_lt, x_le, x_eq, x_in, x_cl, x_div, x_sub, x_rem, x_min, x_max, x_and, x_or, x_xor, x_df, x_shl, bI_0, bI_1, bI_bo, lg_eq, toL_inj, ls_nI, decide_eq_false_iff_not, decide_eq_true_eq, Bool.true_eq_false, Bool.false_eq_true, bq, if_pos, if_neg, if_true, if_false, lq, Nat.reduceAdd, Nat.reduceMul, Nat.reduceSub, Nat.reduceDiv, Nat.reduceMod, (m.thr hD (nI 0)).isPerson hD, w1, h1]
  · refine ⟨-2, fun S c => ⟨S, ?_, Kp.rf⟩, fun S m => ⟨_, ?_, kM_thr S (nI 0)⟩⟩
    · unfold fX11_with
      simp (disch := omega) only [lit, lm1, nI_add, pk_mul, nm_eq, nm_eq', nm_lt, nm_lt', nm_le, nm_le', x_lt, x_le, x_eq, x_in, x_cl, x_div, x_sub, x_rem, x_min, x_max, x_and, x_or, x_xor, x_df, x_shl, bI_0, bI_1, bI_bo, lg_eq, toL_inj, ls_nI, decide_eq_false_iff_not, decide_eq_true_eq, Bool.true_eq_false, Bool.false_eq_true, bq, if_pos, if_neg, if_true, if_false, lq, Nat.reduceAdd, Nat.reduceMul, Nat.reduceSub, Nat.reduceDiv, Nat.reduceMod, c.hasPerson hD, h2]
    · unfold fX12_with
      simp (disch := omega) only [lit, lm1, nI_add, pk_mul, nm_eq, nm_eq', nm_lt, nm_lt', nm_le, nm_le', x_lt, x_le, x_eq, x_in, x_cl, x_div, x_sub, x_rem, x_min, x_max, x_and, x_or, x_xor, x_df, x_shl, bI_0, bI_1, bI_bo, lg_eq, toL_inj, ls_nI, decide_eq_false_iff_not, decide_eq_true_eq, Bool.true_eq_false, Bool.false_eq_true, bq, if_pos, if_neg, if_true, if_false, lq, Nat.reduceAdd, Nat.reduceMul, Nat.reduceSub, Nat.reduceDiv, Nat.reduceMod, (m.thr hD (nI 0)).isPerson hD, h2]
