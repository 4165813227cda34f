/-! digits -/
def dig (x : Nat) : Bool := decide (48 ≤ x) && decide (x ≤ 57)
def dge (t : Nat → Nat) (L p : Nat) : Nat := (ff (fun x => !dig (t x)) (L - p) p).getD L
/-- the number so far: three digits count -/
def nvl (t : Nat → Nat) (p : Nat) : Nat → Nat
  | 0 => 0
  | n + 1 => if 3 ≤ n then nvl t p n else 10 * nvl t p n + (t (p + n) - 48)
section T3
variable {S : cpS} {t : Nat → Nat} {L : Nat}
theorem nvl_s (p n : Nat) : nvl t p (n + 1) = if 3 ≤ n then nvl t p n else 10 * nvl t p n + (t (p + n) - 48) := rfl
theorem dge_le (p : Nat) (hp : p ≤ L) : p ≤ dge t L p ∧ dge t L p ≤ L := by
  unfold dge
  cases h : ff (fun x => !dig (t x)) (L - p) p with
  | none => exact ⟨hp, Nat.le_refl _⟩
  | some k =>
    obtain ⟨h1, h2, -, -⟩ := (ff_some _ _ _).mp h
    exact ⟨h1, by show k ≤ L; omega⟩
def kDg (q j : Nat) : Prop := q = 115 ∧ (j = 8 ∨ j = 9)
theorem c_adv142 (h : cTp t L S) {p : Nat} (hp : p ≤ L) (h7 : S.1 115 7 = nI p) (h8 : S.1 115 8 = nI p) (h9 : S.1 115 9 = nI 0) : ∃ A, fX7_advance_142 cpFu S = fX7_advance_231 A ∧ A.1 115 8 = nI (dge t L p) ∧ A.1 115 9 = nI (nvl t p (dge t L p - p)) ∧ Kp kDg S A := by
  have l9 := h.1
  have kk : ∀ {T : cpS}, Kp kDg S T → cTp t L T := fun g => h.kp (g.le (fun q j h => ⟨h.1, by have := h.2; omega⟩))
  have k7 : ∀ {T : cpS}, Kp kDg S T → T.1 115 7 = nI p := fun g => by rw [g.i (by unfold kDg; omega)]; exact h7
  refine ff_lp (F := fun n _ (T : cpS) => fX7_advance_142 n T) L (fun x => !dig (t x)) (fun i T => p ≤ i ∧ T.1 115 8 = nI i ∧ T.1 115 9 = nI (nvl t p (i - p)) ∧ (nvl t p (i - p) < 10 ^ (min 3 (i - p))) ∧ Kp kDg S T) (fun o r => ∃ A, r = fX7_advance_231 A ∧ A.1 115 8 = nI (o.getD L) ∧ A.1 115 9 = nI (nvl t p (o.getD L - p)) ∧ Kp kDg S A) (by omega) (fun n i T hi hI hq => ?_) (fun n i T hi hI hq => ?_) (fun n T hI => ?_) (i0 := p) (a := S) hp ⟨Nat.le_refl _, h8, by rw [Nat.sub_self]; exact h9, by rw [Nat.sub_self]; exact (by decide : 0 < 1), Kp.rf⟩
  · obtain ⟨i0, i1, i2, i3, i4⟩ := hI
    have hT := kk i4
    obtain ⟨e1, e2⟩ := hT.2.2 i hi
    have hw : dig (t i) = true := by
      cases hw : dig (t i)
      · (try dsimp only at hq); rw [hw] at hq; cases hq
      · rfl
    unfold dig at hw
    rw [Bool.and_eq_true, decide_eq_true_eq, decide_eq_true_eq] at hw
    obtain ⟨w1, w2⟩ := hw
    have es : i + 1 - p = (i - p) + 1 := by omega
    have ei : p + (i - p) = i := by omega
    by_cases h3 : 3 ≤ i - p
    · have ev : nvl t p (i + 1 - p) = nvl t p (i - p) := by rw [es, nvl_s, if_pos h3]
      refine ⟨cpI T 115 8 (nI (i + 1)), ?_, by omega, sI1, ?_, ?_, i4.I (by exact ⟨rfl, Or.inl rfl⟩)⟩
      · rw [fX7_advance_142]
        simp (disch := omega) only [lit, lm1, nI_add, pk_mul, nm_eq, nm_eq', nm_lt, nm_lt', nm_le, nm_le', x_lt, x_le, x_eq, x_in, x_cl, x_div, x_sub, x_rem, x_min, x_max, x_and, x_or, x_xor, x_df, x_shl, bI_0, bI_1, bI_bo, lg_eq, toL_inj, ls_nI, decide_eq_false_iff_not, decide_eq_true_eq, Bool.true_eq_false, Bool.false_eq_true, bq, if_pos, if_neg, if_true, if_false, lq, Nat.reduceAdd, Nat.reduceMul, Nat.reduceSub, Nat.reduceDiv, Nat.reduceMod, hT.2.1, i1, e1, k7 i4]
      · rw [sIn (Or.inr (by decide)), ev]; exact i2
      · rw [ev, show min 3 (i + 1 - p) = min 3 (i - p) by omega]; exact i3
    · have ev : nvl t p (i + 1 - p) = 10 * nvl t p (i - p) + (t i - 48) := by rw [es, nvl_s, if_neg h3, ei]
      have hb : nvl t p (i - p) < 1000 := Nat.lt_of_lt_of_le i3 (Nat.pow_le_pow_right (n := 10) (by decide) (Nat.min_le_left 3 (i - p)))
      refine ⟨cpI (cpI T 115 9 (nI (nvl t p (i + 1 - p)))) 115 8 (nI (i + 1)), ?_, by omega, sI1, ?_, ?_, (i4.I (by exact ⟨rfl, Or.inr rfl⟩)).I (by exact ⟨rfl, Or.inl rfl⟩)⟩
      · have ee : 10 * nvl t p (i - p) + t i - 48 = nvl t p (i + 1 - p) := by rw [ev]; omega
        have e8 : (cpI T 115 9 (nI (nvl t p (i + 1 - p)))).1 115 8 = nI i := by rw [sIn (Or.inr (by decide))]; exact i1
        rw [fX7_advance_142]
        simp (disch := omega) only [lit, lm1, nI_add, pk_mul, nm_eq, nm_eq', nm_lt, nm_lt', nm_le, nm_le', x_lt, x_le, x_eq, x_in, x_cl, x_div, x_sub, x_rem, x_min, x_max, x_and, x_or, x_xor, x_df, x_shl, bI_0, bI_1, bI_bo, lg_eq, toL_inj, ls_nI, decide_eq_false_iff_not, decide_eq_true_eq, Bool.true_eq_false, Bool.false_eq_true, bq, if_pos, if_neg, if_true, if_false, lq, Nat.reduceAdd, Nat.reduceMul, Nat.reduceSub, Nat.reduceDiv, Nat.reduceMod, hT.2.1, i1, e1, k7 i4, i2, ee, e8]
      · rw [sIn (Or.inr (by decide)), sI1]
      · rw [ev, show min 3 (i + 1 - p) = min 3 (i - p) + 1 by omega, Nat.pow_succ]; omega
  · obtain ⟨i0, i1, i2, i3, i4⟩ := hI
    have hT := kk i4
    obtain ⟨e1, e2⟩ := hT.2.2 i hi
    refine ⟨T, ?_, i1, i2, i4⟩
    have hw : dig (t i) = false := by
      cases hw : dig (t i)
      · rfl
      · (try dsimp only at hq); rw [hw] at hq; cases hq
    unfold dig at hw
    rw [fX7_advance_142]
    by_cases h1 : 48 ≤ t i
    · rw [decide_eq_true h1, Bool.true_and] at hw
      have h2 := of_decide_eq_false hw
      simp (disch := omega) only [lit, lm1, nI_add, pk_mul, nm_eq, nm_eq', nm_lt, nm_lt', nm_le, nm_le', x_lt, x_le, x_eq, x_in, x_cl, x_div, x_sub, x_rem, x_min, x_max, x_and, x_or, x_xor, x_df, x_shl, bI_0, bI_1, bI_bo, lg_eq, toL_inj, ls_nI, decide_eq_false_iff_not, decide_eq_true_eq, Bool.true_eq_false, Bool.false_eq_true, bq, if_pos, if_neg, if_true, if_false, lq, Nat.reduceAdd, Nat.reduceMul, Nat.reduceSub, Nat.reduceDiv, Nat.reduceMod, hT.2.1, i1, e1]
    · simp (disch := omega) only [lit, lm1, nI_add, pk_mul, nm_eq, nm_eq', nm_lt, nm_lt', nm_le, nm_le', x_lt, x_le, x_eq, x_in, x_cl, x_div, x_sub, x_rem, x_min, x_max, x_and, x_or, x_xor, x_df, x_shl, bI_0, bI_1, bI_bo, lg_eq, toL_inj, ls_nI, decide_eq_false_iff_not, decide_eq_true_eq, Bool.true_eq_false, Bool.false_eq_true, bq, if_pos, if_neg, if_true, if_false, lq, Nat.reduceAdd, Nat.reduceMul, Nat.reduceSub, Nat.reduceDiv, Nat.reduceMod, hT.2.1, i1, e1]
  · obtain ⟨i0, i1, i2, i3, i4⟩ := hI
    have hT := kk i4
    refine ⟨T, ?_, i1, i2, i4⟩
    rw [fX7_advance_142]
    simp (disch := omega) only [lit, lm1, nI_add, pk_mul, nm_eq, nm_eq', nm_lt, nm_lt', nm_le, nm_le', x_lt, x_le, x_eq, x_in, x_cl, x_div, x_sub, x_rem, x_min, x_max, x_and, x_or, x_xor, x_df, x_shl, bI_0, bI_1, bI_bo, lg_eq, toL_inj, ls_nI, decide_eq_false_iff_not, decide_eq_true_eq, Bool.true_eq_false, Bool.false_eq_true, bq, if_pos, if_neg, if_true, if_false, lq, Nat.reduceAdd, Nat.reduceMul, Nat.reduceSub, Nat.reduceDiv, Nat.reduceMod, hT.2.1, i1]
end T3
