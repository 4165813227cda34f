/-! letters -/
def sml (x : Nat) : Bool := decide (97 ≤ x) && decide (x ≤ 122)
def lte (t : Nat → Nat) (L p : Nat) : Nat := (ff (fun x => !sml (t x)) (L - p) p).getD L
section T2
variable {S : cpS} {t : Nat → Nat} {L : Nat}
theorem lte_le (p : Nat) (hp : p ≤ L) : p ≤ lte t L p ∧ lte t L p ≤ L := by
  unfold lte
  cases h : ff (fun x => !sml (t x)) (L - p) p with
  | none => exact ⟨hp, Nat.le_refl _⟩
  | some k =>
    obtain ⟨h1, h2, -, -⟩ := (ff_some _ _ _).mp h
    exact ⟨h1, by show k ≤ L; omega⟩
theorem c_adv68 (h : cTp t L S) {p : Nat} (hp : p ≤ L) (h8 : S.1 115 8 = nI p) : ∃ A, fX7_advance_68 cpFu S = fX7_advance_120 A ∧ A.1 115 8 = nI (lte t L p) ∧ Kp (fun q j => q = 115 ∧ j = 8) S A := by
  have l9 := h.1
  have kk : ∀ {T : cpS}, Kp (fun q j => q = 115 ∧ j = 8) S T → cTp t L T := fun g => h.kp (g.le (fun q j h => ⟨h.1, by omega⟩))
  refine ff_lp (F := fun n _ (T : cpS) => fX7_advance_68 n T) L (fun x => !sml (t x)) (fun i T => T.1 115 8 = nI i ∧ Kp (fun q j => q = 115 ∧ j = 8) S T) (fun o r => ∃ A, r = fX7_advance_120 A ∧ A.1 115 8 = nI (o.getD L) ∧ Kp (fun q j => q = 115 ∧ j = 8) S A) (by omega) (fun n i T hi hI hq => ?_) (fun n i T hi hI hq => ?_) (fun n T hI => ?_) (i0 := p) (a := S) hp ⟨h8, Kp.rf⟩
  · obtain ⟨i1, i2⟩ := hI
    have hT := kk i2
    obtain ⟨e1, e2⟩ := hT.2.2 i hi
    refine ⟨cpI T 115 8 (nI (i + 1)), ?_, sI1, i2.I (by exact ⟨rfl, rfl⟩)⟩
    have hw : sml (t i) = true := by
      cases hw : sml (t i)
      · (try dsimp only at hq); rw [hw] at hq; cases hq
      · rfl
    unfold sml at hw
    rw [Bool.and_eq_true, decide_eq_true_eq, decide_eq_true_eq] at hw
    obtain ⟨w1, w2⟩ := hw
    rw [fX7_advance_68]
    simp (disch := omega) only [lit, lm1, nI_add, pk_mul, nm_eq, nm_eq', nm_lt, nm_lt', nm_le, nm_le', x_lt, x_le, x_eq, x_in, x_cl, x_div, x_sub, x_rem, x_min, x_max, x_and, x_or, x_xor, x_df, x_shl, bI_0, bI_1, bI_bo, lg_eq, toL_inj, ls_nI, decide_eq_false_iff_not, decide_eq_true_eq, Bool.true_eq_false, Bool.false_eq_true, bq, if_pos, if_neg, if_true, if_false, lq, Nat.reduceAdd, Nat.reduceMul, Nat.reduceSub, Nat.reduceDiv, Nat.reduceMod, hT.2.1, i1, e1]
  · obtain ⟨i1, i2⟩ := hI
    have hT := kk i2
    obtain ⟨e1, e2⟩ := hT.2.2 i hi
    refine ⟨T, ?_, i1, i2⟩
    have hw : sml (t i) = false := by
      cases hw : sml (t i)
      · rfl
      · (try dsimp only at hq); rw [hw] at hq; cases hq
    unfold sml at hw
    rw [fX7_advance_68]
    by_cases h1 : 97 ≤ t i
    · rw [decide_eq_true h1, Bool.true_and] at hw
      have h2 := of_decide_eq_false hw
      simp (disch := omega) only [lit, lm1, nI_add, pk_mul, nm_eq, nm_eq', nm_lt, nm_lt', nm_le, nm_le', x_lt, x_le, x_eq, x_in, x_cl, x_div, x_sub, x_rem, x_min, x_max, x_and, x_or, x_xor, x_df, x_shl, bI_0, bI_1, bI_bo, lg_eq, toL_inj, ls_nI, decide_eq_false_iff_not, decide_eq_true_eq, Bool.true_eq_false, Bool.false_eq_true, bq, if_pos, if_neg, if_true, if_false, lq, Nat.reduceAdd, Nat.reduceMul, Nat.reduceSub, Nat.reduceDiv, Nat.reduceMod, hT.2.1, i1, e1]
    · simp (disch := omega) only [lit, lm1, nI_add, pk_mul, nm_eq, nm_eq', nm_lt, nm_lt', nm_le, nm_le', x_lt, x_le, x_eq, x_in, x_cl, x_div, x_sub, x_rem, x_min, x_max, x_and, x_or, x_xor, x_df, x_shl, bI_0, bI_1, bI_bo, lg_eq, toL_inj, ls_nI, decide_eq_false_iff_not, decide_eq_true_eq, Bool.true_eq_false, Bool.false_eq_true, bq, if_pos, if_neg, if_true, if_false, lq, Nat.reduceAdd, Nat.reduceMul, Nat.reduceSub, Nat.reduceDiv, Nat.reduceMod, hT.2.1, i1, e1]
  · obtain ⟨i1, i2⟩ := hI
    have hT := kk i2
    refine ⟨T, ?_, i1, i2⟩
    rw [fX7_advance_68]
    simp (disch := omega) only [lit, lm1, nI_add, pk_mul, nm_eq, nm_eq', nm_lt, nm_lt', nm_le, nm_le', x_lt, x_le, x_eq, x_in, x_cl, x_div, x_sub, x_rem, x_min, x_max, x_and, x_or, x_xor, x_df, x_shl, bI_0, bI_1, bI_bo, lg_eq, toL_inj, ls_nI, decide_eq_false_iff_not, decide_eq_true_eq, Bool.true_eq_false, Bool.false_eq_true, bq, if_pos, if_neg, if_true, if_false, lq, Nat.reduceAdd, Nat.reduceMul, Nat.reduceSub, Nat.reduceDiv, Nat.reduceMod, hT.2.1, i1]
end T2
