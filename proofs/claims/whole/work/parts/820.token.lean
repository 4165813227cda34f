/-! tokens: where one begins and ends -/
def wht (x : Nat) : Bool := decide (x = 10) || decide (x = 32)
def skp (t : Nat → Nat) (L p : Nat) : Nat := (ff (fun x => !wht (t x)) (L - p) p).getD L
/-- the class's tape: so long, and these bytes -/
def cTp (t : Nat → Nat) (L : Nat) (S : cpS) : Prop := L ≤ 900 ∧ S.1 115 5 = nI L ∧ ∀ x, x < L → S.1 116 x = nI (t x) ∧ t x < 256
def k115 (q j : Nat) : Prop := q = 115 ∧ (j = 6 ∨ j = 7 ∨ j = 8 ∨ j = 9)
section TK
variable {S : cpS} {t : Nat → Nat} {L : Nat}
theorem cTp.kp {T : cpS} (h : cTp t L S) (g : Kp k115 S T) : cTp t L T :=
  ⟨h.1, by rw [g.i (by unfold k115; omega)]; exact h.2.1, fun x hx => by rw [g.i (by unfold k115; omega)]; exact h.2.2 x hx⟩
theorem skp_le (p : Nat) (hp : p ≤ L) : p ≤ skp t L p ∧ skp t L p ≤ L := by
  unfold skp
  cases h : ff (fun x => !wht (t x)) (L - p) p with
  | none => exact ⟨hp, Nat.le_refl _⟩
  | some k =>
    obtain ⟨h1, h2, -, -⟩ := (ff_some _ _ _).mp h
    exact ⟨h1, by show k ≤ L; omega⟩
theorem c_adv8 (h : cTp t L S) {p : Nat} (hp : p ≤ L) (h7 : S.1 115 7 = nI p) : ∃ A, fX7_advance_8 cpFu S = fX7_advance_68 cpFu A ∧ A.1 115 7 = nI (skp t L p) ∧ A.1 115 8 = nI (skp t L p) ∧ Kp k115 S A := by
  have l9 := h.1
  refine ff_lp (F := fun n _ (T : cpS) => fX7_advance_8 n T) L (fun x => !wht (t x)) (fun i T => T.1 115 7 = nI i ∧ Kp k115 S T) (fun o r => ∃ A, r = fX7_advance_68 cpFu A ∧ A.1 115 7 = nI (o.getD L) ∧ A.1 115 8 = nI (o.getD L) ∧ Kp k115 S A) (by omega) (fun n i T hi hI hq => ?_) (fun n i T hi hI hq => ?_) (fun n T hI => ?_) (i0 := p) (a := S) hp ⟨h7, Kp.rf⟩
  · obtain ⟨i1, i2⟩ := hI
    have hT := h.kp i2
    obtain ⟨e1, e2⟩ := hT.2.2 i hi
    refine ⟨cpI T 115 7 (nI (i + 1)), ?_, sI1, i2.I (by exact ⟨rfl, by omega⟩)⟩
    have hw : wht (t i) = true := by
      cases hw : wht (t i)
      · (try dsimp only at hq); rw [hw] at hq; cases hq
      · rfl
    rw [fX7_advance_8]
    by_cases h1 : t i = 10
    · simp (disch := omega) only [lit, lm1, nI_add, pk_mul, nm_eq, nm_eq', nm_lt, nm_lt', nm_le, nm_le', x_lt, x_le, x_eq, x_in, x_cl, x_div, x_sub, x_rem, x_min, x_max, x_and, x_or, x_xor, x_df, x_shl, bI_0, bI_1, bI_bo, lg_eq, toL_inj, ls_nI, decide_eq_false_iff_not, decide_eq_true_eq, Bool.true_eq_false, Bool.false_eq_true, bq, if_pos, if_neg, if_true, if_false, lq, Nat.reduceAdd, Nat.reduceMul, Nat.reduceSub, Nat.reduceDiv, Nat.reduceMod, hT.2.1, i1, e1, h1]
    · have h2 : t i = 32 := by
        unfold wht at hw
        rw [decide_eq_false h1, Bool.false_or] at hw
        exact of_decide_eq_true hw
      simp (disch := omega) only [lit, lm1, nI_add, pk_mul, nm_eq, nm_eq', nm_lt, nm_lt', nm_le, nm_le', x_lt, x_le, x_eq, x_in, x_cl, x_div, x_sub, x_rem, x_min, x_max, x_and, x_or, x_xor, x_df, x_shl, bI_0, bI_1, bI_bo, lg_eq, toL_inj, ls_nI, decide_eq_false_iff_not, decide_eq_true_eq, Bool.true_eq_false, Bool.false_eq_true, bq, if_pos, if_neg, if_true, if_false, lq, Nat.reduceAdd, Nat.reduceMul, Nat.reduceSub, Nat.reduceDiv, Nat.reduceMod, hT.2.1, i1, e1, h2]
  · obtain ⟨i1, i2⟩ := hI
    have hT := h.kp i2
    obtain ⟨e1, e2⟩ := hT.2.2 i hi
    refine ⟨cpI T 115 8 (nI i), ?_, ?_, sI1, i2.I (by exact ⟨rfl, by omega⟩)⟩
    · have hw : wht (t i) = false := by
        cases hw : wht (t i)
        · rfl
        · (try dsimp only at hq); rw [hw] at hq; cases hq
      unfold wht at hw
      rw [Bool.or_eq_false_iff, decide_eq_false_iff_not, decide_eq_false_iff_not] at hw
      rw [fX7_advance_8]
      simp (disch := omega) only [lit, lm1, nI_add, pk_mul, nm_eq, nm_eq', nm_lt, nm_lt', nm_le, nm_le', x_lt, x_le, x_eq, x_in, x_cl, x_div, x_sub, x_rem, x_min, x_max, x_and, x_or, x_xor, x_df, x_shl, bI_0, bI_1, bI_bo, lg_eq, toL_inj, ls_nI, decide_eq_false_iff_not, decide_eq_true_eq, Bool.true_eq_false, Bool.false_eq_true, bq, if_pos, if_neg, if_true, if_false, lq, Nat.reduceAdd, Nat.reduceMul, Nat.reduceSub, Nat.reduceDiv, Nat.reduceMod, hT.2.1, i1, e1, hw.1, hw.2]
    · rw [sIn (Or.inr (by decide))]; exact i1
  · obtain ⟨i1, i2⟩ := hI
    have hT := h.kp i2
    refine ⟨cpI T 115 8 (nI L), ?_, ?_, sI1, i2.I (by exact ⟨rfl, by omega⟩)⟩
    · rw [fX7_advance_8]
      simp (disch := omega) only [lit, lm1, nI_add, pk_mul, nm_eq, nm_eq', nm_lt, nm_lt', nm_le, nm_le', x_lt, x_le, x_eq, x_in, x_cl, x_div, x_sub, x_rem, x_min, x_max, x_and, x_or, x_xor, x_df, x_shl, bI_0, bI_1, bI_bo, lg_eq, toL_inj, ls_nI, decide_eq_false_iff_not, decide_eq_true_eq, Bool.true_eq_false, Bool.false_eq_true, bq, if_pos, if_neg, if_true, if_false, lq, Nat.reduceAdd, Nat.reduceMul, Nat.reduceSub, Nat.reduceDiv, Nat.reduceMod, hT.2.1, i1]
    · rw [sIn (Or.inr (by decide))]; exact i1
end TK
