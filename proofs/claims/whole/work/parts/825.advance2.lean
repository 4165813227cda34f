/-! the class's next token, as a whole -/
section T6
variable {S : cpS} {t : Nat → Nat} {L : Nat}
theorem c_advance (h : cTp t L S) {p : Nat} (hp : p ≤ L) (h8 : S.1 115 8 = nI p) : ∃ A, fX7_advance S = some ((), A) ∧ A.1 115 7 = nI (skp t L p) ∧ A.1 115 8 = nI (tkE t L (skp t L p)).1 ∧ A.1 115 6 = nI (tkE t L (skp t L p)).2 ∧ ((tkE t L (skp t L p)).2 = 2 → A.1 115 9 = nI (nvl t (skp t L p) ((tkE t L (skp t L p)).1 - skp t L p))) ∧ Kp k115 S A := by
  have l9 := h.1
  have k0 : Kp k115 S (cpI S 115 7 (nI p)) := Kp.rf.I (by exact ⟨rfl, by omega⟩)
  obtain ⟨A, a1, a2, a3, a4⟩ := c_adv8 (h.kp k0) hp sI1
  obtain ⟨hs1, hs⟩ := skp_le (t := t) p hp
  have kA := k0.tr a4
  obtain ⟨B, b1, b2, b3⟩ := c_adv68 (h.kp kA) hs a3
  have kB : Kp k115 A B := b3.le (fun q j h => ⟨h.1, by omega⟩)
  have hl := lte_le (t := t) (skp t L p) hs
  have b7 : B.1 115 7 = nI (skp t L p) := by rw [b3.i (by omega)]; exact a2
  have go : fX7_advance S = fX7_advance_120 B := by
    unfold fX7_advance
    simp (disch := omega) only [lit, lm1, nI_add, pk_mul, nm_eq, nm_eq', nm_lt, nm_lt', nm_le, nm_le', x_lt, x_le, x_eq, x_in, x_cl, x_div, x_sub, x_rem, x_min, x_max, x_and, x_or, x_xor, x_df, x_shl, bI_0, bI_1, bI_bo, lg_eq, toL_inj, ls_nI, decide_eq_false_iff_not, decide_eq_true_eq, Bool.true_eq_false, Bool.false_eq_true, bq, if_pos, if_neg, if_true, if_false, lq, Nat.reduceAdd, Nat.reduceMul, Nat.reduceSub, Nat.reduceDiv, Nat.reduceMod, h8]
    exact a1.trans b1
  rw [go]
  unfold fX7_advance_120
  by_cases hw : skp t L p < lte t L (skp t L p)
  · have et : tkE t L (skp t L p) = (lte t L (skp t L p), 1) := by unfold tkE; rw [if_pos hw]
    rw [et]
    refine ⟨cpI B 115 6 (nI 1), ?_, by rw [sIn (Or.inr (by decide))]; exact b7, by rw [sIn (Or.inr (by decide))]; exact b2, sI1, fun e => absurd (show (1 : Nat) = 2 from e) (by decide), (kA.tr kB).I (by exact ⟨rfl, by omega⟩)⟩
    simp (disch := omega) only [lit, lm1, nI_add, pk_mul, nm_eq, nm_eq', nm_lt, nm_lt', nm_le, nm_le', x_lt, x_le, x_eq, x_in, x_cl, x_div, x_sub, x_rem, x_min, x_max, x_and, x_or, x_xor, x_df, x_shl, bI_0, bI_1, bI_bo, lg_eq, toL_inj, ls_nI, decide_eq_false_iff_not, decide_eq_true_eq, Bool.true_eq_false, Bool.false_eq_true, bq, if_pos, if_neg, if_true, if_false, lq, Nat.reduceAdd, Nat.reduceMul, Nat.reduceSub, Nat.reduceDiv, Nat.reduceMod, b2, b7]
  · have el : lte t L (skp t L p) = skp t L p := by omega
    rw [el] at b2
    have k9 : Kp k115 B (cpI B 115 9 (nI 0)) := Kp.rf.I (by exact ⟨rfl, by omega⟩)
    have hC := h.kp ((kA.tr kB).tr k9)
    obtain ⟨C, c1, c2, c3, c4⟩ := c_adv142 hC hs (by rw [sIn (Or.inr (by decide))]; exact b7) (by rw [sIn (Or.inr (by decide))]; exact b2) sI1
    have kC' : Kp k115 (cpI B 115 9 (nI 0)) C := c4.le (fun q j h => ⟨h.1, by have := h.2; omega⟩)
    have c7 : C.1 115 7 = nI (skp t L p) := by rw [c4.i (by unfold kDg; omega), sIn (Or.inr (by decide))]; exact b7
    obtain ⟨G, g1, g2, g3, g4⟩ := c_adv231 (hC.kp kC') hs hw c7 c2
    refine ⟨G, ?_, by rw [g4.i (by omega)]; exact c7, g2, g3, fun e => ?_, (((kA.tr kB).tr k9).tr kC').tr (g4.le (fun q j h => ⟨h.1, by have := h.2; omega⟩))⟩
    · simp (disch := omega) only [lit, lm1, nI_add, pk_mul, nm_eq, nm_eq', nm_lt, nm_lt', nm_le, nm_le', x_lt, x_le, x_eq, x_in, x_cl, x_div, x_sub, x_rem, x_min, x_max, x_and, x_or, x_xor, x_df, x_shl, bI_0, bI_1, bI_bo, lg_eq, toL_inj, ls_nI, decide_eq_false_iff_not, decide_eq_true_eq, Bool.true_eq_false, Bool.false_eq_true, bq, if_pos, if_neg, if_true, if_false, lq, Nat.reduceAdd, Nat.reduceMul, Nat.reduceSub, Nat.reduceDiv, Nat.reduceMod, b2, b7]
      exact c1.trans g1
    · rw [g4.i (by omega), c3]
      unfold tkE at e ⊢
      rw [if_neg hw] at e ⊢
      split
      · rfl
      · rename_i hg
        rw [if_neg hg] at e
        split at e
        · (try dsimp only at e); split at e <;> cases e
        · cases e
end T6
