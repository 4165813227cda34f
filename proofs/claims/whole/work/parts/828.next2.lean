/-! the reference: signs, numbers -/
def sgF (x i k : Nat) : Nat := if sgN i = x then 30 + i else k
theorem sgF_all : ∀ x, x < 256 → up (sgF x) 12 0 27 = sgK x := by decide +kernel
theorem tx_sg : ∀ i, i < 12 → txB 0 i = sgN i ∧ txL 0 = 12 := by decide +kernel
section N2
variable {S : cpS} {t : Nat → Nat} {L : Nat}
theorem m_254 (h : mTp t L S) {s : Nat} (hs : s < L) (h6 : S.1 150 6 = nI s) (h9 : S.1 150 9 = nI 27) : ∃ A, fX12_next_254 cpFu (nI 0) S = some ((), A) ∧ A.1 150 9 = nI (sgK (t s)) ∧ Kp (fun q j => q = 150 ∧ j = 9) S A := by
  have l9 := h.1
  obtain ⟨-, ht⟩ := h.2.2 s hs
  rw [← sgF_all (t s) ht]
  have kk : ∀ {T : cpS}, Kp (fun q j => q = 150 ∧ j = 9) S T → mTp t L T := fun g => h.kp (g.le (fun q j h => ⟨h.1, by omega⟩))
  refine up_lpR (F := fun n i (T : cpS) => fX12_next_254 n i T) (K := fun T => some ((), T)) 12 (sgF (t s)) (fun _ k T => T.1 150 9 = nI k ∧ Kp (fun q j => q = 150 ∧ j = 9) S T) (by decide) (fun n i k T hi hI => ?_) (fun n k T hI => ?_) (i0 := 0) (s := 27) (a := S) (Nat.zero_le _) ⟨h9, Kp.rf⟩
  · obtain ⟨i1, i2⟩ := hI
    have hT := kk i2
    have e6 : T.1 150 6 = nI s := by rw [i2.i (by omega)]; exact h6
    obtain ⟨x1, x2⟩ := tx_sg i hi
    have hch := e_charAt (v := 0) (i := i) (by decide) (by rw [x2]; exact hi) T
    have hln := e_len (v := 0) (by decide) T
    have hs2 : sgN i < 128 := by
      have := (tx_ok 0 (by decide) i (by omega) (by rw [x2]; exact hi)).2.2.1
      omega
    rw [x1] at hch
    rw [x2] at hln
    rw [fX12_next_254]
    unfold sgF
    by_cases e : sgN i = t s
    · rw [if_pos e]
      refine ⟨cpI T 150 9 (nI (30 + i)), ?_, sI1, i2.I (by exact ⟨rfl, rfl⟩)⟩
      simp (disch := omega) only [lit, lm1, nI_add, pk_mul, nm_eq, nm_eq', nm_lt, nm_lt', nm_le, nm_le', x_lt, x_le, x_eq, x_in, x_cl, x_div, x_sub, x_rem, x_min, x_max, x_and, x_or, x_xor, x_df, x_shl, bI_0, bI_1, bI_bo, lg_eq, toL_inj, ls_nI, decide_eq_false_iff_not, decide_eq_true_eq, Bool.true_eq_false, Bool.false_eq_true, bq, if_pos, if_neg, if_true, if_false, lq, Nat.reduceAdd, Nat.reduceMul, Nat.reduceSub, Nat.reduceDiv, Nat.reduceMod, hln, e6, m_see hT hs, hch, e]
    · rw [if_neg e]
      refine ⟨T, ?_, i1, i2⟩
      have e' : ¬ t s = sgN i := fun q => e q.symm
      simp (disch := omega) only [lit, lm1, nI_add, pk_mul, nm_eq, nm_eq', nm_lt, nm_lt', nm_le, nm_le', x_lt, x_le, x_eq, x_in, x_cl, x_div, x_sub, x_rem, x_min, x_max, x_and, x_or, x_xor, x_df, x_shl, bI_0, bI_1, bI_bo, lg_eq, toL_inj, ls_nI, decide_eq_false_iff_not, decide_eq_true_eq, Bool.true_eq_false, Bool.false_eq_true, bq, if_pos, if_neg, if_true, if_false, lq, Nat.reduceAdd, Nat.reduceMul, Nat.reduceSub, Nat.reduceDiv, Nat.reduceMod, hln, e6, m_see hT hs, hch, e']
  · have hln := e_len (v := 0) (by decide) T
    rw [(tx_sg 0 (by decide)).2] at hln
    rw [fX12_next_254]
    simp (disch := omega) only [lit, lm1, nI_add, pk_mul, nm_eq, nm_eq', nm_lt, nm_lt', nm_le, nm_le', x_lt, x_le, x_eq, x_in, x_cl, x_div, x_sub, x_rem, x_min, x_max, x_and, x_or, x_xor, x_df, x_shl, bI_0, bI_1, bI_bo, lg_eq, toL_inj, ls_nI, decide_eq_false_iff_not, decide_eq_true_eq, Bool.true_eq_false, Bool.false_eq_true, bq, if_pos, if_neg, if_true, if_false, lq, Nat.reduceAdd, Nat.reduceMul, Nat.reduceSub, Nat.reduceDiv, Nat.reduceMod, hln]
end N2
