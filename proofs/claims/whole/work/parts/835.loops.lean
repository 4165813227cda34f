/-! laws: one step of each reading; chains read side by side -/
section RQ
variable (n : Nat) (x : Int32) (S : cpS)
theorem r7_0 : fX7_rec (n + 1) 0 x S = fX7_readTruth (fX7_rec n) x S := by rw [fX7_rec]; rfl
theorem r7_1 : fX7_rec (n + 1) 1 x S = fX7_readBoth (fX7_rec n) x S := by rw [fX7_rec]; rfl
theorem r7_2 : fX7_rec (n + 1) 2 x S = fX7_readUnit (fX7_rec n) x S := by rw [fX7_rec]; rfl
theorem r7_3 : fX7_rec (n + 1) 3 x S = fX7_readComparison (fX7_rec n) x S := by rw [fX7_rec]; rfl
theorem r7_4 : fX7_rec (n + 1) 4 x S = fX7_readSum (fX7_rec n) x S := by rw [fX7_rec]; rfl
theorem r7_5 : fX7_rec (n + 1) 5 x S = fX7_readTerm (fX7_rec n) x S := by rw [fX7_rec]; rfl
theorem r7_6 : fX7_rec (n + 1) 6 x S = fX7_readAtom (fX7_rec n) x S := by rw [fX7_rec]; rfl
theorem r7_7 : fX7_rec (n + 1) 7 x S = fX7_readChoice (fX7_rec n) x S := by rw [fX7_rec]; rfl
theorem rm_0 : fX12_rec (n + 1) 0 x S = fX12_readTruth (fX12_rec n) x S := by rw [fX12_rec]; rfl
theorem rm_1 : fX12_rec (n + 1) 1 x S = fX12_readBoth (fX12_rec n) x S := by rw [fX12_rec]; rfl
theorem rm_2 : fX12_rec (n + 1) 2 x S = fX12_readUnit (fX12_rec n) x S := by rw [fX12_rec]; rfl
theorem rm_3 : fX12_rec (n + 1) 3 x S = fX12_readSum (fX12_rec n) x S := by rw [fX12_rec]; rfl
theorem rm_4 : fX12_rec (n + 1) 4 x S = fX12_readTerm (fX12_rec n) x S := by rw [fX12_rec]; rfl
theorem rm_5 : fX12_rec (n + 1) 5 x S = fX12_readAtom (fX12_rec n) x S := by rw [fX12_rec]; rfl
theorem rm_6 : fX12_rec (n + 1) 6 x S = fX12_readIf (fX12_rec n) x S := by rw [fX12_rec]; rfl
end RQ
/-! the reference, once it has failed: nothing changes -/
section FR
variable {M : cpS}
theorem f_5 (h : Fm M) (n : Nat) (x : Int32) : fX12_rec (n + 1) 5 x M = some ((), M) := by
  have h' : (M.1 150 11 = nI 0) = False := eq_false h
  rw [rm_5]
  unfold fX12_readAtom fX12_readAtom_66
  simp (disch := omega) only [lit, lm1, nI_add, pk_mul, nm_eq, nm_eq', nm_lt, nm_lt', nm_le, nm_le', x_lt, x_le, x_eq, x_in, x_cl, x_div, x_sub, x_rem, x_min, x_max, x_and, x_or, x_xor, x_df, x_shl, bI_0, bI_1, bI_bo, lg_eq, toL_inj, ls_nI, decide_eq_false_iff_not, decide_eq_true_eq, Bool.true_eq_false, Bool.false_eq_true, bq, if_pos, if_neg, if_true, if_false, lq, Nat.reduceAdd, Nat.reduceMul, Nat.reduceSub, Nat.reduceDiv, Nat.reduceMod, f_is h, f_fails h, h']
theorem f_6 (h : Fm M) (n : Nat) (x : Int32) : fX12_rec (n + 1) 6 x M = some ((), M) := by
  rw [rm_6]
  unfold fX12_readIf
  simp (disch := omega) only [lit, lm1, nI_add, pk_mul, nm_eq, nm_eq', nm_lt, nm_lt', nm_le, nm_le', x_lt, x_le, x_eq, x_in, x_cl, x_div, x_sub, x_rem, x_min, x_max, x_and, x_or, x_xor, x_df, x_shl, bI_0, bI_1, bI_bo, lg_eq, toL_inj, ls_nI, decide_eq_false_iff_not, decide_eq_true_eq, Bool.true_eq_false, Bool.false_eq_true, bq, if_pos, if_neg, if_true, if_false, lq, Nat.reduceAdd, Nat.reduceMul, Nat.reduceSub, Nat.reduceDiv, Nat.reduceMod, f_goesIn h]
theorem f_l4 (h : Fm M) (rc : Nat → Int32 → cpS → Option (Unit × cpS)) (x : Int32) (k : Nat) : fX12_readTerm_5 rc x (k + 1) M = some ((), M) := by
  rw [fX12_readTerm_5]; simp (disch := omega) only [lit, lm1, nI_add, pk_mul, nm_eq, nm_eq', nm_lt, nm_lt', nm_le, nm_le', x_lt, x_le, x_eq, x_in, x_cl, x_div, x_sub, x_rem, x_min, x_max, x_and, x_or, x_xor, x_df, x_shl, bI_0, bI_1, bI_bo, lg_eq, toL_inj, ls_nI, decide_eq_false_iff_not, decide_eq_true_eq, Bool.true_eq_false, Bool.false_eq_true, bq, if_pos, if_neg, if_true, if_false, lq, Nat.reduceAdd, Nat.reduceMul, Nat.reduceSub, Nat.reduceDiv, Nat.reduceMod, f_eats h]
theorem f_l3 (h : Fm M) (rc : Nat → Int32 → cpS → Option (Unit × cpS)) (x : Int32) (k : Nat) : fX12_readSum_5 rc x (k + 1) M = some ((), M) := by
  rw [fX12_readSum_5]; simp (disch := omega) only [lit, lm1, nI_add, pk_mul, nm_eq, nm_eq', nm_lt, nm_lt', nm_le, nm_le', x_lt, x_le, x_eq, x_in, x_cl, x_div, x_sub, x_rem, x_min, x_max, x_and, x_or, x_xor, x_df, x_shl, bI_0, bI_1, bI_bo, lg_eq, toL_inj, ls_nI, decide_eq_false_iff_not, decide_eq_true_eq, Bool.true_eq_false, Bool.false_eq_true, bq, if_pos, if_neg, if_true, if_false, lq, Nat.reduceAdd, Nat.reduceMul, Nat.reduceSub, Nat.reduceDiv, Nat.reduceMod, f_is h]
theorem f_l1 (h : Fm M) (rc : Nat → Int32 → cpS → Option (Unit × cpS)) (x : Int32) (k : Nat) : fX12_readBoth_5 rc x (k + 1) M = some ((), M) := by
  rw [fX12_readBoth_5]; simp (disch := omega) only [lit, lm1, nI_add, pk_mul, nm_eq, nm_eq', nm_lt, nm_lt', nm_le, nm_le', x_lt, x_le, x_eq, x_in, x_cl, x_div, x_sub, x_rem, x_min, x_max, x_and, x_or, x_xor, x_df, x_shl, bI_0, bI_1, bI_bo, lg_eq, toL_inj, ls_nI, decide_eq_false_iff_not, decide_eq_true_eq, Bool.true_eq_false, Bool.false_eq_true, bq, if_pos, if_neg, if_true, if_false, lq, Nat.reduceAdd, Nat.reduceMul, Nat.reduceSub, Nat.reduceDiv, Nat.reduceMod, f_eats h]
theorem f_l0 (h : Fm M) (rc : Nat → Int32 → cpS → Option (Unit × cpS)) (x : Int32) (k : Nat) : fX12_readTruth_5 rc x (k + 1) M = some ((), M) := by
  rw [fX12_readTruth_5]; simp (disch := omega) only [lit, lm1, nI_add, pk_mul, nm_eq, nm_eq', nm_lt, nm_lt', nm_le, nm_le', x_lt, x_le, x_eq, x_in, x_cl, x_div, x_sub, x_rem, x_min, x_max, x_and, x_or, x_xor, x_df, x_shl, bI_0, bI_1, bI_bo, lg_eq, toL_inj, ls_nI, decide_eq_false_iff_not, decide_eq_true_eq, Bool.true_eq_false, Bool.false_eq_true, bq, if_pos, if_neg, if_true, if_false, lq, Nat.reduceAdd, Nat.reduceMul, Nat.reduceSub, Nat.reduceDiv, Nat.reduceMod, f_eats h]
theorem f_4 (h : Fm M) (n : Nat) (x : Int32) : fX12_rec (n + 2) 4 x M = some ((), M) := by
  rw [rm_4]
  unfold fX12_readTerm
  simp (disch := omega) only [lit, lm1, nI_add, pk_mul, nm_eq, nm_eq', nm_lt, nm_lt', nm_le, nm_le', x_lt, x_le, x_eq, x_in, x_cl, x_div, x_sub, x_rem, x_min, x_max, x_and, x_or, x_xor, x_df, x_shl, bI_0, bI_1, bI_bo, lg_eq, toL_inj, ls_nI, decide_eq_false_iff_not, decide_eq_true_eq, Bool.true_eq_false, Bool.false_eq_true, bq, if_pos, if_neg, if_true, if_false, lq, Nat.reduceAdd, Nat.reduceMul, Nat.reduceSub, Nat.reduceDiv, Nat.reduceMod, f_5 h]
  exact f_l4 h _ x 4999
theorem f_3 (h : Fm M) (n : Nat) (x : Int32) : fX12_rec (n + 3) 3 x M = some ((), M) := by
  rw [rm_3]
  unfold fX12_readSum
  simp (disch := omega) only [lit, lm1, nI_add, pk_mul, nm_eq, nm_eq', nm_lt, nm_lt', nm_le, nm_le', x_lt, x_le, x_eq, x_in, x_cl, x_div, x_sub, x_rem, x_min, x_max, x_and, x_or, x_xor, x_df, x_shl, bI_0, bI_1, bI_bo, lg_eq, toL_inj, ls_nI, decide_eq_false_iff_not, decide_eq_true_eq, Bool.true_eq_false, Bool.false_eq_true, bq, if_pos, if_neg, if_true, if_false, lq, Nat.reduceAdd, Nat.reduceMul, Nat.reduceSub, Nat.reduceDiv, Nat.reduceMod, f_4 h]
  exact f_l3 h _ x 4999
theorem f_2 (h : Fm M) (n : Nat) (x : Int32) : fX12_rec (n + 4) 2 x M = some ((), M) := by
  rw [rm_2]
  unfold fX12_readUnit
  simp (disch := omega) only [lit, lm1, nI_add, pk_mul, nm_eq, nm_eq', nm_lt, nm_lt', nm_le, nm_le', x_lt, x_le, x_eq, x_in, x_cl, x_div, x_sub, x_rem, x_min, x_max, x_and, x_or, x_xor, x_df, x_shl, bI_0, bI_1, bI_bo, lg_eq, toL_inj, ls_nI, decide_eq_false_iff_not, decide_eq_true_eq, Bool.true_eq_false, Bool.false_eq_true, bq, if_pos, if_neg, if_true, if_false, lq, Nat.reduceAdd, Nat.reduceMul, Nat.reduceSub, Nat.reduceDiv, Nat.reduceMod, f_is h, f_3 h]
  unfold fX12_readUnit_111
  simp (disch := omega) only [lit, lm1, nI_add, pk_mul, nm_eq, nm_eq', nm_lt, nm_lt', nm_le, nm_le', x_lt, x_le, x_eq, x_in, x_cl, x_div, x_sub, x_rem, x_min, x_max, x_and, x_or, x_xor, x_df, x_shl, bI_0, bI_1, bI_bo, lg_eq, toL_inj, ls_nI, decide_eq_false_iff_not, decide_eq_true_eq, Bool.true_eq_false, Bool.false_eq_true, bq, if_pos, if_neg, if_true, if_false, lq, Nat.reduceAdd, Nat.reduceMul, Nat.reduceSub, Nat.reduceDiv, Nat.reduceMod, f_is h, f_3 h, f_fails h, f_codes h]
theorem f_1 (h : Fm M) (n : Nat) (x : Int32) : fX12_rec (n + 5) 1 x M = some ((), M) := by
  rw [rm_1]
  unfold fX12_readBoth
  simp (disch := omega) only [lit, lm1, nI_add, pk_mul, nm_eq, nm_eq', nm_lt, nm_lt', nm_le, nm_le', x_lt, x_le, x_eq, x_in, x_cl, x_div, x_sub, x_rem, x_min, x_max, x_and, x_or, x_xor, x_df, x_shl, bI_0, bI_1, bI_bo, lg_eq, toL_inj, ls_nI, decide_eq_false_iff_not, decide_eq_true_eq, Bool.true_eq_false, Bool.false_eq_true, bq, if_pos, if_neg, if_true, if_false, lq, Nat.reduceAdd, Nat.reduceMul, Nat.reduceSub, Nat.reduceDiv, Nat.reduceMod, f_2 h]
  exact f_l1 h _ x 4999
theorem f_0 (h : Fm M) (n : Nat) (x : Int32) : fX12_rec (n + 6) 0 x M = some ((), M) := by
  rw [rm_0]
  unfold fX12_readTruth
  simp (disch := omega) only [lit, lm1, nI_add, pk_mul, nm_eq, nm_eq', nm_lt, nm_lt', nm_le, nm_le', x_lt, x_le, x_eq, x_in, x_cl, x_div, x_sub, x_rem, x_min, x_max, x_and, x_or, x_xor, x_df, x_shl, bI_0, bI_1, bI_bo, lg_eq, toL_inj, ls_nI, decide_eq_false_iff_not, decide_eq_true_eq, Bool.true_eq_false, Bool.false_eq_true, bq, if_pos, if_neg, if_true, if_false, lq, Nat.reduceAdd, Nat.reduceMul, Nat.reduceSub, Nat.reduceDiv, Nat.reduceMod, f_1 h]
  exact f_l0 h _ x 4999
end FR
/-! a chain: one, then again and again a sign and one more -/
section LP
variable {t : Nat → Nat} {L w : Nat} {b : Bool} {H : Nat}
/-- a piece that takes one off and lays one on -/
def Sh (b : Bool) (H : Nat) (k : List Nat) : Prop := ∀ st : List Bool, st.length + H < 90 → cpSnd k (b :: st) (b :: st)
theorem ls_loop (Fc : Nat → Int32 → cpS → Option (Int32 × cpS)) (Gm : Nat → cpS → Option (Unit × cpS))
    (h9 : ∀ n S, Fc (n + 1) (nI 900) S = some (nI 1, S))
    (hs : ∀ n m x s l S M, x < 900 → Ls t L s w l S M →
      (Fc (n + 1) (nI x) S = some (nI 1, S) ∧ Gm (m + 2) M = some ((), M)) ∨
      (∃ s' k S' M', Fc (n + 1) (nI x) S = Fc n (nI (x + 1)) S' ∧ Gm (m + 2) M = Gm (m + 1) M' ∧ Ls t L s' w (l ++ k) S' M' ∧ s < s' ∧ k.length + s ≤ s' ∧ Sh b H k ∧ Kp kLc S S' ∧ Kp kLm M M') ∨
      (∃ S' M', s < L ∧ Fc (n + 1) (nI x) S = some (nI 0, S') ∧ Gm (m + 2) M = some ((), M') ∧ Fp S' M' ∧ Kp kLc S S' ∧ Kp kLm M M')) :
    ∀ (r n m x s : Nat) (l : List Nat) (S M : cpS), L ≤ s + r → r < n → r + 1 < m → x ≤ s → x ≤ 900 → Ls t L s w l S M →
      (∃ s' k S' M', Fc n (nI x) S = some (nI 1, S') ∧ Gm m M = some ((), M') ∧ Ls t L s' w (l ++ k) S' M' ∧ s ≤ s' ∧ k.length + s ≤ s' ∧ Sh b H k ∧ Kp kLc S S' ∧ Kp kLm M M') ∨
      (∃ S' M', Fc n (nI x) S = some (nI 0, S') ∧ Gm m M = some ((), M') ∧ Fp S' M' ∧ Kp kLc S S' ∧ Kp kLm M M') := by
  intro r
  induction r with
  | zero =>
    intro n m x s l S M h1 h2 h3 h4 h5 hl
    obtain ⟨n, rfl⟩ : ∃ k, n = k + 1 := ⟨n - 1, by omega⟩
    obtain ⟨m, rfl⟩ : ∃ k, m = k + 2 := ⟨m - 2, by omega⟩
    have sl := hl.rp.sl
    have l9 := hl.rp.ct.1
    have z : Fc (n + 1) (nI x) S = some (nI 1, S) ∧ Gm (m + 2) M = some ((), M) := by
      rcases hs n m (if x < 900 then x else 0) s l S M (by split <;> omega) hl with z | ⟨s', k, S', M', -, -, z, z2, -⟩ | ⟨S', M', z, -⟩
      · by_cases hx : x < 900
        · rw [if_pos hx] at z; exact z
        · have ex : x = 900 := by omega
          subst ex
          exact ⟨h9 n S, z.2⟩
      · have := z.rp.sl; omega
      · omega
    refine Or.inl ⟨s, [], S, M, z.1, z.2, by rw [List.append_nil]; exact hl, Nat.le_refl _, by show 0 + s ≤ s; omega, fun st _ => rfl, Kp.rf, Kp.rf⟩
  | succ r ih =>
    intro n m x s l S M h1 h2 h3 h4 h5 hl
    obtain ⟨n, rfl⟩ : ∃ k, n = k + 1 := ⟨n - 1, by omega⟩
    obtain ⟨m, rfl⟩ : ∃ k, m = k + 2 := ⟨m - 2, by omega⟩
    have sl := hl.rp.sl
    have l9 := hl.rp.ct.1
    by_cases hx : x < 900
    · rcases hs n m x s l S M hx hl with z | ⟨s', k, S', M', z1, z2, z3, z4, z5, z6, z7, z8⟩ | ⟨S', M', z0, z1, z2, z3⟩
      · refine Or.inl ⟨s, [], S, M, z.1, z.2, by rw [List.append_nil]; exact hl, Nat.le_refl _, by show 0 + s ≤ s; omega, fun st _ => rfl, Kp.rf, Kp.rf⟩
      · rcases ih n (m + 1) (x + 1) s' (l ++ k) S' M' (by omega) (by omega) (by omega) (by omega) (by omega) z3 with ⟨s2, k2, S2, M2, y1, y2, y3, y4, y5, y6, y7, y8⟩ | ⟨S2, M2, y1, y2, y3, y4, y5⟩
        · refine Or.inl ⟨s2, k ++ k2, S2, M2, z1.trans y1, z2.trans y2, by rw [← List.append_assoc]; exact y3, by omega, by rw [List.length_append]; omega, fun st hst => snd_app _ (z6 st hst) (y6 st hst), z7.tr y7, z8.tr y8⟩
        · exact Or.inr ⟨S2, M2, z1.trans y1, z2.trans y2, y3, z7.tr y4, z8.tr y5⟩
      · exact Or.inr ⟨S', M', z1, z2, z3⟩
    · have ex : x = 900 := by omega
      subst ex
      have z : Gm (m + 2) M = some ((), M) := by
        rcases hs n m 0 s l S M (by decide) hl with z | ⟨s', k, S', M', -, -, z, z2, -⟩ | ⟨S', M', z, -⟩
        · exact z.2
        · have := z.rp.sl; omega
        · omega
      refine Or.inl ⟨s, [], S, M, h9 n S, z, by rw [List.append_nil]; exact hl, Nat.le_refl _, by show 0 + s ≤ s; omega, fun st _ => rfl, Kp.rf, Kp.rf⟩
end LP
