/-! laws: numbers, facts, if, not, brackets, comparisons -/
def fcW (w y : Nat) : Option Nat := if y = 7 then some 0 else if y = 10 then some 1 else if y = 18 then some 2 else if y = 4 then some 3 else if y = 2 then some 4 else if w = 1 ∧ y = 19 then some 5 else none
section UN
variable {t : Nat → Nat} {L w n s : Nat} {l : List Nat} {S M : cpS}
theorem f_3g (h : Fm M) {m : Nat} (hm : 3 ≤ m) (x : Int32) : fX12_rec m 3 x M = some ((), M) := by
  obtain ⟨k, rfl⟩ : ∃ k, m = k + 3 := ⟨m - 3, by omega⟩
  exact f_3 h k x
theorem c_fact (h : Ls t L s w l S M) : fX7_factNamed S = some (oI (fcW w (kyE t L s)), S) := by
  have w2 := h.w2
  have i1 := h.rp.isW (k := 8) (by decide) (by decide)
  have i2 := h.rp.isW (k := 11) (by decide) (by decide)
  have i3 := h.rp.isW (k := 19) (by decide) (by decide)
  have i4 := h.rp.isW (k := 5) (by decide) (by decide)
  have i5 := h.rp.isW (k := 3) (by decide) (by decide)
  have i6 := h.rp.isW (k := 20) (by decide) (by decide)
  rw [show kWd 8 = 7 from rfl] at i1
  rw [show kWd 11 = 10 from rfl] at i2
  rw [show kWd 19 = 18 from rfl] at i3
  rw [show kWd 5 = 4 from rfl] at i4
  rw [show kWd 3 = 2 from rfl] at i5
  rw [show kWd 20 = 19 from rfl] at i6
  unfold fX7_factNamed fcW
  generalize kyE t L s = y at i1 i2 i3 i4 i5 i6
  by_cases e1 : y = 7
  · rw [decide_eq_true e1] at i1
    have i1 : fX7_isWord 8 S = some (nI 1, S) := i1
    rw [if_pos e1]; simp (disch := omega) only [lit, lm1, nI_add, pk_mul, nm_eq, nm_eq', nm_lt, nm_lt', nm_le, nm_le', x_lt, x_le, x_eq, x_in, x_cl, x_div, x_sub, x_rem, x_min, x_max, x_and, x_or, x_xor, x_df, x_shl, bI_0, bI_1, bI_bo, lg_eq, toL_inj, ls_nI, decide_eq_false_iff_not, decide_eq_true_eq, Bool.true_eq_false, Bool.false_eq_true, bq, if_pos, if_neg, if_true, if_false, lq, Nat.reduceAdd, Nat.reduceMul, Nat.reduceSub, Nat.reduceDiv, Nat.reduceMod, i1]; rfl
  · rw [decide_eq_false e1] at i1
    have i1 : fX7_isWord 8 S = some (nI 0, S) := i1
    rw [if_neg e1]
    by_cases e2 : y = 10
    · rw [decide_eq_true e2] at i2
      have i2 : fX7_isWord 11 S = some (nI 1, S) := i2
      rw [if_pos e2]; simp (disch := omega) only [lit, lm1, nI_add, pk_mul, nm_eq, nm_eq', nm_lt, nm_lt', nm_le, nm_le', x_lt, x_le, x_eq, x_in, x_cl, x_div, x_sub, x_rem, x_min, x_max, x_and, x_or, x_xor, x_df, x_shl, bI_0, bI_1, bI_bo, lg_eq, toL_inj, ls_nI, decide_eq_false_iff_not, decide_eq_true_eq, Bool.true_eq_false, Bool.false_eq_true, bq, if_pos, if_neg, if_true, if_false, lq, Nat.reduceAdd, Nat.reduceMul, Nat.reduceSub, Nat.reduceDiv, Nat.reduceMod, i1, i2]; rfl
    · rw [decide_eq_false e2] at i2
      have i2 : fX7_isWord 11 S = some (nI 0, S) := i2
      rw [if_neg e2]
      by_cases e3 : y = 18
      · rw [decide_eq_true e3] at i3
        have i3 : fX7_isWord 19 S = some (nI 1, S) := i3
        rw [if_pos e3]; simp (disch := omega) only [lit, lm1, nI_add, pk_mul, nm_eq, nm_eq', nm_lt, nm_lt', nm_le, nm_le', x_lt, x_le, x_eq, x_in, x_cl, x_div, x_sub, x_rem, x_min, x_max, x_and, x_or, x_xor, x_df, x_shl, bI_0, bI_1, bI_bo, lg_eq, toL_inj, ls_nI, decide_eq_false_iff_not, decide_eq_true_eq, Bool.true_eq_false, Bool.false_eq_true, bq, if_pos, if_neg, if_true, if_false, lq, Nat.reduceAdd, Nat.reduceMul, Nat.reduceSub, Nat.reduceDiv, Nat.reduceMod, i1, i2, i3]; rfl
      · rw [decide_eq_false e3] at i3
        have i3 : fX7_isWord 19 S = some (nI 0, S) := i3
        rw [if_neg e3]
        by_cases e4 : y = 4
        · rw [decide_eq_true e4] at i4
          have i4 : fX7_isWord 5 S = some (nI 1, S) := i4
          rw [if_pos e4]; simp (disch := omega) only [lit, lm1, nI_add, pk_mul, nm_eq, nm_eq', nm_lt, nm_lt', nm_le, nm_le', x_lt, x_le, x_eq, x_in, x_cl, x_div, x_sub, x_rem, x_min, x_max, x_and, x_or, x_xor, x_df, x_shl, bI_0, bI_1, bI_bo, lg_eq, toL_inj, ls_nI, decide_eq_false_iff_not, decide_eq_true_eq, Bool.true_eq_false, Bool.false_eq_true, bq, if_pos, if_neg, if_true, if_false, lq, Nat.reduceAdd, Nat.reduceMul, Nat.reduceSub, Nat.reduceDiv, Nat.reduceMod, i1, i2, i3, i4]; rfl
        · rw [decide_eq_false e4] at i4
          have i4 : fX7_isWord 5 S = some (nI 0, S) := i4
          rw [if_neg e4]
          by_cases e5 : y = 2
          · rw [decide_eq_true e5] at i5
            have i5 : fX7_isWord 3 S = some (nI 1, S) := i5
            rw [if_pos e5]; simp (disch := omega) only [lit, lm1, nI_add, pk_mul, nm_eq, nm_eq', nm_lt, nm_lt', nm_le, nm_le', x_lt, x_le, x_eq, x_in, x_cl, x_div, x_sub, x_rem, x_min, x_max, x_and, x_or, x_xor, x_df, x_shl, bI_0, bI_1, bI_bo, lg_eq, toL_inj, ls_nI, decide_eq_false_iff_not, decide_eq_true_eq, Bool.true_eq_false, Bool.false_eq_true, bq, if_pos, if_neg, if_true, if_false, lq, Nat.reduceAdd, Nat.reduceMul, Nat.reduceSub, Nat.reduceDiv, Nat.reduceMod, i1, i2, i3, i4, i5]; rfl
          · rw [decide_eq_false e5] at i5
            have i5 : fX7_isWord 3 S = some (nI 0, S) := i5
            rw [if_neg e5]
            by_cases e6 : w = 1
            · have wc := h.wc
              rw [e6] at wc
              by_cases e7 : y = 19
              · rw [decide_eq_true e7] at i6
                have i6 : fX7_isWord 20 S = some (nI 1, S) := i6
                rw [if_pos ⟨e6, e7⟩]; simp (disch := omega) only [lit, lm1, nI_add, pk_mul, nm_eq, nm_eq', nm_lt, nm_lt', nm_le, nm_le', x_lt, x_le, x_eq, x_in, x_cl, x_div, x_sub, x_rem, x_min, x_max, x_and, x_or, x_xor, x_df, x_shl, bI_0, bI_1, bI_bo, lg_eq, toL_inj, ls_nI, decide_eq_false_iff_not, decide_eq_true_eq, Bool.true_eq_false, Bool.false_eq_true, bq, if_pos, if_neg, if_true, if_false, lq, Nat.reduceAdd, Nat.reduceMul, Nat.reduceSub, Nat.reduceDiv, Nat.reduceMod, i1, i2, i3, i4, i5, i6, wc]; rfl
              · rw [decide_eq_false e7] at i6
                have i6 : fX7_isWord 20 S = some (nI 0, S) := i6
                rw [if_neg (fun q => e7 q.2)]; simp (disch := omega) only [lit, lm1, nI_add, pk_mul, nm_eq, nm_eq', nm_lt, nm_lt', nm_le, nm_le', x_lt, x_le, x_eq, x_in, x_cl, x_div, x_sub, x_rem, x_min, x_max, x_and, x_or, x_xor, x_df, x_shl, bI_0, bI_1, bI_bo, lg_eq, toL_inj, ls_nI, decide_eq_false_iff_not, decide_eq_true_eq, Bool.true_eq_false, Bool.false_eq_true, bq, if_pos, if_neg, if_true, if_false, lq, Nat.reduceAdd, Nat.reduceMul, Nat.reduceSub, Nat.reduceDiv, Nat.reduceMod, i1, i2, i3, i4, i5, i6, wc]; rfl
            · have wc := h.wc
              rw [show w = 0 by omega] at wc
              rw [if_neg (fun q => e6 q.1)]; simp (disch := omega) only [lit, lm1, nI_add, pk_mul, nm_eq, nm_eq', nm_lt, nm_lt', nm_le, nm_le', x_lt, x_le, x_eq, x_in, x_cl, x_div, x_sub, x_rem, x_min, x_max, x_and, x_or, x_xor, x_df, x_shl, bI_0, bI_1, bI_bo, lg_eq, toL_inj, ls_nI, decide_eq_false_iff_not, decide_eq_true_eq, Bool.true_eq_false, Bool.false_eq_true, bq, if_pos, if_neg, if_true, if_false, lq, Nat.reduceAdd, Nat.reduceMul, Nat.reduceSub, Nat.reduceDiv, Nat.reduceMod, i1, i2, i3, i4, i5, wc]; rfl
theorem m_word {y : Nat} (hy : y < 42) (w2 : w ≤ 1) (wm : M.1 150 15 = nI w) : fX12_wordOf (nI y) M = some (oI (fcW w y), M) := by
  unfold fX12_wordOf
  by_cases e1 : y = 7
  · subst e1
    have ef : fcW w 7 = some 0 := by unfold fcW; rw [if_pos rfl]
    rw [ef]; simp (disch := omega) only [lit, lm1, nI_add, pk_mul, nm_eq, nm_eq', nm_lt, nm_lt', nm_le, nm_le', x_lt, x_le, x_eq, x_in, x_cl, x_div, x_sub, x_rem, x_min, x_max, x_and, x_or, x_xor, x_df, x_shl, bI_0, bI_1, bI_bo, lg_eq, toL_inj, ls_nI, decide_eq_false_iff_not, decide_eq_true_eq, Bool.true_eq_false, Bool.false_eq_true, bq, if_pos, if_neg, if_true, if_false, lq, Nat.reduceAdd, Nat.reduceMul, Nat.reduceSub, Nat.reduceDiv, Nat.reduceMod]; rfl
  by_cases e2 : y = 10
  · subst e2
    have ef : fcW w 10 = some 1 := by unfold fcW; rw [if_neg e1, if_pos rfl]
    rw [ef]; simp (disch := omega) only [lit, lm1, nI_add, pk_mul, nm_eq, nm_eq', nm_lt, nm_lt', nm_le, nm_le', x_lt, x_le, x_eq, x_in, x_cl, x_div, x_sub, x_rem, x_min, x_max, x_and, x_or, x_xor, x_df, x_shl, bI_0, bI_1, bI_bo, lg_eq, toL_inj, ls_nI, decide_eq_false_iff_not, decide_eq_true_eq, Bool.true_eq_false, Bool.false_eq_true, bq, if_pos, if_neg, if_true, if_false, lq, Nat.reduceAdd, Nat.reduceMul, Nat.reduceSub, Nat.reduceDiv, Nat.reduceMod]; rfl
  by_cases e3 : y = 18
  · subst e3
    have ef : fcW w 18 = some 2 := by unfold fcW; rw [if_neg e1, if_neg e2, if_pos rfl]
    rw [ef]; simp (disch := omega) only [lit, lm1, nI_add, pk_mul, nm_eq, nm_eq', nm_lt, nm_lt', nm_le, nm_le', x_lt, x_le, x_eq, x_in, x_cl, x_div, x_sub, x_rem, x_min, x_max, x_and, x_or, x_xor, x_df, x_shl, bI_0, bI_1, bI_bo, lg_eq, toL_inj, ls_nI, decide_eq_false_iff_not, decide_eq_true_eq, Bool.true_eq_false, Bool.false_eq_true, bq, if_pos, if_neg, if_true, if_false, lq, Nat.reduceAdd, Nat.reduceMul, Nat.reduceSub, Nat.reduceDiv, Nat.reduceMod]; rfl
  by_cases e4 : y = 4
  · subst e4
    have ef : fcW w 4 = some 3 := by unfold fcW; rw [if_neg e1, if_neg e2, if_neg e3, if_pos rfl]
    rw [ef]; simp (disch := omega) only [lit, lm1, nI_add, pk_mul, nm_eq, nm_eq', nm_lt, nm_lt', nm_le, nm_le', x_lt, x_le, x_eq, x_in, x_cl, x_div, x_sub, x_rem, x_min, x_max, x_and, x_or, x_xor, x_df, x_shl, bI_0, bI_1, bI_bo, lg_eq, toL_inj, ls_nI, decide_eq_false_iff_not, decide_eq_true_eq, Bool.true_eq_false, Bool.false_eq_true, bq, if_pos, if_neg, if_true, if_false, lq, Nat.reduceAdd, Nat.reduceMul, Nat.reduceSub, Nat.reduceDiv, Nat.reduceMod]; rfl
  by_cases e5 : y = 2
  · subst e5
    have ef : fcW w 2 = some 4 := by unfold fcW; rw [if_neg e1, if_neg e2, if_neg e3, if_neg e4, if_pos rfl]
    rw [ef]; simp (disch := omega) only [lit, lm1, nI_add, pk_mul, nm_eq, nm_eq', nm_lt, nm_lt', nm_le, nm_le', x_lt, x_le, x_eq, x_in, x_cl, x_div, x_sub, x_rem, x_min, x_max, x_and, x_or, x_xor, x_df, x_shl, bI_0, bI_1, bI_bo, lg_eq, toL_inj, ls_nI, decide_eq_false_iff_not, decide_eq_true_eq, Bool.true_eq_false, Bool.false_eq_true, bq, if_pos, if_neg, if_true, if_false, lq, Nat.reduceAdd, Nat.reduceMul, Nat.reduceSub, Nat.reduceDiv, Nat.reduceMod]; rfl
  by_cases e6 : y = 19
  · subst e6
    by_cases e7 : w = 1
    · rw [e7] at wm
      have ef : fcW w 19 = some 5 := by unfold fcW; rw [if_neg e1, if_neg e2, if_neg e3, if_neg e4, if_neg e5, if_pos ⟨e7, rfl⟩]
      rw [ef]; simp (disch := omega) only [lit, lm1, nI_add, pk_mul, nm_eq, nm_eq', nm_lt, nm_lt', nm_le, nm_le', x_lt, x_le, x_eq, x_in, x_cl, x_div, x_sub, x_rem, x_min, x_max, x_and, x_or, x_xor, x_df, x_shl, bI_0, bI_1, bI_bo, lg_eq, toL_inj, ls_nI, decide_eq_false_iff_not, decide_eq_true_eq, Bool.true_eq_false, Bool.false_eq_true, bq, if_pos, if_neg, if_true, if_false, lq, Nat.reduceAdd, Nat.reduceMul, Nat.reduceSub, Nat.reduceDiv, Nat.reduceMod, wm]; rfl
    · rw [show w = 0 by omega] at wm
      have ef : fcW w 19 = none := by unfold fcW; rw [if_neg e1, if_neg e2, if_neg e3, if_neg e4, if_neg e5, if_neg (fun q => e7 q.1)]
      rw [ef]; simp (disch := omega) only [lit, lm1, nI_add, pk_mul, nm_eq, nm_eq', nm_lt, nm_lt', nm_le, nm_le', x_lt, x_le, x_eq, x_in, x_cl, x_div, x_sub, x_rem, x_min, x_max, x_and, x_or, x_xor, x_df, x_shl, bI_0, bI_1, bI_bo, lg_eq, toL_inj, ls_nI, decide_eq_false_iff_not, decide_eq_true_eq, Bool.true_eq_false, Bool.false_eq_true, bq, if_pos, if_neg, if_true, if_false, lq, Nat.reduceAdd, Nat.reduceMul, Nat.reduceSub, Nat.reduceDiv, Nat.reduceMod, wm]; rfl
  · have ef : fcW w y = none := by unfold fcW; rw [if_neg e1, if_neg e2, if_neg e3, if_neg e4, if_neg e5, if_neg (fun q => e6 q.2)]
    rw [ef]
    simp (disch := omega) only [lit, lm1, nI_add, pk_mul, nm_eq, nm_eq', nm_lt, nm_lt', nm_le, nm_le', x_lt, x_le, x_eq, x_in, x_cl, x_div, x_sub, x_rem, x_min, x_max, x_and, x_or, x_xor, x_df, x_shl, bI_0, bI_1, bI_bo, lg_eq, toL_inj, ls_nI, decide_eq_false_iff_not, decide_eq_true_eq, Bool.true_eq_false, Bool.false_eq_true, bq, if_pos, if_neg, if_true, if_false, lq, Nat.reduceAdd, Nat.reduceMul, Nat.reduceSub, Nat.reduceDiv, Nat.reduceMod, e2, e3, e1, e4, e5, e6, ite_self]
    rfl
/-- one operation, then the next token -/
theorem Ls.push (h : Ls t L s w l S M) (hk : kyE t L s ≠ 26) {k : Nat} (hb : k < 2010) : ∃ s' S1 M1 S2 M2, fX3_append 26 (nI k) S = some ((), S1) ∧ fX12_codes (nI (cpOp k)) M = some ((), M1) ∧ fX7_advance S1 = some ((), S2) ∧ fX12_next M1 = some ((), M2) ∧ Ls t L s' w (l ++ [k]) S2 M2 ∧ s < s' ∧ Kp kLc S S2 ∧ Kp kLm M M2 := by
  have l9 := h.rp.ct.1
  have sl := h.rp.sl
  have bg := h.bg
  obtain ⟨S1, M1, a1, a2, a3, a4, a5⟩ := h.cd.app (by omega) hb h.rp.m11
  have r1 : Rp t L s S1 M1 := h.rp.kp a4 a5 (fun j q => by omega) (fun j _ _ q => by omega) (fun j q => by omega) (fun j _ _ q => by omega)
  obtain ⟨s', S2, M2, b1, b2, b3, b4, b5, b6⟩ := r1.adv hk
  refine ⟨s', S1, M1, S2, M2, a1, a2, b1, b2, ⟨b3, a3.kp b5 b6 (fun q => by have := q.1; omega) (fun j q => by have := q.1; omega) (fun j _ q => by have := q.1; omega), ?_, ?_, h.w2, by rw [List.length_append]; show l.length + 1 + 1 ≤ s'; omega⟩, b4, (a4.le (fun q j z => Or.inr z)).tr (kRc.le (k115.le b5)), (a5.le (fun q j z => Or.inr z)).tr (kRm.le (k150.le b6))⟩
  · rw [b5.i (by unfold k115; omega), a4.i (by omega)]; exact h.wc
  · rw [b6.i (by unfold k150; omega), a5.i (by omega)]; exact h.wm
theorem Ls.signs (h : Ls t L s w l S M) {i : Nat} (hi : i < 12) :
    (∃ s' S' M', fX7_takeSign (nI (sgN i)) S = some (nI 1, S') ∧ fX12_eats (nI (30 + i)) M = some (nI 1, M') ∧ Ls t L s' w l S' M' ∧ s < s' ∧ Kp kLc S S' ∧ Kp kLm M M') ∨
    (∃ S' M', fX7_takeSign (nI (sgN i)) S = some (nI 0, S') ∧ fX12_eats (nI (30 + i)) M = some (nI 0, M) ∧ fX12_fails (nI 2) M = some ((), M') ∧ Fp S' M' ∧ Kp kLc S S' ∧ Kp kLm M M') := by
  rcases h.rp.sign hi with ⟨S', M', a1, a2, a3⟩ | ⟨S', M', a1, a2, a3, a4, a5, a6⟩
  · obtain ⟨s', b⟩ := h.go a3
    exact Or.inl ⟨s', S', M', a1, a2, b⟩
  · exact Or.inr ⟨S', M', a1, a2, a3, a4, kRc.le a5, kRm.le a6⟩
theorem Ls.words (h : Ls t L s w l S M) {k : Nat} (k1 : 1 ≤ k) (k2 : k < 24) :
    (∃ s' S' M', fX7_takeWord k S = some (nI 1, S') ∧ fX12_eats (nI (kWd k)) M = some (nI 1, M') ∧ Ls t L s' w l S' M' ∧ s < s' ∧ Kp kLc S S' ∧ Kp kLm M M') ∨
    (∃ S' M', fX7_takeWord k S = some (nI 0, S') ∧ fX12_eats (nI (kWd k)) M = some (nI 0, M) ∧ fX12_fails (nI 2) M = some ((), M') ∧ Fp S' M' ∧ Kp kLc S S' ∧ Kp kLm M M') := by
  rcases h.rp.word k1 k2 with ⟨S', M', a1, a2, a3⟩ | ⟨S', M', a1, a2, a3, a4, a5, a6⟩
  · obtain ⟨s', b⟩ := h.go a3
    exact Or.inl ⟨s', S', M', a1, a2, b⟩
  · exact Or.inr ⟨S', M', a1, a2, a3, a4, kRc.le a5, kRm.le a6⟩
theorem lk_unit (h2 : LKq t L w n 2 2 true) (h0 : LKq t L w n 0 0 true) (h4 : ∀ k, n = k + 1 → LKq t L w k 4 3 false) : LKq t L w (n + 1) 2 2 true := by
  intro d m s l S M hd hn hm hl
  obtain ⟨m, rfl⟩ : ∃ k, m = k + 1 := ⟨m - 1, by omega⟩
  rw [r7_2, rm_2]
  have hz : cpBo (nI 0) = true := by decide
  have ho : cpBo (nI 1) = true := by decide
  have i1 := hl.rp.isW (k := 14) (by decide) (by decide)
  rw [show kWd 14 = 22 from rfl] at i1
  have i2 := hl.rp.mis (w := 22) (by decide)
  have j1 := hl.rp.isS (i := 7) (by decide)
  have j2 := hl.rp.mis (w := 37) (by decide)
  by_cases e1 : kyE t L s = 22
  · rw [decide_eq_true e1] at i1 i2
    have i1 : fX7_isWord 14 S = some (nI 1, S) := i1
    have i2 : fX12_is (nI 22) M = some (nI 1, M) := i2
    rcases hl.enter (by omega) hd with ⟨s1, S1, M1, d6, a1, a2, a3, a4, a5, a6⟩ | ⟨S1, M1, a1, a2, a3, a4, a5⟩
    · rcases h2 (d + 1) m s1 l S1 M1 (by omega) (by omega) (by omega) a3 with ⟨s2, k, S2, M2, b1, b2, b3, b4, b5, b6, b7, b8⟩ | ⟨S2, M2, b1, b2, b3, b4, b5⟩
      · have bg := hl.bg
        obtain ⟨S3, M3, c1, c2, c3, c4, c5⟩ := b3.app (k := 2008) (by decide) (by rw [List.length_append]; omega)
        have c2 : fX12_codes (nI 3006) M2 = some ((), M3) := c2
        refine Or.inl ⟨s2, k ++ [2008], S3, M3, ?_, ?_, by rw [← List.append_assoc]; exact c3, by omega, by rw [List.length_append]; show k.length + 1 + s ≤ s2; omega, fun st hst => ?_, (a5.tr b7).tr c4, (a6.tr b8).tr c5⟩
        · unfold fX7_readUnit; simp (disch := omega) only [lit, lm1, nI_add, pk_mul, nm_eq, nm_eq', nm_lt, nm_lt', nm_le, nm_le', x_lt, x_le, x_eq, x_in, x_cl, x_div, x_sub, x_rem, x_min, x_max, x_and, x_or, x_xor, x_df, x_shl, bI_0, bI_1, bI_bo, lg_eq, toL_inj, ls_nI, decide_eq_false_iff_not, decide_eq_true_eq, Bool.true_eq_false, Bool.false_eq_true, bq, if_pos, if_neg, if_true, if_false, lq, Nat.reduceAdd, Nat.reduceMul, Nat.reduceSub, Nat.reduceDiv, Nat.reduceMod, i1, a1, b1, c1]
        · unfold fX12_readUnit; simp (disch := omega) only [lit, lm1, nI_add, pk_mul, nm_eq, nm_eq', nm_lt, nm_lt', nm_le, nm_le', x_lt, x_le, x_eq, x_in, x_cl, x_div, x_sub, x_rem, x_min, x_max, x_and, x_or, x_xor, x_df, x_shl, bI_0, bI_1, bI_bo, lg_eq, toL_inj, ls_nI, decide_eq_false_iff_not, decide_eq_true_eq, Bool.true_eq_false, Bool.false_eq_true, bq, if_pos, if_neg, if_true, if_false, lq, Nat.reduceAdd, Nat.reduceMul, Nat.reduceSub, Nat.reduceDiv, Nat.reduceMod, i2, a2, b2, c2]
        · exact snd_app _ (b6 st (by omega)) (snd_one (by show st.length + 1 < 90; omega) rfl)
      · refine Or.inr ⟨S2, M2, ?_, ?_, b3, a5.tr b4, a6.tr b5⟩
        · unfold fX7_readUnit; simp (disch := omega) only [lit, lm1, nI_add, pk_mul, nm_eq, nm_eq', nm_lt, nm_lt', nm_le, nm_le', x_lt, x_le, x_eq, x_in, x_cl, x_div, x_sub, x_rem, x_min, x_max, x_and, x_or, x_xor, x_df, x_shl, bI_0, bI_1, bI_bo, lg_eq, toL_inj, ls_nI, decide_eq_false_iff_not, decide_eq_true_eq, Bool.true_eq_false, Bool.false_eq_true, bq, if_pos, if_neg, if_true, if_false, lq, Nat.reduceAdd, Nat.reduceMul, Nat.reduceSub, Nat.reduceDiv, Nat.reduceMod, i1, a1, b1]
        · unfold fX12_readUnit; simp (disch := omega) only [lit, lm1, nI_add, pk_mul, nm_eq, nm_eq', nm_lt, nm_lt', nm_le, nm_le', x_lt, x_le, x_eq, x_in, x_cl, x_div, x_sub, x_rem, x_min, x_max, x_and, x_or, x_xor, x_df, x_shl, bI_0, bI_1, bI_bo, lg_eq, toL_inj, ls_nI, decide_eq_false_iff_not, decide_eq_true_eq, Bool.true_eq_false, Bool.false_eq_true, bq, if_pos, if_neg, if_true, if_false, lq, Nat.reduceAdd, Nat.reduceMul, Nat.reduceSub, Nat.reduceDiv, Nat.reduceMod, i2, a2, b2, f_codes b3.fm]
    · refine Or.inr ⟨S1, M1, ?_, ?_, a3, a4, a5⟩
      · unfold fX7_readUnit; simp (disch := omega) only [lit, lm1, nI_add, pk_mul, nm_eq, nm_eq', nm_lt, nm_lt', nm_le, nm_le', x_lt, x_le, x_eq, x_in, x_cl, x_div, x_sub, x_rem, x_min, x_max, x_and, x_or, x_xor, x_df, x_shl, bI_0, bI_1, bI_bo, lg_eq, toL_inj, ls_nI, decide_eq_false_iff_not, decide_eq_true_eq, Bool.true_eq_false, Bool.false_eq_true, bq, if_pos, if_neg, if_true, if_false, lq, Nat.reduceAdd, Nat.reduceMul, Nat.reduceSub, Nat.reduceDiv, Nat.reduceMod, i1, a1]
      · unfold fX12_readUnit; simp (disch := omega) only [lit, lm1, nI_add, pk_mul, nm_eq, nm_eq', nm_lt, nm_lt', nm_le, nm_le', x_lt, x_le, x_eq, x_in, x_cl, x_div, x_sub, x_rem, x_min, x_max, x_and, x_or, x_xor, x_df, x_shl, bI_0, bI_1, bI_bo, lg_eq, toL_inj, ls_nI, decide_eq_false_iff_not, decide_eq_true_eq, Bool.true_eq_false, Bool.false_eq_true, bq, if_pos, if_neg, if_true, if_false, lq, Nat.reduceAdd, Nat.reduceMul, Nat.reduceSub, Nat.reduceDiv, Nat.reduceMod, i2, a2]
  rw [decide_eq_false e1] at i1 i2
  have i1 : fX7_isWord 14 S = some (nI 0, S) := i1
  have i2 : fX12_is (nI 22) M = some (nI 0, M) := i2
  by_cases e2 : kyE t L s = 37
  · rw [decide_eq_true e2] at j1 j2
    have j1 : fX7_isSign (nI 91) S = some (nI 1, S) := j1
    have j2 : fX12_is (nI 37) M = some (nI 1, M) := j2
    rcases hl.enter (by omega) hd with ⟨s1, S1, M1, d6, a1, a2, a3, a4, a5, a6⟩ | ⟨S1, M1, a1, a2, a3, a4, a5⟩
    · rcases h0 (d + 1) m s1 l S1 M1 (by omega) (by omega) (by omega) a3 with ⟨s2, k, S2, M2, b1, b2, b3, b4, b5, b6, b7, b8⟩ | ⟨S2, M2, b1, b2, b3, b4, b5⟩
      · rcases b3.signs (i := 8) (by decide) with ⟨s3, S3, M3, c1, c2, c3, c4, c5, c6⟩ | ⟨S3, M3, c1, c2, c3, c4, c5, c6⟩
        · have c1 : fX7_takeSign (nI 93) S2 = some (nI 1, S3) := c1
          have c2 : fX12_eats (nI 38) M2 = some (nI 1, M3) := c2
          refine Or.inl ⟨s3, k, S3, M3, ?_, ?_, c3, by omega, by omega, fun st hst => b6 st (by omega), (a5.tr b7).tr c5, (a6.tr b8).tr c6⟩
          · unfold fX7_readUnit; simp (disch := omega) only [lit, lm1, nI_add, pk_mul, nm_eq, nm_eq', nm_lt, nm_lt', nm_le, nm_le', x_lt, x_le, x_eq, x_in, x_cl, x_div, x_sub, x_rem, x_min, x_max, x_and, x_or, x_xor, x_df, x_shl, bI_0, bI_1, bI_bo, lg_eq, toL_inj, ls_nI, decide_eq_false_iff_not, decide_eq_true_eq, Bool.true_eq_false, Bool.false_eq_true, bq, if_pos, if_neg, if_true, if_false, lq, Nat.reduceAdd, Nat.reduceMul, Nat.reduceSub, Nat.reduceDiv, Nat.reduceMod, i1, j1, a1, b1, c1]
          · unfold fX12_readUnit; simp (disch := omega) only [lit, lm1, nI_add, pk_mul, nm_eq, nm_eq', nm_lt, nm_lt', nm_le, nm_le', x_lt, x_le, x_eq, x_in, x_cl, x_div, x_sub, x_rem, x_min, x_max, x_and, x_or, x_xor, x_df, x_shl, bI_0, bI_1, bI_bo, lg_eq, toL_inj, ls_nI, decide_eq_false_iff_not, decide_eq_true_eq, Bool.true_eq_false, Bool.false_eq_true, bq, if_pos, if_neg, if_true, if_false, lq, Nat.reduceAdd, Nat.reduceMul, Nat.reduceSub, Nat.reduceDiv, Nat.reduceMod, i2, j2, a2, b2, c2]
        · have c1 : fX7_takeSign (nI 93) S2 = some (nI 0, S3) := c1
          have c2 : fX12_eats (nI 38) M2 = some (nI 0, M2) := c2
          refine Or.inr ⟨S3, M3, ?_, ?_, c4, (a5.tr b7).tr c5, (a6.tr b8).tr c6⟩
          · unfold fX7_readUnit; simp (disch := omega) only [lit, lm1, nI_add, pk_mul, nm_eq, nm_eq', nm_lt, nm_lt', nm_le, nm_le', x_lt, x_le, x_eq, x_in, x_cl, x_div, x_sub, x_rem, x_min, x_max, x_and, x_or, x_xor, x_df, x_shl, bI_0, bI_1, bI_bo, lg_eq, toL_inj, ls_nI, decide_eq_false_iff_not, decide_eq_true_eq, Bool.true_eq_false, Bool.false_eq_true, bq, if_pos, if_neg, if_true, if_false, lq, Nat.reduceAdd, Nat.reduceMul, Nat.reduceSub, Nat.reduceDiv, Nat.reduceMod, i1, j1, a1, b1, c1]
          · unfold fX12_readUnit; simp (disch := omega) only [lit, lm1, nI_add, pk_mul, nm_eq, nm_eq', nm_lt, nm_lt', nm_le, nm_le', x_lt, x_le, x_eq, x_in, x_cl, x_div, x_sub, x_rem, x_min, x_max, x_and, x_or, x_xor, x_df, x_shl, bI_0, bI_1, bI_bo, lg_eq, toL_inj, ls_nI, decide_eq_false_iff_not, decide_eq_true_eq, Bool.true_eq_false, Bool.false_eq_true, bq, if_pos, if_neg, if_true, if_false, lq, Nat.reduceAdd, Nat.reduceMul, Nat.reduceSub, Nat.reduceDiv, Nat.reduceMod, i2, j2, a2, b2, c2, c3]
      · refine Or.inr ⟨S2, M2, ?_, ?_, b3, a5.tr b4, a6.tr b5⟩
        · unfold fX7_readUnit; simp (disch := omega) only [lit, lm1, nI_add, pk_mul, nm_eq, nm_eq', nm_lt, nm_lt', nm_le, nm_le', x_lt, x_le, x_eq, x_in, x_cl, x_div, x_sub, x_rem, x_min, x_max, x_and, x_or, x_xor, x_df, x_shl, bI_0, bI_1, bI_bo, lg_eq, toL_inj, ls_nI, decide_eq_false_iff_not, decide_eq_true_eq, Bool.true_eq_false, Bool.false_eq_true, bq, if_pos, if_neg, if_true, if_false, lq, Nat.reduceAdd, Nat.reduceMul, Nat.reduceSub, Nat.reduceDiv, Nat.reduceMod, i1, j1, a1, b1]
        · unfold fX12_readUnit; simp (disch := omega) only [lit, lm1, nI_add, pk_mul, nm_eq, nm_eq', nm_lt, nm_lt', nm_le, nm_le', x_lt, x_le, x_eq, x_in, x_cl, x_div, x_sub, x_rem, x_min, x_max, x_and, x_or, x_xor, x_df, x_shl, bI_0, bI_1, bI_bo, lg_eq, toL_inj, ls_nI, decide_eq_false_iff_not, decide_eq_true_eq, Bool.true_eq_false, Bool.false_eq_true, bq, if_pos, if_neg, if_true, if_false, lq, Nat.reduceAdd, Nat.reduceMul, Nat.reduceSub, Nat.reduceDiv, Nat.reduceMod, i2, j2, a2, b2, f_eats b3.fm, f_fails b3.fm]
    · refine Or.inr ⟨S1, M1, ?_, ?_, a3, a4, a5⟩
      · unfold fX7_readUnit; simp (disch := omega) only [lit, lm1, nI_add, pk_mul, nm_eq, nm_eq', nm_lt, nm_lt', nm_le, nm_le', x_lt, x_le, x_eq, x_in, x_cl, x_div, x_sub, x_rem, x_min, x_max, x_and, x_or, x_xor, x_df, x_shl, bI_0, bI_1, bI_bo, lg_eq, toL_inj, ls_nI, decide_eq_false_iff_not, decide_eq_true_eq, Bool.true_eq_false, Bool.false_eq_true, bq, if_pos, if_neg, if_true, if_false, lq, Nat.reduceAdd, Nat.reduceMul, Nat.reduceSub, Nat.reduceDiv, Nat.reduceMod, i1, j1, a1]
      · unfold fX12_readUnit; simp (disch := omega) only [lit, lm1, nI_add, pk_mul, nm_eq, nm_eq', nm_lt, nm_lt', nm_le, nm_le', x_lt, x_le, x_eq, x_in, x_cl, x_div, x_sub, x_rem, x_min, x_max, x_and, x_or, x_xor, x_df, x_shl, bI_0, bI_1, bI_bo, lg_eq, toL_inj, ls_nI, decide_eq_false_iff_not, decide_eq_true_eq, Bool.true_eq_false, Bool.false_eq_true, bq, if_pos, if_neg, if_true, if_false, lq, Nat.reduceAdd, Nat.reduceMul, Nat.reduceSub, Nat.reduceDiv, Nat.reduceMod, i2, j2, a2]
  rw [decide_eq_false (by omega)] at j1 j2
  have j1 : fX7_isSign (nI 91) S = some (nI 0, S) := j1
  have j2 : fX12_is (nI 37) M = some (nI 0, M) := j2
  obtain ⟨n, rfl⟩ : ∃ k, n = k + 1 := ⟨n - 1, by omega⟩
  have h4 := h4 n rfl
  have gc : ∀ z T, fX7_readComparison (fX7_rec n) (nI d) S = some (z, T) → cpBo z = true → fX7_readUnit (fX7_rec (n + 1)) (nI d) S = some (z, T) := fun z T e eb => by
    have e' : fX7_rec (n + 1) 3 (nI d) S = some (z, T) := by rw [r7_3]; exact e
    unfold fX7_readUnit; simp (disch := omega) only [lit, lm1, nI_add, pk_mul, nm_eq, nm_eq', nm_lt, nm_lt', nm_le, nm_le', x_lt, x_le, x_eq, x_in, x_cl, x_div, x_sub, x_rem, x_min, x_max, x_and, x_or, x_xor, x_df, x_shl, bI_0, bI_1, bI_bo, lg_eq, toL_inj, ls_nI, decide_eq_false_iff_not, decide_eq_true_eq, Bool.true_eq_false, Bool.false_eq_true, bq, if_pos, if_neg, if_true, if_false, lq, Nat.reduceAdd, Nat.reduceMul, Nat.reduceSub, Nat.reduceDiv, Nat.reduceMod, i1, j1, e', eb]
  rcases h4 d m s l S M hd (by omega) (by omega) hl with ⟨s1, k1, S1, M1, a1, a2, a3, a4, a5, a6, a7, a8⟩ | ⟨S1, M1, a1, a2, a3, a4, a5⟩
  · have q1 := a3.rp.isS (i := 9) (by decide)
    have q2 := a3.rp.isS (i := 10) (by decide)
    have q3 := a3.rp.isS (i := 11) (by decide)
    have p1 := a3.rp.mis (w := 39) (by decide)
    have p2 := a3.rp.mis (w := 40) (by decide)
    have p3 := a3.rp.mis (w := 41) (by decide)
    have step : ∀ op, op = 2003 ∨ op = 2004 ∨ op = 2005 → kyE t L s1 ≠ 26 →
        (fX7_readUnit (fX7_rec (n + 1)) (nI d) S = fX7_readUnit (fX7_rec (n + 1)) (nI d) S → fX7_readComparison (fX7_rec n) (nI d) S = fX7_readComparison_64 (fX7_rec n) (nI d) (nI op) S1) →
        fX12_readUnit (fX12_rec m) (nI d) M = fX12_readUnit_139 (fX12_rec m) (nI d) (nI (cpOp op)) M1 → Ot t L s w l true (8 * (6 - d) + 8 - 2) S M (fX7_readUnit (fX7_rec (n + 1)) (nI d) S) (fX12_readUnit (fX12_rec m) (nI d) M) := by
      intro op hop hk e1 e2
      obtain ⟨S2, M2, b1, b2, ⟨s', k, S3, M3, S4, M4, c1, c2, c3, c4, c5, c6, c7, c8, c9, c10⟩ | ⟨S3, M3, c1, c2, c3, c4, c5⟩⟩ := ls_step h4 hd (by omega) (m := m) (by omega) a3 hk (op := op) (by omega)
      · refine Or.inl ⟨s', k1 ++ (k ++ [op]), S4, M4, ?_, ?_, by rw [← List.append_assoc]; exact c5, by omega, by rw [List.length_append]; omega, fun st hst => ?_, a7.tr c9, a8.tr c10⟩
        · refine gc _ _ ((e1 rfl).trans ?_) ho
          unfold fX7_readComparison_64; simp (disch := omega) only [lit, lm1, nI_add, pk_mul, nm_eq, nm_eq', nm_lt, nm_lt', nm_le, nm_le', x_lt, x_le, x_eq, x_in, x_cl, x_div, x_sub, x_rem, x_min, x_max, x_and, x_or, x_xor, x_df, x_shl, bI_0, bI_1, bI_bo, lg_eq, toL_inj, ls_nI, decide_eq_false_iff_not, decide_eq_true_eq, Bool.true_eq_false, Bool.false_eq_true, bq, if_pos, if_neg, if_true, if_false, lq, Nat.reduceAdd, Nat.reduceMul, Nat.reduceSub, Nat.reduceDiv, Nat.reduceMod, b1, c1, c3]
        · rw [e2]; unfold fX12_readUnit_139; simp (disch := omega) only [lit, lm1, nI_add, pk_mul, nm_eq, nm_eq', nm_lt, nm_lt', nm_le, nm_le', x_lt, x_le, x_eq, x_in, x_cl, x_div, x_sub, x_rem, x_min, x_max, x_and, x_or, x_xor, x_df, x_shl, bI_0, bI_1, bI_bo, lg_eq, toL_inj, ls_nI, decide_eq_false_iff_not, decide_eq_true_eq, Bool.true_eq_false, Bool.false_eq_true, bq, if_pos, if_neg, if_true, if_false, lq, Nat.reduceAdd, Nat.reduceMul, Nat.reduceSub, Nat.reduceDiv, Nat.reduceMod, b2, c2, c4]
        · refine snd_app _ (a6 st (by omega)) (snd_app _ (c8 _ (by show st.length + 1 + _ < 90; omega)) (snd_one (by show st.length + 1 + 1 < 90; omega) ?_))
          rcases hop with hop | hop | hop <;> subst hop <;> rfl
      · refine Or.inr ⟨S3, M3, ?_, ?_, c3, a7.tr c4, a8.tr c5⟩
        · refine gc _ _ ((e1 rfl).trans ?_) hz
          unfold fX7_readComparison_64; simp (disch := omega) only [lit, lm1, nI_add, pk_mul, nm_eq, nm_eq', nm_lt, nm_lt', nm_le, nm_le', x_lt, x_le, x_eq, x_in, x_cl, x_div, x_sub, x_rem, x_min, x_max, x_and, x_or, x_xor, x_df, x_shl, bI_0, bI_1, bI_bo, lg_eq, toL_inj, ls_nI, decide_eq_false_iff_not, decide_eq_true_eq, Bool.true_eq_false, Bool.false_eq_true, bq, if_pos, if_neg, if_true, if_false, lq, Nat.reduceAdd, Nat.reduceMul, Nat.reduceSub, Nat.reduceDiv, Nat.reduceMod, b1, c1]
        · rw [e2]; unfold fX12_readUnit_139; simp (disch := omega) only [lit, lm1, nI_add, pk_mul, nm_eq, nm_eq', nm_lt, nm_lt', nm_le, nm_le', x_lt, x_le, x_eq, x_in, x_cl, x_div, x_sub, x_rem, x_min, x_max, x_and, x_or, x_xor, x_df, x_shl, bI_0, bI_1, bI_bo, lg_eq, toL_inj, ls_nI, decide_eq_false_iff_not, decide_eq_true_eq, Bool.true_eq_false, Bool.false_eq_true, bq, if_pos, if_neg, if_true, if_false, lq, Nat.reduceAdd, Nat.reduceMul, Nat.reduceSub, Nat.reduceDiv, Nat.reduceMod, b2, c2, f_codes c3.fm]
    by_cases f1 : kyE t L s1 = 39
    · rw [decide_eq_true f1] at q1 p1
      have q1 : fX7_isSign (nI 61) S1 = some (nI 1, S1) := q1
      have p1 : fX12_is (nI 39) M1 = some (nI 1, M1) := p1
      refine step 2003 (Or.inl rfl) (by omega) (fun _ => ?_) ?_
      · unfold fX7_readComparison; simp (disch := omega) only [lit, lm1, nI_add, pk_mul, nm_eq, nm_eq', nm_lt, nm_lt', nm_le, nm_le', x_lt, x_le, x_eq, x_in, x_cl, x_div, x_sub, x_rem, x_min, x_max, x_and, x_or, x_xor, x_df, x_shl, bI_0, bI_1, bI_bo, lg_eq, toL_inj, ls_nI, decide_eq_false_iff_not, decide_eq_true_eq, Bool.true_eq_false, Bool.false_eq_true, bq, if_pos, if_neg, if_true, if_false, lq, Nat.reduceAdd, Nat.reduceMul, Nat.reduceSub, Nat.reduceDiv, Nat.reduceMod, a1, q1]
      · unfold fX12_readUnit; simp (disch := omega) only [lit, lm1, nI_add, pk_mul, nm_eq, nm_eq', nm_lt, nm_lt', nm_le, nm_le', x_lt, x_le, x_eq, x_in, x_cl, x_div, x_sub, x_rem, x_min, x_max, x_and, x_or, x_xor, x_df, x_shl, bI_0, bI_1, bI_bo, lg_eq, toL_inj, ls_nI, decide_eq_false_iff_not, decide_eq_true_eq, Bool.true_eq_false, Bool.false_eq_true, bq, if_pos, if_neg, if_true, if_false, lq, Nat.reduceAdd, Nat.reduceMul, Nat.reduceSub, Nat.reduceDiv, Nat.reduceMod, i2, j2, a2, p1]; unfold fX12_readUnit_111; simp (disch := omega) only [lit, lm1, nI_add, pk_mul, nm_eq, nm_eq', nm_lt, nm_lt', nm_le, nm_le', x_lt, x_le, x_eq, x_in, x_cl, x_div, x_sub, x_rem, x_min, x_max, x_and, x_or, x_xor, x_df, x_shl, bI_0, bI_1, bI_bo, lg_eq, toL_inj, ls_nI, decide_eq_false_iff_not, decide_eq_true_eq, Bool.true_eq_false, Bool.false_eq_true, bq, if_pos, if_neg, if_true, if_false, lq, Nat.reduceAdd, Nat.reduceMul, Nat.reduceSub, Nat.reduceDiv, Nat.reduceMod, p1]; rfl
    rw [decide_eq_false (by omega)] at q1 p1
    have q1 : fX7_isSign (nI 61) S1 = some (nI 0, S1) := q1
    have p1 : fX12_is (nI 39) M1 = some (nI 0, M1) := p1
    by_cases f2 : kyE t L s1 = 40
    · rw [decide_eq_true f2] at q2 p2
      have q2 : fX7_isSign (nI 60) S1 = some (nI 1, S1) := q2
      have p2 : fX12_is (nI 40) M1 = some (nI 1, M1) := p2
      refine step 2004 (Or.inr (Or.inl rfl)) (by omega) (fun _ => ?_) ?_
      · unfold fX7_readComparison; simp (disch := omega) only [lit, lm1, nI_add, pk_mul, nm_eq, nm_eq', nm_lt, nm_lt', nm_le, nm_le', x_lt, x_le, x_eq, x_in, x_cl, x_div, x_sub, x_rem, x_min, x_max, x_and, x_or, x_xor, x_df, x_shl, bI_0, bI_1, bI_bo, lg_eq, toL_inj, ls_nI, decide_eq_false_iff_not, decide_eq_true_eq, Bool.true_eq_false, Bool.false_eq_true, bq, if_pos, if_neg, if_true, if_false, lq, Nat.reduceAdd, Nat.reduceMul, Nat.reduceSub, Nat.reduceDiv, Nat.reduceMod, a1, q1, q2]
      · unfold fX12_readUnit; simp (disch := omega) only [lit, lm1, nI_add, pk_mul, nm_eq, nm_eq', nm_lt, nm_lt', nm_le, nm_le', x_lt, x_le, x_eq, x_in, x_cl, x_div, x_sub, x_rem, x_min, x_max, x_and, x_or, x_xor, x_df, x_shl, bI_0, bI_1, bI_bo, lg_eq, toL_inj, ls_nI, decide_eq_false_iff_not, decide_eq_true_eq, Bool.true_eq_false, Bool.false_eq_true, bq, if_pos, if_neg, if_true, if_false, lq, Nat.reduceAdd, Nat.reduceMul, Nat.reduceSub, Nat.reduceDiv, Nat.reduceMod, i2, j2, a2, p1, p2]; unfold fX12_readUnit_111; simp (disch := omega) only [lit, lm1, nI_add, pk_mul, nm_eq, nm_eq', nm_lt, nm_lt', nm_le, nm_le', x_lt, x_le, x_eq, x_in, x_cl, x_div, x_sub, x_rem, x_min, x_max, x_and, x_or, x_xor, x_df, x_shl, bI_0, bI_1, bI_bo, lg_eq, toL_inj, ls_nI, decide_eq_false_iff_not, decide_eq_true_eq, Bool.true_eq_false, Bool.false_eq_true, bq, if_pos, if_neg, if_true, if_false, lq, Nat.reduceAdd, Nat.reduceMul, Nat.reduceSub, Nat.reduceDiv, Nat.reduceMod, p1, p2]; rfl
    rw [decide_eq_false (by omega)] at q2 p2
    have q2 : fX7_isSign (nI 60) S1 = some (nI 0, S1) := q2
    have p2 : fX12_is (nI 40) M1 = some (nI 0, M1) := p2
    by_cases f3 : kyE t L s1 = 41
    · rw [decide_eq_true f3] at q3 p3
      have q3 : fX7_isSign (nI 62) S1 = some (nI 1, S1) := q3
      have p3 : fX12_is (nI 41) M1 = some (nI 1, M1) := p3
      refine step 2005 (Or.inr (Or.inr rfl)) (by omega) (fun _ => ?_) ?_
      · unfold fX7_readComparison; simp (disch := omega) only [lit, lm1, nI_add, pk_mul, nm_eq, nm_eq', nm_lt, nm_lt', nm_le, nm_le', x_lt, x_le, x_eq, x_in, x_cl, x_div, x_sub, x_rem, x_min, x_max, x_and, x_or, x_xor, x_df, x_shl, bI_0, bI_1, bI_bo, lg_eq, toL_inj, ls_nI, decide_eq_false_iff_not, decide_eq_true_eq, Bool.true_eq_false, Bool.false_eq_true, bq, if_pos, if_neg, if_true, if_false, lq, Nat.reduceAdd, Nat.reduceMul, Nat.reduceSub, Nat.reduceDiv, Nat.reduceMod, a1, q1, q2, q3]
      · unfold fX12_readUnit; simp (disch := omega) only [lit, lm1, nI_add, pk_mul, nm_eq, nm_eq', nm_lt, nm_lt', nm_le, nm_le', x_lt, x_le, x_eq, x_in, x_cl, x_div, x_sub, x_rem, x_min, x_max, x_and, x_or, x_xor, x_df, x_shl, bI_0, bI_1, bI_bo, lg_eq, toL_inj, ls_nI, decide_eq_false_iff_not, decide_eq_true_eq, Bool.true_eq_false, Bool.false_eq_true, bq, if_pos, if_neg, if_true, if_false, lq, Nat.reduceAdd, Nat.reduceMul, Nat.reduceSub, Nat.reduceDiv, Nat.reduceMod, i2, j2, a2, p1, p2]; unfold fX12_readUnit_111; simp (disch := omega) only [lit, lm1, nI_add, pk_mul, nm_eq, nm_eq', nm_lt, nm_lt', nm_le, nm_le', x_lt, x_le, x_eq, x_in, x_cl, x_div, x_sub, x_rem, x_min, x_max, x_and, x_or, x_xor, x_df, x_shl, bI_0, bI_1, bI_bo, lg_eq, toL_inj, ls_nI, decide_eq_false_iff_not, decide_eq_true_eq, Bool.true_eq_false, Bool.false_eq_true, bq, if_pos, if_neg, if_true, if_false, lq, Nat.reduceAdd, Nat.reduceMul, Nat.reduceSub, Nat.reduceDiv, Nat.reduceMod, p1, p2, p3]; rfl
    rw [decide_eq_false (by omega)] at q3 p3
    have q3 : fX7_isSign (nI 62) S1 = some (nI 0, S1) := q3
    have p3 : fX12_is (nI 41) M1 = some (nI 0, M1) := p3
    obtain ⟨S2, M2, r1, r2, r3, r4, r5⟩ := a3.rp.refu (f := 2) (by decide) (by decide)
    refine Or.inr ⟨S2, M2, ?_, ?_, r3, a7.tr (kRc.le r4), a8.tr (kRm.le r5)⟩
    · refine gc _ _ ?_ hz
      unfold fX7_readComparison; simp (disch := omega) only [lit, lm1, nI_add, pk_mul, nm_eq, nm_eq', nm_lt, nm_lt', nm_le, nm_le', x_lt, x_le, x_eq, x_in, x_cl, x_div, x_sub, x_rem, x_min, x_max, x_and, x_or, x_xor, x_df, x_shl, bI_0, bI_1, bI_bo, lg_eq, toL_inj, ls_nI, decide_eq_false_iff_not, decide_eq_true_eq, Bool.true_eq_false, Bool.false_eq_true, bq, if_pos, if_neg, if_true, if_false, lq, Nat.reduceAdd, Nat.reduceMul, Nat.reduceSub, Nat.reduceDiv, Nat.reduceMod, a1, q1, q2, q3, r1, hz]
    · unfold fX12_readUnit; simp (disch := omega) only [lit, lm1, nI_add, pk_mul, nm_eq, nm_eq', nm_lt, nm_lt', nm_le, nm_le', x_lt, x_le, x_eq, x_in, x_cl, x_div, x_sub, x_rem, x_min, x_max, x_and, x_or, x_xor, x_df, x_shl, bI_0, bI_1, bI_bo, lg_eq, toL_inj, ls_nI, decide_eq_false_iff_not, decide_eq_true_eq, Bool.true_eq_false, Bool.false_eq_true, bq, if_pos, if_neg, if_true, if_false, lq, Nat.reduceAdd, Nat.reduceMul, Nat.reduceSub, Nat.reduceDiv, Nat.reduceMod, i2, j2, a2, p1, p2]; unfold fX12_readUnit_111; simp (disch := omega) only [lit, lm1, nI_add, pk_mul, nm_eq, nm_eq', nm_lt, nm_lt', nm_le, nm_le', x_lt, x_le, x_eq, x_in, x_cl, x_div, x_sub, x_rem, x_min, x_max, x_and, x_or, x_xor, x_df, x_shl, bI_0, bI_1, bI_bo, lg_eq, toL_inj, ls_nI, decide_eq_false_iff_not, decide_eq_true_eq, Bool.true_eq_false, Bool.false_eq_true, bq, if_pos, if_neg, if_true, if_false, lq, Nat.reduceAdd, Nat.reduceMul, Nat.reduceSub, Nat.reduceDiv, Nat.reduceMod, p1, p2, p3, r2, f_3g r3.fm, f_codes r3.fm]
  · refine Or.inr ⟨S1, M1, ?_, ?_, a3, a4, a5⟩
    · refine gc _ _ ?_ hz
      unfold fX7_readComparison; simp (disch := omega) only [lit, lm1, nI_add, pk_mul, nm_eq, nm_eq', nm_lt, nm_lt', nm_le, nm_le', x_lt, x_le, x_eq, x_in, x_cl, x_div, x_sub, x_rem, x_min, x_max, x_and, x_or, x_xor, x_df, x_shl, bI_0, bI_1, bI_bo, lg_eq, toL_inj, ls_nI, decide_eq_false_iff_not, decide_eq_true_eq, Bool.true_eq_false, Bool.false_eq_true, bq, if_pos, if_neg, if_true, if_false, lq, Nat.reduceAdd, Nat.reduceMul, Nat.reduceSub, Nat.reduceDiv, Nat.reduceMod, a1]
    · unfold fX12_readUnit; simp (disch := omega) only [lit, lm1, nI_add, pk_mul, nm_eq, nm_eq', nm_lt, nm_lt', nm_le, nm_le', x_lt, x_le, x_eq, x_in, x_cl, x_div, x_sub, x_rem, x_min, x_max, x_and, x_or, x_xor, x_df, x_shl, bI_0, bI_1, bI_bo, lg_eq, toL_inj, ls_nI, decide_eq_false_iff_not, decide_eq_true_eq, Bool.true_eq_false, Bool.false_eq_true, bq, if_pos, if_neg, if_true, if_false, lq, Nat.reduceAdd, Nat.reduceMul, Nat.reduceSub, Nat.reduceDiv, Nat.reduceMod, i2, j2, a2, f_is a3.fm]; unfold fX12_readUnit_111; simp (disch := omega) only [lit, lm1, nI_add, pk_mul, nm_eq, nm_eq', nm_lt, nm_lt', nm_le, nm_le', x_lt, x_le, x_eq, x_in, x_cl, x_div, x_sub, x_rem, x_min, x_max, x_and, x_or, x_xor, x_df, x_shl, bI_0, bI_1, bI_bo, lg_eq, toL_inj, ls_nI, decide_eq_false_iff_not, decide_eq_true_eq, Bool.true_eq_false, Bool.false_eq_true, bq, if_pos, if_neg, if_true, if_false, lq, Nat.reduceAdd, Nat.reduceMul, Nat.reduceSub, Nat.reduceDiv, Nat.reduceMod, f_is a3.fm, f_fails a3.fm, f_3g a3.fm, f_codes a3.fm]
end UN
