/-! takers, side by side; the reference once it has failed -/
def Fm (M : cpS) : Prop := M.1 150 11 ≠ nI 0
theorem Fp.fm {S M : cpS} (h : Fp S M) : Fm M := by
  obtain ⟨f, h1, h2, -, h4, -⟩ := h
  unfold Fm
  rw [h4]
  intro e
  have : ∀ f, f < 5 → nI f = nI 0 → f = 0 := by decide
  have := this f h2 e
  omega
section FM
variable {M : cpS}
theorem f_is (h : Fm M) (x : Int32) : fX12_is x M = some (nI 0, M) := by
  have h' : (M.1 150 11 = nI 0) = False := eq_false h
  unfold fX12_is; simp (disch := omega) only [lit, lm1, nI_add, pk_mul, nm_eq, nm_eq', nm_lt, nm_lt', nm_le, nm_le', x_lt, x_le, x_eq, x_in, x_cl, x_div, x_sub, x_rem, x_min, x_max, x_and, x_or, x_xor, x_df, x_shl, bI_0, bI_1, bI_bo, lg_eq, toL_inj, ls_nI, decide_eq_false_iff_not, decide_eq_true_eq, Bool.true_eq_false, Bool.false_eq_true, bq, if_pos, if_neg, if_true, if_false, lq, Nat.reduceAdd, Nat.reduceMul, Nat.reduceSub, Nat.reduceDiv, Nat.reduceMod, h']
theorem f_eats (h : Fm M) (x : Int32) : fX12_eats x M = some (nI 0, M) := by
  unfold fX12_eats; simp (disch := omega) only [lit, lm1, nI_add, pk_mul, nm_eq, nm_eq', nm_lt, nm_lt', nm_le, nm_le', x_lt, x_le, x_eq, x_in, x_cl, x_div, x_sub, x_rem, x_min, x_max, x_and, x_or, x_xor, x_df, x_shl, bI_0, bI_1, bI_bo, lg_eq, toL_inj, ls_nI, decide_eq_false_iff_not, decide_eq_true_eq, Bool.true_eq_false, Bool.false_eq_true, bq, if_pos, if_neg, if_true, if_false, lq, Nat.reduceAdd, Nat.reduceMul, Nat.reduceSub, Nat.reduceDiv, Nat.reduceMod, f_is h]
theorem f_fails (h : Fm M) (x : Int32) : fX12_fails x M = some ((), M) := by
  have h' : (M.1 150 11 = nI 0) = False := eq_false h
  unfold fX12_fails; simp (disch := omega) only [lit, lm1, nI_add, pk_mul, nm_eq, nm_eq', nm_lt, nm_lt', nm_le, nm_le', x_lt, x_le, x_eq, x_in, x_cl, x_div, x_sub, x_rem, x_min, x_max, x_and, x_or, x_xor, x_df, x_shl, bI_0, bI_1, bI_bo, lg_eq, toL_inj, ls_nI, decide_eq_false_iff_not, decide_eq_true_eq, Bool.true_eq_false, Bool.false_eq_true, bq, if_pos, if_neg, if_true, if_false, lq, Nat.reduceAdd, Nat.reduceMul, Nat.reduceSub, Nat.reduceDiv, Nat.reduceMod, h']
theorem f_takes (h : Fm M) (x y : Int32) : fX12_takes x y M = some (M.1 150 10, M) := by
  have h' : (M.1 150 11 = nI 0) = False := eq_false h
  unfold fX12_takes fX12_takes_37; simp (disch := omega) only [lit, lm1, nI_add, pk_mul, nm_eq, nm_eq', nm_lt, nm_lt', nm_le, nm_le', x_lt, x_le, x_eq, x_in, x_cl, x_div, x_sub, x_rem, x_min, x_max, x_and, x_or, x_xor, x_df, x_shl, bI_0, bI_1, bI_bo, lg_eq, toL_inj, ls_nI, decide_eq_false_iff_not, decide_eq_true_eq, Bool.true_eq_false, Bool.false_eq_true, bq, if_pos, if_neg, if_true, if_false, lq, Nat.reduceAdd, Nat.reduceMul, Nat.reduceSub, Nat.reduceDiv, Nat.reduceMod, f_is h, f_fails h, h']
theorem f_other (h : Fm M) (x y : Int32) : fX12_takesOther x y M = some (M.1 150 10, M) := by
  unfold fX12_takesOther; simp (disch := omega) only [lit, lm1, nI_add, pk_mul, nm_eq, nm_eq', nm_lt, nm_lt', nm_le, nm_le', x_lt, x_le, x_eq, x_in, x_cl, x_div, x_sub, x_rem, x_min, x_max, x_and, x_or, x_xor, x_df, x_shl, bI_0, bI_1, bI_bo, lg_eq, toL_inj, ls_nI, decide_eq_false_iff_not, decide_eq_true_eq, Bool.true_eq_false, Bool.false_eq_true, bq, if_pos, if_neg, if_true, if_false, lq, Nat.reduceAdd, Nat.reduceMul, Nat.reduceSub, Nat.reduceDiv, Nat.reduceMod, f_is h, f_takes h]
theorem f_named (h : Fm M) (x y z : Int32) : fX12_named x y z M = some (M.1 150 10, M) := by
  unfold fX12_named; simp (disch := omega) only [lit, lm1, nI_add, pk_mul, nm_eq, nm_eq', nm_lt, nm_lt', nm_le, nm_le', x_lt, x_le, x_eq, x_in, x_cl, x_div, x_sub, x_rem, x_min, x_max, x_and, x_or, x_xor, x_df, x_shl, bI_0, bI_1, bI_bo, lg_eq, toL_inj, ls_nI, decide_eq_false_iff_not, decide_eq_true_eq, Bool.true_eq_false, Bool.false_eq_true, bq, if_pos, if_neg, if_true, if_false, lq, Nat.reduceAdd, Nat.reduceMul, Nat.reduceSub, Nat.reduceDiv, Nat.reduceMod, f_eats h, f_fails h, f_takes h]
theorem f_codes (h : Fm M) (x : Int32) : fX12_codes x M = some ((), M) := by
  have h' : (M.1 150 11 = nI 0) = False := eq_false h
  unfold fX12_codes; simp (disch := omega) only [lit, lm1, nI_add, pk_mul, nm_eq, nm_eq', nm_lt, nm_lt', nm_le, nm_le', x_lt, x_le, x_eq, x_in, x_cl, x_div, x_sub, x_rem, x_min, x_max, x_and, x_or, x_xor, x_df, x_shl, bI_0, bI_1, bI_bo, lg_eq, toL_inj, ls_nI, decide_eq_false_iff_not, decide_eq_true_eq, Bool.true_eq_false, Bool.false_eq_true, bq, if_pos, if_neg, if_true, if_false, lq, Nat.reduceAdd, Nat.reduceMul, Nat.reduceSub, Nat.reduceDiv, Nat.reduceMod, h']
theorem f_goesIn (h : Fm M) (x : Int32) : fX12_goesIn x M = some (nI 0, M) := by
  have h' : (M.1 150 11 = nI 0) = False := eq_false h
  unfold fX12_goesIn fX12_goesIn_11
  by_cases e : x = nI 6
  · subst e
    simp (disch := omega) only [lit, lm1, nI_add, pk_mul, nm_eq, nm_eq', nm_lt, nm_lt', nm_le, nm_le', x_lt, x_le, x_eq, x_in, x_cl, x_div, x_sub, x_rem, x_min, x_max, x_and, x_or, x_xor, x_df, x_shl, bI_0, bI_1, bI_bo, lg_eq, toL_inj, ls_nI, decide_eq_false_iff_not, decide_eq_true_eq, Bool.true_eq_false, Bool.false_eq_true, bq, if_pos, if_neg, if_true, if_false, lq, Nat.reduceAdd, Nat.reduceMul, Nat.reduceSub, Nat.reduceDiv, Nat.reduceMod, f_fails h, h']
  · simp (disch := omega) only [lit, lm1, nI_add, pk_mul, nm_eq, nm_eq', nm_lt, nm_lt', nm_le, nm_le', x_lt, x_le, x_eq, x_in, x_cl, x_div, x_sub, x_rem, x_min, x_max, x_and, x_or, x_xor, x_df, x_shl, bI_0, bI_1, bI_bo, lg_eq, toL_inj, ls_nI, decide_eq_false_iff_not, decide_eq_true_eq, Bool.true_eq_false, Bool.false_eq_true, bq, if_pos, if_neg, if_true, if_false, lq, Nat.reduceAdd, Nat.reduceMul, Nat.reduceSub, Nat.reduceDiv, Nat.reduceMod, e, h']
end FM
section TA
variable {S M : cpS} {t : Nat → Nat} {L s : Nat}
theorem k115.le {S S' : cpS} (h : Kp k115 S S') : Kp kRc S S' := h.le (fun q j h => by obtain ⟨h1, h2⟩ := h; exact ⟨h1, by omega, by omega, by omega⟩)
theorem k150.le {S S' : cpS} (h : Kp k150 S S') : Kp kRm S S' := h.le (fun q j h => by obtain ⟨h1, h2⟩ := h; exact ⟨h1, by omega, by omega, by omega⟩)
/-- both go on at a later token -/
def Go (t : Nat → Nat) (L s : Nat) (S M S' M' : cpS) : Prop := ∃ s', Rp t L s' S' M' ∧ s < s' ∧ Kp kRc S S' ∧ Kp kRm M M'
/-- both have failed alike -/
def Fl (S M S' M' : cpS) : Prop := Fp S' M' ∧ Kp kRc S S' ∧ Kp kRm M M'
theorem kWd_b {k : Nat} (k1 : 1 ≤ k) (k2 : k < 24) : kWd k < 23 := (txK k k2 k1).1
theorem Rp.word (h : Rp t L s S M) {k : Nat} (k1 : 1 ≤ k) (k2 : k < 24) :
    (∃ S' M', fX7_takeWord k S = some (nI 1, S') ∧ fX12_eats (nI (kWd k)) M = some (nI 1, M') ∧ Go t L s S M S' M') ∨
    (∃ S' M', fX7_takeWord k S = some (nI 0, S') ∧ fX12_eats (nI (kWd k)) M = some (nI 0, M) ∧ fX12_fails (nI 2) M = some ((), M') ∧ Fl S M S' M') := by
  have kb := kWd_b k1 k2
  have i1 := h.isW k1 k2
  have i2 := h.mis (w := kWd k) (by omega)
  unfold fX7_takeWord fX12_eats
  by_cases e : kyE t L s = kWd k
  · rw [decide_eq_true e] at i1 i2
    have i1 : fX7_isWord k S = some (nI 1, S) := i1
    have i2 : fX12_is (nI (kWd k)) M = some (nI 1, M) := i2
    obtain ⟨s', S', M', a1, a2, a3, a4, a5, a6⟩ := h.adv (by omega)
    refine Or.inl ⟨S', M', ?_, ?_, s', a3, a4, k115.le a5, k150.le a6⟩
    · simp (disch := omega) only [lit, lm1, nI_add, pk_mul, nm_eq, nm_eq', nm_lt, nm_lt', nm_le, nm_le', x_lt, x_le, x_eq, x_in, x_cl, x_div, x_sub, x_rem, x_min, x_max, x_and, x_or, x_xor, x_df, x_shl, bI_0, bI_1, bI_bo, lg_eq, toL_inj, ls_nI, decide_eq_false_iff_not, decide_eq_true_eq, Bool.true_eq_false, Bool.false_eq_true, bq, if_pos, if_neg, if_true, if_false, lq, Nat.reduceAdd, Nat.reduceMul, Nat.reduceSub, Nat.reduceDiv, Nat.reduceMod, i1, a1]
    · simp (disch := omega) only [lit, lm1, nI_add, pk_mul, nm_eq, nm_eq', nm_lt, nm_lt', nm_le, nm_le', x_lt, x_le, x_eq, x_in, x_cl, x_div, x_sub, x_rem, x_min, x_max, x_and, x_or, x_xor, x_df, x_shl, bI_0, bI_1, bI_bo, lg_eq, toL_inj, ls_nI, decide_eq_false_iff_not, decide_eq_true_eq, Bool.true_eq_false, Bool.false_eq_true, bq, if_pos, if_neg, if_true, if_false, lq, Nat.reduceAdd, Nat.reduceMul, Nat.reduceSub, Nat.reduceDiv, Nat.reduceMod, i2, a2]
  · rw [decide_eq_false e] at i1 i2
    have i1 : fX7_isWord k S = some (nI 0, S) := i1
    have i2 : fX12_is (nI (kWd k)) M = some (nI 0, M) := i2
    obtain ⟨S', M', a1, a2, a3, a4, a5⟩ := h.refu (f := 2) (by decide) (by decide)
    refine Or.inr ⟨S', M', ?_, ?_, a2, a3, a4, a5⟩
    · have hz : cpBo (nI 0) = true := by decide
      simp (disch := omega) only [lit, lm1, nI_add, pk_mul, nm_eq, nm_eq', nm_lt, nm_lt', nm_le, nm_le', x_lt, x_le, x_eq, x_in, x_cl, x_div, x_sub, x_rem, x_min, x_max, x_and, x_or, x_xor, x_df, x_shl, bI_0, bI_1, bI_bo, lg_eq, toL_inj, ls_nI, decide_eq_false_iff_not, decide_eq_true_eq, Bool.true_eq_false, Bool.false_eq_true, bq, if_pos, if_neg, if_true, if_false, lq, Nat.reduceAdd, Nat.reduceMul, Nat.reduceSub, Nat.reduceDiv, Nat.reduceMod, i1, a1, hz]
    · simp (disch := omega) only [lit, lm1, nI_add, pk_mul, nm_eq, nm_eq', nm_lt, nm_lt', nm_le, nm_le', x_lt, x_le, x_eq, x_in, x_cl, x_div, x_sub, x_rem, x_min, x_max, x_and, x_or, x_xor, x_df, x_shl, bI_0, bI_1, bI_bo, lg_eq, toL_inj, ls_nI, decide_eq_false_iff_not, decide_eq_true_eq, Bool.true_eq_false, Bool.false_eq_true, bq, if_pos, if_neg, if_true, if_false, lq, Nat.reduceAdd, Nat.reduceMul, Nat.reduceSub, Nat.reduceDiv, Nat.reduceMod, i2]
theorem Rp.sign (h : Rp t L s S M) {i : Nat} (hi : i < 12) :
    (∃ S' M', fX7_takeSign (nI (sgN i)) S = some (nI 1, S') ∧ fX12_eats (nI (30 + i)) M = some (nI 1, M') ∧ Go t L s S M S' M') ∨
    (∃ S' M', fX7_takeSign (nI (sgN i)) S = some (nI 0, S') ∧ fX12_eats (nI (30 + i)) M = some (nI 0, M) ∧ fX12_fails (nI 2) M = some ((), M') ∧ Fl S M S' M') := by
  have i1 := h.isS hi
  have i2 := h.mis (w := 30 + i) (by omega)
  unfold fX7_takeSign fX12_eats
  by_cases e : kyE t L s = 30 + i
  · rw [decide_eq_true e] at i1 i2
    have i1 : fX7_isSign (nI (sgN i)) S = some (nI 1, S) := i1
    have i2 : fX12_is (nI (30 + i)) M = some (nI 1, M) := i2
    obtain ⟨s', S', M', a1, a2, a3, a4, a5, a6⟩ := h.adv (by omega)
    refine Or.inl ⟨S', M', ?_, ?_, s', a3, a4, k115.le a5, k150.le a6⟩
    · simp (disch := omega) only [lit, lm1, nI_add, pk_mul, nm_eq, nm_eq', nm_lt, nm_lt', nm_le, nm_le', x_lt, x_le, x_eq, x_in, x_cl, x_div, x_sub, x_rem, x_min, x_max, x_and, x_or, x_xor, x_df, x_shl, bI_0, bI_1, bI_bo, lg_eq, toL_inj, ls_nI, decide_eq_false_iff_not, decide_eq_true_eq, Bool.true_eq_false, Bool.false_eq_true, bq, if_pos, if_neg, if_true, if_false, lq, Nat.reduceAdd, Nat.reduceMul, Nat.reduceSub, Nat.reduceDiv, Nat.reduceMod, i1, a1]
    · simp (disch := omega) only [lit, lm1, nI_add, pk_mul, nm_eq, nm_eq', nm_lt, nm_lt', nm_le, nm_le', x_lt, x_le, x_eq, x_in, x_cl, x_div, x_sub, x_rem, x_min, x_max, x_and, x_or, x_xor, x_df, x_shl, bI_0, bI_1, bI_bo, lg_eq, toL_inj, ls_nI, decide_eq_false_iff_not, decide_eq_true_eq, Bool.true_eq_false, Bool.false_eq_true, bq, if_pos, if_neg, if_true, if_false, lq, Nat.reduceAdd, Nat.reduceMul, Nat.reduceSub, Nat.reduceDiv, Nat.reduceMod, i2, a2]
  · rw [decide_eq_false e] at i1 i2
    have i1 : fX7_isSign (nI (sgN i)) S = some (nI 0, S) := i1
    have i2 : fX12_is (nI (30 + i)) M = some (nI 0, M) := i2
    obtain ⟨S', M', a1, a2, a3, a4, a5⟩ := h.refu (f := 2) (by decide) (by decide)
    refine Or.inr ⟨S', M', ?_, ?_, a2, a3, a4, a5⟩
    · have hz : cpBo (nI 0) = true := by decide
      simp (disch := omega) only [lit, lm1, nI_add, pk_mul, nm_eq, nm_eq', nm_lt, nm_lt', nm_le, nm_le', x_lt, x_le, x_eq, x_in, x_cl, x_div, x_sub, x_rem, x_min, x_max, x_and, x_or, x_xor, x_df, x_shl, bI_0, bI_1, bI_bo, lg_eq, toL_inj, ls_nI, decide_eq_false_iff_not, decide_eq_true_eq, Bool.true_eq_false, Bool.false_eq_true, bq, if_pos, if_neg, if_true, if_false, lq, Nat.reduceAdd, Nat.reduceMul, Nat.reduceSub, Nat.reduceDiv, Nat.reduceMod, i1, a1, hz]
    · simp (disch := omega) only [lit, lm1, nI_add, pk_mul, nm_eq, nm_eq', nm_lt, nm_lt', nm_le, nm_le', x_lt, x_le, x_eq, x_in, x_cl, x_div, x_sub, x_rem, x_min, x_max, x_and, x_or, x_xor, x_df, x_shl, bI_0, bI_1, bI_bo, lg_eq, toL_inj, ls_nI, decide_eq_false_iff_not, decide_eq_true_eq, Bool.true_eq_false, Bool.false_eq_true, bq, if_pos, if_neg, if_true, if_false, lq, Nat.reduceAdd, Nat.reduceMul, Nat.reduceSub, Nat.reduceDiv, Nat.reduceMod, i2]
/-- an upper bound that may be -1: numbers below B -/
def uB (x : Int32) (B : Nat) : Prop := B ≤ 100 ∧ x.toInt = (B : Int) - 1
theorem uB.n {B : Nat} (h : B < 100) : uB (nI B) (B + 1) := ⟨h, by rw [nI_toInt (by omega)]; omega⟩
theorem uB.m {B : Nat} (h : B ≤ 100) : uB (nI B - nI 1) B := by
  exact ⟨h, pk_sub_toInt (a := B) (b := 1) (by omega) (by decide)⟩
theorem uB.lt {x : Int32} {B v : Nat} (h : uB x B) (hv : v < 1000) : (x < nI v) = (B ≤ v) := propext (by rw [i_lt, h.2, nI_toInt (by omega)]; omega)
theorem uB.win {x : Int32} {B v a : Nat} (h : uB x B) (hv : v < 1000) (ha : a < 1000) (S : cpS) : fX12_within (Int32.toInt64 (nI v)) (Int32.toInt64 (nI a)) (Int32.toInt64 x) S = some (bI (decide (a ≤ v ∧ v < B)), S) := by
  have i1 : (Int32.toInt64 (nI a) ≤ Int32.toInt64 (nI v)) ↔ a ≤ v := by
    rw [l_le, i2l_toInt, i2l_toInt, nI_toInt (by omega), nI_toInt (by omega)]; omega
  have i2 : (Int32.toInt64 (nI v) ≤ Int32.toInt64 x) ↔ v < B := by
    rw [l_le, i2l_toInt, i2l_toInt, nI_toInt (by omega), h.2]; omega
  rw [e_within]
  by_cases e : a ≤ v ∧ v < B
  · rw [if_pos ⟨i1.mpr e.1, i2.mpr e.2⟩, decide_eq_true e]; rfl
  · rw [if_neg (fun q => e ⟨i1.mp q.1, i2.mp q.2⟩), decide_eq_false e]; rfl
/-- what takes a number: class with the one barred (x3: a number, or none), the reference's -/
theorem Rp.num (h : Rp t L s S M) {a B : Nat} {x2 x3 : Int32} (ha : a < 1000) (hb : uB x2 B) (hx : x3 = nM ∨ ∃ o, o < 1000 ∧ x3 = nI o) {m : cpS → Option (Int32 × cpS)}
    (hm : (x3 = nM ∧ m = fun M => fX12_takes (nI a) x2 M) ∨ (a = 0 ∧ (∃ o, o < 1000 ∧ x3 = nI o) ∧ m = fun M => fX12_takesOther x3 x2 M)) :
    (∃ v S' M', a ≤ v ∧ v < B ∧ (nI v ≠ x3) ∧ fX7_takeNumber (nI a) x2 x3 S = some (nI 1, S') ∧ m M = some (nI v, M') ∧ S'.1 115 10 = nI v ∧ Go t L s S M S' M') ∨
    (∃ z S' M', fX7_takeNumber (nI a) x2 x3 S = some (nI 0, S') ∧ m M = some (z, M') ∧ Fl S M S' M') := by
  have l9 := h.ct.1
  have h25 := h.mis (w := 25) (by decide)
  have hz : cpBo (nI 0) = true := by decide
  by_cases k2 : (tkE t L s).2 = 2
  · have ek : kyE t L s = 25 := by rcases kyE_kind t L s with q | q | q | q | q <;> omega
    rw [decide_eq_true ek] at h25
    have h25 : fX12_is (nI 25) M = some (nI 1, M) := h25
    have c6 := h.c6
    rw [k2] at c6
    have c9 := h.c9 k2
    have m10 := h.m10 k2
    have hv := nvl_k h.sl k2
    generalize nvl t s ((tkE t L s).1 - s) = v at c9 m10 hv
    obtain ⟨S', M', r1, r2, r3, r4, r5⟩ := h.refu (f := 3) (by decide) (by decide)
    have fm := Fp.fm r3
    by_cases hin : a ≤ v ∧ v < B
    · by_cases hne : nI v = x3
      · right
        have ho : ∃ o, o < 1000 ∧ x3 = nI o := ⟨v, hv, hne.symm⟩
        have hnm : x3 ≠ nM := fun q => by
          have e2 : nI v = nM := hne.trans q
          rw [nm_eq (by omega)] at e2
          exact e2
        rcases hm with ⟨m1, -⟩ | ⟨a0, -, m1⟩
        · exact absurd m1 hnm
        · refine ⟨M'.1 150 10, S', M', ?_, ?_, r3, r4, r5⟩
          · have e1 : ¬ B ≤ v := by omega
            unfold fX7_takeNumber
            simp (disch := omega) only [lit, lm1, nI_add, pk_mul, nm_eq, nm_eq', nm_lt, nm_lt', nm_le, nm_le', x_lt, x_le, x_eq, x_in, x_cl, x_div, x_sub, x_rem, x_min, x_max, x_and, x_or, x_xor, x_df, x_shl, bI_0, bI_1, bI_bo, lg_eq, toL_inj, ls_nI, decide_eq_false_iff_not, decide_eq_true_eq, Bool.true_eq_false, Bool.false_eq_true, bq, if_pos, if_neg, if_true, if_false, lq, Nat.reduceAdd, Nat.reduceMul, Nat.reduceSub, Nat.reduceDiv, Nat.reduceMod, c6, c9, hb.lt hv, e1, hne, r1, hz, eq_self, ite_self]
          · rw [m1]
            show fX12_takesOther x3 x2 M = _
            unfold fX12_takesOther
            simp (disch := omega) only [lit, lm1, nI_add, pk_mul, nm_eq, nm_eq', nm_lt, nm_lt', nm_le, nm_le', x_lt, x_le, x_eq, x_in, x_cl, x_div, x_sub, x_rem, x_min, x_max, x_and, x_or, x_xor, x_df, x_shl, bI_0, bI_1, bI_bo, lg_eq, toL_inj, ls_nI, decide_eq_false_iff_not, decide_eq_true_eq, Bool.true_eq_false, Bool.false_eq_true, bq, if_pos, if_neg, if_true, if_false, lq, Nat.reduceAdd, Nat.reduceMul, Nat.reduceSub, Nat.reduceDiv, Nat.reduceMod, h25, m10, hne, r2, f_takes fm, eq_self]
      · left
        have b1 : Rp t L s (cpI S 115 10 (nI v)) M := h.kp (f := fun q j => q = 115 ∧ j = 10) (g := fun _ _ => False) (Kp.rf.I (by exact ⟨rfl, rfl⟩)) Kp.rf (fun j q => by omega) (fun j _ _ q => by omega) (fun _ q => q) (fun _ _ _ q => q)
        obtain ⟨s', T, N, a1, a2, a3, a4, a5, a6⟩ := b1.adv (by omega)
        have hw := hb.win hv ha M
        rw [decide_eq_true hin] at hw
        have hw : fX12_within (Int32.toInt64 (nI v)) (Int32.toInt64 (nI a)) (Int32.toInt64 x2) M = some (nI 1, M) := hw
        have tk : fX12_takes (nI a) x2 M = some (nI v, N) := by
          unfold fX12_takes fX12_takes_37
          simp (disch := omega) only [lit, lm1, nI_add, pk_mul, nm_eq, nm_eq', nm_lt, nm_lt', nm_le, nm_le', x_lt, x_le, x_eq, x_in, x_cl, x_div, x_sub, x_rem, x_min, x_max, x_and, x_or, x_xor, x_df, x_shl, bI_0, bI_1, bI_bo, lg_eq, toL_inj, ls_nI, decide_eq_false_iff_not, decide_eq_true_eq, Bool.true_eq_false, Bool.false_eq_true, bq, if_pos, if_neg, if_true, if_false, lq, Nat.reduceAdd, Nat.reduceMul, Nat.reduceSub, Nat.reduceDiv, Nat.reduceMod, h25, m10, hw, h.m11, a2]
        refine ⟨v, T, N, hin.1, hin.2, hne, ?_, ?_, ?_, s', a3, a4, (Kp.rf.I (by unfold kRc; decide)).tr (k115.le a5), k150.le a6⟩
        · have e1 : ¬ B ≤ v := by omega
          unfold fX7_takeNumber
          simp (disch := omega) only [lit, lm1, nI_add, pk_mul, nm_eq, nm_eq', nm_lt, nm_lt', nm_le, nm_le', x_lt, x_le, x_eq, x_in, x_cl, x_div, x_sub, x_rem, x_min, x_max, x_and, x_or, x_xor, x_df, x_shl, bI_0, bI_1, bI_bo, lg_eq, toL_inj, ls_nI, decide_eq_false_iff_not, decide_eq_true_eq, Bool.true_eq_false, Bool.false_eq_true, bq, if_pos, if_neg, if_true, if_false, lq, Nat.reduceAdd, Nat.reduceMul, Nat.reduceSub, Nat.reduceDiv, Nat.reduceMod, c6, c9, hb.lt hv, e1, hne, a1]
        · rcases hm with ⟨-, m1⟩ | ⟨a0, -, m1⟩
          · rw [m1]; exact tk
          · rw [m1]
            show fX12_takesOther x3 x2 M = _
            unfold fX12_takesOther
            subst a0
            have tk : fX12_takes (nI 0) x2 M = some (nI v, N) := tk
            simp (disch := omega) only [lit, lm1, nI_add, pk_mul, nm_eq, nm_eq', nm_lt, nm_lt', nm_le, nm_le', x_lt, x_le, x_eq, x_in, x_cl, x_div, x_sub, x_rem, x_min, x_max, x_and, x_or, x_xor, x_df, x_shl, bI_0, bI_1, bI_bo, lg_eq, toL_inj, ls_nI, decide_eq_false_iff_not, decide_eq_true_eq, Bool.true_eq_false, Bool.false_eq_true, bq, if_pos, if_neg, if_true, if_false, lq, Nat.reduceAdd, Nat.reduceMul, Nat.reduceSub, Nat.reduceDiv, Nat.reduceMod, h25, m10, hne, tk]
        · rw [a5.i (by unfold k115; omega), sI1]
    · right
      have hw := hb.win hv ha M
      rw [decide_eq_false hin] at hw
      have hw : fX12_within (Int32.toInt64 (nI v)) (Int32.toInt64 (nI a)) (Int32.toInt64 x2) M = some (nI 0, M) := hw
      have fm' : (M'.1 150 11 = nI 0) = False := eq_false fm
      have tk : fX12_takes (nI a) x2 M = some (M'.1 150 10, M') := by
        unfold fX12_takes fX12_takes_37
        simp (disch := omega) only [lit, lm1, nI_add, pk_mul, nm_eq, nm_eq', nm_lt, nm_lt', nm_le, nm_le', x_lt, x_le, x_eq, x_in, x_cl, x_div, x_sub, x_rem, x_min, x_max, x_and, x_or, x_xor, x_df, x_shl, bI_0, bI_1, bI_bo, lg_eq, toL_inj, ls_nI, decide_eq_false_iff_not, decide_eq_true_eq, Bool.true_eq_false, Bool.false_eq_true, bq, if_pos, if_neg, if_true, if_false, lq, Nat.reduceAdd, Nat.reduceMul, Nat.reduceSub, Nat.reduceDiv, Nat.reduceMod, h25, m10, hw, r2, fm']
      refine ⟨M'.1 150 10, S', M', ?_, ?_, r3, r4, r5⟩
      · unfold fX7_takeNumber
        by_cases e1 : a ≤ v
        · have e2 : B ≤ v := by omega
          simp (disch := omega) only [lit, lm1, nI_add, pk_mul, nm_eq, nm_eq', nm_lt, nm_lt', nm_le, nm_le', x_lt, x_le, x_eq, x_in, x_cl, x_div, x_sub, x_rem, x_min, x_max, x_and, x_or, x_xor, x_df, x_shl, bI_0, bI_1, bI_bo, lg_eq, toL_inj, ls_nI, decide_eq_false_iff_not, decide_eq_true_eq, Bool.true_eq_false, Bool.false_eq_true, bq, if_pos, if_neg, if_true, if_false, lq, Nat.reduceAdd, Nat.reduceMul, Nat.reduceSub, Nat.reduceDiv, Nat.reduceMod, c6, c9, hb.lt hv, e2, r1, hz]
        · simp (disch := omega) only [lit, lm1, nI_add, pk_mul, nm_eq, nm_eq', nm_lt, nm_lt', nm_le, nm_le', x_lt, x_le, x_eq, x_in, x_cl, x_div, x_sub, x_rem, x_min, x_max, x_and, x_or, x_xor, x_df, x_shl, bI_0, bI_1, bI_bo, lg_eq, toL_inj, ls_nI, decide_eq_false_iff_not, decide_eq_true_eq, Bool.true_eq_false, Bool.false_eq_true, bq, if_pos, if_neg, if_true, if_false, lq, Nat.reduceAdd, Nat.reduceMul, Nat.reduceSub, Nat.reduceDiv, Nat.reduceMod, c6, c9, r1, hz]
      · rcases hm with ⟨-, m1⟩ | ⟨a0, -, m1⟩
        · rw [m1]; exact tk
        · rw [m1]
          show fX12_takesOther x3 x2 M = _
          unfold fX12_takesOther
          subst a0
          have tk : fX12_takes (nI 0) x2 M = some (M'.1 150 10, M') := tk
          by_cases hne : nI v = x3
          · simp (disch := omega) only [lit, lm1, nI_add, pk_mul, nm_eq, nm_eq', nm_lt, nm_lt', nm_le, nm_le', x_lt, x_le, x_eq, x_in, x_cl, x_div, x_sub, x_rem, x_min, x_max, x_and, x_or, x_xor, x_df, x_shl, bI_0, bI_1, bI_bo, lg_eq, toL_inj, ls_nI, decide_eq_false_iff_not, decide_eq_true_eq, Bool.true_eq_false, Bool.false_eq_true, bq, if_pos, if_neg, if_true, if_false, lq, Nat.reduceAdd, Nat.reduceMul, Nat.reduceSub, Nat.reduceDiv, Nat.reduceMod, h25, m10, hne, r2, f_takes fm, eq_self]
          · simp (disch := omega) only [lit, lm1, nI_add, pk_mul, nm_eq, nm_eq', nm_lt, nm_lt', nm_le, nm_le', x_lt, x_le, x_eq, x_in, x_cl, x_div, x_sub, x_rem, x_min, x_max, x_and, x_or, x_xor, x_df, x_shl, bI_0, bI_1, bI_bo, lg_eq, toL_inj, ls_nI, decide_eq_false_iff_not, decide_eq_true_eq, Bool.true_eq_false, Bool.false_eq_true, bq, if_pos, if_neg, if_true, if_false, lq, Nat.reduceAdd, Nat.reduceMul, Nat.reduceSub, Nat.reduceDiv, Nat.reduceMod, h25, m10, hne, tk]
  · right
    have ek : kyE t L s ≠ 25 := by rcases kyE_kind t L s with q | q | q | q | q <;> omega
    rw [decide_eq_false ek] at h25
    have h25 : fX12_is (nI 25) M = some (nI 0, M) := h25
    obtain ⟨S', M', r1, r2, r3, r4, r5⟩ := h.refu (f := 2) (by decide) (by decide)
    have fm := Fp.fm r3
    have fm' : (M'.1 150 11 = nI 0) = False := eq_false fm
    have kc : (tkE t L s).2 < 5 := by rcases kyE_kind t L s with q | q | q | q | q <;> omega
    have tk : ∀ y, fX12_takes y x2 M = some (M'.1 150 10, M') := fun y => by
      unfold fX12_takes fX12_takes_37
      simp (disch := omega) only [lit, lm1, nI_add, pk_mul, nm_eq, nm_eq', nm_lt, nm_lt', nm_le, nm_le', x_lt, x_le, x_eq, x_in, x_cl, x_div, x_sub, x_rem, x_min, x_max, x_and, x_or, x_xor, x_df, x_shl, bI_0, bI_1, bI_bo, lg_eq, toL_inj, ls_nI, decide_eq_false_iff_not, decide_eq_true_eq, Bool.true_eq_false, Bool.false_eq_true, bq, if_pos, if_neg, if_true, if_false, lq, Nat.reduceAdd, Nat.reduceMul, Nat.reduceSub, Nat.reduceDiv, Nat.reduceMod, h25, r2, fm']
    refine ⟨M'.1 150 10, S', M', ?_, ?_, r3, r4, r5⟩
    · unfold fX7_takeNumber
      simp (disch := omega) only [lit, lm1, nI_add, pk_mul, nm_eq, nm_eq', nm_lt, nm_lt', nm_le, nm_le', x_lt, x_le, x_eq, x_in, x_cl, x_div, x_sub, x_rem, x_min, x_max, x_and, x_or, x_xor, x_df, x_shl, bI_0, bI_1, bI_bo, lg_eq, toL_inj, ls_nI, decide_eq_false_iff_not, decide_eq_true_eq, Bool.true_eq_false, Bool.false_eq_true, bq, if_pos, if_neg, if_true, if_false, lq, Nat.reduceAdd, Nat.reduceMul, Nat.reduceSub, Nat.reduceDiv, Nat.reduceMod, h.c6, k2, r1, hz]
    · rcases hm with ⟨-, m1⟩ | ⟨a0, -, m1⟩
      · rw [m1]; exact tk _
      · rw [m1]
        show fX12_takesOther x3 x2 M = _
        unfold fX12_takesOther
        simp (disch := omega) only [lit, lm1, nI_add, pk_mul, nm_eq, nm_eq', nm_lt, nm_lt', nm_le, nm_le', x_lt, x_le, x_eq, x_in, x_cl, x_div, x_sub, x_rem, x_min, x_max, x_and, x_or, x_xor, x_df, x_shl, bI_0, bI_1, bI_bo, lg_eq, toL_inj, ls_nI, decide_eq_false_iff_not, decide_eq_true_eq, Bool.true_eq_false, Bool.false_eq_true, bq, if_pos, if_neg, if_true, if_false, lq, Nat.reduceAdd, Nat.reduceMul, Nat.reduceSub, Nat.reduceDiv, Nat.reduceMod, h25, tk (nI 0)]
/-- a word and a number: class one after the other, the reference's as one -/
theorem Rp.named (h : Rp t L s S M) {k a B : Nat} {x2 : Int32} (k1 : 1 ≤ k) (k2 : k < 24) (ha : a < 1000) (hb : uB x2 B) :
    (∃ v S' S'' M'', a ≤ v ∧ v < B ∧ fX7_takeWord k S = some (nI 1, S') ∧ fX7_takeNumber (nI a) x2 nM S' = some (nI 1, S'') ∧ fX12_named (nI (kWd k)) (nI a) x2 M = some (nI v, M'') ∧ S''.1 115 10 = nI v ∧ Kp kRc S S' ∧ Go t L (s + 1) S M S'' M'') ∨
    (∃ z S' S'' M'', (fX7_takeWord k S = some (nI 0, S'') ∨ (fX7_takeWord k S = some (nI 1, S') ∧ Kp kRc S S' ∧ fX7_takeNumber (nI a) x2 nM S' = some (nI 0, S''))) ∧ fX12_named (nI (kWd k)) (nI a) x2 M = some (z, M'') ∧ Fl S M S'' M'') := by
  rcases h.word k1 k2 with ⟨S', M', e1, e2, s', g1, g2, g3, g4⟩ | ⟨S', M', e1, e2, e3, f1, f2, f3⟩
  · rcases g1.num (a := a) (x3 := nM) (m := fun M => fX12_takes (nI a) x2 M) ha hb (Or.inl rfl) (Or.inl ⟨rfl, rfl⟩) with ⟨v, S'', M'', v1, v2, -, n1, n2, n3, s'', k1, k2, k3, k4⟩ | ⟨z, S'', M'', n1, n2, f1, f2, f3⟩
    · (try dsimp only at n2)
      refine Or.inl ⟨v, S', S'', M'', v1, v2, e1, n1, ?_, n3, g3, s'', k1, by omega, g3.tr k3, g4.tr k4⟩
      unfold fX12_named
      simp (disch := omega) only [lit, lm1, nI_add, pk_mul, nm_eq, nm_eq', nm_lt, nm_lt', nm_le, nm_le', x_lt, x_le, x_eq, x_in, x_cl, x_div, x_sub, x_rem, x_min, x_max, x_and, x_or, x_xor, x_df, x_shl, bI_0, bI_1, bI_bo, lg_eq, toL_inj, ls_nI, decide_eq_false_iff_not, decide_eq_true_eq, Bool.true_eq_false, Bool.false_eq_true, bq, if_pos, if_neg, if_true, if_false, lq, Nat.reduceAdd, Nat.reduceMul, Nat.reduceSub, Nat.reduceDiv, Nat.reduceMod, e2, n2]
    · (try dsimp only at n2)
      refine Or.inr ⟨z, S', S'', M'', Or.inr ⟨e1, g3, n1⟩, ?_, f1, g3.tr f2, g4.tr f3⟩
      unfold fX12_named
      simp (disch := omega) only [lit, lm1, nI_add, pk_mul, nm_eq, nm_eq', nm_lt, nm_lt', nm_le, nm_le', x_lt, x_le, x_eq, x_in, x_cl, x_div, x_sub, x_rem, x_min, x_max, x_and, x_or, x_xor, x_df, x_shl, bI_0, bI_1, bI_bo, lg_eq, toL_inj, ls_nI, decide_eq_false_iff_not, decide_eq_true_eq, Bool.true_eq_false, Bool.false_eq_true, bq, if_pos, if_neg, if_true, if_false, lq, Nat.reduceAdd, Nat.reduceMul, Nat.reduceSub, Nat.reduceDiv, Nat.reduceMod, e2, n2]
  · refine Or.inr ⟨M'.1 150 10, S, S', M', Or.inl e1, ?_, f1, f2, f3⟩
    unfold fX12_named
    simp (disch := omega) only [lit, lm1, nI_add, pk_mul, nm_eq, nm_eq', nm_lt, nm_lt', nm_le, nm_le', x_lt, x_le, x_eq, x_in, x_cl, x_div, x_sub, x_rem, x_min, x_max, x_and, x_or, x_xor, x_df, x_shl, bI_0, bI_1, bI_bo, lg_eq, toL_inj, ls_nI, decide_eq_false_iff_not, decide_eq_true_eq, Bool.true_eq_false, Bool.false_eq_true, bq, if_pos, if_neg, if_true, if_false, lq, Nat.reduceAdd, Nat.reduceMul, Nat.reduceSub, Nat.reduceDiv, Nat.reduceMod, e2, e3, f_takes f1.fm]
end TA
