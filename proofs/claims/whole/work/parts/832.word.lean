/-! words: the class's questions against the reference's numbers -/
def kWd (k : Nat) : Nat := [24, 0, 1, 2, 3, 4, 5, 6, 7, 8, 9, 10, 11, 12, 22, 14, 15, 16, 17, 18, 19, 20, 21, 13].getD k 24
theorem txK : ∀ k, k < 24 → 1 ≤ k → (kWd k < 23 ∧ txL k = wLn (kWd k) ∧ txL k ≤ 7 ∧ ∀ i, i < wLn (kWd k) → txB k i = txB 24 (wOf (kWd k) + i)) := by decide +kernel
theorem tx24u : ∀ a, a < 23 → ∀ b, b < 23 → (wLn a = wLn b ∧ ∀ i, i < wLn a → txB 24 (wOf a + i) = txB 24 (wOf b + i)) → a = b := by decide +kernel
section WD
variable {S M : cpS} {t : Nat → Nat} {L s : Nat}
theorem kyW_iff {e j : Nat} (hj : j < 23) : kyW t s e = j ↔ wqQ t s e j := by
  unfold kyW
  constructor
  · intro h
    cases hf : ff (fun j => decide (wqQ t s e j)) 23 0 with
    | none => rw [hf] at h; exact absurd (show 24 = j from h) (by omega)
    | some k =>
      rw [hf] at h
      have h : k = j := h
      subst h
      exact of_decide_eq_true ((ff_some _ _ _).mp hf).2.2.1
  · intro h
    cases hf : ff (fun j => decide (wqQ t s e j)) 23 0 with
    | none =>
      have := (ff_none _ _).mp hf j (Nat.zero_le _) (by omega)
      rw [decide_eq_true h] at this
      cases this
    | some k =>
      obtain ⟨-, k2, k3, -⟩ := (ff_some _ _ _).mp hf
      have k3 : wqQ t s e k := of_decide_eq_true k3
      show k = j
      refine tx24u k (by omega) j hj ⟨?_, fun i hi => ?_⟩
      · have a := k3.1; have b := h.1; omega
      · have a := k3.1; have b := h.1
        rw [← k3.2 i hi, ← h.2 i (by omega)]
theorem kyW_le {e : Nat} : kyW t s e ≤ 24 := by
  unfold kyW
  cases hf : ff (fun j => decide (wqQ t s e j)) 23 0 with
  | none => exact Nat.le_refl _
  | some k => have := ((ff_some _ _ _).mp hf).2.1; show k ≤ 24; omega
theorem sgK_or (x : Nat) : (sgI x = none ∧ sgK x = 27) ∨ ∃ k, k < 12 ∧ sgI x = some k ∧ sgK x = 30 + k ∧ sgN k = x := by
  unfold sgK
  cases hf : sgI x with
  | none => exact Or.inl ⟨rfl, rfl⟩
  | some k =>
    obtain ⟨-, k2, k3, -⟩ := (ff_some _ _ _).mp hf
    exact Or.inr ⟨k, by omega, rfl, rfl, of_decide_eq_true k3⟩
theorem kyE_kind (t : Nat → Nat) (L s : Nat) : (kyE t L s ≤ 24 ∧ (tkE t L s).2 = 1 ∧ s < lte t L s) ∨ (kyE t L s = 25 ∧ (tkE t L s).2 = 2) ∨ (kyE t L s = 26 ∧ (tkE t L s).2 = 0) ∨ (kyE t L s = 27 ∧ (tkE t L s).2 = 4) ∨ (30 ≤ kyE t L s ∧ kyE t L s < 42 ∧ (tkE t L s).2 = 3 ∧ kyE t L s = sgK (t s) ∧ s < L) := by
  unfold kyE tkE
  by_cases hl : s < lte t L s
  · rw [if_pos hl, if_pos hl]; exact Or.inl ⟨kyW_le, rfl, hl⟩
  · rw [if_neg hl, if_neg hl]
    right
    by_cases hd : s < dge t L s
    · rw [if_pos hd, if_pos hd]
      by_cases h3 : dge t L s - s ≤ 3
      · rw [if_pos h3, if_pos h3]; exact Or.inl ⟨rfl, rfl⟩
      · rw [if_neg h3, if_neg h3]; exact Or.inr (Or.inr (Or.inl ⟨rfl, rfl⟩))
    · rw [if_neg hd, if_neg hd]
      right
      by_cases hL : s < L
      · rw [if_pos hL, if_pos hL]
        rcases sgK_or (t s) with ⟨a, b⟩ | ⟨k, k1, k2, k3, k4⟩
        · rw [a, b]; exact Or.inr (Or.inl ⟨rfl, rfl⟩)
        · rw [k2, k3]; exact Or.inr (Or.inr ⟨by omega, by omega, rfl, rfl, hL⟩)
      · rw [if_neg hL, if_neg hL]; exact Or.inl ⟨rfl, rfl⟩
theorem tkE_le (hs : s ≤ L) : s ≤ (tkE t L s).1 ∧ (tkE t L s).1 ≤ L ∧ ((tkE t L s).2 ≠ 0 → s < (tkE t L s).1) := by
  have h1 := lte_le (t := t) s hs
  have h2 := dge_le (t := t) s hs
  unfold tkE
  by_cases hl : s < lte t L s
  · rw [if_pos hl]; exact ⟨h1.1, h1.2, fun _ => hl⟩
  · rw [if_neg hl]
    by_cases hd : s < dge t L s
    · rw [if_pos hd]; exact ⟨h2.1, h2.2, fun _ => hd⟩
    · rw [if_neg hd]
      by_cases hL : s < L
      · rw [if_pos hL]; exact ⟨Nat.le_succ _, hL, fun _ => Nat.lt_succ_self _⟩
      · rw [if_neg hL]; exact ⟨Nat.le_refl _, hs, fun h => absurd rfl h⟩
theorem skp_nw {p : Nat} (hp : p ≤ L) (h : skp t L p < L) : wht (t (skp t L p)) = false := by
  unfold skp at h ⊢
  cases hf : ff (fun x => !wht (t x)) (L - p) p with
  | none => rw [hf] at h; exact absurd h (by show ¬ L < L; omega)
  | some k =>
    obtain ⟨-, -, k3, -⟩ := (ff_some _ _ _).mp hf
    show wht (t k) = false
    cases hw : wht (t k) with
    | false => rfl
    | true => rw [hw] at k3; cases k3
theorem nvl_lt {p : Nat} : ∀ n, (∀ i, i < n → dig (t (p + i)) = true) → nvl t p n < 10 ^ (min 3 n) := by
  intro n
  induction n with
  | zero => intro _; exact (by decide : 0 < 1)
  | succ n ih =>
    intro h
    have i0 := ih (fun i hi => h i (by omega))
    have w := h n (by omega)
    unfold dig at w
    rw [Bool.and_eq_true, decide_eq_true_eq, decide_eq_true_eq] at w
    rw [nvl_s]
    by_cases h3 : 3 ≤ n
    · rw [if_pos h3, show min 3 (n + 1) = min 3 n by omega]; exact i0
    · rw [if_neg h3, show min 3 (n + 1) = min 3 n + 1 by omega, Nat.pow_succ]; omega
theorem nvl_k (hs : s ≤ L) (h : (tkE t L s).2 = 2) : nvl t s ((tkE t L s).1 - s) < 1000 := by
  have hd : (tkE t L s).1 = dge t L s := by
    unfold tkE at h ⊢
    by_cases hl : s < lte t L s
    · rw [if_pos hl] at h; cases h
    · rw [if_neg hl] at h ⊢
      by_cases hd : s < dge t L s
      · rw [if_pos hd]
      · rw [if_neg hd] at h
        by_cases hL : s < L
        · rw [if_pos hL] at h; (try dsimp only at h); split at h <;> cases h
        · rw [if_neg hL] at h; cases h
  rw [hd]
  have h2 := dge_le (t := t) s hs
  refine Nat.lt_of_lt_of_le (nvl_lt (t := t) (p := s) (dge t L s - s) (fun i hi => ?_)) (Nat.pow_le_pow_right (n := 10) (j := 3) (by decide) (by omega))
  cases hw : dig (t (s + i)) with
  | true => rfl
  | false =>
    unfold dge at hi
    cases hf : ff (fun x => !dig (t x)) (L - s) s with
    | none =>
      rw [hf] at hi
      have hi : i < L - s := hi
      have := (ff_none _ _).mp hf (s + i) (by omega) (by omega)
      rw [hw] at this; cases this
    | some k =>
      rw [hf] at hi
      have hi : i < k - s := hi
      have := ((ff_some _ _ _).mp hf).2.2.2 (s + i) (by omega) (by omega)
      rw [hw] at this; cases this
end WD
def Rp (t : Nat → Nat) (L s : Nat) (S M : cpS) : Prop := (cTp t L S) ∧ (mTp t L M) ∧ (s ≤ L) ∧ (s < L → wht (t s) = false) ∧ (S.1 115 7 = nI s) ∧ (S.1 115 8 = nI (tkE t L s).1) ∧ (S.1 115 6 = nI (tkE t L s).2) ∧ ((tkE t L s).2 = 2 → S.1 115 9 = nI (nvl t s ((tkE t L s).1 - s))) ∧ (S.1 115 3 = nI 0) ∧ (S.1 115 4 = nM) ∧ (M.1 150 6 = nI s) ∧ (M.1 150 7 = nI (tkE t L s).1) ∧ (M.1 150 9 = nI (kyE t L s)) ∧ ((tkE t L s).2 = 2 → M.1 150 10 = nI (nvl t s ((tkE t L s).1 - s))) ∧ (M.1 150 11 = nI 0)
theorem Rp.ct {t : Nat → Nat} {L s : Nat} {S M : cpS} (h : Rp t L s S M) : cTp t L S := h.1
theorem Rp.mt {t : Nat → Nat} {L s : Nat} {S M : cpS} (h : Rp t L s S M) : mTp t L M := h.2.1
theorem Rp.sl {t : Nat → Nat} {L s : Nat} {S M : cpS} (h : Rp t L s S M) : s ≤ L := h.2.2.1
theorem Rp.nw {t : Nat → Nat} {L s : Nat} {S M : cpS} (h : Rp t L s S M) : s < L → wht (t s) = false := h.2.2.2.1
theorem Rp.c7 {t : Nat → Nat} {L s : Nat} {S M : cpS} (h : Rp t L s S M) : S.1 115 7 = nI s := h.2.2.2.2.1
theorem Rp.c8 {t : Nat → Nat} {L s : Nat} {S M : cpS} (h : Rp t L s S M) : S.1 115 8 = nI (tkE t L s).1 := h.2.2.2.2.2.1
theorem Rp.c6 {t : Nat → Nat} {L s : Nat} {S M : cpS} (h : Rp t L s S M) : S.1 115 6 = nI (tkE t L s).2 := h.2.2.2.2.2.2.1
theorem Rp.c9 {t : Nat → Nat} {L s : Nat} {S M : cpS} (h : Rp t L s S M) : (tkE t L s).2 = 2 → S.1 115 9 = nI (nvl t s ((tkE t L s).1 - s)) := h.2.2.2.2.2.2.2.1
theorem Rp.c3 {t : Nat → Nat} {L s : Nat} {S M : cpS} (h : Rp t L s S M) : S.1 115 3 = nI 0 := h.2.2.2.2.2.2.2.2.1
theorem Rp.c4 {t : Nat → Nat} {L s : Nat} {S M : cpS} (h : Rp t L s S M) : S.1 115 4 = nM := h.2.2.2.2.2.2.2.2.2.1
theorem Rp.m6 {t : Nat → Nat} {L s : Nat} {S M : cpS} (h : Rp t L s S M) : M.1 150 6 = nI s := h.2.2.2.2.2.2.2.2.2.2.1
theorem Rp.m7 {t : Nat → Nat} {L s : Nat} {S M : cpS} (h : Rp t L s S M) : M.1 150 7 = nI (tkE t L s).1 := h.2.2.2.2.2.2.2.2.2.2.2.1
theorem Rp.m9 {t : Nat → Nat} {L s : Nat} {S M : cpS} (h : Rp t L s S M) : M.1 150 9 = nI (kyE t L s) := h.2.2.2.2.2.2.2.2.2.2.2.2.1
theorem Rp.m10 {t : Nat → Nat} {L s : Nat} {S M : cpS} (h : Rp t L s S M) : (tkE t L s).2 = 2 → M.1 150 10 = nI (nvl t s ((tkE t L s).1 - s)) := h.2.2.2.2.2.2.2.2.2.2.2.2.2.1
theorem Rp.m11 {t : Nat → Nat} {L s : Nat} {S M : cpS} (h : Rp t L s S M) : M.1 150 11 = nI 0 := h.2.2.2.2.2.2.2.2.2.2.2.2.2.2
def kRc (q j : Nat) : Prop := q = 115 ∧ 3 ≤ j ∧ j ≤ 10 ∧ j ≠ 5
def kRm (q j : Nat) : Prop := q = 150 ∧ 6 ≤ j ∧ j ≤ 12 ∧ j ≠ 8
def Fp (S M : cpS) : Prop := ∃ f, 0 < f ∧ f < 5 ∧ S.1 115 3 = nI f ∧ M.1 150 11 = nI f ∧ S.1 115 4 = M.1 150 12
section WE
variable {S M : cpS} {t : Nat → Nat} {L s : Nat}
theorem Rp.kp {S' M' : cpS} {f g : Nat → Nat → Prop} (h : Rp t L s S M) (a : Kp f S S') (b : Kp g M M') (f1 : ∀ j, ¬ f 116 j) (f2 : ∀ j, 3 ≤ j → j ≤ 9 → ¬ f 115 j) (g1 : ∀ j, ¬ g 153 j) (g2 : ∀ j, 6 ≤ j → j ≤ 12 → ¬ g 150 j) : Rp t L s S' M' := by
  obtain ⟨h1, h2, h3, h4, h5, h6, h7, h8, h9, h10, h11, h12, h13, h14, h15⟩ := h
  refine ⟨⟨h1.1, ?_, fun x hx => ?_⟩, ⟨h2.1, ?_, fun x hx => ?_⟩, h3, h4, ?_, ?_, ?_, fun e => ?_, ?_, ?_, ?_, ?_, ?_, fun e => ?_, ?_⟩
  · rw [a.i (f2 5 (by decide) (by decide))]; exact h1.2.1
  · rw [a.i (f1 x)]; exact h1.2.2 x hx
  · rw [b.i (g2 8 (by decide) (by decide))]; exact h2.2.1
  · rw [b.i (g1 x)]; exact h2.2.2 x hx
  · rw [a.i (f2 7 (by decide) (by decide))]; exact h5
  · rw [a.i (f2 8 (by decide) (by decide))]; exact h6
  · rw [a.i (f2 6 (by decide) (by decide))]; exact h7
  · rw [a.i (f2 9 (by decide) (by decide))]; exact h8 e
  · rw [a.i (f2 3 (by decide) (by decide))]; exact h9
  · rw [a.i (f2 4 (by decide) (by decide))]; exact h10
  · rw [b.i (g2 6 (by decide) (by decide))]; exact h11
  · rw [b.i (g2 7 (by decide) (by decide))]; exact h12
  · rw [b.i (g2 9 (by decide) (by decide))]; exact h13
  · rw [b.i (g2 10 (by decide) (by decide))]; exact h14 e
  · rw [b.i (g2 11 (by decide) (by decide))]; exact h15
theorem Rp.adv (h : Rp t L s S M) (hk : kyE t L s ≠ 26) : ∃ s' S' M', fX7_advance S = some ((), S') ∧ fX12_next M = some ((), M') ∧ Rp t L s' S' M' ∧ s < s' ∧ Kp k115 S S' ∧ Kp k150 M M' := by
  have l9 := h.ct.1
  have hk2 : (tkE t L s).2 ≠ 0 := by
    rcases kyE_kind t L s with q | q | q | q | q <;> omega
  obtain ⟨e1, e2, e3⟩ := tkE_le (t := t) h.sl
  have e3 := e3 hk2
  obtain ⟨A, a1, a2, a3, a4, a5, a6⟩ := c_advance h.ct e2 h.c8
  obtain ⟨B, b1, b2, b3, b4, b5, b6⟩ := m_next h.mt e2 h.m7
  have hs := skp_le (t := t) _ e2
  refine ⟨skp t L (tkE t L s).1, A, B, a1, b1, ⟨h.ct.kp a6, h.mt.kp b6, hs.2, fun q => skp_nw e2 q, a2, a3, a4, a5, ?_, ?_, b2, b3, b4, b5, ?_⟩, by omega, a6, b6⟩
  · rw [a6.i (by unfold k115; omega)]; exact h.c3
  · rw [a6.i (by unfold k115; omega)]; exact h.c4
  · rw [b6.i (by unfold k150; omega)]; exact h.m11
theorem Rp.refu (h : Rp t L s S M) {f : Nat} (f0 : 0 < f) (f5 : f < 5) : ∃ S' M', fX7_refuse (nI f) S = some (nI 0, S') ∧ fX12_fails (nI f) M = some ((), M') ∧ Fp S' M' ∧ Kp kRc S S' ∧ Kp kRm M M' := by
  have l9 := h.ct.1
  have hs := h.sl
  unfold fX7_refuse fX12_fails
  by_cases h4 : (tkE t L s).2 = 4
  · have k4 : kyE t L s = 27 := by rcases kyE_kind t L s with q | q | q | q | q <;> omega
    have c6 := h.c6
    have m9 := h.m9
    rw [h4] at c6
    rw [k4] at m9
    have q1 : (cpI S 115 3 (nI 1)).1 115 7 = nI s := by rw [sIn (Or.inr (by decide))]; exact h.c7
    have q2 : (cpI M 150 11 (nI 1)).1 150 6 = nI s := by rw [sIn (Or.inr (by decide))]; exact h.m6
    refine ⟨cpI (cpI S 115 3 (nI 1)) 115 4 (nI s), cpI (cpI M 150 11 (nI 1)) 150 12 (nI s), ?_, ?_, ⟨1, by decide, by decide, ?_, ?_, ?_⟩, (Kp.rf.I (by unfold kRc; decide)).I (by unfold kRc; decide), (Kp.rf.I (by unfold kRm; decide)).I (by unfold kRm; decide)⟩
    · simp (disch := omega) only [lit, lm1, nI_add, pk_mul, nm_eq, nm_eq', nm_lt, nm_lt', nm_le, nm_le', x_lt, x_le, x_eq, x_in, x_cl, x_div, x_sub, x_rem, x_min, x_max, x_and, x_or, x_xor, x_df, x_shl, bI_0, bI_1, bI_bo, lg_eq, toL_inj, ls_nI, decide_eq_false_iff_not, decide_eq_true_eq, Bool.true_eq_false, Bool.false_eq_true, bq, if_pos, if_neg, if_true, if_false, lq, Nat.reduceAdd, Nat.reduceMul, Nat.reduceSub, Nat.reduceDiv, Nat.reduceMod, c6, q1]
    · simp (disch := omega) only [lit, lm1, nI_add, pk_mul, nm_eq, nm_eq', nm_lt, nm_lt', nm_le, nm_le', x_lt, x_le, x_eq, x_in, x_cl, x_div, x_sub, x_rem, x_min, x_max, x_and, x_or, x_xor, x_df, x_shl, bI_0, bI_1, bI_bo, lg_eq, toL_inj, ls_nI, decide_eq_false_iff_not, decide_eq_true_eq, Bool.true_eq_false, Bool.false_eq_true, bq, if_pos, if_neg, if_true, if_false, lq, Nat.reduceAdd, Nat.reduceMul, Nat.reduceSub, Nat.reduceDiv, Nat.reduceMod, m9, h.m11, q2]
    · rw [sIn (Or.inr (by decide)), sI1]
    · rw [sIn (Or.inr (by decide)), sI1]
    · rw [sI1, sI1]
  · have k4 : kyE t L s ≠ 27 := by rcases kyE_kind t L s with q | q | q | q | q <;> omega
    have kb : kyE t L s < 42 := by rcases kyE_kind t L s with q | q | q | q | q <;> omega
    have kc : (tkE t L s).2 < 5 := by rcases kyE_kind t L s with q | q | q | q | q <;> omega
    have q1 : (cpI S 115 3 (nI f)).1 115 7 = nI s := by rw [sIn (Or.inr (by decide))]; exact h.c7
    have q2 : (cpI M 150 11 (nI f)).1 150 6 = nI s := by rw [sIn (Or.inr (by decide))]; exact h.m6
    refine ⟨cpI (cpI S 115 3 (nI f)) 115 4 (nI s), cpI (cpI M 150 11 (nI f)) 150 12 (nI s), ?_, ?_, ⟨f, f0, f5, ?_, ?_, ?_⟩, (Kp.rf.I (by unfold kRc; decide)).I (by unfold kRc; decide), (Kp.rf.I (by unfold kRm; decide)).I (by unfold kRm; decide)⟩
    · simp (disch := omega) only [lit, lm1, nI_add, pk_mul, nm_eq, nm_eq', nm_lt, nm_lt', nm_le, nm_le', x_lt, x_le, x_eq, x_in, x_cl, x_div, x_sub, x_rem, x_min, x_max, x_and, x_or, x_xor, x_df, x_shl, bI_0, bI_1, bI_bo, lg_eq, toL_inj, ls_nI, decide_eq_false_iff_not, decide_eq_true_eq, Bool.true_eq_false, Bool.false_eq_true, bq, if_pos, if_neg, if_true, if_false, lq, Nat.reduceAdd, Nat.reduceMul, Nat.reduceSub, Nat.reduceDiv, Nat.reduceMod, h.c6, q1, h4]
    · simp (disch := omega) only [lit, lm1, nI_add, pk_mul, nm_eq, nm_eq', nm_lt, nm_lt', nm_le, nm_le', x_lt, x_le, x_eq, x_in, x_cl, x_div, x_sub, x_rem, x_min, x_max, x_and, x_or, x_xor, x_df, x_shl, bI_0, bI_1, bI_bo, lg_eq, toL_inj, ls_nI, decide_eq_false_iff_not, decide_eq_true_eq, Bool.true_eq_false, Bool.false_eq_true, bq, if_pos, if_neg, if_true, if_false, lq, Nat.reduceAdd, Nat.reduceMul, Nat.reduceSub, Nat.reduceDiv, Nat.reduceMod, h.m9, h.m11, q2, k4]
    · rw [sIn (Or.inr (by decide)), sI1]
    · rw [sIn (Or.inr (by decide)), sI1]
    · rw [sI1, sI1]
theorem Rp.isW (h : Rp t L s S M) {k : Nat} (k1 : 1 ≤ k) (k2 : k < 24) : fX7_isWord k S = some (bI (decide (kyE t L s = kWd k)), S) := by
  have l9 := h.ct.1
  obtain ⟨x1, x2, x3, x4⟩ := txK k k2 k1
  unfold fX7_isWord
  rcases kyE_kind t L s with ⟨q1, q2, q3⟩ | q | q | q | q
  · have c6 := h.c6
    rw [q2] at c6
    have et : (tkE t L s).1 = lte t L s := by unfold tkE; rw [if_pos q3]
    have ek : kyE t L s = kyW t s (lte t L s) := by unfold kyE; rw [if_pos q3]
    have c8 := h.c8
    rw [et] at c8
    have hl := lte_le (t := t) s h.sl
    have hln := e_len (v := k) (by omega) S
    have iff := kyW_iff (t := t) (s := s) (e := lte t L s) x1
    rw [ek]
    by_cases hn : lte t L s - s = txL k
    · have lp : ∀ (m i n : Nat), i + m = txL k → (∀ x, x < i → t (s + x) = txB k x) → m < n → fX7_isWord_28 k n (nI i) S = some (bI (decide (wqQ t s (lte t L s) (kWd k))), S) := by
        intro m
        induction m with
        | zero =>
          intro i n hi hm hn2
          obtain ⟨n, rfl⟩ : ∃ k, n = k + 1 := ⟨n - 1, by omega⟩
          have hq : wqQ t s (lte t L s) (kWd k) := ⟨by omega, fun x hx => by rw [hm x (by omega), x4 x hx]⟩
          rw [decide_eq_true hq, fX7_isWord_28]
          simp (disch := omega) only [lit, lm1, nI_add, pk_mul, nm_eq, nm_eq', nm_lt, nm_lt', nm_le, nm_le', x_lt, x_le, x_eq, x_in, x_cl, x_div, x_sub, x_rem, x_min, x_max, x_and, x_or, x_xor, x_df, x_shl, bI_0, bI_1, bI_bo, lg_eq, toL_inj, ls_nI, decide_eq_false_iff_not, decide_eq_true_eq, Bool.true_eq_false, Bool.false_eq_true, bq, if_pos, if_neg, if_true, if_false, lq, Nat.reduceAdd, Nat.reduceMul, Nat.reduceSub, Nat.reduceDiv, Nat.reduceMod, hln]
          rfl
        | succ m ih =>
          intro i n hi hm hn2
          obtain ⟨n, rfl⟩ : ∃ k, n = k + 1 := ⟨n - 1, by omega⟩
          obtain ⟨e1, e2⟩ := h.ct.2.2 (s + i) (by omega)
          have hc := e_charAt (v := k) (i := i) (by omega) (by omega) S
          have hb := (tx_ok k (by omega) i (by omega) (by omega)).2.2.1
          rw [fX7_isWord_28]
          by_cases eq : t (s + i) = txB k i
          · have := ih (i + 1) n (by omega) (fun x hx => by
              by_cases ex : x = i
              · rw [ex]; exact eq
              · exact hm x (by omega)) (by omega)
            simp (disch := omega) only [lit, lm1, nI_add, pk_mul, nm_eq, nm_eq', nm_lt, nm_lt', nm_le, nm_le', x_lt, x_le, x_eq, x_in, x_cl, x_div, x_sub, x_rem, x_min, x_max, x_and, x_or, x_xor, x_df, x_shl, bI_0, bI_1, bI_bo, lg_eq, toL_inj, ls_nI, decide_eq_false_iff_not, decide_eq_true_eq, Bool.true_eq_false, Bool.false_eq_true, bq, if_pos, if_neg, if_true, if_false, lq, Nat.reduceAdd, Nat.reduceMul, Nat.reduceSub, Nat.reduceDiv, Nat.reduceMod, hln, h.c7, e1, hc, eq]
            exact this
          · have hq : ¬ wqQ t s (lte t L s) (kWd k) := fun q => eq (by rw [q.2 i (by omega), x4 i (by omega)])
            rw [decide_eq_false hq]
            simp (disch := omega) only [lit, lm1, nI_add, pk_mul, nm_eq, nm_eq', nm_lt, nm_lt', nm_le, nm_le', x_lt, x_le, x_eq, x_in, x_cl, x_div, x_sub, x_rem, x_min, x_max, x_and, x_or, x_xor, x_df, x_shl, bI_0, bI_1, bI_bo, lg_eq, toL_inj, ls_nI, decide_eq_false_iff_not, decide_eq_true_eq, Bool.true_eq_false, Bool.false_eq_true, bq, if_pos, if_neg, if_true, if_false, lq, Nat.reduceAdd, Nat.reduceMul, Nat.reduceSub, Nat.reduceDiv, Nat.reduceMod, hln, h.c7, e1, hc, eq]
            rfl
      have := lp (txL k) 0 cpFu (by omega) (fun x hx => absurd hx (by omega)) (by show txL k < 5000; omega)
      simp (disch := omega) only [lit, lm1, nI_add, pk_mul, nm_eq, nm_eq', nm_lt, nm_lt', nm_le, nm_le', x_lt, x_le, x_eq, x_in, x_cl, x_div, x_sub, x_rem, x_min, x_max, x_and, x_or, x_xor, x_df, x_shl, bI_0, bI_1, bI_bo, lg_eq, toL_inj, ls_nI, decide_eq_false_iff_not, decide_eq_true_eq, Bool.true_eq_false, Bool.false_eq_true, bq, if_pos, if_neg, if_true, if_false, lq, Nat.reduceAdd, Nat.reduceMul, Nat.reduceSub, Nat.reduceDiv, Nat.reduceMod, c6, hln, c8, h.c7, hn]
      rw [this]
      have ee : decide (wqQ t s (lte t L s) (kWd k)) = decide (kyW t s (lte t L s) = kWd k) := by
        by_cases hq : wqQ t s (lte t L s) (kWd k)
        · rw [decide_eq_true hq, decide_eq_true (iff.mpr hq)]
        · rw [decide_eq_false hq, decide_eq_false (fun z => hq (iff.mp z))]
      rw [ee]
    · have hq : ¬ kyW t s (lte t L s) = kWd k := fun z => hn (by have := (iff.mp z).1; omega)
      rw [decide_eq_false hq]
      simp (disch := omega) only [lit, lm1, nI_add, pk_mul, nm_eq, nm_eq', nm_lt, nm_lt', nm_le, nm_le', x_lt, x_le, x_eq, x_in, x_cl, x_div, x_sub, x_rem, x_min, x_max, x_and, x_or, x_xor, x_df, x_shl, bI_0, bI_1, bI_bo, lg_eq, toL_inj, ls_nI, decide_eq_false_iff_not, decide_eq_true_eq, Bool.true_eq_false, Bool.false_eq_true, bq, if_pos, if_neg, if_true, if_false, lq, Nat.reduceAdd, Nat.reduceMul, Nat.reduceSub, Nat.reduceDiv, Nat.reduceMod, c6, hln, c8, h.c7, hn]
      rfl
  all_goals
    have c6 := h.c6
    rw [decide_eq_false (by omega)]
  · rw [q.2] at c6; simp (disch := omega) only [lit, lm1, nI_add, pk_mul, nm_eq, nm_eq', nm_lt, nm_lt', nm_le, nm_le', x_lt, x_le, x_eq, x_in, x_cl, x_div, x_sub, x_rem, x_min, x_max, x_and, x_or, x_xor, x_df, x_shl, bI_0, bI_1, bI_bo, lg_eq, toL_inj, ls_nI, decide_eq_false_iff_not, decide_eq_true_eq, Bool.true_eq_false, Bool.false_eq_true, bq, if_pos, if_neg, if_true, if_false, lq, Nat.reduceAdd, Nat.reduceMul, Nat.reduceSub, Nat.reduceDiv, Nat.reduceMod, c6]; rfl
  · rw [q.2] at c6; simp (disch := omega) only [lit, lm1, nI_add, pk_mul, nm_eq, nm_eq', nm_lt, nm_lt', nm_le, nm_le', x_lt, x_le, x_eq, x_in, x_cl, x_div, x_sub, x_rem, x_min, x_max, x_and, x_or, x_xor, x_df, x_shl, bI_0, bI_1, bI_bo, lg_eq, toL_inj, ls_nI, decide_eq_false_iff_not, decide_eq_true_eq, Bool.true_eq_false, Bool.false_eq_true, bq, if_pos, if_neg, if_true, if_false, lq, Nat.reduceAdd, Nat.reduceMul, Nat.reduceSub, Nat.reduceDiv, Nat.reduceMod, c6]; rfl
  · rw [q.2] at c6; simp (disch := omega) only [lit, lm1, nI_add, pk_mul, nm_eq, nm_eq', nm_lt, nm_lt', nm_le, nm_le', x_lt, x_le, x_eq, x_in, x_cl, x_div, x_sub, x_rem, x_min, x_max, x_and, x_or, x_xor, x_df, x_shl, bI_0, bI_1, bI_bo, lg_eq, toL_inj, ls_nI, decide_eq_false_iff_not, decide_eq_true_eq, Bool.true_eq_false, Bool.false_eq_true, bq, if_pos, if_neg, if_true, if_false, lq, Nat.reduceAdd, Nat.reduceMul, Nat.reduceSub, Nat.reduceDiv, Nat.reduceMod, c6]; rfl
  · rw [q.2.2.1] at c6; simp (disch := omega) only [lit, lm1, nI_add, pk_mul, nm_eq, nm_eq', nm_lt, nm_lt', nm_le, nm_le', x_lt, x_le, x_eq, x_in, x_cl, x_div, x_sub, x_rem, x_min, x_max, x_and, x_or, x_xor, x_df, x_shl, bI_0, bI_1, bI_bo, lg_eq, toL_inj, ls_nI, decide_eq_false_iff_not, decide_eq_true_eq, Bool.true_eq_false, Bool.false_eq_true, bq, if_pos, if_neg, if_true, if_false, lq, Nat.reduceAdd, Nat.reduceMul, Nat.reduceSub, Nat.reduceDiv, Nat.reduceMod, c6]; rfl
theorem Rp.isS (h : Rp t L s S M) {i : Nat} (hi : i < 12) : fX7_isSign (nI (sgN i)) S = some (bI (decide (kyE t L s = 30 + i)), S) := by
  have l9 := h.ct.1
  have sb : ∀ i, i < 12 → sgN i < 128 := by decide
  have su : ∀ a, a < 12 → ∀ b, b < 12 → sgN a = sgN b → a = b := by decide
  have hb := sb i hi
  unfold fX7_isSign
  have c6 := h.c6
  rcases kyE_kind t L s with q | q | q | q | ⟨q1, q2, q3, q4, q5⟩
  · rw [decide_eq_false (by omega)]; rw [q.2.1] at c6; simp (disch := omega) only [lit, lm1, nI_add, pk_mul, nm_eq, nm_eq', nm_lt, nm_lt', nm_le, nm_le', x_lt, x_le, x_eq, x_in, x_cl, x_div, x_sub, x_rem, x_min, x_max, x_and, x_or, x_xor, x_df, x_shl, bI_0, bI_1, bI_bo, lg_eq, toL_inj, ls_nI, decide_eq_false_iff_not, decide_eq_true_eq, Bool.true_eq_false, Bool.false_eq_true, bq, if_pos, if_neg, if_true, if_false, lq, Nat.reduceAdd, Nat.reduceMul, Nat.reduceSub, Nat.reduceDiv, Nat.reduceMod, c6]; rfl
  · rw [decide_eq_false (by omega)]; rw [q.2] at c6; simp (disch := omega) only [lit, lm1, nI_add, pk_mul, nm_eq, nm_eq', nm_lt, nm_lt', nm_le, nm_le', x_lt, x_le, x_eq, x_in, x_cl, x_div, x_sub, x_rem, x_min, x_max, x_and, x_or, x_xor, x_df, x_shl, bI_0, bI_1, bI_bo, lg_eq, toL_inj, ls_nI, decide_eq_false_iff_not, decide_eq_true_eq, Bool.true_eq_false, Bool.false_eq_true, bq, if_pos, if_neg, if_true, if_false, lq, Nat.reduceAdd, Nat.reduceMul, Nat.reduceSub, Nat.reduceDiv, Nat.reduceMod, c6]; rfl
  · rw [decide_eq_false (by omega)]; rw [q.2] at c6; simp (disch := omega) only [lit, lm1, nI_add, pk_mul, nm_eq, nm_eq', nm_lt, nm_lt', nm_le, nm_le', x_lt, x_le, x_eq, x_in, x_cl, x_div, x_sub, x_rem, x_min, x_max, x_and, x_or, x_xor, x_df, x_shl, bI_0, bI_1, bI_bo, lg_eq, toL_inj, ls_nI, decide_eq_false_iff_not, decide_eq_true_eq, Bool.true_eq_false, Bool.false_eq_true, bq, if_pos, if_neg, if_true, if_false, lq, Nat.reduceAdd, Nat.reduceMul, Nat.reduceSub, Nat.reduceDiv, Nat.reduceMod, c6]; rfl
  · rw [decide_eq_false (by omega)]; rw [q.2] at c6; simp (disch := omega) only [lit, lm1, nI_add, pk_mul, nm_eq, nm_eq', nm_lt, nm_lt', nm_le, nm_le', x_lt, x_le, x_eq, x_in, x_cl, x_div, x_sub, x_rem, x_min, x_max, x_and, x_or, x_xor, x_df, x_shl, bI_0, bI_1, bI_bo, lg_eq, toL_inj, ls_nI, decide_eq_false_iff_not, decide_eq_true_eq, Bool.true_eq_false, Bool.false_eq_true, bq, if_pos, if_neg, if_true, if_false, lq, Nat.reduceAdd, Nat.reduceMul, Nat.reduceSub, Nat.reduceDiv, Nat.reduceMod, c6]; rfl
  · rw [q3] at c6
    obtain ⟨e1, e2⟩ := h.ct.2.2 s q5
    rcases sgK_or (t s) with ⟨a, b⟩ | ⟨k, k1, k2, k3, k4⟩
    · exact absurd (q4.trans b) (by omega)
    · by_cases ek : k = i
      · subst ek
        rw [decide_eq_true (by omega)]
        simp (disch := omega) only [lit, lm1, nI_add, pk_mul, nm_eq, nm_eq', nm_lt, nm_lt', nm_le, nm_le', x_lt, x_le, x_eq, x_in, x_cl, x_div, x_sub, x_rem, x_min, x_max, x_and, x_or, x_xor, x_df, x_shl, bI_0, bI_1, bI_bo, lg_eq, toL_inj, ls_nI, decide_eq_false_iff_not, decide_eq_true_eq, Bool.true_eq_false, Bool.false_eq_true, bq, if_pos, if_neg, if_true, if_false, lq, Nat.reduceAdd, Nat.reduceMul, Nat.reduceSub, Nat.reduceDiv, Nat.reduceMod, c6, h.c7, e1, k4]
        rfl
      · have : ¬ t s = sgN i := fun z => ek (su k k1 i hi (k4.trans z))
        rw [decide_eq_false (by omega)]
        simp (disch := omega) only [lit, lm1, nI_add, pk_mul, nm_eq, nm_eq', nm_lt, nm_lt', nm_le, nm_le', x_lt, x_le, x_eq, x_in, x_cl, x_div, x_sub, x_rem, x_min, x_max, x_and, x_or, x_xor, x_df, x_shl, bI_0, bI_1, bI_bo, lg_eq, toL_inj, ls_nI, decide_eq_false_iff_not, decide_eq_true_eq, Bool.true_eq_false, Bool.false_eq_true, bq, if_pos, if_neg, if_true, if_false, lq, Nat.reduceAdd, Nat.reduceMul, Nat.reduceSub, Nat.reduceDiv, Nat.reduceMod, c6, h.c7, e1, this]
        rfl
theorem Rp.mis (h : Rp t L s S M) {w : Nat} (hw : w < 100) : fX12_is (nI w) M = some (bI (decide (kyE t L s = w)), M) := by
  have kb : kyE t L s < 42 := by rcases kyE_kind t L s with q | q | q | q | q <;> omega
  unfold fX12_is
  by_cases e : kyE t L s = w
  · rw [decide_eq_true e]
    simp (disch := omega) only [lit, lm1, nI_add, pk_mul, nm_eq, nm_eq', nm_lt, nm_lt', nm_le, nm_le', x_lt, x_le, x_eq, x_in, x_cl, x_div, x_sub, x_rem, x_min, x_max, x_and, x_or, x_xor, x_df, x_shl, bI_0, bI_1, bI_bo, lg_eq, toL_inj, ls_nI, decide_eq_false_iff_not, decide_eq_true_eq, Bool.true_eq_false, Bool.false_eq_true, bq, if_pos, if_neg, if_true, if_false, lq, Nat.reduceAdd, Nat.reduceMul, Nat.reduceSub, Nat.reduceDiv, Nat.reduceMod, h.m11, h.m9, e]
    rfl
  · rw [decide_eq_false e]
    simp (disch := omega) only [lit, lm1, nI_add, pk_mul, nm_eq, nm_eq', nm_lt, nm_lt', nm_le, nm_le', x_lt, x_le, x_eq, x_in, x_cl, x_div, x_sub, x_rem, x_min, x_max, x_and, x_or, x_xor, x_df, x_shl, bI_0, bI_1, bI_bo, lg_eq, toL_inj, ls_nI, decide_eq_false_iff_not, decide_eq_true_eq, Bool.true_eq_false, Bool.false_eq_true, bq, if_pos, if_neg, if_true, if_false, lq, Nat.reduceAdd, Nat.reduceMul, Nat.reduceSub, Nat.reduceDiv, Nat.reduceMod, h.m11, h.m9, e]
    rfl
end WE
