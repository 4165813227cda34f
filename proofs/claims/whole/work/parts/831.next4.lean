/-! the reference's next token, as a whole -/
def kyE (t : Nat → Nat) (L s : Nat) : Nat := if s < lte t L s then kyW t s (lte t L s) else if s < dge t L s then (if dge t L s - s ≤ 3 then 25 else 27) else if s < L then sgK (t s) else 26
section N4
variable {S : cpS} {t : Nat → Nat} {L : Nat}
theorem ff_at {p : Nat → Bool} {L s : Nat} (hs : s < L) (h : p s = true) : (ff p (L - s) s).getD L = s := by
  obtain ⟨d, hd⟩ : ∃ d, L - s = d + 1 := ⟨L - s - 1, by omega⟩
  rw [hd, ff, if_pos h]; rfl
theorem ff_past {p : Nat → Bool} {L s : Nat} (hs : s < L) (h : p s = false) : s < (ff p (L - s) s).getD L := by
  obtain ⟨d, hd⟩ : ∃ d, L - s = d + 1 := ⟨L - s - 1, by omega⟩
  rw [hd, ff, h]
  cases hf : ff p d (s + 1) with
  | none => exact hs
  | some k => exact ((ff_some _ _ _).mp hf).1
theorem lte_lt {s : Nat} (hs : s < L) : s < lte t L s ↔ sml (t s) = true := by
  constructor
  · intro h
    cases hw : sml (t s) with
    | true => rfl
    | false => unfold lte at h; rw [ff_at (p := fun x => !sml (t x)) hs (by show (!sml (t s)) = true; rw [hw]; rfl)] at h; exact absurd h (by omega)
  · intro h
    exact ff_past (p := fun x => !sml (t x)) hs (by show (!sml (t s)) = false; rw [h]; rfl)
theorem dge_lt {s : Nat} (hs : s < L) : s < dge t L s ↔ dig (t s) = true := by
  constructor
  · intro h
    cases hw : dig (t s) with
    | true => rfl
    | false => unfold dge at h; rw [ff_at (p := fun x => !dig (t x)) hs (by show (!dig (t s)) = true; rw [hw]; rfl)] at h; exact absurd h (by omega)
  · intro h
    exact ff_past (p := fun x => !dig (t x)) hs (by show (!dig (t s)) = false; rw [h]; rfl)
theorem lte_L : lte t L L = L ∧ dge t L L = L ∧ skp t L L = L := by
  unfold lte dge skp
  rw [Nat.sub_self]
  exact ⟨rfl, rfl, rfl⟩
theorem m_89 (h : mTp t L S) {p : Nat} (hp : p ≤ L) (h6 : S.1 150 6 = nI p) (h7 : S.1 150 7 = nI p) : ∃ A, fX12_next_89 cpFu S = some ((), A) ∧ A.1 150 7 = nI (lte t L p) ∧ A.1 150 9 = nI (kyW t p (lte t L p)) ∧ Kp (fun q j => q = 150 ∧ (j = 7 ∨ j = 9)) S A := by
  have l9 := h.1
  have kk : ∀ {T : cpS}, Kp (fun q j => q = 150 ∧ (j = 7 ∨ j = 9)) S T → mTp t L T := fun g => h.kp (g.le (fun q j h => ⟨h.1, by have := h.2; omega⟩))
  have k6 : ∀ {T : cpS}, Kp (fun q j => q = 150 ∧ (j = 7 ∨ j = 9)) S T → T.1 150 6 = nI p := fun g => by rw [g.i (by omega)]; exact h6
  have fin : ∀ (n : Nat) (i : Nat) (T : cpS), p ≤ i → i ≤ L → (∃ z, fX12_see (nI i) T = some (z, T) ∧ fX12_isSmall z T = some (nI 0, T)) → T.1 150 7 = nI i → Kp (fun q j => q = 150 ∧ (j = 7 ∨ j = 9)) S T → ∃ A, fX12_next_89 (n + 1) T = some ((), A) ∧ A.1 150 7 = nI i ∧ A.1 150 9 = nI (kyW t p i) ∧ Kp (fun q j => q = 150 ∧ (j = 7 ∨ j = 9)) S A := by
    intro n i T i0 iL hz i1 i4
    obtain ⟨z, hz1, hz2⟩ := hz
    have hk := m_keyAt (kk i4) i0 iL (k6 i4) i1
    refine ⟨cpI T 150 9 (nI (kyW t p i)), ?_, by rw [sIn (Or.inr (by decide))]; exact i1, sI1, i4.I (by exact ⟨rfl, by omega⟩)⟩
    rw [fX12_next_89]
    simp (disch := omega) only [lit, lm1, nI_add, pk_mul, nm_eq, nm_eq', nm_lt, nm_lt', nm_le, nm_le', x_lt, x_le, x_eq, x_in, x_cl, x_div, x_sub, x_rem, x_min, x_max, x_and, x_or, x_xor, x_df, x_shl, bI_0, bI_1, bI_bo, lg_eq, toL_inj, ls_nI, decide_eq_false_iff_not, decide_eq_true_eq, Bool.true_eq_false, Bool.false_eq_true, bq, if_pos, if_neg, if_true, if_false, lq, Nat.reduceAdd, Nat.reduceMul, Nat.reduceSub, Nat.reduceDiv, Nat.reduceMod, i1, hz1, hz2, hk]
  refine ff_lp (F := fun n _ (T : cpS) => fX12_next_89 n T) L (fun x => !sml (t x)) (fun i T => p ≤ i ∧ T.1 150 7 = nI i ∧ Kp (fun q j => q = 150 ∧ (j = 7 ∨ j = 9)) S T) (fun o r => ∃ A, r = some ((), A) ∧ A.1 150 7 = nI (o.getD L) ∧ A.1 150 9 = nI (kyW t p (o.getD L)) ∧ Kp (fun q j => q = 150 ∧ (j = 7 ∨ j = 9)) S A) (by omega) (fun n i T hi hI hq => ?_) (fun n i T hi hI hq => ?_) (fun n T hI => ?_) (i0 := p) (a := S) hp ⟨Nat.le_refl _, h7, Kp.rf⟩
  · obtain ⟨i0, i1, i4⟩ := hI
    have hT := kk i4
    obtain ⟨e1, e2⟩ := hT.2.2 i hi
    have hw : sml (t i) = true := by
      cases hw : sml (t i)
      · (try dsimp only at hq); rw [hw] at hq; cases hq
      · rfl
    have dd := m_small (S := T) e2
    rw [hw] at dd
    have dd : fX12_isSmall (nI (t i)) T = some (nI 1, T) := dd
    refine ⟨cpI T 150 7 (nI (i + 1)), ?_, by omega, sI1, i4.I (by exact ⟨rfl, Or.inl rfl⟩)⟩
    rw [fX12_next_89]
    simp (disch := omega) only [lit, lm1, nI_add, pk_mul, nm_eq, nm_eq', nm_lt, nm_lt', nm_le, nm_le', x_lt, x_le, x_eq, x_in, x_cl, x_div, x_sub, x_rem, x_min, x_max, x_and, x_or, x_xor, x_df, x_shl, bI_0, bI_1, bI_bo, lg_eq, toL_inj, ls_nI, decide_eq_false_iff_not, decide_eq_true_eq, Bool.true_eq_false, Bool.false_eq_true, bq, if_pos, if_neg, if_true, if_false, lq, Nat.reduceAdd, Nat.reduceMul, Nat.reduceSub, Nat.reduceDiv, Nat.reduceMod, i1, m_see hT hi, dd]
  · obtain ⟨i0, i1, i4⟩ := hI
    have hT := kk i4
    obtain ⟨e1, e2⟩ := hT.2.2 i hi
    have hw : sml (t i) = false := by
      cases hw : sml (t i)
      · rfl
      · (try dsimp only at hq); rw [hw] at hq; cases hq
    have dd := m_small (S := T) e2
    rw [hw] at dd
    exact fin n i T i0 (by omega) ⟨_, m_see hT hi, dd⟩ i1 i4
  · obtain ⟨i0, i1, i4⟩ := hI
    have hT := kk i4
    exact fin n L T i0 (Nat.le_refl _) ⟨_, m_seeN hT, m_smallN⟩ i1 i4
theorem m_fin8 (h : mTp t L S) {s : Nat} (hs : s ≤ L) (hw : s < L → wht (t s) = false) (h6 : S.1 150 6 = nI s) (n : Nat) : ∃ A, fX12_next_8 (n + 1) S = some ((), A) ∧ A.1 150 6 = nI s ∧ A.1 150 7 = nI (tkE t L s).1 ∧ A.1 150 9 = nI (kyE t L s) ∧ ((tkE t L s).2 = 2 → A.1 150 10 = nI (nvl t s ((tkE t L s).1 - s))) ∧ Kp k150 S A := by
  have l9 := h.1
  have kT : Kp k150 S (cpI S 150 7 (nI s)) := Kp.rf.I (by exact ⟨rfl, by omega⟩)
  have hT := h.kp kT
  have t6 : (cpI S 150 7 (nI s)).1 150 6 = nI s := by rw [sIn (Or.inr (by decide))]; exact h6
  by_cases hL : s < L
  · have hw := hw hL
    unfold wht at hw
    rw [Bool.or_eq_false_iff, decide_eq_false_iff_not, decide_eq_false_iff_not] at hw
    obtain ⟨w1, w2⟩ := hw
    obtain ⟨e1, e2⟩ := h.2.2 s hL
    have hse := m_see h hL
    have hse' := m_see hT hL
    have hsm := m_small (S := cpI S 150 7 (nI s)) e2
    have hdi := m_digit (S := cpI S 150 7 (nI s)) e2
    by_cases hl : s < lte t L s
    · have hl' := (lte_lt hL).mp hl
      rw [hl'] at hsm
      have hsm : fX12_isSmall (nI (t s)) (cpI S 150 7 (nI s)) = some (nI 1, cpI S 150 7 (nI s)) := hsm
      obtain ⟨A, a1, a2, a3, a4⟩ := m_89 hT hs t6 sI1
      have et : tkE t L s = (lte t L s, 1) := by unfold tkE; rw [if_pos hl]
      have ek : kyE t L s = kyW t s (lte t L s) := by unfold kyE; rw [if_pos hl]
      rw [et, ek]
      refine ⟨A, ?_, by rw [a4.i (by omega)]; exact t6, a2, a3, fun e => absurd (show (1 : Nat) = 2 from e) (by decide), kT.tr (a4.le (fun q j h => ⟨h.1, by have := h.2; omega⟩))⟩
      rw [fX12_next_8]
      simp (disch := omega) only [lit, lm1, nI_add, pk_mul, nm_eq, nm_eq', nm_lt, nm_lt', nm_le, nm_le', x_lt, x_le, x_eq, x_in, x_cl, x_div, x_sub, x_rem, x_min, x_max, x_and, x_or, x_xor, x_df, x_shl, bI_0, bI_1, bI_bo, lg_eq, toL_inj, ls_nI, decide_eq_false_iff_not, decide_eq_true_eq, Bool.true_eq_false, Bool.false_eq_true, bq, if_pos, if_neg, if_true, if_false, lq, Nat.reduceAdd, Nat.reduceMul, Nat.reduceSub, Nat.reduceDiv, Nat.reduceMod, h6, hse, w1, w2, t6, hT.2.1, hse', hsm, a1]
    · have hl' : sml (t s) = false := by
        cases hq : sml (t s) with
        | false => rfl
        | true => exact absurd ((lte_lt hL).mpr hq) hl
      rw [hl'] at hsm
      have hsm : fX12_isSmall (nI (t s)) (cpI S 150 7 (nI s)) = some (nI 0, cpI S 150 7 (nI s)) := hsm
      by_cases hd : s < dge t L s
      · have hd' := (dge_lt hL).mp hd
        rw [hd'] at hdi
        have hdi : fX12_isDigit (nI (t s)) (cpI S 150 7 (nI s)) = some (nI 1, cpI S 150 7 (nI s)) := hdi
        have kU : Kp k150 S (cpI (cpI S 150 7 (nI s)) 150 10 (nI 0)) := kT.I (by exact ⟨rfl, by omega⟩)
        obtain ⟨A, a1, a2, a3, a4, a5⟩ := m_146 (h.kp kU) hs (by rw [sIn (Or.inr (by decide))]; exact t6) (by rw [sIn (Or.inr (by decide)), sI1]) sI1
        have et : tkE t L s = (dge t L s, if dge t L s - s ≤ 3 then 2 else 4) := by unfold tkE; rw [if_neg hl, if_pos hd]
        have ek : kyE t L s = if dge t L s - s ≤ 3 then 25 else 27 := by unfold kyE; rw [if_neg hl, if_pos hd]
        rw [et, ek]
        refine ⟨A, ?_, by rw [a5.i (by omega), sIn (Or.inr (by decide))]; exact t6, a2, a4, fun _ => a3, kU.tr (a5.le (fun q j h => ⟨h.1, by have := h.2; omega⟩))⟩
        rw [fX12_next_8]
        simp (disch := omega) only [lit, lm1, nI_add, pk_mul, nm_eq, nm_eq', nm_lt, nm_lt', nm_le, nm_le', x_lt, x_le, x_eq, x_in, x_cl, x_div, x_sub, x_rem, x_min, x_max, x_and, x_or, x_xor, x_df, x_shl, bI_0, bI_1, bI_bo, lg_eq, toL_inj, ls_nI, decide_eq_false_iff_not, decide_eq_true_eq, Bool.true_eq_false, Bool.false_eq_true, bq, if_pos, if_neg, if_true, if_false, lq, Nat.reduceAdd, Nat.reduceMul, Nat.reduceSub, Nat.reduceDiv, Nat.reduceMod, h6, hse, w1, w2, t6, hT.2.1, hse', hsm, hdi, a1]
      · have hd' : dig (t s) = false := by
          cases hq : dig (t s) with
          | false => rfl
          | true => exact absurd ((dge_lt hL).mpr hq) hd
        rw [hd'] at hdi
        have hdi : fX12_isDigit (nI (t s)) (cpI S 150 7 (nI s)) = some (nI 0, cpI S 150 7 (nI s)) := hdi
        have kU : Kp k150 S (cpI (cpI (cpI S 150 7 (nI s)) 150 7 (nI (s + 1))) 150 9 (nI 27)) := (kT.I (by exact ⟨rfl, by omega⟩)).I (by exact ⟨rfl, by omega⟩)
        obtain ⟨A, a1, a2, a3⟩ := m_254 (h.kp kU) hL (by rw [sIn (Or.inr (by decide)), sIn (Or.inr (by decide))]; exact t6) sI1
        have et : tkE t L s = (s + 1, if (sgI (t s)).isSome then 3 else 4) := by unfold tkE; rw [if_neg hl, if_neg hd, if_pos hL]
        have ek : kyE t L s = sgK (t s) := by unfold kyE; rw [if_neg hl, if_neg hd, if_pos hL]
        rw [et, ek]
        refine ⟨A, ?_, by rw [a3.i (by omega), sIn (Or.inr (by decide)), sIn (Or.inr (by decide))]; exact t6, by rw [a3.i (by omega), sIn (Or.inr (by decide)), sI1], a2, fun e => ?_, kU.tr (a3.le (fun q j h => ⟨h.1, by have := h.2; omega⟩))⟩
        · have u7 : (cpI S 150 7 (nI s)).1 150 7 = nI s := sI1
          rw [fX12_next_8]
          simp (disch := omega) only [lit, lm1, nI_add, pk_mul, nm_eq, nm_eq', nm_lt, nm_lt', nm_le, nm_le', x_lt, x_le, x_eq, x_in, x_cl, x_div, x_sub, x_rem, x_min, x_max, x_and, x_or, x_xor, x_df, x_shl, bI_0, bI_1, bI_bo, lg_eq, toL_inj, ls_nI, decide_eq_false_iff_not, decide_eq_true_eq, Bool.true_eq_false, Bool.false_eq_true, bq, if_pos, if_neg, if_true, if_false, lq, Nat.reduceAdd, Nat.reduceMul, Nat.reduceSub, Nat.reduceDiv, Nat.reduceMod, h6, hse, w1, w2, t6, hT.2.1, hse', hsm, hdi, u7, a1]
        · (try dsimp only at e); split at e <;> cases e
  · have eL : s = L := by omega
    subst eL
    have hl : ¬ s < lte t s s := by rw [lte_L.1]; omega
    have hd : ¬ s < dge t s s := by rw [lte_L.2.1]; omega
    have et : tkE t s s = (s, 0) := by unfold tkE; rw [if_neg hl, if_neg hd, if_neg hL]
    have ek : kyE t s s = 26 := by unfold kyE; rw [if_neg hl, if_neg hd, if_neg hL]
    rw [et, ek]
    have q1 : (nM = nI 10) = False := eq_false (by decide)
    have q2 : (nM = nI 32) = False := eq_false (by decide)
    refine ⟨cpI (cpI S 150 7 (nI s)) 150 9 (nI 26), ?_, by rw [sIn (Or.inr (by decide))]; exact t6, by rw [sIn (Or.inr (by decide)), sI1], sI1, fun e => absurd (show (0 : Nat) = 2 from e) (by decide), kT.I (by exact ⟨rfl, by omega⟩)⟩
    rw [fX12_next_8]
    simp (disch := omega) only [lit, lm1, nI_add, pk_mul, nm_eq, nm_eq', nm_lt, nm_lt', nm_le, nm_le', x_lt, x_le, x_eq, x_in, x_cl, x_div, x_sub, x_rem, x_min, x_max, x_and, x_or, x_xor, x_df, x_shl, bI_0, bI_1, bI_bo, lg_eq, toL_inj, ls_nI, decide_eq_false_iff_not, decide_eq_true_eq, Bool.true_eq_false, Bool.false_eq_true, bq, if_pos, if_neg, if_true, if_false, lq, Nat.reduceAdd, Nat.reduceMul, Nat.reduceSub, Nat.reduceDiv, Nat.reduceMod, h6, m_seeN h, q1, q2, t6, hT.2.1]
theorem m_next (h : mTp t L S) {p : Nat} (hp : p ≤ L) (h7 : S.1 150 7 = nI p) : ∃ A, fX12_next S = some ((), A) ∧ A.1 150 6 = nI (skp t L p) ∧ A.1 150 7 = nI (tkE t L (skp t L p)).1 ∧ A.1 150 9 = nI (kyE t L (skp t L p)) ∧ ((tkE t L (skp t L p)).2 = 2 → A.1 150 10 = nI (nvl t (skp t L p) ((tkE t L (skp t L p)).1 - skp t L p))) ∧ Kp k150 S A := by
  have l9 := h.1
  have k0 : Kp k150 S (cpI S 150 6 (nI p)) := Kp.rf.I (by exact ⟨rfl, by omega⟩)
  have go : ∃ A, fX12_next_8 cpFu (cpI S 150 6 (nI p)) = some ((), A) ∧ A.1 150 6 = nI (skp t L p) ∧ A.1 150 7 = nI (tkE t L (skp t L p)).1 ∧ A.1 150 9 = nI (kyE t L (skp t L p)) ∧ ((tkE t L (skp t L p)).2 = 2 → A.1 150 10 = nI (nvl t (skp t L p) ((tkE t L (skp t L p)).1 - skp t L p))) ∧ Kp k150 S A := by
    refine ff_lp (F := fun n _ (T : cpS) => fX12_next_8 n T) L (fun x => !wht (t x)) (fun i T => T.1 150 6 = nI i ∧ Kp k150 S T) (fun o r => ∃ A, r = some ((), A) ∧ A.1 150 6 = nI (o.getD L) ∧ A.1 150 7 = nI (tkE t L (o.getD L)).1 ∧ A.1 150 9 = nI (kyE t L (o.getD L)) ∧ ((tkE t L (o.getD L)).2 = 2 → A.1 150 10 = nI (nvl t (o.getD L) ((tkE t L (o.getD L)).1 - (o.getD L)))) ∧ Kp k150 S A) (by omega) (fun n i T hi hI hq => ?_) (fun n i T hi hI hq => ?_) (fun n T hI => ?_) (i0 := p) (a := cpI S 150 6 (nI p)) hp ⟨sI1, k0⟩
    · obtain ⟨i1, i2⟩ := hI
      have hT := h.kp i2
      obtain ⟨e1, e2⟩ := hT.2.2 i hi
      have hse := m_see hT hi
      refine ⟨cpI T 150 6 (nI (i + 1)), ?_, sI1, i2.I (by exact ⟨rfl, by omega⟩)⟩
      have hw : wht (t i) = true := by
        cases hw : wht (t i)
        · (try dsimp only at hq); rw [hw] at hq; cases hq
        · rfl
      rw [fX12_next_8]
      by_cases h1 : t i = 10
      · rw [h1] at hse
        simp (disch := omega) only [lit, lm1, nI_add, pk_mul, nm_eq, nm_eq', nm_lt, nm_lt', nm_le, nm_le', x_lt, x_le, x_eq, x_in, x_cl, x_div, x_sub, x_rem, x_min, x_max, x_and, x_or, x_xor, x_df, x_shl, bI_0, bI_1, bI_bo, lg_eq, toL_inj, ls_nI, decide_eq_false_iff_not, decide_eq_true_eq, Bool.true_eq_false, Bool.false_eq_true, bq, if_pos, if_neg, if_true, if_false, lq, Nat.reduceAdd, Nat.reduceMul, Nat.reduceSub, Nat.reduceDiv, Nat.reduceMod, i1, hse]
      · have h2 : t i = 32 := by
          unfold wht at hw
          rw [decide_eq_false h1, Bool.false_or] at hw
          exact of_decide_eq_true hw
        rw [h2] at hse
        simp (disch := omega) only [lit, lm1, nI_add, pk_mul, nm_eq, nm_eq', nm_lt, nm_lt', nm_le, nm_le', x_lt, x_le, x_eq, x_in, x_cl, x_div, x_sub, x_rem, x_min, x_max, x_and, x_or, x_xor, x_df, x_shl, bI_0, bI_1, bI_bo, lg_eq, toL_inj, ls_nI, decide_eq_false_iff_not, decide_eq_true_eq, Bool.true_eq_false, Bool.false_eq_true, bq, if_pos, if_neg, if_true, if_false, lq, Nat.reduceAdd, Nat.reduceMul, Nat.reduceSub, Nat.reduceDiv, Nat.reduceMod, i1, hse]
    · obtain ⟨i1, i2⟩ := hI
      have hT := h.kp i2
      have hw : wht (t i) = false := by
        cases hw : wht (t i)
        · rfl
        · (try dsimp only at hq); rw [hw] at hq; cases hq
      obtain ⟨A, a1, a2, a3, a4, a5, a6⟩ := m_fin8 hT (by omega) (fun _ => hw) i1 n
      exact ⟨A, a1, a2, a3, a4, a5, i2.tr a6⟩
    · obtain ⟨i1, i2⟩ := hI
      have hT := h.kp i2
      obtain ⟨A, a1, a2, a3, a4, a5, a6⟩ := m_fin8 hT (Nat.le_refl _) (fun q => absurd q (by omega)) i1 n
      exact ⟨A, a1, a2, a3, a4, a5, i2.tr a6⟩
  obtain ⟨A, a1, a2⟩ := go
  refine ⟨A, ?_, a2⟩
  unfold fX12_next
  simp (disch := omega) only [lit, lm1, nI_add, pk_mul, nm_eq, nm_eq', nm_lt, nm_lt', nm_le, nm_le', x_lt, x_le, x_eq, x_in, x_cl, x_div, x_sub, x_rem, x_min, x_max, x_and, x_or, x_xor, x_df, x_shl, bI_0, bI_1, bI_bo, lg_eq, toL_inj, ls_nI, decide_eq_false_iff_not, decide_eq_true_eq, Bool.true_eq_false, Bool.false_eq_true, bq, if_pos, if_neg, if_true, if_false, lq, Nat.reduceAdd, Nat.reduceMul, Nat.reduceSub, Nat.reduceDiv, Nat.reduceMod, h7]
  exact a1
end N4
