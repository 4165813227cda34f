/-! laws: code appended side by side -/
def Cd (l : List Nat) (S M : cpS) : Prop := (5 ≤ l.length) ∧ (S.1 26 1 = nI l.length) ∧ (∀ j, j < l.length → S.1 27 j = nI (l.getD j 0)) ∧ (M.1 154 261 = nI (l.length - 5)) ∧ (∀ j, 5 + j < l.length → M.1 154 (262 + j) = nI (cpOp (l.getD (5 + j) 0)))
theorem Cd.f5 {l : List Nat} {S M : cpS} (h : Cd l S M) : 5 ≤ l.length := h.1
theorem Cd.c1 {l : List Nat} {S M : cpS} (h : Cd l S M) : S.1 26 1 = nI l.length := h.2.1
theorem Cd.cc {l : List Nat} {S M : cpS} (h : Cd l S M) : ∀ j, j < l.length → S.1 27 j = nI (l.getD j 0) := h.2.2.1
theorem Cd.m1 {l : List Nat} {S M : cpS} (h : Cd l S M) : M.1 154 261 = nI (l.length - 5) := h.2.2.2.1
theorem Cd.mc {l : List Nat} {S M : cpS} (h : Cd l S M) : ∀ j, 5 + j < l.length → M.1 154 (262 + j) = nI (cpOp (l.getD (5 + j) 0)) := h.2.2.2.2
def kLc (q j : Nat) : Prop := (q = 115 ∧ 3 ≤ j ∧ j ≤ 10 ∧ j ≠ 5) ∨ (q = 26 ∧ j = 1) ∨ q = 27
def kLm (q j : Nat) : Prop := (q = 150 ∧ 6 ≤ j ∧ j ≤ 12 ∧ j ≠ 8) ∨ (q = 154 ∧ 261 ≤ j)
def Ls (t : Nat → Nat) (L s w : Nat) (l : List Nat) (S M : cpS) : Prop := (Rp t L s S M) ∧ (Cd l S M) ∧ (S.1 115 11 = nI w) ∧ (M.1 150 15 = nI w) ∧ (w ≤ 1) ∧ (l.length + 1 ≤ s)
theorem Ls.rp {t : Nat → Nat} {L s w : Nat} {l : List Nat} {S M : cpS} (h : Ls t L s w l S M) : Rp t L s S M := h.1
theorem Ls.cd {t : Nat → Nat} {L s w : Nat} {l : List Nat} {S M : cpS} (h : Ls t L s w l S M) : Cd l S M := h.2.1
theorem Ls.wc {t : Nat → Nat} {L s w : Nat} {l : List Nat} {S M : cpS} (h : Ls t L s w l S M) : S.1 115 11 = nI w := h.2.2.1
theorem Ls.wm {t : Nat → Nat} {L s w : Nat} {l : List Nat} {S M : cpS} (h : Ls t L s w l S M) : M.1 150 15 = nI w := h.2.2.2.1
theorem Ls.w2 {t : Nat → Nat} {L s w : Nat} {l : List Nat} {S M : cpS} (h : Ls t L s w l S M) : w ≤ 1 := h.2.2.2.2.1
theorem Ls.bg {t : Nat → Nat} {L s w : Nat} {l : List Nat} {S M : cpS} (h : Ls t L s w l S M) : l.length + 1 ≤ s := h.2.2.2.2.2
section CD
variable {S M S' M' : cpS} {t : Nat → Nat} {L s w : Nat} {l : List Nat}
theorem kRc.le (h : Kp kRc S S') : Kp kLc S S' := h.le (fun q j h => Or.inl h)
theorem kRm.le (h : Kp kRm M M') : Kp kLm M M' := h.le (fun q j h => Or.inl h)
theorem Cd.kp {f g : Nat → Nat → Prop} (h : Cd l S M) (a : Kp f S S') (b : Kp g M M') (f1 : ¬ f 26 1) (f2 : ∀ j, ¬ f 27 j) (g1 : ∀ j, 261 ≤ j → ¬ g 154 j) : Cd l S' M' := by
  refine ⟨h.f5, ?_, fun j hj => ?_, ?_, fun j hj => ?_⟩
  · rw [a.i f1]; exact h.c1
  · rw [a.i (f2 _)]; exact h.cc j hj
  · rw [b.i (g1 _ (by decide))]; exact h.m1
  · rw [b.i (g1 _ (by omega))]; exact h.mc j hj
theorem Ls.go (h : Ls t L s w l S M) (g : Go t L s S M S' M') : ∃ s', Ls t L s' w l S' M' ∧ s < s' ∧ Kp kLc S S' ∧ Kp kLm M M' := by
  obtain ⟨s', g1, g2, g3, g4⟩ := g
  have bg := h.bg
  refine ⟨s', ⟨g1, h.cd.kp g3 g4 (fun q => by have := q.1; omega) (fun j q => by have := q.1; omega) (fun j _ q => by have := q.1; omega), ?_, ?_, h.w2, by omega⟩, g2, kRc.le g3, kRm.le g4⟩
  · rw [g3.i (by unfold kRc; omega)]; exact h.wc
  · rw [g4.i (by unfold kRm; omega)]; exact h.wm
theorem gD_ap1 (l : List Nat) (k j : Nat) : (l ++ [k]).getD j 0 = if j < l.length then l.getD j 0 else if j = l.length then k else 0 := by
  by_cases h : j < l.length
  · rw [if_pos h, List.getD_eq_getElem?_getD, List.getD_eq_getElem?_getD, List.getElem?_append_left h]
  · rw [if_neg h]
    by_cases e : j = l.length
    · subst e
      rw [if_pos rfl, List.getD_eq_getElem?_getD, List.getElem?_append_right (Nat.le_refl _), Nat.sub_self]; rfl
    · rw [if_neg e]
      rw [List.getD_eq_getElem?_getD, List.getElem?_eq_none (by rw [List.length_append]; show l.length + 1 ≤ j; omega)]; rfl
theorem cpOp_lt {k : Nat} (h : k < 2010) : cpOp k < 4000 := by
  unfold cpOp
  split
  · omega
  · split
    · omega
    · split
      · omega
      · split
        · omega
        · split <;> omega
/-- the class's code and the reference's grow by one -/
theorem Cd.app (h : Cd l S M) (hl : l.length < 900) {k : Nat} (hk : k < 2010) (h11 : M.1 150 11 = nI 0) : ∃ S' M', fX3_append 26 (nI k) S = some ((), S') ∧ fX12_codes (nI (cpOp k)) M = some ((), M') ∧ Cd (l ++ [k]) S' M' ∧ Kp (fun q j => (q = 26 ∧ j = 1) ∨ q = 27) S S' ∧ Kp (fun q j => q = 154 ∧ 261 ≤ j) M M' := by
  have f5 := h.f5
  have el : (l ++ [k]).length = l.length + 1 := by rw [List.length_append]; rfl
  refine ⟨cpI (cpI S 27 l.length (nI k)) 26 1 (nI (l.length + 1)), cpI (cpI M 154 (262 + (l.length - 5)) (nI (cpOp k))) 154 261 (nI (l.length - 5 + 1)), ?_, ?_, ⟨by omega, by rw [sI1, el], fun j hj => ?_, by rw [sI1, el]; congr 1; omega, fun j hj => ?_⟩, (Kp.rf.I (by exact Or.inr rfl)).I (by exact Or.inl ⟨rfl, rfl⟩), (Kp.rf.I (by exact ⟨rfl, by omega⟩)).I (by exact ⟨rfl, by omega⟩)⟩
  · have q1 : (cpI S 27 l.length (nI k)).1 26 1 = nI l.length := by rw [sIn (Or.inl (by decide))]; exact h.c1
    unfold fX3_append
    simp (disch := omega) only [lit, lm1, nI_add, pk_mul, nm_eq, nm_eq', nm_lt, nm_lt', nm_le, nm_le', x_lt, x_le, x_eq, x_in, x_cl, x_div, x_sub, x_rem, x_min, x_max, x_and, x_or, x_xor, x_df, x_shl, bI_0, bI_1, bI_bo, lg_eq, toL_inj, ls_nI, decide_eq_false_iff_not, decide_eq_true_eq, Bool.true_eq_false, Bool.false_eq_true, bq, if_pos, if_neg, if_true, if_false, lq, Nat.reduceAdd, Nat.reduceMul, Nat.reduceSub, Nat.reduceDiv, Nat.reduceMod, h.c1, q1]
  · have q1 : (cpI M 154 (262 + (l.length - 5)) (nI (cpOp k))).1 154 261 = nI (l.length - 5) := by rw [sIn (Or.inr (by omega))]; exact h.m1
    unfold fX12_codes
    simp (disch := omega) only [lit, lm1, nI_add, pk_mul, nm_eq, nm_eq', nm_lt, nm_lt', nm_le, nm_le', x_lt, x_le, x_eq, x_in, x_cl, x_div, x_sub, x_rem, x_min, x_max, x_and, x_or, x_xor, x_df, x_shl, bI_0, bI_1, bI_bo, lg_eq, toL_inj, ls_nI, decide_eq_false_iff_not, decide_eq_true_eq, Bool.true_eq_false, Bool.false_eq_true, bq, if_pos, if_neg, if_true, if_false, lq, Nat.reduceAdd, Nat.reduceMul, Nat.reduceSub, Nat.reduceDiv, Nat.reduceMod, h11, h.m1, q1]
  · rw [sIn (Or.inl (by decide)), gD_ap1]
    by_cases e : j < l.length
    · rw [sIn (Or.inr (by omega)), if_pos e]; exact h.cc j e
    · have e2 : j = l.length := by omega
      subst e2
      rw [sI1, if_neg e, if_pos rfl]
  · rw [sIn (Or.inr (by omega)), gD_ap1]
    by_cases e : 5 + j < l.length
    · rw [sIn (Or.inr (by omega)), if_pos e]; exact h.mc j e
    · have e2 : j = l.length - 5 := by omega
      subst e2
      rw [sI1, if_neg e, if_pos (by omega)]
theorem Ls.app (h : Ls t L s w l S M) {k : Nat} (hk : k < 2010) (hl : l.length + 2 ≤ s) : ∃ S' M', fX3_append 26 (nI k) S = some ((), S') ∧ fX12_codes (nI (cpOp k)) M = some ((), M') ∧ Ls t L s w (l ++ [k]) S' M' ∧ Kp kLc S S' ∧ Kp kLm M M' := by
  have l9 := h.rp.ct.1
  have sl := h.rp.sl
  obtain ⟨S', M', a1, a2, a3, a4, a5⟩ := h.cd.app (by omega) hk h.rp.m11
  refine ⟨S', M', a1, a2, ⟨h.rp.kp a4 a5 (fun j q => by omega) (fun j _ _ q => by omega) (fun j q => by omega) (fun j _ _ q => by omega), a3, ?_, ?_, h.w2, by rw [List.length_append]; show l.length + 1 + 1 ≤ s; omega⟩, a4.le (fun q j z => Or.inr z), a5.le (fun q j z => Or.inr z)⟩
  · rw [a4.i (by omega)]; exact h.wc
  · rw [a5.i (by omega)]; exact h.wm
/-- a piece of code that lays one thing on top -/
def Sg (b : Bool) (H : Nat) (k : List Nat) : Prop := ∀ st : List Bool, st.length + H < 90 → cpSnd k st (b :: st)
theorem snd_app : ∀ (k1 : List Nat) {k2 : List Nat} {a b c : List Bool}, cpSnd k1 a b → cpSnd k2 b c → cpSnd (k1 ++ k2) a c := by
  intro k1
  induction k1 with
  | nil => intro k2 a b c h g; have h : a = b := h; subst h; exact g
  | cons x k1 ih =>
    intro k2 a b c h g
    obtain ⟨h1, u, h2, h3⟩ := h
    exact ⟨h1, u, h2, ih h3 g⟩
theorem snd_one {k : Nat} {a b : List Bool} (h : a.length < 90) (g : cpTyp k a = some b) : cpSnd [k] a b := ⟨h, b, g, rfl⟩
/-- how a reading ends: both go on, or both fail -/
def Ot (t : Nat → Nat) (L s w : Nat) (l : List Nat) (b : Bool) (H : Nat) (S M : cpS) (rc : Option (Int32 × cpS)) (rm : Option (Unit × cpS)) : Prop :=
  (∃ s' k S' M', rc = some (nI 1, S') ∧ rm = some ((), M') ∧ Ls t L s' w (l ++ k) S' M' ∧ s < s' ∧ k.length + s ≤ s' ∧ Sg b H k ∧ Kp kLc S S' ∧ Kp kLm M M') ∨
  (∃ S' M', rc = some (nI 0, S') ∧ rm = some ((), M') ∧ Fp S' M' ∧ Kp kLc S S' ∧ Kp kLm M M')
theorem Ls.enter (h : Ls t L s w l S M) (hk : kyE t L s ≠ 26) {d : Nat} (hd : d ≤ 6) :
    (∃ s' S' M', d < 6 ∧ fX7_enter (nI d) S = some (nI 1, S') ∧ fX12_goesIn (nI d) M = some (nI 1, M') ∧ Ls t L s' w l S' M' ∧ s < s' ∧ Kp kLc S S' ∧ Kp kLm M M') ∨
    (∃ S' M', fX7_enter (nI d) S = some (nI 0, S') ∧ fX12_goesIn (nI d) M = some (nI 0, M') ∧ Fp S' M' ∧ Kp kLc S S' ∧ Kp kLm M M') := by
  have hz : cpBo (nI 0) = true := by decide
  by_cases e : d = 6
  · subst e
    obtain ⟨S', M', r1, r2, r3, r4, r5⟩ := h.rp.refu (f := 4) (by decide) (by decide)
    have fm' : (M'.1 150 11 = nI 0) = False := eq_false r3.fm
    refine Or.inr ⟨S', M', ?_, ?_, r3, kRc.le r4, kRm.le r5⟩
    · unfold fX7_enter
      simp (disch := omega) only [lit, lm1, nI_add, pk_mul, nm_eq, nm_eq', nm_lt, nm_lt', nm_le, nm_le', x_lt, x_le, x_eq, x_in, x_cl, x_div, x_sub, x_rem, x_min, x_max, x_and, x_or, x_xor, x_df, x_shl, bI_0, bI_1, bI_bo, lg_eq, toL_inj, ls_nI, decide_eq_false_iff_not, decide_eq_true_eq, Bool.true_eq_false, Bool.false_eq_true, bq, if_pos, if_neg, if_true, if_false, lq, Nat.reduceAdd, Nat.reduceMul, Nat.reduceSub, Nat.reduceDiv, Nat.reduceMod, r1, hz]
    · unfold fX12_goesIn fX12_goesIn_11
      simp (disch := omega) only [lit, lm1, nI_add, pk_mul, nm_eq, nm_eq', nm_lt, nm_lt', nm_le, nm_le', x_lt, x_le, x_eq, x_in, x_cl, x_div, x_sub, x_rem, x_min, x_max, x_and, x_or, x_xor, x_df, x_shl, bI_0, bI_1, bI_bo, lg_eq, toL_inj, ls_nI, decide_eq_false_iff_not, decide_eq_true_eq, Bool.true_eq_false, Bool.false_eq_true, bq, if_pos, if_neg, if_true, if_false, lq, Nat.reduceAdd, Nat.reduceMul, Nat.reduceSub, Nat.reduceDiv, Nat.reduceMod, r2, fm']
  · obtain ⟨s1, S', M', a1, a2, a3, a4, a5, a6⟩ := h.rp.adv hk
    obtain ⟨s', b1, b2, b3, b4⟩ := h.go ⟨s1, a3, a4, k115.le a5, k150.le a6⟩
    refine Or.inl ⟨s', S', M', by omega, ?_, ?_, b1, b2, b3, b4⟩
    · unfold fX7_enter
      simp (disch := omega) only [lit, lm1, nI_add, pk_mul, nm_eq, nm_eq', nm_lt, nm_lt', nm_le, nm_le', x_lt, x_le, x_eq, x_in, x_cl, x_div, x_sub, x_rem, x_min, x_max, x_and, x_or, x_xor, x_df, x_shl, bI_0, bI_1, bI_bo, lg_eq, toL_inj, ls_nI, decide_eq_false_iff_not, decide_eq_true_eq, Bool.true_eq_false, Bool.false_eq_true, bq, if_pos, if_neg, if_true, if_false, lq, Nat.reduceAdd, Nat.reduceMul, Nat.reduceSub, Nat.reduceDiv, Nat.reduceMod, a1]
    · unfold fX12_goesIn fX12_goesIn_11
      simp (disch := omega) only [lit, lm1, nI_add, pk_mul, nm_eq, nm_eq', nm_lt, nm_lt', nm_le, nm_le', x_lt, x_le, x_eq, x_in, x_cl, x_div, x_sub, x_rem, x_min, x_max, x_and, x_or, x_xor, x_df, x_shl, bI_0, bI_1, bI_bo, lg_eq, toL_inj, ls_nI, decide_eq_false_iff_not, decide_eq_true_eq, Bool.true_eq_false, Bool.false_eq_true, bq, if_pos, if_neg, if_true, if_false, lq, Nat.reduceAdd, Nat.reduceMul, Nat.reduceSub, Nat.reduceDiv, Nat.reduceMod, e, h.rp.m11, a2, a3.m11]
end CD
