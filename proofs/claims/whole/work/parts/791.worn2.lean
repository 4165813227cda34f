/-! the reference: all deeds in a row of numbers, then rows of them -/
theorem up_list {σ : Type} (f : Nat → σ → σ) : ∀ (l : List Nat) (s : σ), up (fun x s => f (l.getD x 0) s) l.length 0 s = l.foldl (fun s d => f d s) s := by
  have gen : ∀ (l : List Nat) (i : Nat) (m : List Nat) (s : σ), m.length = i → up (fun x s => f ((m ++ l).getD x 0) s) l.length i s = l.foldl (fun s d => f d s) s := by
    intro l
    induction l with
    | nil => intro i m s h; rfl
    | cons a l ih =>
      intro i m s h
      rw [List.length_cons, up, List.foldl_cons]
      have e : (m ++ a :: l).getD i 0 = a := by rw [← h]; simp
      rw [e]
      have := ih (i + 1) (m ++ [a]) (f a s) (by rw [List.length_append, h]; rfl)
      rw [List.append_assoc] at this
      exact this
  intro l s
  exact gen l 0 [] s rfl
theorem up_fold {σ : Type} {g : Nat → List Nat → List Nat} {h : Nat → σ → σ} {F : σ → Nat → σ} (H : ∀ i l s, (g i l).foldl F s = h i (l.foldl F s)) : ∀ d i l s, (up g d i l).foldl F s = up h d i (l.foldl F s) := by
  intro d
  induction d with
  | zero => intro i l s; rfl
  | succ d ih => intro i l s; rw [up, up, ih, H]
theorem gD_app {l m : List Nat} {x : Nat} (h : x < l.length) : (l ++ m).getD x 0 = l.getD x 0 := by rw [List.getD_eq_getElem?_getD, List.getElem?_append_left h, ← List.getD_eq_getElem?_getD]
def dl3 (D : cpD) (c p q : Nat) (l : List Nat) : List Nat := up (fun b l => l ++ [dn c p q b]) D.K 0 l
def dl2 (D : cpD) (c p : Nat) (l : List Nat) : List Nat := up (fun q l => dl3 D c p q l) (D.P - (p + 1)) (p + 1) l
def dls (D : cpD) (c : Nat) : List Nat := up (fun p l => dl2 D c p l) D.P 0 []
theorem dls_fold (D : cpD) (c : Nat) {σ : Type} (f : Nat → σ → σ) (s : σ) : (dls D c).foldl (fun s d => f d s) s = up (fun p s => up (fun q s => up (fun b s => f (dn c p q b) s) D.K 0 s) (D.P - (p + 1)) (p + 1) s) D.P 0 s := by
  unfold dls
  rw [up_fold (F := fun s d => f d s) (h := fun p s => up (fun q s => up (fun b s => f (dn c p q b) s) D.K 0 s) (D.P - (p + 1)) (p + 1) s) (fun p l s => ?_)]
  · rfl
  · unfold dl2
    exact up_fold (F := fun s d => f d s) (h := fun q s => up (fun b s => f (dn c p q b) s) D.K 0 s) (fun q l s => by
      unfold dl3
      exact up_fold (F := fun s d => f d s) (h := fun b s => f (dn c p q b) s) (fun b l s => by rw [List.foldl_append]; rfl) _ _ _ _) _ _ _ _
def dOk (D : cpD) (c d : Nat) : Prop := ∃ p q b, p < q ∧ q < D.P ∧ b < D.K ∧ d = dn c p q b
def g8 (p : Nat) : Nat := [0, 7, 13, 18, 22, 25, 27, 28, 28].getD p 28
theorem g8_s : ∀ p, p < 8 → g8 p + (7 - p) = g8 (p + 1) ∧ g8 (p + 1) ≤ 28 := by decide
section W2
variable {D : cpD} {E : cpE} {S : cpS}
theorem dn_dec {c p q b : Nat} (hc : c < 10) (hp : p < 10) (hq : q < 10) (hb : b < 10) : dn c p q b / 1000 % 10 = p ∧ dn c p q b / 100 % 10 = q ∧ dn c p q b / 10 % 10 = c ∧ dn c p q b % 10 = b ∧ dn c p q b < 20000 := by
  unfold dn; omega
def dlO (D : cpD) (c B : Nat) (l : List Nat) (T : cpS) : Prop := l.length ≤ B ∧ T.1 150 33 = nI l.length ∧ (∀ x, x < l.length → T.1 168 x = nI (l.getD x 0)) ∧ ∀ x, x < l.length → dOk D c (l.getD x 0)
def k168 (q j : Nat) : Prop := q = 168 ∨ (q = 150 ∧ j = 33)
theorem k168_M {k j : Nat} (h : k168 k j) : kM k j := by
  rcases h with rfl | ⟨rfl, rfl⟩
  · exact ⟨scr_c (by decide) (by decide) (by decide) j, by decide⟩
  · exact ⟨⟨by decide, fun e => absurd e (by decide), fun _ => by omega⟩, by decide⟩
theorem m_deeds34 (hD : D.WF) (m : mA D E S) {c p q : Nat} {l : List Nat} (hc : c < D.C) (hpq : p < q) (hq : q < D.P) (h : dlO D c (6 * (g8 p + (q - p - 1))) l S) (k7 k21 : Int32 → cpS → Option (Unit × cpS)) : ∃ T, fX12_laysDeeds_34 (nI c) (nI p) (nI q) k7 k21 cpFu (nI 0) S = k21 (nI (q + 1)) T ∧ dlO D c (6 * (g8 p + (q + 1 - p - 1))) (dl3 D c p q l) T ∧ Kp k168 S T := by
  have c4 := hD.c4
  have k6 := hD.k6
  have p8 := hD.p8
  have g := g8_s p (by omega)
  have := up_lpR (F := fun n b (T : cpS) => fX12_laysDeeds_34 (nI c) (nI p) (nI q) k7 k21 n b T) (K := fun T => k21 (nI (q + 1)) T) D.K (fun b l => l ++ [dn c p q b]) (fun b l T => dlO D c (6 * (g8 p + (q - p - 1)) + b) l T ∧ Kp k168 S T) (by omega) (fun n b l T hb hI => ?_) (fun n l T hI => ?_) (i0 := 0) (s := l) (a := S) (Nat.zero_le _) ⟨h, Kp.rf⟩
  · obtain ⟨T, t1, t2, t3⟩ := this
    refine ⟨T, t1, ⟨?_, t2.2⟩, t3⟩
    have := t2.1
    show (up (fun b l => l ++ [dn c p q b]) (D.K - 0) 0 l).length ≤ _
    omega
  · obtain ⟨⟨i1, i2, i3, i4⟩, i5⟩ := hI
    have mT := m.mm hD (i5.le (fun _ _ => k168_M))
    have e33 : (cpI T 168 l.length (nI (dn c p q b))).1 150 33 = nI l.length := by rw [sIr (by decide)]; exact i2
    refine ⟨cpI (cpI T 168 l.length (nI (dn c p q b))) 150 33 (nI (l.length + 1)), ?_, ⟨?_, ?_, fun x hx => ?_, fun x hx => ?_⟩, (i5.I (by exact Or.inl rfl)).I (by exact Or.inr ⟨rfl, rfl⟩)⟩
    · rw [fX12_laysDeeds_34]
      unfold fX12_deedOf dn at *
      simp (disch := omega) only [lit, lm1, nI_add, pk_mul, nm_eq, nm_eq', nm_lt, nm_lt', nm_le, nm_le', x_lt, x_le, x_eq, x_in, x_cl, x_div, x_sub, x_rem, x_min, x_max, x_and, x_or, x_xor, x_df, x_shl, bI_0, bI_1, bI_bo, lg_eq, toL_inj, ls_nI, decide_eq_false_iff_not, decide_eq_true_eq, Bool.true_eq_false, Bool.false_eq_true, bq, if_pos, if_neg, if_true, if_false, lq, Nat.reduceAdd, Nat.reduceMul, Nat.reduceSub, Nat.reduceDiv, Nat.reduceMod, mT.K, i2, e33]
    · rw [List.length_append]; show l.length + 1 ≤ _; omega
    · rw [List.length_append]; exact sI1
    · rw [List.length_append] at hx
      have hx : x < l.length + 1 := hx
      rw [sIr (by decide)]
      by_cases e : x = l.length
      · rw [e, sI1]; simp
      · rw [sIn (Or.inr e), i3 x (by omega), gD_app (by omega)]
    · rw [List.length_append] at hx
      have hx : x < l.length + 1 := hx
      by_cases e : x = l.length
      · rw [e]
        have : (l ++ [dn c p q b]).getD l.length 0 = dn c p q b := by simp
        rw [this]
        exact ⟨p, q, b, hpq, hq, hb, rfl⟩
      · rw [gD_app (by omega)]; exact i4 x (by omega)
  · have mT := m.mm hD (hI.2.le (fun _ _ => k168_M))
    rw [fX12_laysDeeds_34]
    simp (disch := omega) only [lit, lm1, nI_add, pk_mul, nm_eq, nm_eq', nm_lt, nm_lt', nm_le, nm_le', x_lt, x_le, x_eq, x_in, x_cl, x_div, x_sub, x_rem, x_min, x_max, x_and, x_or, x_xor, x_df, x_shl, bI_0, bI_1, bI_bo, lg_eq, toL_inj, ls_nI, decide_eq_false_iff_not, decide_eq_true_eq, Bool.true_eq_false, Bool.false_eq_true, bq, if_pos, if_neg, if_true, if_false, lq, Nat.reduceAdd, Nat.reduceMul, Nat.reduceSub, Nat.reduceDiv, Nat.reduceMod, mT.K]
theorem m_deeds21 (hD : D.WF) (m : mA D E S) {c p : Nat} {l : List Nat} (hc : c < D.C) (hp : p < D.P) (h : dlO D c (6 * g8 p) l S) (k7 : Int32 → cpS → Option (Unit × cpS)) : ∃ T, fX12_laysDeeds_21 (nI c) (nI p) k7 cpFu (nI (p + 1)) S = k7 (nI (p + 1)) T ∧ dlO D c (6 * g8 (p + 1)) (dl2 D c p l) T ∧ Kp k168 S T := by
  have p8 := hD.p8
  have g := g8_s p (by omega)
  have := up_lpR (F := fun n q (T : cpS) => fX12_laysDeeds_21 (nI c) (nI p) k7 n q T) (K := fun T => k7 (nI (p + 1)) T) D.P (fun q l => dl3 D c p q l) (fun q l T => p < q ∧ dlO D c (6 * (g8 p + (q - p - 1))) l T ∧ Kp k168 S T) (by omega) (fun n q l T hq hI => ?_) (fun n l T hI => ?_) (i0 := p + 1) (s := l) (a := S) (by omega) ⟨by omega, by rw [show p + 1 - p - 1 = 0 by omega]; exact h, Kp.rf⟩
  · obtain ⟨T, t1, t0, t2, t3⟩ := this
    refine ⟨T, t1, ⟨?_, t2.2⟩, t3⟩
    have := t2.1
    show (up (fun q l => dl3 D c p q l) (D.P - (p + 1)) (p + 1) l).length ≤ _
    omega
  · obtain ⟨i0, i1, i2⟩ := hI
    have mT := m.mm hD (i2.le (fun _ _ => k168_M))
    obtain ⟨U, u1, u2, u3⟩ := m_deeds34 hD mT hc i0 hq i1 k7 (fX12_laysDeeds_21 (nI c) (nI p) k7 n)
    refine ⟨U, ?_, by omega, u2, i2.tr u3⟩
    rw [fX12_laysDeeds_21]
    simp (disch := omega) only [lit, lm1, nI_add, pk_mul, nm_eq, nm_eq', nm_lt, nm_lt', nm_le, nm_le', x_lt, x_le, x_eq, x_in, x_cl, x_div, x_sub, x_rem, x_min, x_max, x_and, x_or, x_xor, x_df, x_shl, bI_0, bI_1, bI_bo, lg_eq, toL_inj, ls_nI, decide_eq_false_iff_not, decide_eq_true_eq, Bool.true_eq_false, Bool.false_eq_true, bq, if_pos, if_neg, if_true, if_false, lq, Nat.reduceAdd, Nat.reduceMul, Nat.reduceSub, Nat.reduceDiv, Nat.reduceMod, mT.P]
    exact u1
  · have mT := m.mm hD (hI.2.2.le (fun _ _ => k168_M))
    rw [fX12_laysDeeds_21]
    simp (disch := omega) only [lit, lm1, nI_add, pk_mul, nm_eq, nm_eq', nm_lt, nm_lt', nm_le, nm_le', x_lt, x_le, x_eq, x_in, x_cl, x_div, x_sub, x_rem, x_min, x_max, x_and, x_or, x_xor, x_df, x_shl, bI_0, bI_1, bI_bo, lg_eq, toL_inj, ls_nI, decide_eq_false_iff_not, decide_eq_true_eq, Bool.true_eq_false, Bool.false_eq_true, bq, if_pos, if_neg, if_true, if_false, lq, Nat.reduceAdd, Nat.reduceMul, Nat.reduceSub, Nat.reduceDiv, Nat.reduceMod, mT.P]
theorem m_laysDeeds (hD : D.WF) (m : mA D E S) {c : Nat} (hc : c < D.C) : ∃ T, fX12_laysDeeds (nI c) S = some ((), T) ∧ dlO D c 168 (dls D c) T ∧ Kp k168 S T := by
  have p8 := hD.p8
  have k0 : Kp k168 S (cpI S 150 33 (nI 0)) := Kp.rf.I (by exact Or.inr ⟨rfl, rfl⟩)
  have := up_lpR (F := fun n p (T : cpS) => fX12_laysDeeds_7 (nI c) n p T) (K := fun T => some ((), T)) D.P (fun p l => dl2 D c p l) (fun p l T => dlO D c (6 * g8 p) l T ∧ Kp k168 S T) (by omega) (fun n p l T hp hI => ?_) (fun n l T hI => ?_) (i0 := 0) (s := []) (a := cpI S 150 33 (nI 0)) (Nat.zero_le _) ⟨⟨Nat.zero_le _, sI1, fun x hx => absurd hx (Nat.not_lt_zero _), fun x hx => absurd hx (Nat.not_lt_zero _)⟩, k0⟩
  · obtain ⟨T, t1, t2, t3⟩ := this
    have hg : g8 D.P ≤ 28 := by
      rcases (show D.P = 0 ∨ D.P = 1 ∨ D.P = 2 ∨ D.P = 3 ∨ D.P = 4 ∨ D.P = 5 ∨ D.P = 6 ∨ D.P = 7 ∨ D.P = 8 by omega) with e | e | e | e | e | e | e | e | e <;> rw [e] <;> decide
    refine ⟨T, ?_, ⟨?_, t2.2⟩, t3⟩
    · unfold fX12_laysDeeds
      simp (disch := omega) only [lit, lm1, nI_add, pk_mul, nm_eq, nm_eq', nm_lt, nm_lt', nm_le, nm_le', x_lt, x_le, x_eq, x_in, x_cl, x_div, x_sub, x_rem, x_min, x_max, x_and, x_or, x_xor, x_df, x_shl, bI_0, bI_1, bI_bo, lg_eq, toL_inj, ls_nI, decide_eq_false_iff_not, decide_eq_true_eq, Bool.true_eq_false, Bool.false_eq_true, bq, if_pos, if_neg, if_true, if_false, lq, Nat.reduceAdd, Nat.reduceMul, Nat.reduceSub, Nat.reduceDiv, Nat.reduceMod]
      exact t1
    · have := t2.1
      show (up (fun p l => dl2 D c p l) (D.P - 0) 0 []).length ≤ _
      omega
  · obtain ⟨i1, i2⟩ := hI
    have mT := m.mm hD (i2.le (fun _ _ => k168_M))
    obtain ⟨U, u1, u2, u3⟩ := m_deeds21 hD mT hc hp i1 (fX12_laysDeeds_7 (nI c) n)
    refine ⟨U, ?_, u2, i2.tr u3⟩
    rw [fX12_laysDeeds_7]
    simp (disch := omega) only [lit, lm1, nI_add, pk_mul, nm_eq, nm_eq', nm_lt, nm_lt', nm_le, nm_le', x_lt, x_le, x_eq, x_in, x_cl, x_div, x_sub, x_rem, x_min, x_max, x_and, x_or, x_xor, x_df, x_shl, bI_0, bI_1, bI_bo, lg_eq, toL_inj, ls_nI, decide_eq_false_iff_not, decide_eq_true_eq, Bool.true_eq_false, Bool.false_eq_true, bq, if_pos, if_neg, if_true, if_false, lq, Nat.reduceAdd, Nat.reduceMul, Nat.reduceSub, Nat.reduceDiv, Nat.reduceMod, mT.P]
    exact u1
  · have mT := m.mm hD (hI.2.le (fun _ _ => k168_M))
    rw [fX12_laysDeeds_7]
    simp (disch := omega) only [lit, lm1, nI_add, pk_mul, nm_eq, nm_eq', nm_lt, nm_lt', nm_le, nm_le', x_lt, x_le, x_eq, x_in, x_cl, x_div, x_sub, x_rem, x_min, x_max, x_and, x_or, x_xor, x_df, x_shl, bI_0, bI_1, bI_bo, lg_eq, toL_inj, ls_nI, decide_eq_false_iff_not, decide_eq_true_eq, Bool.true_eq_false, Bool.false_eq_true, bq, if_pos, if_neg, if_true, if_false, lq, Nat.reduceAdd, Nat.reduceMul, Nat.reduceSub, Nat.reduceDiv, Nat.reduceMod, mT.P]
theorem m_isWorn (hD : D.WF) (hE : E.WF D) (m : mF D E S E.h) {t j c p q a b : Nat} {x : Int64} (ht : t < 4) (hj : j < 40) (hp : p < D.P) (hq : q < D.P) (hc : c < D.C) (ha : a < D.K) (hb : b < D.K) (hx : S.2 173 (40 * t + j) = x) : ∃ T, fX12_isWorn (nI t) (nI j) (nI (dn c p q b)) (nI a) S = some (bI (fit D E c x a b p q), T) ∧ Kp kH S T := by
  have c4 := hD.c4
  have k6 := hD.k6
  have p8 := hD.p8
  have r9 := hD.r9
  obtain ⟨e1, e2, e3, e4, e5⟩ := dn_dec (c := c) (p := p) (q := q) (b := b) (by omega) (by omega) (by omega) (by omega)
  obtain ⟨U, u1, u2⟩ := m_roadFor hD hE m hp hq hc ha hb
  unfold fX12_isWorn fit
  cases hbr : bro D E c a b E.h p q
  · have hv : (if (E.fd p).testBit q then nM else oI (rdT D p q c a b E.h)) = nM := by
      unfold bro at hbr
      cases hf : (E.fd p).testBit q
      · rw [hf] at hbr
        cases hr : rdT D p q c a b E.h with
        | none => rfl
        | some r => rw [hr] at hbr; cases hbr
      · rfl
    rw [hv] at u1
    refine ⟨U, ?_, u2⟩
    simp (disch := omega) only [lit, lm1, nI_add, pk_mul, nm_eq, nm_eq', nm_lt, nm_lt', nm_le, nm_le', x_lt, x_le, x_eq, x_in, x_cl, x_div, x_sub, x_rem, x_min, x_max, x_and, x_or, x_xor, x_df, x_shl, bI_0, bI_1, bI_bo, lg_eq, toL_inj, ls_nI, decide_eq_false_iff_not, decide_eq_true_eq, Bool.true_eq_false, Bool.false_eq_true, bq, if_pos, if_neg, if_true, if_false, lq, Nat.reduceAdd, Nat.reduceMul, Nat.reduceSub, Nat.reduceDiv, Nat.reduceMod, e1, e2, e3, e4, u1, eq_self]
    rfl
  · obtain ⟨-, hf, rr, hr, hrR⟩ := wyF_0 (wy_bro.mpr hbr)
    have hv : (if (E.fd p).testBit q then nM else oI (rdT D p q c a b E.h)) = nI rr := by rw [hf, hr]; rfl
    rw [hv] at u1
    have hxU : U.2 173 (40 * t + j) = x := by rw [u2.l (by unfold kH; omega)]; exact hx
    obtain ⟨V, v1, v2⟩ := m_wearsBy hD (m.H hD u2) hp hq hc ha hrR
    have hw : wrr D p q c a rr E.h = wnF D p q c a b E.h := by unfold wnF; rw [hr]; rfl
    rw [hw] at v1
    by_cases h1 : x = -1
    · refine ⟨U, ?_, u2⟩
      simp (disch := omega) only [lit, lm1, nI_add, pk_mul, nm_eq, nm_eq', nm_lt, nm_lt', nm_le, nm_le', x_lt, x_le, x_eq, x_in, x_cl, x_div, x_sub, x_rem, x_min, x_max, x_and, x_or, x_xor, x_df, x_shl, bI_0, bI_1, bI_bo, lg_eq, toL_inj, ls_nI, decide_eq_false_iff_not, decide_eq_true_eq, Bool.true_eq_false, Bool.false_eq_true, bq, if_pos, if_neg, if_true, if_false, lq, Nat.reduceAdd, Nat.reduceMul, Nat.reduceSub, Nat.reduceDiv, Nat.reduceMod, e1, e2, e3, e4, u1, hxU, h1, eq_self]
      rfl
    · refine ⟨V, ?_, u2.tr v2⟩
      by_cases h2 : x = Int32.toInt64 (wnF D p q c a b E.h)
      · rw [decide_eq_true h2, decide_eq_false h1]
        simp (disch := omega) only [lit, lm1, nI_add, pk_mul, nm_eq, nm_eq', nm_lt, nm_lt', nm_le, nm_le', x_lt, x_le, x_eq, x_in, x_cl, x_div, x_sub, x_rem, x_min, x_max, x_and, x_or, x_xor, x_df, x_shl, bI_0, bI_1, bI_bo, lg_eq, toL_inj, ls_nI, decide_eq_false_iff_not, decide_eq_true_eq, Bool.true_eq_false, Bool.false_eq_true, bq, if_pos, if_neg, if_true, if_false, lq, Nat.reduceAdd, Nat.reduceMul, Nat.reduceSub, Nat.reduceDiv, Nat.reduceMod, e1, e2, e3, e4, u1, hxU, h1, v1]
        rfl
      · rw [decide_eq_false h2, decide_eq_false h1]
        simp (disch := omega) only [lit, lm1, nI_add, pk_mul, nm_eq, nm_eq', nm_lt, nm_lt', nm_le, nm_le', x_lt, x_le, x_eq, x_in, x_cl, x_div, x_sub, x_rem, x_min, x_max, x_and, x_or, x_xor, x_df, x_shl, bI_0, bI_1, bI_bo, lg_eq, toL_inj, ls_nI, decide_eq_false_iff_not, decide_eq_true_eq, Bool.true_eq_false, Bool.false_eq_true, bq, if_pos, if_neg, if_true, if_false, lq, Nat.reduceAdd, Nat.reduceMul, Nat.reduceSub, Nat.reduceDiv, Nat.reduceMod, e1, e2, e3, e4, u1, hxU, h1, v1]
        rfl
/-! sums, in another order -/
def sN (f : Nat → Nat) (n : Nat) : Nat := up (fun i s => s + f i) n 0 0
theorem sN_s (f : Nat → Nat) (n : Nat) : sN f (n + 1) = sN f n + f n := by unfold sN; rw [up_last, Nat.zero_add]
theorem up_sN (f : Nat → Nat) : ∀ n s, up (fun i s => s + f i) n 0 s = s + sN f n := by
  intro n
  induction n with
  | zero => intro s; rfl
  | succ n ih => intro s; rw [up_last, ih, sN_s, Nat.zero_add]; omega
theorem sN_add (f g : Nat → Nat) : ∀ n, sN (fun i => f i + g i) n = sN f n + sN g n := by
  intro n
  induction n with
  | zero => rfl
  | succ n ih => rw [sN_s, sN_s, sN_s, ih]; omega
theorem sN_0 : ∀ n, sN (fun _ => 0) n = 0 := by
  intro n
  induction n with
  | zero => rfl
  | succ n ih => rw [sN_s, ih]
theorem sN_comm (t : Nat → Nat → Nat) (n : Nat) : ∀ m, sN (fun b => sN (fun i => t i b) n) m = sN (fun i => sN (fun b => t i b) m) n := by
  intro m
  induction m with
  | zero => exact (sN_0 n).symm
  | succ m ih =>
    rw [sN_s, ih, ← sN_add]
    congr 1
    funext i
    rw [sN_s]
theorem adI_add (p : Bool) (x s : Nat) : adI p x s = s + (if p then x else 0) := by unfold adI; split <;> omega
theorem rw_ref (hD : D.WF) (c : Nat) (x : Int64) (a : Nat) (R : Nat → Nat) : up (fun p s => up (fun q s => up (fun b s => adI (fit D E c x a b p q) (R b) s) D.K 0 s) (D.P - (p + 1)) (p + 1) s) D.P 0 0 = up (fun b s => up (fun i s => adI (ftI D E c x a b i) (R b) s) 28 0 s) D.K 0 0 := by
  rw [← cls_mdl (fun p q s => up (fun b s => adI (fit D E c x a b p q) (R b) s) D.K 0 s) hD.p8]
  have e1 : (fun (k s : Nat) => if poN k < D.P then up (fun b s => adI (fit D E c x a b (plN k) (poN k)) (R b) s) D.K 0 s else s) = fun k s => s + sN (fun b => if ftI D E c x a b k then R b else 0) D.K := by
    funext k s
    by_cases hP : poN k < D.P
    · rw [if_pos hP, ← up_sN]
      congr 1
      funext b s
      rw [adI_add]
      unfold ftI
      rw [decide_eq_true hP, Bool.true_and]
    · have : (fun b => if ftI D E c x a b k then R b else 0) = fun _ => 0 := by
        funext b
        unfold ftI
        rw [decide_eq_false hP]; rfl
      rw [if_neg hP, this, sN_0]; rfl
  have e2 : (fun (b s : Nat) => up (fun i s => adI (ftI D E c x a b i) (R b) s) 28 0 s) = fun b s => s + sN (fun i => if ftI D E c x a b i then R b else 0) 28 := by
    funext b s
    rw [← up_sN]
    congr 1
    funext i s
    rw [adI_add]
  rw [e1, e2]
  show sN _ 28 = sN _ D.K
  exact (sN_comm (fun i b => if ftI D E c x a b i then R b else 0) 28 D.K).symm
end W2
