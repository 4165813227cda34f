/-! the reference's rows; how many wear so -/
def stp (D : cpD) (E : cpE) (c : Nat) (x : Int64) (a : Nat) (R : Nat → Nat) (d s : Nat) : Nat := adI (fit D E c x a (d % 10) (d / 1000 % 10) (d / 100 % 10)) (R (d % 10)) s
def kWh (q j : Nat) : Prop := q = 167 ∨ kH q j
def mlw (D : cpD) (E : cpE) (c n t : Nat) (v : Nat → Int64) (S : cpS) : Prop := mF D E S E.h ∧ dlO D c 168 (dls D c) S ∧ (S.1 172 t = nI n ∧ ∀ j, j < n → S.2 173 (40 * t + j) = v j) ∧ ∀ j a, j ≤ n → a < D.K → S.2 167 (6 * j + a) = lN (rwD D E c v (n - j) j a)
section W3
variable {D : cpD} {E : cpE} {S : cpS}
theorem stp_all (hD : D.WF) {c : Nat} (hc : c < D.C) (x : Int64) (a : Nat) (R : Nat → Nat) : up (fun y s => stp D E c x a R ((dls D c).getD y 0) s) (dls D c).length 0 0 = up (fun b s => up (fun i s => adI (ftI D E c x a b i) (R b) s) 28 0 s) D.K 0 0 := by
  have c4 := hD.c4
  have k6 := hD.k6
  have p8 := hD.p8
  rw [up_list (stp D E c x a R), dls_fold, ← rw_ref hD]
  refine up_congr (N := D.P) (fun p s hp => ?_) D.P 0 0 (by omega)
  refine up_congr (N := D.P) (fun q s hq => ?_) (D.P - (p + 1)) (p + 1) s (by omega)
  refine up_congr (N := D.K) (fun b s hb => ?_) D.K 0 s (by omega)
  obtain ⟨e1, e2, e3, e4, e5⟩ := dn_dec (c := c) (p := p) (q := q) (b := b) (by omega) (by omega) (by omega) (by omega)
  unfold stp
  rw [e1, e2, e4]
theorem dlO.kp {c B : Nat} {l : List Nat} {T : cpS} {f : Nat → Nat → Prop} (h : dlO D c B l S) (g : Kp f S T) (hf : ∀ q j, f q j → q ≠ 168 ∧ (q = 150 → j ≠ 33)) : dlO D c B l T :=
  ⟨h.1, by rw [g.i (fun q => (hf _ _ q).2 rfl rfl)]; exact h.2.1, fun x hx => by rw [g.i (fun q => (hf _ _ q).1 rfl)]; exact h.2.2.1 x hx, h.2.2.2⟩
theorem m_worn82 (hD : D.WF) (hE : E.WF D) (m : mF D E S E.h) {c t j a d : Nat} {v : Nat → Int64} (dl : dlO D c 168 (dls D c) S) (hc : c < D.C) (ht : t < 4) (hj : j < 8) (ha : a < D.K) (hx : S.2 173 (40 * t + j) = v j) (hR : ∀ b, b < D.K → S.2 167 (6 * (j + 1) + b) = lN (rwD D E c v d (j + 1) b)) (k57 k65 : Int32 → cpS → Option (Int64 × cpS)) : ∃ T, fX12_laysWorn_82 (nI t) (nI c) (nI j) (nI a) k57 k65 cpFu (lN 0) (nI 0) S = k65 (nI (a + 1)) (cpL T 167 (6 * j + a) (lN (rwD D E c v (d + 1) j a))) ∧ Kp kH S T := by
  have c4 := hD.c4
  have k6 := hD.k6
  have p8 := hD.p8
  have l168 := dl.1
  rw [rwD_s, ← stp_all hD hc]
  have := up_lpR (F := fun n y (x : Int64 × cpS) => fX12_laysWorn_82 (nI t) (nI c) (nI j) (nI a) k57 k65 n x.1 y x.2) (K := fun x => k65 (nI (a + 1)) (cpL x.2 167 (6 * j + a) x.1)) (dls D c).length (fun y s => stp D E c (v j) a (rwD D E c v d (j + 1)) ((dls D c).getD y 0) s) (fun _ s x => x.1 = lN s ∧ Kp kH S x.2) (by omega) (fun n y s x hy hI => ?_) (fun n s x hI => ?_) (i0 := 0) (s := 0) (a := (lN 0, S)) (Nat.zero_le _) ⟨rfl, Kp.rf⟩
  · obtain ⟨⟨x, T⟩, t1, t2, t3⟩ := this
    have t2 : x = lN (up (fun y s => stp D E c (v j) a (rwD D E c v d (j + 1)) ((dls D c).getD y 0) s) (dls D c).length 0 0) := t2
    rw [t2] at t1
    exact ⟨T, t1, t3⟩
  · obtain ⟨x, T⟩ := x
    obtain ⟨i1, i2⟩ := hI
    have j1 : x = lN s := i1
    have j2 : Kp kH S T := i2
    clear i1 i2
    subst j1
    have mT := m.H hD j2
    have dT := dl.kp j2 (fun q j h => by unfold kH at h; omega)
    obtain ⟨p, q, b, hpq, hq, hb, hd⟩ := dl.2.2.2 y hy
    obtain ⟨e1, e2, e3, e4, e5⟩ := dn_dec (c := c) (p := p) (q := q) (b := b) (by omega) (by omega) (by omega) (by omega)
    have f1 := dT.2.2.1 y hy
    rw [hd] at f1
    obtain ⟨U, u1, u2⟩ := m_isWorn hD hE mT (t := t) (j := j) (c := c) (p := p) (q := q) (a := a) (b := b) ht (by omega) (by omega) hq hc ha hb (show T.2 173 (40 * t + j) = v j by rw [j2.l (by unfold kH; omega)]; exact hx)
    have f2 : U.1 168 y = nI (dn c p q b) := by rw [u2.i (by unfold kH; omega)]; exact f1
    have f3 : U.2 167 (6 * (j + 1) + b) = lN (rwD D E c v d (j + 1) b) := by rw [u2.l (by unfold kH; omega), j2.l (by unfold kH; omega)]; exact hR b hb
    refine ⟨(lN (stp D E c (v j) a (rwD D E c v d (j + 1)) ((dls D c).getD y 0) s), U), ?_, rfl, j2.tr u2⟩
    rw [fX12_laysWorn_82, hd]
    unfold stp adI
    rw [e1, e2, e4]
    cases hf : fit D E c (v j) a b p q
    · rw [hf] at u1
      simp (disch := omega) only [lit, lm1, nI_add, pk_mul, nm_eq, nm_eq', nm_lt, nm_lt', nm_le, nm_le', x_lt, x_le, x_eq, x_in, x_cl, x_div, x_sub, x_rem, x_min, x_max, x_and, x_or, x_xor, x_df, x_shl, bI_0, bI_1, bI_bo, lg_eq, toL_inj, ls_nI, decide_eq_false_iff_not, decide_eq_true_eq, Bool.true_eq_false, Bool.false_eq_true, bq, if_pos, if_neg, if_true, if_false, lq, Nat.reduceAdd, Nat.reduceMul, Nat.reduceSub, Nat.reduceDiv, Nat.reduceMod, dT.2.1, f1, u1]
    · rw [hf] at u1
      simp (disch := omega) only [lit, lm1, nI_add, pk_mul, nm_eq, nm_eq', nm_lt, nm_lt', nm_le, nm_le', x_lt, x_le, x_eq, x_in, x_cl, x_div, x_sub, x_rem, x_min, x_max, x_and, x_or, x_xor, x_df, x_shl, bI_0, bI_1, bI_bo, lg_eq, toL_inj, ls_nI, decide_eq_false_iff_not, decide_eq_true_eq, Bool.true_eq_false, Bool.false_eq_true, bq, if_pos, if_neg, if_true, if_false, lq, Nat.reduceAdd, Nat.reduceMul, Nat.reduceSub, Nat.reduceDiv, Nat.reduceMod, dT.2.1, f1, u1, f2, e4, f3, lN_add]
  · obtain ⟨x, T⟩ := x
    have dT := dl.kp hI.2 (fun q j h => by unfold kH at h; omega)
    have hl : T.1 150 33 = nI (dls D c).length := dT.2.1
    rw [fX12_laysWorn_82]
    simp (disch := omega) only [lit, lm1, nI_add, pk_mul, nm_eq, nm_eq', nm_lt, nm_lt', nm_le, nm_le', x_lt, x_le, x_eq, x_in, x_cl, x_div, x_sub, x_rem, x_min, x_max, x_and, x_or, x_xor, x_df, x_shl, bI_0, bI_1, bI_bo, lg_eq, toL_inj, ls_nI, decide_eq_false_iff_not, decide_eq_true_eq, Bool.true_eq_false, Bool.false_eq_true, bq, if_pos, if_neg, if_true, if_false, lq, Nat.reduceAdd, Nat.reduceMul, Nat.reduceSub, Nat.reduceDiv, Nat.reduceMod, hl]
theorem m_worn65 (hD : D.WF) (hE : E.WF D) (m : mF D E S E.h) {c t j n : Nat} {v : Nat → Int64} (dl : dlO D c 168 (dls D c) S) (hc : c < D.C) (ht : t < 4) (hj : j < n) (hn : n ≤ 8) (hv : ∀ j, j < n → S.2 173 (40 * t + j) = v j) (hR : ∀ y b, j < y → y ≤ n → b < D.K → S.2 167 (6 * y + b) = lN (rwD D E c v (n - y) y b)) (kk : Int32 → cpS → Option (Int64 × cpS)) : ∃ T, fX12_laysWorn_65 (nI t) (nI c) (nI j) kk cpFu (nI 0) S = kk (nI j + nM) T ∧ (∀ y b, j ≤ y → y ≤ n → b < D.K → T.2 167 (6 * y + b) = lN (rwD D E c v (n - y) y b)) ∧ Kp kWh S T := by
  have k6 := hD.k6
  have := up_lpR (F := fun f a (T : cpS) => fX12_laysWorn_65 (nI t) (nI c) (nI j) kk f a T) (K := fun T => kk (nI j + nM) T) D.K (fun _ (s : Unit) => s) (fun a _ T => (∀ y b, j < y → y ≤ n → b < D.K → T.2 167 (6 * y + b) = lN (rwD D E c v (n - y) y b)) ∧ (∀ b, b < a → T.2 167 (6 * j + b) = lN (rwD D E c v (n - j) j b)) ∧ Kp kWh S T) (by omega) (fun f a s T ha hI => ?_) (fun f s T hI => ?_) (i0 := 0) (s := ()) (a := S) (Nat.zero_le _) ⟨hR, fun b hb => absurd hb (by omega), Kp.rf⟩
  · obtain ⟨T, t1, t2, t3, t4⟩ := this
    refine ⟨T, t1, fun y b h1 h2 hb => ?_, t4⟩
    by_cases e : y = j
    · rw [e]; exact t3 b hb
    · exact t2 y b (by omega) h2 hb
  · obtain ⟨i1, i2, i3⟩ := hI
    have mT : mF D E T E.h := m.kp hD i3 (fun q j h => by unfold kWh kH at h; omega)
    have dT := dl.kp i3 (fun q j h => by unfold kWh kH at h; omega)
    have hx : T.2 173 (40 * t + j) = v j := by rw [i3.l (by unfold kWh kH; omega)]; exact hv j hj
    obtain ⟨U, u1, u2⟩ := m_worn82 hD hE mT (d := n - (j + 1)) dT hc ht (show j < 8 by omega) ha hx (fun b hb => i1 (j + 1) b (by omega) (by omega) hb) kk (fX12_laysWorn_65 (nI t) (nI c) (nI j) kk f)
    rw [show n - (j + 1) + 1 = n - j by omega] at u1
    refine ⟨cpL U 167 (6 * j + a) (lN (rwD D E c v (n - j) j a)), ?_, fun y b h1 h2 hb => ?_, fun b hb => ?_, (i3.tr (u2.le (fun _ _ h => Or.inr h))).L (by exact Or.inl rfl)⟩
    · rw [fX12_laysWorn_65]
      simp (disch := omega) only [lit, lm1, nI_add, pk_mul, nm_eq, nm_eq', nm_lt, nm_lt', nm_le, nm_le', x_lt, x_le, x_eq, x_in, x_cl, x_div, x_sub, x_rem, x_min, x_max, x_and, x_or, x_xor, x_df, x_shl, bI_0, bI_1, bI_bo, lg_eq, toL_inj, ls_nI, decide_eq_false_iff_not, decide_eq_true_eq, Bool.true_eq_false, Bool.false_eq_true, bq, if_pos, if_neg, if_true, if_false, lq, Nat.reduceAdd, Nat.reduceMul, Nat.reduceSub, Nat.reduceDiv, Nat.reduceMod, mT.1.K]
      exact u1
    · rw [sLn (Or.inr (by omega)), u2.l (by unfold kH; omega)]; exact i1 y b h1 h2 hb
    · by_cases e : b = a
      · rw [e]; exact sL1
      · rw [sLn (Or.inr (by omega)), u2.l (by unfold kH; omega)]; exact i2 b (by omega)
  · have mT : mF D E T E.h := m.kp hD hI.2.2 (fun q j h => by unfold kWh kH at h; omega)
    rw [fX12_laysWorn_65]
    simp (disch := omega) only [lit, lm1, nI_add, pk_mul, nm_eq, nm_eq', nm_lt, nm_lt', nm_le, nm_le', x_lt, x_le, x_eq, x_in, x_cl, x_div, x_sub, x_rem, x_min, x_max, x_and, x_or, x_xor, x_df, x_shl, bI_0, bI_1, bI_bo, lg_eq, toL_inj, ls_nI, decide_eq_false_iff_not, decide_eq_true_eq, Bool.true_eq_false, Bool.false_eq_true, bq, if_pos, if_neg, if_true, if_false, lq, Nat.reduceAdd, Nat.reduceMul, Nat.reduceSub, Nat.reduceDiv, Nat.reduceMod, mT.1.K]
theorem m_worn57 (hD : D.WF) (hE : E.WF D) {c t n : Nat} {v : Nat → Int64} (hc : c < D.C) (ht : t < 4) (hn : n ≤ 8) : ∀ j f (S : cpS), j ≤ n → j < f → mF D E S E.h → dlO D c 168 (dls D c) S → S.1 172 t = nI n → (∀ j, j < n → S.2 173 (40 * t + j) = v j) → (∀ y b, j ≤ y → y ≤ n → b < D.K → S.2 167 (6 * y + b) = lN (rwD D E c v (n - y) y b)) → ∃ T, fX12_laysWorn_57 (nI t) (nI c) f (nI j + nM) S = some (lN (rwD D E c v n 0 (E.at' c)), T) ∧ mlw D E c n t v T ∧ Kp kWh S T := by
  have c4 := hD.c4
  have k6 := hD.k6
  have ha := hE.at' c hc
  intro j
  induction j with
  | zero =>
    intro f S hj hf m dl h172 hv hR
    obtain ⟨f, rfl⟩ : ∃ g, f = g + 1 := ⟨f - 1, by omega⟩
    refine ⟨S, ?_, ⟨m, dl, ⟨h172, hv⟩, fun y a hy ha => hR y a (Nat.zero_le _) hy ha⟩, Kp.rf⟩
    have e := hR 0 (E.at' c) (Nat.le_refl _) (Nat.zero_le _) ha
    rw [Nat.mul_zero, Nat.zero_add, Nat.sub_zero] at e
    rw [fX12_laysWorn_57, show nI 0 + nM = nM from by decide]
    simp (disch := omega) only [lit, lm1, nI_add, pk_mul, nm_eq, nm_eq', nm_lt, nm_lt', nm_le, nm_le', x_lt, x_le, x_eq, x_in, x_cl, x_div, x_sub, x_rem, x_min, x_max, x_and, x_or, x_xor, x_df, x_shl, bI_0, bI_1, bI_bo, lg_eq, toL_inj, ls_nI, decide_eq_false_iff_not, decide_eq_true_eq, Bool.true_eq_false, Bool.false_eq_true, bq, if_pos, if_neg, if_true, if_false, lq, Nat.reduceAdd, Nat.reduceMul, Nat.reduceSub, Nat.reduceDiv, Nat.reduceMod, m.1.at', e]
  | succ j ih =>
    intro f S hj hf m dl h172 hv hR
    obtain ⟨f, rfl⟩ : ∃ g, f = g + 1 := ⟨f - 1, by omega⟩
    obtain ⟨A, a1, a2, a3⟩ := m_worn65 hD hE m dl hc ht (show j < n by omega) hn hv (fun y b h1 h2 hb => hR y b (by omega) h2 hb) (fX12_laysWorn_57 (nI t) (nI c) f)
    obtain ⟨T, t1, t2, t3⟩ := ih f A (by omega) (by omega) (m.kp hD a3 (fun q j h => by unfold kWh kH at h; omega)) (dl.kp a3 (fun q j h => by unfold kWh kH at h; omega)) (by rw [a3.i (by unfold kWh kH; omega)]; exact h172) (fun j hj => by rw [a3.l (by unfold kWh kH; omega)]; exact hv j hj) a2
    refine ⟨T, ?_, t2, a3.tr t3⟩
    rw [fX12_laysWorn_57, nI_dec]
    simp (disch := omega) only [lit, lm1, nI_add, pk_mul, nm_eq, nm_eq', nm_lt, nm_lt', nm_le, nm_le', x_lt, x_le, x_eq, x_in, x_cl, x_div, x_sub, x_rem, x_min, x_max, x_and, x_or, x_xor, x_df, x_shl, bI_0, bI_1, bI_bo, lg_eq, toL_inj, ls_nI, decide_eq_false_iff_not, decide_eq_true_eq, Bool.true_eq_false, Bool.false_eq_true, bq, if_pos, if_neg, if_true, if_false, lq, Nat.reduceAdd, Nat.reduceMul, Nat.reduceSub, Nat.reduceDiv, Nat.reduceMod]
    exact a1.trans t1
def kWm (q j : Nat) : Prop := q = 167 ∨ k168 q j ∨ kG q j
theorem kWm_M {k j : Nat} (h : kWm k j) : kM k j := by
  rcases h with rfl | h | h
  · exact ⟨scr_c (by decide) (by decide) (by decide) j, by decide⟩
  · exact k168_M h
  · exact kG_M h
theorem m_laysWorn (hD : D.WF) (hE : E.WF D) (m : mA D E S) {c n t : Nat} {v : Nat → Int64} (hc : c < D.C) (ht : t < 4) (n1 : 1 ≤ n) (n8 : n ≤ 8) (y : mY t (some (n, v)) S) : ∃ T, fX12_laysWorn (nI t) (nI c) S = some (lN (rwD D E c v n 0 (E.at' c)), T) ∧ mlw D E c n t v T ∧ Kp kWm S T := by
  have k6 := hD.k6
  obtain ⟨A, a1, a2, a3⟩ := m_laysNow hD m E.h
  obtain ⟨B, b1, b2, b3⟩ := m_laysDeeds hD a2.1 hc
  have mB : mF D E B E.h := a2.kp hD b3 (fun q j h => by unfold k168 at h; omega)
  have kB' : Kp kWm S B := (a3.le (fun _ _ h => Or.inr (Or.inr h))).tr (b3.le (fun _ _ h => Or.inr (Or.inl h)))
  have h172 : B.1 172 t = nI n := by rw [kB'.i (by unfold kWm k168 kG; omega)]; exact y.2.1
  have hv : ∀ j, j < n → B.2 173 (40 * t + j) = v j := fun j hj => by rw [kB'.l (by unfold kWm k168 kG; omega)]; exact y.2.2 j hj
  obtain ⟨G, g1, g2, g3⟩ : ∃ G, fX12_laysWorn_26 (nI t) (nI c) (nI n) cpFu (nI 0) B = fX12_laysWorn_57 (nI t) (nI c) cpFu (nI n + nM) G ∧ (∀ b, b < 6 → G.2 167 (6 * n + b) = lN 1) ∧ Kp kWh B G := by
    refine up_lpR (F := fun f a (T : cpS) => fX12_laysWorn_26 (nI t) (nI c) (nI n) f a T) (K := fun T => fX12_laysWorn_57 (nI t) (nI c) cpFu (nI n + nM) T) 6 (fun _ (s : Unit) => s) (fun a _ T => (∀ b, b < a → T.2 167 (6 * n + b) = lN 1) ∧ Kp kWh B T) (by decide) (fun f a s T ha hI => ?_) (fun f s T hI => ?_) (i0 := 0) (s := ()) (a := B) (Nat.zero_le _) ⟨fun b hb => absurd hb (by omega), Kp.rf⟩
    · obtain ⟨i1, i2⟩ := hI
      refine ⟨cpL T 167 (6 * n + a) (lN 1), ?_, fun b hb => ?_, i2.L (by exact Or.inl rfl)⟩
      · rw [fX12_laysWorn_26]
        simp (disch := omega) only [lit, lm1, nI_add, pk_mul, nm_eq, nm_eq', nm_lt, nm_lt', nm_le, nm_le', x_lt, x_le, x_eq, x_in, x_cl, x_div, x_sub, x_rem, x_min, x_max, x_and, x_or, x_xor, x_df, x_shl, bI_0, bI_1, bI_bo, lg_eq, toL_inj, ls_nI, decide_eq_false_iff_not, decide_eq_true_eq, Bool.true_eq_false, Bool.false_eq_true, bq, if_pos, if_neg, if_true, if_false, lq, Nat.reduceAdd, Nat.reduceMul, Nat.reduceSub, Nat.reduceDiv, Nat.reduceMod]
        rfl
      · by_cases e : b = a
        · rw [e]; exact sL1
        · rw [sLn (Or.inr (by omega))]; exact i1 b (by omega)
    · obtain ⟨m', rfl⟩ : ∃ m, n = m + 1 := ⟨n - 1, by omega⟩
      rw [fX12_laysWorn_26, nI_dec]
      simp (disch := omega) only [lit, lm1, nI_add, pk_mul, nm_eq, nm_eq', nm_lt, nm_lt', nm_le, nm_le', x_lt, x_le, x_eq, x_in, x_cl, x_div, x_sub, x_rem, x_min, x_max, x_and, x_or, x_xor, x_df, x_shl, bI_0, bI_1, bI_bo, lg_eq, toL_inj, ls_nI, decide_eq_false_iff_not, decide_eq_true_eq, Bool.true_eq_false, Bool.false_eq_true, bq, if_pos, if_neg, if_true, if_false, lq, Nat.reduceAdd, Nat.reduceMul, Nat.reduceSub, Nat.reduceDiv, Nat.reduceMod, Nat.add_sub_cancel]
  have hf : ∀ q j, kWh q j → q ≠ 151 ∧ q ≠ 155 ∧ (q = 150 → j ≠ 19) := fun q j h => by unfold kWh kH at h; omega
  obtain ⟨T, t1, t2, t3⟩ := m_worn57 hD hE (v := v) hc ht n8 n cpFu G (Nat.le_refl _) (by show n < 5000; omega) (mB.kp hD g3 hf) (b2.kp g3 (fun q j h => by unfold kWh kH at h; omega)) (by rw [g3.i (by unfold kWh kH; omega)]; exact h172) (fun j hj => by rw [g3.l (by unfold kWh kH; omega)]; exact hv j hj) (fun y b h1 h2 hb => by rw [show y = n by omega, Nat.sub_self, rwD_0]; exact g2 b (by omega))
  refine ⟨T, ?_, t2, kB'.tr ((g3.tr t3).le (fun q j h => ?_))⟩
  · unfold fX12_laysWorn
    simp (disch := omega) only [lit, lm1, nI_add, pk_mul, nm_eq, nm_eq', nm_lt, nm_lt', nm_le, nm_le', x_lt, x_le, x_eq, x_in, x_cl, x_div, x_sub, x_rem, x_min, x_max, x_and, x_or, x_xor, x_df, x_shl, bI_0, bI_1, bI_bo, lg_eq, toL_inj, ls_nI, decide_eq_false_iff_not, decide_eq_true_eq, Bool.true_eq_false, Bool.false_eq_true, bq, if_pos, if_neg, if_true, if_false, lq, Nat.reduceAdd, Nat.reduceMul, Nat.reduceSub, Nat.reduceDiv, Nat.reduceMod, m.h, a1, b1, h172]
    exact g1.trans t1
  · rcases h with h | h
    · exact Or.inl h
    · exact Or.inr (Or.inr (kH_G h))
/-! the codes -/
theorem c_rimCode (hD : D.WF) (c : cA D E S) {t k : Nat} {o : cpT} {x3 : Int32} (ht : t < 4) (hk : k < D.C) (y : cY t o S) (hO : yO o) : fX11_rimCode (nI t) (nI k) x3 S = some (if rc o = nI 0 then (if x3 < nI 0 then -3 else tc o nM (nI 9)) else rc o, S) := by
  have c4 := hD.c4
  have hc : ∀ S, fX11_hasTray (nI t) S = some (nI 1, S) := fun S => by rw [e_hasTray, if_pos (cpLs_of ht (by decide))]; rfl
  unfold fX11_rimCode
  by_cases e : rc o = nI 0
  · rw [if_pos e]
    cases o with
    | none => exact absurd (show (-6 : Int32) = nI 0 from e) (by decide)
    | some w =>
      obtain ⟨n, v⟩ := w
      have hn := hO n v rfl
      have hb : ¬ (n < 1 ∨ 8 < n) := fun q => by rw [rc_s, if_pos q] at e; exact absurd e (by decide)
      rw [tc_s, if_neg hb]
      rcases Classical.propComplete (x3 < nI 0) with q | q
      · simp (disch := omega) only [lit, lm1, nI_add, pk_mul, nm_eq, nm_eq', nm_lt, nm_lt', nm_le, nm_le', x_lt, x_le, x_eq, x_in, x_cl, x_div, x_sub, x_rem, x_min, x_max, x_and, x_or, x_xor, x_df, x_shl, bI_0, bI_1, bI_bo, lg_eq, toL_inj, ls_nI, decide_eq_false_iff_not, decide_eq_true_eq, Bool.true_eq_false, Bool.false_eq_true, bq, if_pos, if_neg, if_true, if_false, lq, Nat.reduceAdd, Nat.reduceMul, Nat.reduceSub, Nat.reduceDiv, Nat.reduceMod, hc, c.hasCoin hD, c_rowCode y hO, e, q]
      · simp (disch := omega) only [lit, lm1, nI_add, pk_mul, nm_eq, nm_eq', nm_lt, nm_lt', nm_le, nm_le', x_lt, x_le, x_eq, x_in, x_cl, x_div, x_sub, x_rem, x_min, x_max, x_and, x_or, x_xor, x_df, x_shl, bI_0, bI_1, bI_bo, lg_eq, toL_inj, ls_nI, decide_eq_false_iff_not, decide_eq_true_eq, Bool.true_eq_false, Bool.false_eq_true, bq, if_pos, if_neg, if_true, if_false, lq, Nat.reduceAdd, Nat.reduceMul, Nat.reduceSub, Nat.reduceDiv, Nat.reduceMod, hc, c.hasCoin hD, c_rowCode y hO, e, q, c_allB y hn]
        cases allB n v nM (nI 9) <;> rfl
  · rw [if_neg e]
    simp (disch := omega) only [lit, lm1, nI_add, pk_mul, nm_eq, nm_eq', nm_lt, nm_lt', nm_le, nm_le', x_lt, x_le, x_eq, x_in, x_cl, x_div, x_sub, x_rem, x_min, x_max, x_and, x_or, x_xor, x_df, x_shl, bI_0, bI_1, bI_bo, lg_eq, toL_inj, ls_nI, decide_eq_false_iff_not, decide_eq_true_eq, Bool.true_eq_false, Bool.false_eq_true, bq, if_pos, if_neg, if_true, if_false, lq, Nat.reduceAdd, Nat.reduceMul, Nat.reduceSub, Nat.reduceDiv, Nat.reduceMod, hc, c.hasCoin hD, c_rowCode y hO, eq_false e]
theorem m_noWorn (hD : D.WF) (m : mA D E S) {t k : Nat} {o : cpT} (ht : t < 4) (hk : k < D.C) (y : mY t o S) (hO : yO o) : fX12_noWorn (nI t) (nI k) S = some (tc o nM (nI 9), S) := by
  have c4 := hD.c4
  have w1 := m_win 4 3 (by decide)
  unfold fX12_noWorn
  simp (disch := omega) only [lit, lm1, nI_add, pk_mul, nm_eq, nm_eq', nm_lt, nm_lt', nm_le, nm_le', x_lt, x_le, x_eq, x_in, x_cl, x_div, x_sub, x_rem, x_min, x_max, x_and, x_or, x_xor, x_df, x_shl, bI_0, bI_1, bI_bo, lg_eq, toL_inj, ls_nI, decide_eq_false_iff_not, decide_eq_true_eq, Bool.true_eq_false, Bool.false_eq_true, bq, if_pos, if_neg, if_true, if_false, lq, Nat.reduceAdd, Nat.reduceMul, Nat.reduceSub, Nat.reduceDiv, Nat.reduceMod, w1, m.isCoin hD, m_noTold ht y hO]
end W3
theorem tc_rc {o : cpT} {lo hi : Int32} (h : ¬ rc o = nI 0) : tc o lo hi = rc o := by
  cases o with
  | none => rfl
  | some w =>
    obtain ⟨n, v⟩ := w
    rw [rc_s] at h ⊢
    rw [tc_s]
    split
    · rfl
    · rename_i q; rw [if_neg q] at h; exact absurd rfl h
theorem q_wornBy : cpQ_wornBy cpRl := by
  intro x1 x2 S hR
  have w1 := m_win 4 3 (by decide)
  rcases in_or x1 4 with ⟨t, ht, rfl⟩ | h1
  · refine qY hR ht (fun D E o hD hE hO => ?_)
    have c4 := hD.c4
    have k6 := hD.k6
    have hc : ∀ S, fX11_hasTray (nI t) S = some (nI 1, S) := fun S => by rw [e_hasTray, if_pos (cpLs_of ht (by decide))]; rfl
    rcases in_or x2 D.C with ⟨k, hk, rfl⟩ | h2
    · have ha := hE.at' k hk
      have hcode : (if rc o = nI 0 then (if nI 0 < nI 0 then -3 else tc o nM (nI 9)) else rc o) = tc o nM (nI 9) := by
        by_cases e : rc o = nI 0
        · rw [if_pos e, if_neg (by decide)]
        · rw [if_neg e, tc_rc e]
      by_cases e : tc o nM (nI 9) = nI 0
      · obtain ⟨n, v, rfl, n1, n8, hv⟩ := tc_0 e
        refine ⟨lN (rwD D E k v n 0 (E.at' k)), fun S c y => ?_, fun S m y => ?_⟩
        · obtain ⟨T, t1, t2, t3⟩ := c_wornLearn hD hE c hk ht n1 n8 y
          have cT := c.cc (t3.le (fun _ _ => kWo_C))
          have e0 := t2.2.2 0 (E.at' k) (Nat.zero_le _) ha
          rw [Nat.zero_mul, Nat.zero_add, Nat.sub_zero] at e0
          refine ⟨T, ?_, t3.le (fun _ _ => kWo_C)⟩
          have hr := c_rimCode hD c (x3 := nI 0) ht hk y hO
          rw [hcode, e] at hr
          unfold fX11_wornBy fX8_rowsFrom
          simp (disch := omega) only [lit, lm1, nI_add, pk_mul, nm_eq, nm_eq', nm_lt, nm_lt', nm_le, nm_le', x_lt, x_le, x_eq, x_in, x_cl, x_div, x_sub, x_rem, x_min, x_max, x_and, x_or, x_xor, x_df, x_shl, bI_0, bI_1, bI_bo, lg_eq, toL_inj, ls_nI, decide_eq_false_iff_not, decide_eq_true_eq, Bool.true_eq_false, Bool.false_eq_true, bq, if_pos, if_neg, if_true, if_false, lq, Nat.reduceAdd, Nat.reduceMul, Nat.reduceSub, Nat.reduceDiv, Nat.reduceMod, hr, t1, cT.at', e0, Nat.zero_mul, Nat.zero_add]
        · have m0 := m.thr hD (nI 0)
          obtain ⟨T, t1, t2, t3⟩ := m_laysWorn hD hE m0 hk ht n1 n8 (y.thr (nI 0))
          refine ⟨T, ?_, (kM_thr S (nI 0)).tr (t3.le (fun _ _ => kWm_M))⟩
          unfold fX12_wornBy
          simp (disch := omega) only [lit, lm1, nI_add, pk_mul, nm_eq, nm_eq', nm_lt, nm_lt', nm_le, nm_le', x_lt, x_le, x_eq, x_in, x_cl, x_div, x_sub, x_rem, x_min, x_max, x_and, x_or, x_xor, x_df, x_shl, bI_0, bI_1, bI_bo, lg_eq, toL_inj, ls_nI, decide_eq_false_iff_not, decide_eq_true_eq, Bool.true_eq_false, Bool.false_eq_true, bq, if_pos, if_neg, if_true, if_false, lq, Nat.reduceAdd, Nat.reduceMul, Nat.reduceSub, Nat.reduceDiv, Nat.reduceMod, m_noWorn hD m0 ht hk (y.thr (nI 0)) hO, e, t1]
      · refine ⟨Int32.toInt64 (tc o nM (nI 9)), fun S c y => ⟨S, ?_, Kp.rf⟩, fun S m y => ⟨_, ?_, kM_thr S (nI 0)⟩⟩
        · have hr := c_rimCode hD c (x3 := nI 0) ht hk y hO
          rw [hcode] at hr
          unfold fX11_wornBy
          simp (disch := omega) only [lit, lm1, nI_add, pk_mul, nm_eq, nm_eq', nm_lt, nm_lt', nm_le, nm_le', x_lt, x_le, x_eq, x_in, x_cl, x_div, x_sub, x_rem, x_min, x_max, x_and, x_or, x_xor, x_df, x_shl, bI_0, bI_1, bI_bo, lg_eq, toL_inj, ls_nI, decide_eq_false_iff_not, decide_eq_true_eq, Bool.true_eq_false, Bool.false_eq_true, bq, if_pos, if_neg, if_true, if_false, lq, Nat.reduceAdd, Nat.reduceMul, Nat.reduceSub, Nat.reduceDiv, Nat.reduceMod, hr, tc_ne e]
        · unfold fX12_wornBy
          simp (disch := omega) only [lit, lm1, nI_add, pk_mul, nm_eq, nm_eq', nm_lt, nm_lt', nm_le, nm_le', x_lt, x_le, x_eq, x_in, x_cl, x_div, x_sub, x_rem, x_min, x_max, x_and, x_or, x_xor, x_df, x_shl, bI_0, bI_1, bI_bo, lg_eq, toL_inj, ls_nI, decide_eq_false_iff_not, decide_eq_true_eq, Bool.true_eq_false, Bool.false_eq_true, bq, if_pos, if_neg, if_true, if_false, lq, Nat.reduceAdd, Nat.reduceMul, Nat.reduceSub, Nat.reduceDiv, Nat.reduceMod, m_noWorn hD (m.thr hD (nI 0)) ht hk (y.thr (nI 0)) hO, tc_ne e]
    · refine ⟨Int32.toInt64 (-2), fun S c y => ⟨S, ?_, Kp.rf⟩, fun S m y => ⟨_, ?_, kM_thr S (nI 0)⟩⟩
      · unfold fX11_wornBy fX11_rimCode
        simp (disch := omega) only [lit, lm1, nI_add, pk_mul, nm_eq, nm_eq', nm_lt, nm_lt', nm_le, nm_le', x_lt, x_le, x_eq, x_in, x_cl, x_div, x_sub, x_rem, x_min, x_max, x_and, x_or, x_xor, x_df, x_shl, bI_0, bI_1, bI_bo, lg_eq, toL_inj, ls_nI, decide_eq_false_iff_not, decide_eq_true_eq, Bool.true_eq_false, Bool.false_eq_true, bq, if_pos, if_neg, if_true, if_false, lq, Nat.reduceAdd, Nat.reduceMul, Nat.reduceSub, Nat.reduceDiv, Nat.reduceMod, hc, c.hasCoin hD, h2]
        rfl
      · unfold fX12_wornBy fX12_noWorn
        simp (disch := omega) only [lit, lm1, nI_add, pk_mul, nm_eq, nm_eq', nm_lt, nm_lt', nm_le, nm_le', x_lt, x_le, x_eq, x_in, x_cl, x_div, x_sub, x_rem, x_min, x_max, x_and, x_or, x_xor, x_df, x_shl, bI_0, bI_1, bI_bo, lg_eq, toL_inj, ls_nI, decide_eq_false_iff_not, decide_eq_true_eq, Bool.true_eq_false, Bool.false_eq_true, bq, if_pos, if_neg, if_true, if_false, lq, Nat.reduceAdd, Nat.reduceMul, Nat.reduceSub, Nat.reduceDiv, Nat.reduceMod, w1, (m.thr hD (nI 0)).isCoin hD, h2]
        rfl
  · refine q1 hR (fun D E hD hE => ⟨Int32.toInt64 (-2), fun S c => ⟨S, ?_, Kp.rf⟩, fun S m => ⟨_, ?_, kM_thr S (nI 0)⟩⟩)
    · have hc : fX11_hasTray x1 S = some (nI 0, S) := by rw [e_hasTray, h1]; rfl
      unfold fX11_wornBy fX11_rimCode
      simp (disch := omega) only [lit, lm1, nI_add, pk_mul, nm_eq, nm_eq', nm_lt, nm_lt', nm_le, nm_le', x_lt, x_le, x_eq, x_in, x_cl, x_div, x_sub, x_rem, x_min, x_max, x_and, x_or, x_xor, x_df, x_shl, bI_0, bI_1, bI_bo, lg_eq, toL_inj, ls_nI, decide_eq_false_iff_not, decide_eq_true_eq, Bool.true_eq_false, Bool.false_eq_true, bq, if_pos, if_neg, if_true, if_false, lq, Nat.reduceAdd, Nat.reduceMul, Nat.reduceSub, Nat.reduceDiv, Nat.reduceMod, hc]
      rfl
    · unfold fX12_wornBy fX12_noWorn
      simp (disch := omega) only [lit, lm1, nI_add, pk_mul, nm_eq, nm_eq', nm_lt, nm_lt', nm_le, nm_le', x_lt, x_le, x_eq, x_in, x_cl, x_div, x_sub, x_rem, x_min, x_max, x_and, x_or, x_xor, x_df, x_shl, bI_0, bI_1, bI_bo, lg_eq, toL_inj, ls_nI, decide_eq_false_iff_not, decide_eq_true_eq, Bool.true_eq_false, Bool.false_eq_true, bq, if_pos, if_neg, if_true, if_false, lq, Nat.reduceAdd, Nat.reduceMul, Nat.reduceSub, Nat.reduceDiv, Nat.reduceMod, w1, h1]
      rfl
