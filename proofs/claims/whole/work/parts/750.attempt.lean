/-! whom to try -/
def wnN (D : cpD) (E : cpE) (p q c t h : Nat) : Nat := (wnI D E p q c t h).toNatClampNeg
theorem wnN_sp (D : cpD) (E : cpE) (p q c t h : Nat) : wnI D E p q c t h = nI (wnN D E p q c t h) ∧ wnN D E p q c t h ≤ 9 := by
  obtain ⟨n, n9, hn⟩ := wnF_sp D p q c (E.at' c) t h
  have hn : wnI D E p q c t h = nI n := hn
  unfold wnN
  rw [hn, nI_clamp (by omega)]
  exact ⟨rfl, n9⟩
/-- the outcome by an hour: how much it wears, 10 if they can't -/
def ou (D : cpD) (E : cpE) (p q c t h : Nat) : Nat := if wy D E p q c t h = 0 then wnN D E p q c t h else 10
theorem ou_le (D : cpD) (E : cpE) (p q c t h : Nat) : ou D E p q c t h ≤ 10 := by
  unfold ou
  have := (wnN_sp D E p q c t h).2
  split <;> omega
def maS (D : cpD) (E : cpE) (s p q c t h : Nat) (a : (Nat → Nat) × Nat) : (Nat → Nat) × Nat := if s.testBit h then (fun x => if x = ou D E p q c t h then a.1 x + 1 else a.1 x, max a.2 (a.1 (ou D E p q c t h) + 1)) else a
def ma (D : cpD) (E : cpE) (s p q c t : Nat) : Nat := (up (maS D E s p q c t) 10 0 (fun _ => 0, 0)).2
def maO (i : Nat) (a : (Nat → Nat) × Nat) : Prop := (∀ x, a.1 x ≤ i) ∧ a.2 ≤ i
theorem maO.st {D : cpD} {E : cpE} {s p q c t i : Nat} {a : (Nat → Nat) × Nat} (h : maO i a) : maO (i + 1) (maS D E s p q c t i a) := by
  obtain ⟨h1, h2⟩ := h
  unfold maS
  split
  · refine ⟨fun x => ?_, ?_⟩
    · have := h1 x
      dsimp only
      split <;> omega
    · have := h1 (ou D E p q c t i)
      dsimp only; omega
  · exact ⟨fun x => by have := h1 x; omega, by omega⟩
theorem ma_le (D : cpD) (E : cpE) (s p q c t : Nat) : ma D E s p q c t ≤ 10 := (up_inv (maS D E s p q c t) 10 maO (fun i a _ h => h.st) 10 0 (fun _ => 0, 0) (by omega) ⟨fun _ => Nat.le_refl _, Nat.le_refl _⟩).2
def ci (k : Nat) : Nat := if k = 10 then 0 else k + 1
def k132 (q j : Nat) : Prop := q = 132 ∨ kF q j
theorem k132_C {k j : Nat} (h : k132 k j) : kC k j := by
  rcases h with rfl | h
  · exact ⟨scr_c (by decide) (by decide) (by decide) j, by decide⟩
  · exact kF_C h
def k169 (q j : Nat) : Prop := q = 169 ∨ kG q j
theorem k169_M {k j : Nat} (h : k169 k j) : kM k j := by
  rcases h with rfl | h
  · exact ⟨scr_c (by decide) (by decide) (by decide) j, by decide⟩
  · exact kG_M h
section AT
variable {D : cpD} {E : cpE} {S : cpS}
theorem c_mostAlike (hD : D.WF) (hE : E.WF D) (c : cA D E S) {s i k t : Nat} (hi : i < 28) (hP : poN i < D.P) (hs : s < 1024) (hk : k < D.C) (ht : t < D.K) : ∃ T, fX8_mostAlike (nI s) (nI i) (nI k) (nI t) S = some (nI (ma D E s (plN i) (poN i) k t), T) ∧ Kp k132 S T := by
  obtain ⟨g1, g2, g3, g4⟩ := p28 i hi
  obtain ⟨A, a1, a2⟩ := e_fillI 132 11 (nI 0) (by decide) S
  have kA : Kp k132 S A := a2.kp (fun j _ _ => Or.inl rfl)
  have := up_lpR (F := fun f h (a : Int32 × cpS) => fX8_mostAlike_14 (nI s) (nI i) (nI k) (nI t) f a.1 h a.2) (K := fun a => some (a.1, a.2)) 10 (maS D E s (plN i) (poN i) k t) (fun h b a => a.1 = nI b.2 ∧ (∀ x, x ≤ 10 → a.2.1 132 (ci x) = nI (b.1 x)) ∧ maO h b ∧ Kp k132 S a.2) (by decide) (fun f h b a hh hI => ?_) (fun f b a hI => ?_) (i0 := 0) (s := (fun _ => 0, 0)) (a := (nI 0, A)) (Nat.zero_le _) ⟨rfl, fun x hx => a2.2.2.1 _ (by omega) (by unfold ci; split <;> omega), ⟨fun _ => Nat.le_refl _, Nat.le_refl _⟩, kA⟩
  · obtain ⟨⟨x, T⟩, t1, t2, -, -, t5⟩ := this
    refine ⟨T, ?_, t5⟩
    have t2 : x = nI (ma D E s (plN i) (poN i) k t) := t2
    rw [t2] at t1
    unfold fX8_mostAlike
    simp only [lit]
    rw [a1, bq]; exact t1
  · obtain ⟨x, T⟩ := a
    obtain ⟨i1, i2, i3, i4⟩ := hI
    have j1 : x = nI b.2 := i1
    have j2 : ∀ x, x ≤ 10 → T.1 132 (ci x) = nI (b.1 x) := i2
    have j4 : Kp k132 S T := i4
    clear i1 i2 i4
    subst j1
    have cT : cA D E T := c.cc (j4.le (fun _ _ => k132_C))
    have hO := i3.st (D := D) (E := E) (s := s) (p := plN i) (q := poN i) (c := k) (t := t)
    obtain ⟨o1, o2⟩ := i3
    have hlt := o1 (ou D E (plN i) (poN i) k t h)
    cases hb : s.testBit h
    · have e : maS D E s (plN i) (poN i) k t h b = b := by unfold maS; rw [hb]; rfl
      rw [e] at hO ⊢
      refine ⟨(nI b.2, T), ?_, rfl, j2, hO, j4⟩
      rw [fX8_mostAlike_14]
      simp (disch := omega) only [lit, lm1, nI_add, pk_mul, nm_eq, nm_eq', nm_lt, nm_lt', nm_le, nm_le', x_lt, x_le, x_eq, x_in, x_cl, x_div, x_sub, x_rem, x_min, x_max, x_and, x_or, x_xor, x_df, x_shl, bI_0, bI_1, bI_bo, lg_eq, toL_inj, ls_nI, decide_eq_false_iff_not, decide_eq_true_eq, Bool.true_eq_false, Bool.false_eq_true, bq, if_pos, if_neg, if_true, if_false, lq, Nat.reduceAdd, Nat.reduceMul, Nat.reduceSub, Nat.reduceDiv, Nat.reduceMod, e_isIn, hb]
    · have e : maS D E s (plN i) (poN i) k t h b = (fun x => if x = ou D E (plN i) (poN i) k t h then b.1 x + 1 else b.1 x, max b.2 (b.1 (ou D E (plN i) (poN i) k t h) + 1)) := by unfold maS; rw [hb]; rfl
      rw [e] at hO ⊢
      obtain ⟨U, u1, u2⟩ := c_wearAt hD hE cT (h := h) (p := plN i) (q := poN i) (by omega) hP (by omega) hk ht
      have hou := ou_le D E (plN i) (poN i) k t h
      have hci : nI 1 + cpMax nM (if wy D E (plN i) (poN i) k t h = 0 then wnI D E (plN i) (poN i) k t h else ngI (wy D E (plN i) (poN i) k t h)) = nI (ci (ou D E (plN i) (poN i) k t h)) := by
        unfold ou ci
        obtain ⟨w1, w2⟩ := wnN_sp D E (plN i) (poN i) k t h
        by_cases e : wy D E (plN i) (poN i) k t h = 0
        · rw [if_pos e, if_pos e, w1, if_neg (by omega)]
          have : cpMax nM (nI (wnN D E (plN i) (poN i) k t h)) = nI (wnN D E (plN i) (poN i) k t h) := by
            unfold cpMax
            rw [if_pos (of_eq_true (nm_lt (by omega)))]
          rw [this, nI_add, Nat.add_comm]
        · rw [if_neg e, if_neg e, if_pos rfl]
          rcases wyF_cases D E (plN i) (poN i) k (E.at' k) t h with g | g | g | g
          · exact absurd g e
          · rw [show wy D E (plN i) (poN i) k t h = 2 from g]; decide
          · rw [show wy D E (plN i) (poN i) k t h = 3 from g]; decide
          · rw [show wy D E (plN i) (poN i) k t h = 4 from g]; decide
      have ci10 : ci (ou D E (plN i) (poN i) k t h) < 11 := by unfold ci; split <;> omega
      have eU : U.1 132 (ci (ou D E (plN i) (poN i) k t h)) = nI (b.1 (ou D E (plN i) (poN i) k t h)) := by rw [u2.i (by unfold kF; omega)]; exact j2 _ hou
      refine ⟨(nI (max b.2 (b.1 (ou D E (plN i) (poN i) k t h) + 1)), cpI U 132 (ci (ou D E (plN i) (poN i) k t h)) (nI (b.1 (ou D E (plN i) (poN i) k t h) + 1))), ?_, rfl, fun x hx => ?_, hO, (j4.tr (u2.le (fun _ _ q => Or.inr q))).I (by exact Or.inl rfl)⟩
      · rw [fX8_mostAlike_14]
        simp (disch := omega) only [lit, lm1, nI_add, pk_mul, nm_eq, nm_eq', nm_lt, nm_lt', nm_le, nm_le', x_lt, x_le, x_eq, x_in, x_cl, x_div, x_sub, x_rem, x_min, x_max, x_and, x_or, x_xor, x_df, x_shl, bI_0, bI_1, bI_bo, lg_eq, toL_inj, ls_nI, decide_eq_false_iff_not, decide_eq_true_eq, Bool.true_eq_false, Bool.false_eq_true, bq, if_pos, if_neg, if_true, if_false, lq, Nat.reduceAdd, Nat.reduceMul, Nat.reduceSub, Nat.reduceDiv, Nat.reduceMod, e_isIn, hb, g1, g2, u1]
        rw [hci]
        simp (disch := omega) only [lit, lm1, nI_add, pk_mul, nm_eq, nm_eq', nm_lt, nm_lt', nm_le, nm_le', x_lt, x_le, x_eq, x_in, x_cl, x_div, x_sub, x_rem, x_min, x_max, x_and, x_or, x_xor, x_df, x_shl, bI_0, bI_1, bI_bo, lg_eq, toL_inj, ls_nI, decide_eq_false_iff_not, decide_eq_true_eq, Bool.true_eq_false, Bool.false_eq_true, bq, if_pos, if_neg, if_true, if_false, lq, Nat.reduceAdd, Nat.reduceMul, Nat.reduceSub, Nat.reduceDiv, Nat.reduceMod, eU, sI1]
      · dsimp only
        by_cases ex : x = ou D E (plN i) (poN i) k t h
        · rw [if_pos ex, ex, sI1]
        · rw [if_neg ex, sIn (Or.inr (by unfold ci; split <;> split <;> omega)), u2.i (by unfold kF; omega)]; exact j2 x hx
  · rw [fX8_mostAlike_14]
    simp (disch := omega) only [lit, lm1, nI_add, pk_mul, nm_eq, nm_eq', nm_lt, nm_lt', nm_le, nm_le', x_lt, x_le, x_eq, x_in, x_cl, x_div, x_sub, x_rem, x_min, x_max, x_and, x_or, x_xor, x_df, x_shl, bI_0, bI_1, bI_bo, lg_eq, toL_inj, ls_nI, decide_eq_false_iff_not, decide_eq_true_eq, Bool.true_eq_false, Bool.false_eq_true, bq, if_pos, if_neg, if_true, if_false, lq, Nat.reduceAdd, Nat.reduceMul, Nat.reduceSub, Nat.reduceDiv, Nat.reduceMod]
theorem m_often30 (hD : D.WF) (hE : E.WF D) (m : mA D E S) {s p q k t : Nat} (hp : p < D.P) (hq : q < D.P) (hn : p ≠ q) (hs : s < 1024) (hk : k < D.C) (ht : t < D.K) (z : ∀ x, x ≤ 10 → S.1 169 x = nI 0) : ∃ T, fX12_mostOften_30 (nI s) (nI p) (nI q) (nI k) (nI t) cpFu (nI 0) (nI 0) S = some (nI (ma D E s p q k t), T) ∧ Kp k169 S T := by
  have := up_lpR (F := fun f h (a : Int32 × cpS) => fX12_mostOften_30 (nI s) (nI p) (nI q) (nI k) (nI t) f a.1 h a.2) (K := fun a => some (a.1, a.2)) 10 (maS D E s p q k t) (fun h b a => a.1 = nI b.2 ∧ (∀ x, x ≤ 10 → a.2.1 169 x = nI (b.1 x)) ∧ maO h b ∧ Kp k169 S a.2) (by decide) (fun f h b a hh hI => ?_) (fun f b a hI => ?_) (i0 := 0) (s := (fun _ => 0, 0)) (a := (nI 0, S)) (Nat.zero_le _) ⟨rfl, z, ⟨fun _ => Nat.le_refl _, Nat.le_refl _⟩, Kp.rf⟩
  · obtain ⟨⟨x, T⟩, t1, t2, -, -, t5⟩ := this
    refine ⟨T, ?_, t5⟩
    have t2 : x = nI (ma D E s p q k t) := t2
    rw [t2] at t1
    exact t1
  · obtain ⟨x, T⟩ := a
    obtain ⟨i1, i2, i3, i4⟩ := hI
    have j1 : x = nI b.2 := i1
    have j2 : ∀ x, x ≤ 10 → T.1 169 x = nI (b.1 x) := i2
    have j4 : Kp k169 S T := i4
    clear i1 i2 i4
    subst j1
    have mT : mA D E T := m.mm hD (j4.le (fun _ _ => k169_M))
    have hO := i3.st (D := D) (E := E) (s := s) (p := p) (q := q) (c := k) (t := t)
    obtain ⟨o1, o2⟩ := i3
    have hlt := o1 (ou D E p q k t h)
    cases hb : s.testBit h
    · have e : maS D E s p q k t h b = b := by unfold maS; rw [hb]; rfl
      rw [e] at hO ⊢
      refine ⟨(nI b.2, T), ?_, rfl, j2, hO, j4⟩
      rw [fX12_mostOften_30]
      simp (disch := omega) only [lit, lm1, nI_add, pk_mul, nm_eq, nm_eq', nm_lt, nm_lt', nm_le, nm_le', x_lt, x_le, x_eq, x_in, x_cl, x_div, x_sub, x_rem, x_min, x_max, x_and, x_or, x_xor, x_df, x_shl, bI_0, bI_1, bI_bo, lg_eq, toL_inj, ls_nI, decide_eq_false_iff_not, decide_eq_true_eq, Bool.true_eq_false, Bool.false_eq_true, bq, if_pos, if_neg, if_true, if_false, lq, Nat.reduceAdd, Nat.reduceMul, Nat.reduceSub, Nat.reduceDiv, Nat.reduceMod, m_isIn, hb]
    · have e : maS D E s p q k t h b = (fun x => if x = ou D E p q k t h then b.1 x + 1 else b.1 x, max b.2 (b.1 (ou D E p q k t h) + 1)) := by unfold maS; rw [hb]; rfl
      rw [e] at hO ⊢
      have hou := ou_le D E p q k t h
      obtain ⟨A, a1, a2⟩ := m_whyCarry hD hE mT (h := h) hp hq hn hk ht
      have f82 : ∀ U : cpS, Kp kG T U → fX12_mostOften_82 (nI s) (nI p) (nI q) (nI k) (nI t) (nI b.2) (nI h) (nI (ou D E p q k t h)) (fX12_mostOften_30 (nI s) (nI p) (nI q) (nI k) (nI t) f) U = fX12_mostOften_30 (nI s) (nI p) (nI q) (nI k) (nI t) f (nI (max b.2 (b.1 (ou D E p q k t h) + 1))) (nI (h + 1)) (cpI U 169 (ou D E p q k t h) (nI (b.1 (ou D E p q k t h) + 1))) := fun U hU => by
        have eU : U.1 169 (ou D E p q k t h) = nI (b.1 (ou D E p q k t h)) := by rw [hU.i (by unfold kG; omega)]; exact j2 _ hou
        unfold fX12_mostOften_82
        simp (disch := omega) only [lit, lm1, nI_add, pk_mul, nm_eq, nm_eq', nm_lt, nm_lt', nm_le, nm_le', x_lt, x_le, x_eq, x_in, x_cl, x_div, x_sub, x_rem, x_min, x_max, x_and, x_or, x_xor, x_df, x_shl, bI_0, bI_1, bI_bo, lg_eq, toL_inj, ls_nI, decide_eq_false_iff_not, decide_eq_true_eq, Bool.true_eq_false, Bool.false_eq_true, bq, if_pos, if_neg, if_true, if_false, lq, Nat.reduceAdd, Nat.reduceMul, Nat.reduceSub, Nat.reduceDiv, Nat.reduceMod, eU, sI1]
        by_cases q : b.1 (ou D E p q k t h) + 1 ≤ b.2
        · rw [if_pos q, Nat.max_eq_left q]
        · rw [if_neg q, Nat.max_eq_right (by omega)]
      have fin : ∀ U : cpS, Kp kG T U → fX12_mostOften_30 (nI s) (nI p) (nI q) (nI k) (nI t) (f + 1) (nI b.2) (nI h) T = fX12_mostOften_30 (nI s) (nI p) (nI q) (nI k) (nI t) f (nI (max b.2 (b.1 (ou D E p q k t h) + 1))) (nI (h + 1)) (cpI U 169 (ou D E p q k t h) (nI (b.1 (ou D E p q k t h) + 1))) → ∃ a' : Int32 × cpS, fX12_mostOften_30 (nI s) (nI p) (nI q) (nI k) (nI t) (f + 1) (nI b.2) (nI h) T = fX12_mostOften_30 (nI s) (nI p) (nI q) (nI k) (nI t) f a'.1 (nI (h + 1)) a'.2 ∧ a'.1 = nI (max b.2 (b.1 (ou D E p q k t h) + 1)) ∧ (∀ x, x ≤ 10 → a'.2.1 169 x = nI (if x = ou D E p q k t h then b.1 x + 1 else b.1 x)) ∧ maO (h + 1) (fun x => if x = ou D E p q k t h then b.1 x + 1 else b.1 x, max b.2 (b.1 (ou D E p q k t h) + 1)) ∧ Kp k169 S a'.2 := fun U hU he => by
        refine ⟨(nI (max b.2 (b.1 (ou D E p q k t h) + 1)), cpI U 169 (ou D E p q k t h) (nI (b.1 (ou D E p q k t h) + 1))), he, rfl, fun x hx => ?_, hO, (j4.tr (hU.le (fun _ _ q => Or.inr q))).I (by exact Or.inl rfl)⟩
        dsimp only
        by_cases ex : x = ou D E p q k t h
        · rw [if_pos ex, ex, sI1]
        · rw [if_neg ex, sIn (Or.inr ex), hU.i (by unfold kG; omega)]; exact j2 x hx
      by_cases ew : wy D E p q k t h = 0
      · obtain ⟨B, b1, b2⟩ := m_wornTo hD hE (mT.kp hD a2 (fun _ _ => kG_ne)) (h := h) hp hq hk ht ew
        have eo : wnI D E p q k t h = nI (ou D E p q k t h) := by unfold ou; rw [if_pos ew]; exact (wnN_sp D E p q k t h).1
        rw [eo] at b1
        rw [ew] at a1
        refine fin B (a2.tr b2) ?_
        rw [fX12_mostOften_30]
        simp (disch := omega) only [lit, lm1, nI_add, pk_mul, nm_eq, nm_eq', nm_lt, nm_lt', nm_le, nm_le', x_lt, x_le, x_eq, x_in, x_cl, x_div, x_sub, x_rem, x_min, x_max, x_and, x_or, x_xor, x_df, x_shl, bI_0, bI_1, bI_bo, lg_eq, toL_inj, ls_nI, decide_eq_false_iff_not, decide_eq_true_eq, Bool.true_eq_false, Bool.false_eq_true, bq, if_pos, if_neg, if_true, if_false, lq, Nat.reduceAdd, Nat.reduceMul, Nat.reduceSub, Nat.reduceDiv, Nat.reduceMod, m_isIn, hb, a1, b1, f82 B (a2.tr b2)]
      · obtain ⟨q1, q2, q3, q4, q5, q6⟩ := ng_pos (wy D E p q k t h) (by rcases wyF_cases D E p q k (E.at' k) t h with g | g | g | g; exact absurd g ew; exact Or.inl g; exact Or.inr (Or.inl g); exact Or.inr (Or.inr g))
        have eo : ou D E p q k t h = 10 := by unfold ou; rw [if_neg ew]
        have f82' := f82 A a2
        rw [eo] at f82'
        refine fin A a2 ?_
        rw [fX12_mostOften_30, eo]
        simp (disch := omega) only [lit, lm1, nI_add, pk_mul, nm_eq, nm_eq', nm_lt, nm_lt', nm_le, nm_le', x_lt, x_le, x_eq, x_in, x_cl, x_div, x_sub, x_rem, x_min, x_max, x_and, x_or, x_xor, x_df, x_shl, bI_0, bI_1, bI_bo, lg_eq, toL_inj, ls_nI, decide_eq_false_iff_not, decide_eq_true_eq, Bool.true_eq_false, Bool.false_eq_true, bq, if_pos, if_neg, if_true, if_false, lq, Nat.reduceAdd, Nat.reduceMul, Nat.reduceSub, Nat.reduceDiv, Nat.reduceMod, m_isIn, hb, a1, q5, f82']
  · rw [fX12_mostOften_30]
    simp (disch := omega) only [lit, lm1, nI_add, pk_mul, nm_eq, nm_eq', nm_lt, nm_lt', nm_le, nm_le', x_lt, x_le, x_eq, x_in, x_cl, x_div, x_sub, x_rem, x_min, x_max, x_and, x_or, x_xor, x_df, x_shl, bI_0, bI_1, bI_bo, lg_eq, toL_inj, ls_nI, decide_eq_false_iff_not, decide_eq_true_eq, Bool.true_eq_false, Bool.false_eq_true, bq, if_pos, if_neg, if_true, if_false, lq, Nat.reduceAdd, Nat.reduceMul, Nat.reduceSub, Nat.reduceDiv, Nat.reduceMod]
theorem m_mostOften (hD : D.WF) (hE : E.WF D) (m : mA D E S) {s p q k t : Nat} (hp : p < D.P) (hq : q < D.P) (hn : p ≠ q) (hs : s < 1024) (hk : k < D.C) (ht : t < D.K) : ∃ T, fX12_mostOften (nI s) (nI p) (nI q) (nI k) (nI t) S = some (nI (ma D E s p q k t), T) ∧ Kp k169 S T := by
  obtain ⟨A, a1, a2, a3⟩ : ∃ A, fX12_mostOften (nI s) (nI p) (nI q) (nI k) (nI t) S = fX12_mostOften_30 (nI s) (nI p) (nI q) (nI k) (nI t) cpFu (nI 0) (nI 0) A ∧ (∀ x, x ≤ 10 → A.1 169 x = nI 0) ∧ Kp k169 S A := by
    have := up_lpR (F := fun n i (T : cpS) => fX12_mostOften_6 (nI s) (nI p) (nI q) (nI k) (nI t) (nI 0) n i T) (K := fun T => fX12_mostOften_30 (nI s) (nI p) (nI q) (nI k) (nI t) cpFu (nI 0) (nI 0) T) 11 (fun _ (s : Unit) => s) (fun i _ T => fI S T 169 0 i (fun _ => nI 0)) (by omega) (fun n i s T hi hI => ?_) (fun n s T hI => ?_) (i0 := 0) (s := ()) (a := S) (Nat.zero_le _) (fI.rf S 169 0 _)
    · obtain ⟨A, a1, a2⟩ := this
      refine ⟨A, ?_, fun x hx => a2.2.2.1 x (by omega) (by omega), a2.kp (fun j _ _ => Or.inl rfl)⟩
      unfold fX12_mostOften
      simp only [lit]
      exact a1
    · refine ⟨cpI T 169 i (nI 0), ?_, hI.nx rfl (by omega)⟩
      rw [fX12_mostOften_6]
      simp (disch := omega) only [lit, lm1, nI_add, pk_mul, nm_eq, nm_eq', nm_lt, nm_lt', nm_le, nm_le', x_lt, x_le, x_eq, x_in, x_cl, x_div, x_sub, x_rem, x_min, x_max, x_and, x_or, x_xor, x_df, x_shl, bI_0, bI_1, bI_bo, lg_eq, toL_inj, ls_nI, decide_eq_false_iff_not, decide_eq_true_eq, Bool.true_eq_false, Bool.false_eq_true, bq, if_pos, if_neg, if_true, if_false, lq, Nat.reduceAdd, Nat.reduceMul, Nat.reduceSub, Nat.reduceDiv, Nat.reduceMod]
    · rw [fX12_mostOften_6]
      simp (disch := omega) only [lit, lm1, nI_add, pk_mul, nm_eq, nm_eq', nm_lt, nm_lt', nm_le, nm_le', x_lt, x_le, x_eq, x_in, x_cl, x_div, x_sub, x_rem, x_min, x_max, x_and, x_or, x_xor, x_df, x_shl, bI_0, bI_1, bI_bo, lg_eq, toL_inj, ls_nI, decide_eq_false_iff_not, decide_eq_true_eq, Bool.true_eq_false, Bool.false_eq_true, bq, if_pos, if_neg, if_true, if_false, lq, Nat.reduceAdd, Nat.reduceMul, Nat.reduceSub, Nat.reduceDiv, Nat.reduceMod]
  obtain ⟨T, t1, t2⟩ := m_often30 hD hE (m.mm hD (a3.le (fun _ _ => k169_M))) hp hq hn hs hk ht a2
  exact ⟨T, a1.trans t1, a3.tr t2⟩
/-- the pair, and how many hours are alike by it -/
def tpS (D : cpD) (E : cpE) (s c t p q : Nat) (o : Option (Nat × Nat)) : Option (Nat × Nat) := match o with
  | none => some (10 * p + q, ma D E s p q c t)
  | some (b, l) => if ma D E s p q c t < l then some (10 * p + q, ma D E s p q c t) else some (b, l)
def tpB (o : Option (Nat × Nat)) : Int32 := match o with
  | none => nM
  | some (b, _) => nI b
def tpL (z : Nat) (o : Option (Nat × Nat)) : Int32 := match o with
  | none => nI z
  | some (_, l) => nI l
def tpO (o : Option (Nat × Nat)) : Prop := ∀ b l, o = some (b, l) → l ≤ 10
theorem tpO.st {s c t p q : Nat} {o : Option (Nat × Nat)} (h : tpO o) : tpO (tpS D E s c t p q o) := by
  intro b l e
  unfold tpS at e
  cases o with
  | none => cases e; exact ma_le _ _ _ _ _ _ _
  | some x =>
    obtain ⟨b', l'⟩ := x
    dsimp only at e
    split at e
    · cases e; exact ma_le _ _ _ _ _ _ _
    · exact h b l e
def tp (D : cpD) (E : cpE) (s c t : Nat) : Option (Nat × Nat) := up (fun p o => up (fun q o => tpS D E s c t p q o) (D.P - (p + 1)) (p + 1) o) D.P 0 none
theorem c_tellingPair (hD : D.WF) (hE : E.WF D) (c : cA D E S) {s k t : Nat} (hs : s < 1024) (hk : k < D.C) (ht : t < D.K) : ∃ T, fX8_tellingPair (nI s) (nI k) (nI t) S = some (tpB (tp D E s k t), T) ∧ Kp k132 S T := by
  unfold fX8_tellingPair tp
  rw [← cls_mdl (tpS D E s k t) hD.p8]
  simp only [lit, lm1]
  have := up_lpR (F := fun n i (a : Int32 × Int32 × cpS) => fX8_tellingPair_10 (nI s) (nI k) (nI t) n a.1 a.2.1 i a.2.2) (K := fun a => some (a.1, a.2.2)) 28 (fun i o => if poN i < D.P then tpS D E s k t (plN i) (poN i) o else o) (fun i o a => a.1 = tpB o ∧ a.2.1 = tpL 11 o ∧ tpO o ∧ Kp k132 S a.2.2) (by decide) (fun n i o a hi hI => ?_) (fun n o a hI => ?_) (i0 := 0) (s := none) (a := (nM, nI 11, S)) (Nat.zero_le _) ⟨rfl, rfl, (fun b l e => by cases e), Kp.rf⟩
  · obtain ⟨⟨x, y, T⟩, t1, t2, -, -, t5⟩ := this
    refine ⟨T, ?_, t5⟩
    have t2 : x = tpB (up (fun i o => if poN i < D.P then tpS D E s k t (plN i) (poN i) o else o) 28 0 none) := t2
    rw [t2] at t1
    exact t1
  · obtain ⟨x, y, T⟩ := a
    obtain ⟨i1, i2, i3, i4⟩ := hI
    have j1 : x = tpB o := i1
    have j2 : y = tpL 11 o := i2
    have j4 : Kp k132 S T := i4
    clear i1 i2 i4
    subst j1
    subst j2
    have cT : cA D E T := c.cc (j4.le (fun _ _ => k132_C))
    obtain ⟨g1, g2, g3, g4⟩ := p28 i hi
    have p8 := hD.p8
    by_cases hP : poN i < D.P
    · obtain ⟨U, u1, u2⟩ := c_mostAlike hD hE cT hi hP hs hk ht
      have hm := ma_le D E s (plN i) (poN i) k t
      rw [if_pos hP]
      refine ⟨(tpB (tpS D E s k t (plN i) (poN i) o), tpL 11 (tpS D E s k t (plN i) (poN i) o), U), ?_, rfl, rfl, i3.st, j4.tr u2⟩
      rw [fX8_tellingPair_10]
      cases o with
      | none => simp (disch := omega) only [lit, lm1, nI_add, pk_mul, nm_eq, nm_eq', nm_lt, nm_lt', nm_le, nm_le', x_lt, x_le, x_eq, x_in, x_cl, x_div, x_sub, x_rem, x_min, x_max, x_and, x_or, x_xor, x_df, x_shl, bI_0, bI_1, bI_bo, lg_eq, toL_inj, ls_nI, decide_eq_false_iff_not, decide_eq_true_eq, Bool.true_eq_false, Bool.false_eq_true, bq, if_pos, if_neg, if_true, if_false, lq, Nat.reduceAdd, Nat.reduceMul, Nat.reduceSub, Nat.reduceDiv, Nat.reduceMod, g1, g2, cT.hasPerson hD, u1, tpL, tpB, tpS]
      | some b =>
        obtain ⟨b, l⟩ := b
        have hl := i3 b l rfl
        by_cases e : ma D E s (plN i) (poN i) k t < l
        · simp (disch := omega) only [lit, lm1, nI_add, pk_mul, nm_eq, nm_eq', nm_lt, nm_lt', nm_le, nm_le', x_lt, x_le, x_eq, x_in, x_cl, x_div, x_sub, x_rem, x_min, x_max, x_and, x_or, x_xor, x_df, x_shl, bI_0, bI_1, bI_bo, lg_eq, toL_inj, ls_nI, decide_eq_false_iff_not, decide_eq_true_eq, Bool.true_eq_false, Bool.false_eq_true, bq, if_pos, if_neg, if_true, if_false, lq, Nat.reduceAdd, Nat.reduceMul, Nat.reduceSub, Nat.reduceDiv, Nat.reduceMod, g1, g2, cT.hasPerson hD, u1, tpL, tpB, tpS, e]
        · simp (disch := omega) only [lit, lm1, nI_add, pk_mul, nm_eq, nm_eq', nm_lt, nm_lt', nm_le, nm_le', x_lt, x_le, x_eq, x_in, x_cl, x_div, x_sub, x_rem, x_min, x_max, x_and, x_or, x_xor, x_df, x_shl, bI_0, bI_1, bI_bo, lg_eq, toL_inj, ls_nI, decide_eq_false_iff_not, decide_eq_true_eq, Bool.true_eq_false, Bool.false_eq_true, bq, if_pos, if_neg, if_true, if_false, lq, Nat.reduceAdd, Nat.reduceMul, Nat.reduceSub, Nat.reduceDiv, Nat.reduceMod, g1, g2, cT.hasPerson hD, u1, tpL, tpB, tpS, e]
    · rw [if_neg hP]
      refine ⟨(tpB o, tpL 11 o, T), ?_, rfl, rfl, i3, j4⟩
      rw [fX8_tellingPair_10]
      simp (disch := omega) only [lit, lm1, nI_add, pk_mul, nm_eq, nm_eq', nm_lt, nm_lt', nm_le, nm_le', x_lt, x_le, x_eq, x_in, x_cl, x_div, x_sub, x_rem, x_min, x_max, x_and, x_or, x_xor, x_df, x_shl, bI_0, bI_1, bI_bo, lg_eq, toL_inj, ls_nI, decide_eq_false_iff_not, decide_eq_true_eq, Bool.true_eq_false, Bool.false_eq_true, bq, if_pos, if_neg, if_true, if_false, lq, Nat.reduceAdd, Nat.reduceMul, Nat.reduceSub, Nat.reduceDiv, Nat.reduceMod, g2, cT.hasPerson hD]
  · rw [fX8_tellingPair_10]
    simp (disch := omega) only [lit, lm1, nI_add, pk_mul, nm_eq, nm_eq', nm_lt, nm_lt', nm_le, nm_le', x_lt, x_le, x_eq, x_in, x_cl, x_div, x_sub, x_rem, x_min, x_max, x_and, x_or, x_xor, x_df, x_shl, bI_0, bI_1, bI_bo, lg_eq, toL_inj, ls_nI, decide_eq_false_iff_not, decide_eq_true_eq, Bool.true_eq_false, Bool.false_eq_true, bq, if_pos, if_neg, if_true, if_false, lq, Nat.reduceAdd, Nat.reduceMul, Nat.reduceSub, Nat.reduceDiv, Nat.reduceMod]
theorem m_att88 (hD : D.WF) (hE : E.WF D) (m : mA D E S) {s k t p : Nat} {o : Option (Nat × Nat)} (hs : s < 1024) (hk : k < D.C) (ht : t < D.K) (hp : p < D.P) (hO : tpO o) (kk : Int32 → Int32 → Int32 → cpS → Option (Int32 × cpS)) : ∃ T, fX12_attempt_88 (nI k) (nI t) (nI s) (nI p) kk cpFu (tpB o) (tpL 268435456 o) (nI (p + 1)) S = kk (tpB (up (fun q o => tpS D E s k t p q o) (D.P - (p + 1)) (p + 1) o)) (tpL 268435456 (up (fun q o => tpS D E s k t p q o) (D.P - (p + 1)) (p + 1) o)) (nI (p + 1)) T ∧ Kp k169 S T ∧ tpO (up (fun q o => tpS D E s k t p q o) (D.P - (p + 1)) (p + 1) o) := by
  have p8 := hD.p8
  have := up_lpR (F := fun n i (a : Int32 × Int32 × cpS) => fX12_attempt_88 (nI k) (nI t) (nI s) (nI p) kk n a.1 a.2.1 i a.2.2) (K := fun a => kk a.1 a.2.1 (nI (p + 1)) a.2.2) D.P (fun q o => tpS D E s k t p q o) (fun i o a => a.1 = tpB o ∧ a.2.1 = tpL 268435456 o ∧ tpO o ∧ Kp k169 S a.2.2 ∧ p < i) (by omega) (fun n i o a hi hI => ?_) (fun n o a hI => ?_) (i0 := p + 1) (s := o) (a := (tpB o, tpL 268435456 o, S)) (by omega) ⟨rfl, rfl, hO, Kp.rf, by omega⟩
  · obtain ⟨⟨x, y, T⟩, t1, t2, t3, t4, t5, -⟩ := this
    refine ⟨T, ?_, t5, t4⟩
    have t2 : x = tpB (up (fun q o => tpS D E s k t p q o) (D.P - (p + 1)) (p + 1) o) := t2
    have t3 : y = tpL 268435456 (up (fun q o => tpS D E s k t p q o) (D.P - (p + 1)) (p + 1) o) := t3
    rw [t2, t3] at t1
    exact t1
  · obtain ⟨x, y, T⟩ := a
    obtain ⟨i1, i2, i3, i4, i5⟩ := hI
    have j1 : x = tpB o := i1
    have j2 : y = tpL 268435456 o := i2
    have j4 : Kp k169 S T := i4
    clear i1 i2 i4
    subst j1
    subst j2
    have mT : mA D E T := m.mm hD (j4.le (fun _ _ => k169_M))
    obtain ⟨U, u1, u2⟩ := m_mostOften hD hE mT hp hi (by omega) hs hk ht
    have hm := ma_le D E s p i k t
    refine ⟨(tpB (tpS D E s k t p i o), tpL 268435456 (tpS D E s k t p i o), U), ?_, rfl, rfl, i3.st, j4.tr u2, by omega⟩
    rw [fX12_attempt_88]
    cases o with
    | none => simp (disch := omega) only [lit, lm1, nI_add, pk_mul, nm_eq, nm_eq', nm_lt, nm_lt', nm_le, nm_le', x_lt, x_le, x_eq, x_in, x_cl, x_div, x_sub, x_rem, x_min, x_max, x_and, x_or, x_xor, x_df, x_shl, bI_0, bI_1, bI_bo, lg_eq, toL_inj, ls_nI, decide_eq_false_iff_not, decide_eq_true_eq, Bool.true_eq_false, Bool.false_eq_true, bq, if_pos, if_neg, if_true, if_false, lq, Nat.reduceAdd, Nat.reduceMul, Nat.reduceSub, Nat.reduceDiv, Nat.reduceMod, mT.P, u1, tpL, tpB, tpS]
    | some b =>
      obtain ⟨b, l⟩ := b
      have hl := i3 b l rfl
      by_cases e : ma D E s p i k t < l
      · simp (disch := omega) only [lit, lm1, nI_add, pk_mul, nm_eq, nm_eq', nm_lt, nm_lt', nm_le, nm_le', x_lt, x_le, x_eq, x_in, x_cl, x_div, x_sub, x_rem, x_min, x_max, x_and, x_or, x_xor, x_df, x_shl, bI_0, bI_1, bI_bo, lg_eq, toL_inj, ls_nI, decide_eq_false_iff_not, decide_eq_true_eq, Bool.true_eq_false, Bool.false_eq_true, bq, if_pos, if_neg, if_true, if_false, lq, Nat.reduceAdd, Nat.reduceMul, Nat.reduceSub, Nat.reduceDiv, Nat.reduceMod, mT.P, u1, tpL, tpB, tpS, e]
      · simp (disch := omega) only [lit, lm1, nI_add, pk_mul, nm_eq, nm_eq', nm_lt, nm_lt', nm_le, nm_le', x_lt, x_le, x_eq, x_in, x_cl, x_div, x_sub, x_rem, x_min, x_max, x_and, x_or, x_xor, x_df, x_shl, bI_0, bI_1, bI_bo, lg_eq, toL_inj, ls_nI, decide_eq_false_iff_not, decide_eq_true_eq, Bool.true_eq_false, Bool.false_eq_true, bq, if_pos, if_neg, if_true, if_false, lq, Nat.reduceAdd, Nat.reduceMul, Nat.reduceSub, Nat.reduceDiv, Nat.reduceMod, mT.P, u1, tpL, tpB, tpS, e]
  · have mT : mA D E a.2.2 := m.mm hD (hI.2.2.2.1.le (fun _ _ => k169_M))
    rw [fX12_attempt_88]
    simp (disch := omega) only [lit, lm1, nI_add, pk_mul, nm_eq, nm_eq', nm_lt, nm_lt', nm_le, nm_le', x_lt, x_le, x_eq, x_in, x_cl, x_div, x_sub, x_rem, x_min, x_max, x_and, x_or, x_xor, x_df, x_shl, bI_0, bI_1, bI_bo, lg_eq, toL_inj, ls_nI, decide_eq_false_iff_not, decide_eq_true_eq, Bool.true_eq_false, Bool.false_eq_true, bq, if_pos, if_neg, if_true, if_false, lq, Nat.reduceAdd, Nat.reduceMul, Nat.reduceSub, Nat.reduceDiv, Nat.reduceMod, mT.P]
theorem m_att66 (hD : D.WF) (hE : E.WF D) (m : mA D E S) {s k t : Nat} (hs : s < 1024) (h0 : s ≠ 0) (hk : k < D.C) (ht : t < D.K) : ∃ T, fX12_attempt_66 (nI k) (nI t) (nI s) cpFu nM (nI 268435456) (nI 0) S = some (tpB (tp D E s k t), T) ∧ Kp k169 S T := by
  have p8 := hD.p8
  unfold tp
  have := up_lpR (F := fun n i (a : Int32 × Int32 × cpS) => fX12_attempt_66 (nI k) (nI t) (nI s) n a.1 a.2.1 i a.2.2) (K := fun a => some (a.1, a.2.2)) D.P (fun p o => up (fun q o => tpS D E s k t p q o) (D.P - (p + 1)) (p + 1) o) (fun i o a => a.1 = tpB o ∧ a.2.1 = tpL 268435456 o ∧ tpO o ∧ Kp k169 S a.2.2) (by omega) (fun n i o a hi hI => ?_) (fun n o a hI => ?_) (i0 := 0) (s := none) (a := (nM, nI 268435456, S)) (Nat.zero_le _) ⟨rfl, rfl, (fun b l e => by cases e), Kp.rf⟩
  · obtain ⟨⟨x, y, T⟩, t1, t2, -, -, t5⟩ := this
    refine ⟨T, ?_, t5⟩
    have t2 : x = tpB (up (fun p o => up (fun q o => tpS D E s k t p q o) (D.P - (p + 1)) (p + 1) o) D.P 0 none) := t2
    rw [t2] at t1
    exact t1
  · obtain ⟨x, y, T⟩ := a
    obtain ⟨i1, i2, i3, i4⟩ := hI
    have j1 : x = tpB o := i1
    have j2 : y = tpL 268435456 o := i2
    have j4 : Kp k169 S T := i4
    clear i1 i2 i4
    subst j1
    subst j2
    have mT : mA D E T := m.mm hD (j4.le (fun _ _ => k169_M))
    obtain ⟨U, u1, u2, u3⟩ := m_att88 hD hE mT hs hk ht hi i3 (fX12_attempt_66 (nI k) (nI t) (nI s) n)
    refine ⟨(tpB (up (fun q o => tpS D E s k t i q o) (D.P - (i + 1)) (i + 1) o), tpL 268435456 (up (fun q o => tpS D E s k t i q o) (D.P - (i + 1)) (i + 1) o), U), ?_, rfl, rfl, u3, j4.tr u2⟩
    rw [fX12_attempt_66]
    simp (disch := omega) only [lit, lm1, nI_add, pk_mul, nm_eq, nm_eq', nm_lt, nm_lt', nm_le, nm_le', x_lt, x_le, x_eq, x_in, x_cl, x_div, x_sub, x_rem, x_min, x_max, x_and, x_or, x_xor, x_df, x_shl, bI_0, bI_1, bI_bo, lg_eq, toL_inj, ls_nI, decide_eq_false_iff_not, decide_eq_true_eq, Bool.true_eq_false, Bool.false_eq_true, bq, if_pos, if_neg, if_true, if_false, lq, Nat.reduceAdd, Nat.reduceMul, Nat.reduceSub, Nat.reduceDiv, Nat.reduceMod, mT.P, h0, u1]
  · have mT : mA D E a.2.2 := m.mm hD (hI.2.2.2.le (fun _ _ => k169_M))
    rw [fX12_attempt_66]
    simp (disch := omega) only [lit, lm1, nI_add, pk_mul, nm_eq, nm_eq', nm_lt, nm_lt', nm_le, nm_le', x_lt, x_le, x_eq, x_in, x_cl, x_div, x_sub, x_rem, x_min, x_max, x_and, x_or, x_xor, x_df, x_shl, bI_0, bI_1, bI_bo, lg_eq, toL_inj, ls_nI, decide_eq_false_iff_not, decide_eq_true_eq, Bool.true_eq_false, Bool.false_eq_true, bq, if_pos, if_neg, if_true, if_false, lq, Nat.reduceAdd, Nat.reduceMul, Nat.reduceSub, Nat.reduceDiv, Nat.reduceMod, mT.P]
end AT
theorem q_attempt : cpQ_attempt cpRl := by
  intro x1 x2 x3 S hR
  have w1 := m_win 4 3 (by decide)
  rcases in_or x1 4 with ⟨t, ht, rfl⟩ | h1
  · refine qY hR ht (fun D E o hD hE hO => ?_)
    have hc : ∀ S, fX11_hasTray (nI t) S = some (nI 1, S) := fun S => by rw [e_hasTray, if_pos (cpLs_of ht (by decide))]; rfl
    rcases arg2 D x2 x3 with ⟨k, d, hk, hd, rfl, rfl⟩ | h2
    · by_cases e : tc o (nI 0) (nI 99999) = nI 0
      · obtain ⟨n, v, rfl, n1, n8, hv⟩ := tc_0 e
        obtain ⟨u, hu⟩ := u_of hv
        have hl := hsO_lt D E u n
        refine ⟨if hsO D E u n = 0 then nM else tpB (tp D E (hsO D E u n) k d), fun S c y => ?_, fun S m y => ?_⟩
        · obtain ⟨A, a1, a2⟩ := c_hoursOf hD hE c ht (by omega) y hu
          by_cases h0 : hsO D E u n = 0
          · refine ⟨A, ?_, a2.le (fun _ _ => kF_C)⟩
            rw [if_pos h0]
            rw [h0] at a1
            unfold fX11_attempt
            simp (disch := omega) only [lit, lm1, nI_add, pk_mul, nm_eq, nm_eq', nm_lt, nm_lt', nm_le, nm_le', x_lt, x_le, x_eq, x_in, x_cl, x_div, x_sub, x_rem, x_min, x_max, x_and, x_or, x_xor, x_df, x_shl, bI_0, bI_1, bI_bo, lg_eq, toL_inj, ls_nI, decide_eq_false_iff_not, decide_eq_true_eq, Bool.true_eq_false, Bool.false_eq_true, bq, if_pos, if_neg, if_true, if_false, lq, Nat.reduceAdd, Nat.reduceMul, Nat.reduceSub, Nat.reduceDiv, Nat.reduceMod, hc, c_cap1 hD c hk hd, c_toldCode y hO, e, a1]
          · obtain ⟨T, t1, t2⟩ := c_tellingPair hD hE (c.F a2) hl hk hd
            refine ⟨T, ?_, (a2.le (fun _ _ => kF_C)).tr (t2.le (fun _ _ => k132_C))⟩
            rw [if_neg h0]
            unfold fX11_attempt
            simp (disch := omega) only [lit, lm1, nI_add, pk_mul, nm_eq, nm_eq', nm_lt, nm_lt', nm_le, nm_le', x_lt, x_le, x_eq, x_in, x_cl, x_div, x_sub, x_rem, x_min, x_max, x_and, x_or, x_xor, x_df, x_shl, bI_0, bI_1, bI_bo, lg_eq, toL_inj, ls_nI, decide_eq_false_iff_not, decide_eq_true_eq, Bool.true_eq_false, Bool.false_eq_true, bq, if_pos, if_neg, if_true, if_false, lq, Nat.reduceAdd, Nat.reduceMul, Nat.reduceSub, Nat.reduceDiv, Nat.reduceMod, hc, c_cap1 hD c hk hd, c_toldCode y hO, e, a1, h0, t1]
        · have m0 := m.thr hD (nI 0)
          obtain ⟨A, a1, a2⟩ := m_hoursOf hD hE m0 ht (by omega) (y.thr (nI 0)) hu
          have mA' := m0.kp hD a2 (fun _ _ => kG_ne)
          by_cases h0 : hsO D E u n = 0
          · refine ⟨A, ?_, (kM_thr S (nI 0)).tr (a2.le (fun _ _ => kG_M))⟩
            rw [if_pos h0]
            rw [h0] at a1
            unfold fX12_attempt
            simp (disch := omega) only [lit, lm1, nI_add, pk_mul, nm_eq, nm_eq', nm_lt, nm_lt', nm_le, nm_le', x_lt, x_le, x_eq, x_in, x_cl, x_div, x_sub, x_rem, x_min, x_max, x_and, x_or, x_xor, x_df, x_shl, bI_0, bI_1, bI_bo, lg_eq, toL_inj, ls_nI, decide_eq_false_iff_not, decide_eq_true_eq, Bool.true_eq_false, Bool.false_eq_true, bq, if_pos, if_neg, if_true, if_false, lq, Nat.reduceAdd, Nat.reduceMul, Nat.reduceSub, Nat.reduceDiv, Nat.reduceMod, w1, m_noCoin1 hD m0 hk hd, m_noTold ht (y.thr (nI 0)) hO, e, a1]
            show fX12_attempt_66 (nI k) (nI d) (nI 0) (4999 + 1) nM (nI 268435456) (nI 0) A = _
            rw [fX12_attempt_66]
            have p8 := hD.p8
            by_cases hP : D.P ≤ 0
            · simp (disch := omega) only [lit, lm1, nI_add, pk_mul, nm_eq, nm_eq', nm_lt, nm_lt', nm_le, nm_le', x_lt, x_le, x_eq, x_in, x_cl, x_div, x_sub, x_rem, x_min, x_max, x_and, x_or, x_xor, x_df, x_shl, bI_0, bI_1, bI_bo, lg_eq, toL_inj, ls_nI, decide_eq_false_iff_not, decide_eq_true_eq, Bool.true_eq_false, Bool.false_eq_true, bq, if_pos, if_neg, if_true, if_false, lq, Nat.reduceAdd, Nat.reduceMul, Nat.reduceSub, Nat.reduceDiv, Nat.reduceMod, mA'.P, hP]
            · simp (disch := omega) only [lit, lm1, nI_add, pk_mul, nm_eq, nm_eq', nm_lt, nm_lt', nm_le, nm_le', x_lt, x_le, x_eq, x_in, x_cl, x_div, x_sub, x_rem, x_min, x_max, x_and, x_or, x_xor, x_df, x_shl, bI_0, bI_1, bI_bo, lg_eq, toL_inj, ls_nI, decide_eq_false_iff_not, decide_eq_true_eq, Bool.true_eq_false, Bool.false_eq_true, bq, if_pos, if_neg, if_true, if_false, lq, Nat.reduceAdd, Nat.reduceMul, Nat.reduceSub, Nat.reduceDiv, Nat.reduceMod, mA'.P, hP]
          · obtain ⟨T, t1, t2⟩ := m_att66 hD hE mA' hl h0 hk hd
            refine ⟨T, ?_, ((kM_thr S (nI 0)).tr (a2.le (fun _ _ => kG_M))).tr (t2.le (fun _ _ => k169_M))⟩
            rw [if_neg h0]
            unfold fX12_attempt
            simp (disch := omega) only [lit, lm1, nI_add, pk_mul, nm_eq, nm_eq', nm_lt, nm_lt', nm_le, nm_le', x_lt, x_le, x_eq, x_in, x_cl, x_div, x_sub, x_rem, x_min, x_max, x_and, x_or, x_xor, x_df, x_shl, bI_0, bI_1, bI_bo, lg_eq, toL_inj, ls_nI, decide_eq_false_iff_not, decide_eq_true_eq, Bool.true_eq_false, Bool.false_eq_true, bq, if_pos, if_neg, if_true, if_false, lq, Nat.reduceAdd, Nat.reduceMul, Nat.reduceSub, Nat.reduceDiv, Nat.reduceMod, w1, m_noCoin1 hD m0 hk hd, m_noTold ht (y.thr (nI 0)) hO, e, a1]
            exact t1
      · refine ⟨tc o (nI 0) (nI 99999), fun S c y => ⟨S, ?_, Kp.rf⟩, fun S m y => ⟨_, ?_, kM_thr S (nI 0)⟩⟩
        · unfold fX11_attempt
          simp (disch := omega) only [lit, lm1, nI_add, pk_mul, nm_eq, nm_eq', nm_lt, nm_lt', nm_le, nm_le', x_lt, x_le, x_eq, x_in, x_cl, x_div, x_sub, x_rem, x_min, x_max, x_and, x_or, x_xor, x_df, x_shl, bI_0, bI_1, bI_bo, lg_eq, toL_inj, ls_nI, decide_eq_false_iff_not, decide_eq_true_eq, Bool.true_eq_false, Bool.false_eq_true, bq, if_pos, if_neg, if_true, if_false, lq, Nat.reduceAdd, Nat.reduceMul, Nat.reduceSub, Nat.reduceDiv, Nat.reduceMod, hc, c_cap1 hD c hk hd, c_toldCode y hO, tc_ne e]
        · unfold fX12_attempt
          simp (disch := omega) only [lit, lm1, nI_add, pk_mul, nm_eq, nm_eq', nm_lt, nm_lt', nm_le, nm_le', x_lt, x_le, x_eq, x_in, x_cl, x_div, x_sub, x_rem, x_min, x_max, x_and, x_or, x_xor, x_df, x_shl, bI_0, bI_1, bI_bo, lg_eq, toL_inj, ls_nI, decide_eq_false_iff_not, decide_eq_true_eq, Bool.true_eq_false, Bool.false_eq_true, bq, if_pos, if_neg, if_true, if_false, lq, Nat.reduceAdd, Nat.reduceMul, Nat.reduceSub, Nat.reduceDiv, Nat.reduceMod, w1, m_noCoin1 hD (m.thr hD (nI 0)) hk hd, m_noTold ht (y.thr (nI 0)) hO, tc_ne e]
    · refine ⟨-2, fun S c y => ⟨S, ?_, Kp.rf⟩, fun S m y => ⟨_, ?_, kM_thr S (nI 0)⟩⟩
      · unfold fX11_attempt
        simp (disch := omega) only [lit, lm1, nI_add, pk_mul, nm_eq, nm_eq', nm_lt, nm_lt', nm_le, nm_le', x_lt, x_le, x_eq, x_in, x_cl, x_div, x_sub, x_rem, x_min, x_max, x_and, x_or, x_xor, x_df, x_shl, bI_0, bI_1, bI_bo, lg_eq, toL_inj, ls_nI, decide_eq_false_iff_not, decide_eq_true_eq, Bool.true_eq_false, Bool.false_eq_true, bq, if_pos, if_neg, if_true, if_false, lq, Nat.reduceAdd, Nat.reduceMul, Nat.reduceSub, Nat.reduceDiv, Nat.reduceMod, hc, c_coinAndPlace hD c, h2]
      · have hno : fX12_noCoin x2 x3 (cpI S 150 0 (nI 0)) = some (-2, cpI S 150 0 (nI 0)) := by rw [m_noCoin hD (m.thr hD (nI 0)), h2]; rfl
        unfold fX12_attempt
        simp (disch := omega) only [lit, lm1, nI_add, pk_mul, nm_eq, nm_eq', nm_lt, nm_lt', nm_le, nm_le', x_lt, x_le, x_eq, x_in, x_cl, x_div, x_sub, x_rem, x_min, x_max, x_and, x_or, x_xor, x_df, x_shl, bI_0, bI_1, bI_bo, lg_eq, toL_inj, ls_nI, decide_eq_false_iff_not, decide_eq_true_eq, Bool.true_eq_false, Bool.false_eq_true, bq, if_pos, if_neg, if_true, if_false, lq, Nat.reduceAdd, Nat.reduceMul, Nat.reduceSub, Nat.reduceDiv, Nat.reduceMod, w1, hno]
        rfl
  · refine q1 hR (fun D E hD hE => ⟨-2, fun S c => ⟨S, ?_, Kp.rf⟩, fun S m => ⟨_, ?_, kM_thr S (nI 0)⟩⟩)
    · have hc : fX11_hasTray x1 S = some (nI 0, S) := by rw [e_hasTray, h1]; rfl
      unfold fX11_attempt
      simp (disch := omega) only [lit, lm1, nI_add, pk_mul, nm_eq, nm_eq', nm_lt, nm_lt', nm_le, nm_le', x_lt, x_le, x_eq, x_in, x_cl, x_div, x_sub, x_rem, x_min, x_max, x_and, x_or, x_xor, x_df, x_shl, bI_0, bI_1, bI_bo, lg_eq, toL_inj, ls_nI, decide_eq_false_iff_not, decide_eq_true_eq, Bool.true_eq_false, Bool.false_eq_true, bq, if_pos, if_neg, if_true, if_false, lq, Nat.reduceAdd, Nat.reduceMul, Nat.reduceSub, Nat.reduceDiv, Nat.reduceMod, hc]
    · unfold fX12_attempt
      simp (disch := omega) only [lit, lm1, nI_add, pk_mul, nm_eq, nm_eq', nm_lt, nm_lt', nm_le, nm_le', x_lt, x_le, x_eq, x_in, x_cl, x_div, x_sub, x_rem, x_min, x_max, x_and, x_or, x_xor, x_df, x_shl, bI_0, bI_1, bI_bo, lg_eq, toL_inj, ls_nI, decide_eq_false_iff_not, decide_eq_true_eq, Bool.true_eq_false, Bool.false_eq_true, bq, if_pos, if_neg, if_true, if_false, lq, Nat.reduceAdd, Nat.reduceMul, Nat.reduceSub, Nat.reduceDiv, Nat.reduceMod, w1, h1]
