/-! years -/
def lcg (x : Int32) : Int32 := (1103515245 : Int32) * x + (12345 : Int32)
def hi16 (x : Int32) : Nat := x.toBitVec.toNat / 2 ^ 16
theorem hi16_lt (x : Int32) : hi16 x < 65536 := by
  have : x.toBitVec.toNat < 2 ^ 32 := x.toBitVec.isLt
  unfold hi16
  omega
theorem i_nat (x : Int32) : x = nI x.toBitVec.toNat := by
  apply Int32.toBitVec_inj.mp
  show x.toBitVec = BitVec.ofNat 32 x.toBitVec.toNat
  rw [BitVec.ofNat_toNat, BitVec.setWidth_eq]
theorem ush16 (x : Int32) : cpUsh x (nI 16) = nI (hi16 x) := by
  have h := pk_ushrN (n := x.toBitVec.toNat) x.toBitVec.isLt (nI 16) 16 (by decide)
  rw [← i_nat x] at h
  exact h
/-- a drawn deed, and how the seed goes on -/
def yd (x : Int32) : Nat × Int32 :=
  if hi16 (lcg x) % 6 = 0 then (10 + hi16 (lcg (lcg x)) % 10, lcg (lcg x))
  else if hi16 (lcg x) % 6 = 1 then (100 + 10 * (hi16 (lcg (lcg x)) % 8) + hi16 (lcg (lcg (lcg x))) % 8, lcg (lcg (lcg x)))
  else (10000 + 1000 * (hi16 (lcg (lcg x)) % 8) + 100 * (hi16 (lcg (lcg (lcg x))) % 8) + 10 * (hi16 (lcg (lcg (lcg (lcg x)))) % 4) + hi16 (lcg (lcg (lcg (lcg (lcg x))))) % 6, lcg (lcg (lcg (lcg (lcg x)))))
theorem yd_lt (x : Int32) : (yd x).1 < 20000 := by
  unfold yd
  split
  · dsimp only; omega
  · split
    · dsimp only; omega
    · dsimp only; omega
theorem c_draw {S : cpS} {x : Int32} (h : S.1 0 14 = x) : fX11_draw S = some (nI (hi16 (lcg x)), cpI S 0 14 (lcg x)) := by
  unfold fX11_draw
  rw [h]
  show some (cpUsh ((cpI S 0 14 (lcg x)).1 0 14) (nI 16), cpI S 0 14 (lcg x)) = _
  rw [sI1, ush16]
theorem m_draw {S : cpS} {x : Int32} (h : S.1 150 22 = x) {b : Nat} (h0 : 0 < b) (hb : b < 100) : fX12_draw (nI b) S = some (nI (hi16 (lcg x) % b), cpI S 150 22 (lcg x)) := by
  have := hi16_lt (lcg x)
  have hb0 : ¬ nI b = 0 := nI_ne0 h0 (by omega)
  unfold fX12_draw
  rw [h]
  show (if nI b = 0 then none else some (cpRem (cpUsh ((cpI S 150 22 (lcg x)).1 150 22) (nI 16)) (nI b), cpI S 150 22 (lcg x))) = _
  rw [if_neg hb0, sI1, ush16, x_rem (by omega) h0 (by omega)]
def k014 (k j : Nat) : Prop := k = 0 ∧ j = 14
def k22 (k j : Nat) : Prop := k = 150 ∧ j = 22
theorem c_drawDeed {S : cpS} {x : Int32} (h : S.1 0 14 = x) : ∃ T, fX11_drawDeed S = some (nI (yd x).1, T) ∧ T.1 0 14 = (yd x).2 ∧ Kp k014 S T := by
  have b := hi16_lt
  have d1 := c_draw h
  have d2 : ∀ (S : cpS) (x : Int32), fX11_draw (cpI S 0 14 x) = some (nI (hi16 (lcg x)), cpI (cpI S 0 14 x) 0 14 (lcg x)) := fun S x => c_draw sI1
  have b1 := b (lcg x)
  have b2 := b (lcg (lcg x))
  have b3 := b (lcg (lcg (lcg x)))
  have b4 := b (lcg (lcg (lcg (lcg x))))
  have b5 := b (lcg (lcg (lcg (lcg (lcg x)))))
  unfold fX11_drawDeed fX11_deedOf yd
  by_cases e0 : hi16 (lcg x) % 6 = 0
  · refine ⟨cpI (cpI S 0 14 (lcg x)) 0 14 (lcg (lcg x)), ?_, ?_, (Kp.rf.I (by exact ⟨rfl, rfl⟩)).I (by exact ⟨rfl, rfl⟩)⟩
    · simp (disch := omega) only [lit, lm1, nI_add, pk_mul, nm_eq, nm_eq', nm_lt, nm_lt', nm_le, nm_le', x_lt, x_le, x_eq, x_in, x_cl, x_div, x_sub, x_rem, x_min, x_max, x_and, x_or, x_xor, x_df, x_shl, bI_0, bI_1, bI_bo, lg_eq, toL_inj, ls_nI, decide_eq_false_iff_not, decide_eq_true_eq, Bool.true_eq_false, Bool.false_eq_true, bq, if_pos, if_neg, if_true, if_false, lq, Nat.reduceAdd, Nat.reduceMul, Nat.reduceSub, Nat.reduceDiv, Nat.reduceMod, d1, d2, e0]
    · rw [if_pos e0, sI1]
  · by_cases e1 : hi16 (lcg x) % 6 = 1
    · refine ⟨cpI (cpI (cpI S 0 14 (lcg x)) 0 14 (lcg (lcg x))) 0 14 (lcg (lcg (lcg x))), ?_, ?_, ((Kp.rf.I (by exact ⟨rfl, rfl⟩)).I (by exact ⟨rfl, rfl⟩)).I (by exact ⟨rfl, rfl⟩)⟩
      · simp (disch := omega) only [lit, lm1, nI_add, pk_mul, nm_eq, nm_eq', nm_lt, nm_lt', nm_le, nm_le', x_lt, x_le, x_eq, x_in, x_cl, x_div, x_sub, x_rem, x_min, x_max, x_and, x_or, x_xor, x_df, x_shl, bI_0, bI_1, bI_bo, lg_eq, toL_inj, ls_nI, decide_eq_false_iff_not, decide_eq_true_eq, Bool.true_eq_false, Bool.false_eq_true, bq, if_pos, if_neg, if_true, if_false, lq, Nat.reduceAdd, Nat.reduceMul, Nat.reduceSub, Nat.reduceDiv, Nat.reduceMod, d1, d2, e0, e1]
      · rw [if_neg e0, if_pos e1, sI1]
    · refine ⟨cpI (cpI (cpI (cpI (cpI S 0 14 (lcg x)) 0 14 (lcg (lcg x))) 0 14 (lcg (lcg (lcg x)))) 0 14 (lcg (lcg (lcg (lcg x))))) 0 14 (lcg (lcg (lcg (lcg (lcg x))))), ?_, ?_, ((((Kp.rf.I (by exact ⟨rfl, rfl⟩)).I (by exact ⟨rfl, rfl⟩)).I (by exact ⟨rfl, rfl⟩)).I (by exact ⟨rfl, rfl⟩)).I (by exact ⟨rfl, rfl⟩)⟩
      · simp (disch := omega) only [lit, lm1, nI_add, pk_mul, nm_eq, nm_eq', nm_lt, nm_lt', nm_le, nm_le', x_lt, x_le, x_eq, x_in, x_cl, x_div, x_sub, x_rem, x_min, x_max, x_and, x_or, x_xor, x_df, x_shl, bI_0, bI_1, bI_bo, lg_eq, toL_inj, ls_nI, decide_eq_false_iff_not, decide_eq_true_eq, Bool.true_eq_false, Bool.false_eq_true, bq, if_pos, if_neg, if_true, if_false, lq, Nat.reduceAdd, Nat.reduceMul, Nat.reduceSub, Nat.reduceDiv, Nat.reduceMod, d1, d2, e0, e1]
      · rw [if_neg e0, if_neg e1, sI1]
theorem m_drawn {S : cpS} {x : Int32} (h : S.1 150 22 = x) : ∃ T, fX12_drawn S = some (nI (yd x).1, T) ∧ T.1 150 22 = (yd x).2 ∧ Kp k22 S T := by
  have d1 : ∀ b, 0 < b → b < 100 → fX12_draw (nI b) S = some (nI (hi16 (lcg x) % b), cpI S 150 22 (lcg x)) := fun b h0 hb => m_draw h h0 hb
  have d2 : ∀ (S : cpS) (x : Int32) (b : Nat), 0 < b → b < 100 → fX12_draw (nI b) (cpI S 150 22 x) = some (nI (hi16 (lcg x) % b), cpI (cpI S 150 22 x) 150 22 (lcg x)) := fun S x b h0 hb => m_draw sI1 h0 hb
  unfold fX12_drawn yd
  by_cases e0 : hi16 (lcg x) % 6 = 0
  · refine ⟨cpI (cpI S 150 22 (lcg x)) 150 22 (lcg (lcg x)), ?_, ?_, (Kp.rf.I (by exact ⟨rfl, rfl⟩)).I (by exact ⟨rfl, rfl⟩)⟩
    · simp (disch := omega) only [lit, lm1, nI_add, pk_mul, nm_eq, nm_eq', nm_lt, nm_lt', nm_le, nm_le', x_lt, x_le, x_eq, x_in, x_cl, x_div, x_sub, x_rem, x_min, x_max, x_and, x_or, x_xor, x_df, x_shl, bI_0, bI_1, bI_bo, lg_eq, toL_inj, ls_nI, decide_eq_false_iff_not, decide_eq_true_eq, Bool.true_eq_false, Bool.false_eq_true, bq, if_pos, if_neg, if_true, if_false, lq, Nat.reduceAdd, Nat.reduceMul, Nat.reduceSub, Nat.reduceDiv, Nat.reduceMod, d1, d2, e0]
    · rw [if_pos e0, sI1]
  · by_cases e1 : hi16 (lcg x) % 6 = 1
    · refine ⟨cpI (cpI (cpI S 150 22 (lcg x)) 150 22 (lcg (lcg x))) 150 22 (lcg (lcg (lcg x))), ?_, ?_, ((Kp.rf.I (by exact ⟨rfl, rfl⟩)).I (by exact ⟨rfl, rfl⟩)).I (by exact ⟨rfl, rfl⟩)⟩
      · simp (disch := omega) only [lit, lm1, nI_add, pk_mul, nm_eq, nm_eq', nm_lt, nm_lt', nm_le, nm_le', x_lt, x_le, x_eq, x_in, x_cl, x_div, x_sub, x_rem, x_min, x_max, x_and, x_or, x_xor, x_df, x_shl, bI_0, bI_1, bI_bo, lg_eq, toL_inj, ls_nI, decide_eq_false_iff_not, decide_eq_true_eq, Bool.true_eq_false, Bool.false_eq_true, bq, if_pos, if_neg, if_true, if_false, lq, Nat.reduceAdd, Nat.reduceMul, Nat.reduceSub, Nat.reduceDiv, Nat.reduceMod, d1, d2, e0, e1]
      · rw [if_neg e0, if_pos e1, sI1]
    · refine ⟨cpI (cpI (cpI (cpI (cpI S 150 22 (lcg x)) 150 22 (lcg (lcg x))) 150 22 (lcg (lcg (lcg x)))) 150 22 (lcg (lcg (lcg (lcg x))))) 150 22 (lcg (lcg (lcg (lcg (lcg x))))), ?_, ?_, ((((Kp.rf.I (by exact ⟨rfl, rfl⟩)).I (by exact ⟨rfl, rfl⟩)).I (by exact ⟨rfl, rfl⟩)).I (by exact ⟨rfl, rfl⟩)).I (by exact ⟨rfl, rfl⟩)⟩
      · simp (disch := omega) only [lit, lm1, nI_add, pk_mul, nm_eq, nm_eq', nm_lt, nm_lt', nm_le, nm_le', x_lt, x_le, x_eq, x_in, x_cl, x_div, x_sub, x_rem, x_min, x_max, x_and, x_or, x_xor, x_df, x_shl, bI_0, bI_1, bI_bo, lg_eq, toL_inj, ls_nI, decide_eq_false_iff_not, decide_eq_true_eq, Bool.true_eq_false, Bool.false_eq_true, bq, if_pos, if_neg, if_true, if_false, lq, Nat.reduceAdd, Nat.reduceMul, Nat.reduceSub, Nat.reduceDiv, Nat.reduceMod, d1, d2, e0, e1]
      · rw [if_neg e0, if_neg e1, sI1]
/-- a time of a year -/
def yrS (D : cpD) (_ : Nat) (a : Nat × Int32 × cpE) : Nat × Int32 × cpE := if (dd D a.2.2 (lN (yd a.2.1).1)).1 = 0 then (a.1 + 1, (yd a.2.1).2, (dd D a.2.2 (lN (yd a.2.1).1)).2) else (a.1, (yd a.2.1).2, a.2.2)
def kYc (q j : Nat) : Prop := kDc q j ∨ k014 q j
def kYm (q j : Nat) : Prop := kDm q j ∨ k22 q j
theorem yr_sp {D : cpD} (hD : D.WF) {E : cpE} (hE : E.WF D) (x : Int32) : ∀ n, (up (yrS D) n 0 (0, x, E)).2.2.WF D ∧ (up (yrS D) n 0 (0, x, E)).1 ≤ n ∧ ((up (yrS D) n 0 (0, x, E)).1 = 0 → (up (yrS D) n 0 (0, x, E)).2.2 = E) := by
  intro n
  have := up_inv (yrS D) n (fun i a => a.2.2.WF D ∧ a.1 ≤ i ∧ (a.1 = 0 → a.2.2 = E)) (fun i a hi h => by
    obtain ⟨h1, h2, h3⟩ := h
    unfold yrS
    split
    · exact ⟨dd_WF hD h1 _, by dsimp only; omega, fun e => absurd e (by dsimp only; omega)⟩
    · exact ⟨h1, by dsimp only; omega, h3⟩) n 0 (0, x, E) (by omega) ⟨hE, Nat.le_refl _, fun _ => rfl⟩
  exact this
section YE
variable {D : cpD} {E : cpE}
theorem c_year35 (hD : D.WF) {S : cpS} (hE : E.WF D) (c : cA D E S) {x : Int32} (hx : S.1 0 14 = x) {N : Nat} (hN : N ≤ 40) : ∃ T, fX11_year_35 (nI N) cpFu (nI 0) (nI 0) S = (if (up (yrS D) N 0 (0, x, E)).1 = 0 then some (nI 0, T) else cpB (fX6_keep 61 T) fun _ S2 => some (nI (up (yrS D) N 0 (0, x, E)).1, S2)) ∧ Kp kYc S T ∧ cN (up (yrS D) N 0 (0, x, E)).2.2 T 57 := by
  have := up_lpR (F := fun n i (a : Int32 × cpS) => fX11_year_35 (nI N) n a.1 i a.2) (K := fun a => if a.1 ≤ nI 0 then some (a.1, a.2) else cpB (fX6_keep 61 a.2) fun _ S2 => some (a.1, S2)) N (yrS D) (fun i s a => a.1 = nI s.1 ∧ a.2.1 0 14 = s.2.1 ∧ s.2.2.WF D ∧ s.1 ≤ i ∧ cA D s.2.2 a.2 ∧ Kp kYc S a.2) (by omega) (fun n i s a hi hI => ?_) (fun n s a hI => ?_) (i0 := 0) (s := (0, x, E)) (a := (nI 0, S)) (Nat.zero_le _) ⟨rfl, hx, hE, Nat.le_refl _, c, Kp.rf⟩
  · obtain ⟨⟨y, T⟩, t1, t2, t3, t4, t5, t6, t7⟩ := this
    have t2 : y = nI (up (yrS D) N 0 (0, x, E)).1 := t2
    have t5 : (up (yrS D) N 0 (0, x, E)).1 ≤ N := t5
    refine ⟨T, ?_, t7, t6.2⟩
    rw [t2] at t1
    refine t1.trans ?_
    by_cases e : (up (yrS D) N 0 (0, x, E)).1 = 0
    · rw [if_pos e, e]; rfl
    · rw [if_neg e, if_neg]
      rw [x_le (by omega) (by decide)]; omega
  · obtain ⟨y, T⟩ := a
    obtain ⟨i1, i2, i3, i4, i5, i6⟩ := hI
    have j1 : y = nI s.1 := i1
    have j2 : T.1 0 14 = s.2.1 := i2
    have j5 : cA D s.2.2 T := i5
    have j6 : Kp kYc S T := i6
    clear i1 i2 i5 i6
    subst j1
    obtain ⟨A, a1, a2, a3⟩ := c_drawDeed j2
    have cA' : cA D s.2.2 A := j5.kp a3 (fun k j h => Or.inl (by rw [h.1]; decide))
    obtain ⟨B, b1, b2, b3⟩ := c_tryDeed hD i3 cA' (lN (yd s.2.1).1)
    have yl := yd_lt s.2.1
    have el : Int32.toInt64 (nI (yd s.2.1).1) = lN (yd s.2.1).1 := nI_l (by omega)
    have cB : cA D (dd D s.2.2 (lN (yd s.2.1).1)).2 B := ⟨cA'.1.kp b2 (fun k j p1 p2 q => by unfold kDc kF at q; omega), b3⟩
    have e14 : B.1 0 14 = (yd s.2.1).2 := by rw [b2.i (by unfold kDc kF; omega)]; exact a2
    have kB : Kp kYc S B := (j6.tr (a3.le (fun _ _ h => Or.inr h))).tr (b2.le (fun _ _ h => Or.inl h))
    have wf := dd_WF hD i3 (lN (yd s.2.1).1)
    unfold yrS
    by_cases e : (dd D s.2.2 (lN (yd s.2.1).1)).1 = 0
    · rw [if_pos e]
      rw [e] at b1
      refine ⟨(nI (s.1 + 1), B), ?_, rfl, e14, wf, by show s.1 + 1 ≤ i + 1; omega, cB, kB⟩
      rw [fX11_year_35]
      simp (disch := omega) only [lit, lm1, nI_add, pk_mul, nm_eq, nm_eq', nm_lt, nm_lt', nm_le, nm_le', x_lt, x_le, x_eq, x_in, x_cl, x_div, x_sub, x_rem, x_min, x_max, x_and, x_or, x_xor, x_df, x_shl, bI_0, bI_1, bI_bo, lg_eq, toL_inj, ls_nI, decide_eq_false_iff_not, decide_eq_true_eq, Bool.true_eq_false, Bool.false_eq_true, bq, if_pos, if_neg, if_true, if_false, lq, Nat.reduceAdd, Nat.reduceMul, Nat.reduceSub, Nat.reduceDiv, Nat.reduceMod, a1, el, b1]
    · rw [if_neg e]
      have hlt : (dd D s.2.2 (lN (yd s.2.1).1)).1 < 5 := by
        have := (rn_sp (v := fun _ => lN (yd s.2.1).1) hD 1 0 s.2.2 i3).2.2.2.2.2.2
        rw [rn, if_neg e] at this; exact this
      rw [dd_ne e] at cB
      refine ⟨(nI s.1, B), ?_, rfl, e14, i3, by show s.1 ≤ i + 1; omega, cB, kB⟩
      rw [fX11_year_35]
      simp (disch := omega) only [lit, lm1, nI_add, pk_mul, nm_eq, nm_eq', nm_lt, nm_lt', nm_le, nm_le', x_lt, x_le, x_eq, x_in, x_cl, x_div, x_sub, x_rem, x_min, x_max, x_and, x_or, x_xor, x_df, x_shl, bI_0, bI_1, bI_bo, lg_eq, toL_inj, ls_nI, decide_eq_false_iff_not, decide_eq_true_eq, Bool.true_eq_false, Bool.false_eq_true, bq, if_pos, if_neg, if_true, if_false, lq, Nat.reduceAdd, Nat.reduceMul, Nat.reduceSub, Nat.reduceDiv, Nat.reduceMod, a1, el, b1, e]
  · rw [fX11_year_35]
    simp (disch := omega) only [lit, lm1, nI_add, pk_mul, nm_eq, nm_eq', nm_lt, nm_lt', nm_le, nm_le', x_lt, x_le, x_eq, x_in, x_cl, x_div, x_sub, x_rem, x_min, x_max, x_and, x_or, x_xor, x_df, x_shl, bI_0, bI_1, bI_bo, lg_eq, toL_inj, ls_nI, decide_eq_false_iff_not, decide_eq_true_eq, Bool.true_eq_false, Bool.false_eq_true, bq, if_pos, if_neg, if_true, if_false, lq, Nat.reduceAdd, Nat.reduceMul, Nat.reduceSub, Nat.reduceDiv, Nat.reduceMod]
theorem m_year34 (hD : D.WF) {S : cpS} (hE : E.WF D) (m : mA D E S) {x : Int32} (hx : S.1 150 22 = x) {N : Nat} (hN : N ≤ 40) : ∃ T, fX12_year_34 (nI N) cpFu (nI 0) (nI 0) S = (if (up (yrS D) N 0 (0, x, E)).1 = 0 then some (nI 0, T) else cpB (fX12_notes T) fun _ S2 => some (nI (up (yrS D) N 0 (0, x, E)).1, S2)) ∧ Kp kYm S T ∧ mN (up (yrS D) N 0 (0, x, E)).2.2 T 62 := by
  have := up_lpR (F := fun n i (a : Int32 × cpS) => fX12_year_34 (nI N) n a.1 i a.2) (K := fun a => if a.1 ≤ nI 0 then some (a.1, a.2) else cpB (fX12_notes a.2) fun _ S2 => some (a.1, S2)) N (yrS D) (fun i s a => a.1 = nI s.1 ∧ a.2.1 150 22 = s.2.1 ∧ s.2.2.WF D ∧ s.1 ≤ i ∧ mA D s.2.2 a.2 ∧ Kp kYm S a.2) (by omega) (fun n i s a hi hI => ?_) (fun n s a hI => ?_) (i0 := 0) (s := (0, x, E)) (a := (nI 0, S)) (Nat.zero_le _) ⟨rfl, hx, hE, Nat.le_refl _, m, Kp.rf⟩
  · obtain ⟨⟨y, T⟩, t1, t2, t3, t4, t5, t6, t7⟩ := this
    have t2 : y = nI (up (yrS D) N 0 (0, x, E)).1 := t2
    have t5 : (up (yrS D) N 0 (0, x, E)).1 ≤ N := t5
    refine ⟨T, ?_, t7, t6.2⟩
    rw [t2] at t1
    refine t1.trans ?_
    by_cases e : (up (yrS D) N 0 (0, x, E)).1 = 0
    · rw [if_pos e, e]; rfl
    · rw [if_neg e, if_neg]
      rw [x_le (by omega) (by decide)]; omega
  · obtain ⟨y, T⟩ := a
    obtain ⟨i1, i2, i3, i4, i5, i6⟩ := hI
    have j1 : y = nI s.1 := i1
    have j2 : T.1 150 22 = s.2.1 := i2
    have j5 : mA D s.2.2 T := i5
    have j6 : Kp kYm S T := i6
    clear i1 i2 i5 i6
    subst j1
    obtain ⟨A, a1, a2, a3⟩ := m_drawn j2
    have mA' : mA D s.2.2 A := j5.kp hD a3 (fun k j h => by rw [h.1]; decide)
    obtain ⟨B, b1, b2⟩ := m_whyNot hD i3 mA' (lN (yd s.2.1).1)
    have mB : mA D s.2.2 B := mA'.kp hD b2 (fun _ _ => kG_ne)
    have yl := yd_lt s.2.1
    have el : Int32.toInt64 (nI (yd s.2.1).1) = lN (yd s.2.1).1 := nI_l (by omega)
    have eB : B.1 150 22 = (yd s.2.1).2 := by rw [b2.i (by unfold kG; omega)]; exact a2
    have kB : Kp kYm S B := (j6.tr (a3.le (fun _ _ h => Or.inr h))).tr (b2.le (fun _ _ h => Or.inl (Or.inr h)))
    have wf := dd_WF hD i3 (lN (yd s.2.1).1)
    unfold yrS
    by_cases e : (dd D s.2.2 (lN (yd s.2.1).1)).1 = 0
    · rw [if_pos e]
      rw [e] at b1
      obtain ⟨C, c1, c2, c3⟩ := m_does hD i3 mB (lN (yd s.2.1).1) e
      rw [lN_i] at c1
      have mC : mA D (dd D s.2.2 (lN (yd s.2.1).1)).2 C := ⟨mB.1.kp hD c2 (fun j p1 p2 p3 q => by unfold kDm kG at q; omega), c3⟩
      have eC : C.1 150 22 = (yd s.2.1).2 := by rw [c2.i (by unfold kDm kG; omega)]; exact eB
      refine ⟨(nI (s.1 + 1), C), ?_, rfl, eC, wf, by show s.1 + 1 ≤ i + 1; omega, mC, kB.tr (c2.le (fun _ _ h => Or.inl h))⟩
      rw [fX12_year_34]
      simp (disch := omega) only [lit, lm1, nI_add, pk_mul, nm_eq, nm_eq', nm_lt, nm_lt', nm_le, nm_le', x_lt, x_le, x_eq, x_in, x_cl, x_div, x_sub, x_rem, x_min, x_max, x_and, x_or, x_xor, x_df, x_shl, bI_0, bI_1, bI_bo, lg_eq, toL_inj, ls_nI, decide_eq_false_iff_not, decide_eq_true_eq, Bool.true_eq_false, Bool.false_eq_true, bq, if_pos, if_neg, if_true, if_false, lq, Nat.reduceAdd, Nat.reduceMul, Nat.reduceSub, Nat.reduceDiv, Nat.reduceMod, a1, el, b1, c1]
    · rw [if_neg e]
      have hlt : (dd D s.2.2 (lN (yd s.2.1).1)).1 < 5 := by
        have := (rn_sp (v := fun _ => lN (yd s.2.1).1) hD 1 0 s.2.2 i3).2.2.2.2.2.2
        rw [rn, if_neg e] at this; exact this
      refine ⟨(nI s.1, B), ?_, rfl, eB, i3, by show s.1 ≤ i + 1; omega, mB, kB⟩
      rw [fX12_year_34]
      simp (disch := omega) only [lit, lm1, nI_add, pk_mul, nm_eq, nm_eq', nm_lt, nm_lt', nm_le, nm_le', x_lt, x_le, x_eq, x_in, x_cl, x_div, x_sub, x_rem, x_min, x_max, x_and, x_or, x_xor, x_df, x_shl, bI_0, bI_1, bI_bo, lg_eq, toL_inj, ls_nI, decide_eq_false_iff_not, decide_eq_true_eq, Bool.true_eq_false, Bool.false_eq_true, bq, if_pos, if_neg, if_true, if_false, lq, Nat.reduceAdd, Nat.reduceMul, Nat.reduceSub, Nat.reduceDiv, Nat.reduceMod, a1, el, b1, e]
  · rw [fX12_year_34]
    simp (disch := omega) only [lit, lm1, nI_add, pk_mul, nm_eq, nm_eq', nm_lt, nm_lt', nm_le, nm_le', x_lt, x_le, x_eq, x_in, x_cl, x_div, x_sub, x_rem, x_min, x_max, x_and, x_or, x_xor, x_df, x_shl, bI_0, bI_1, bI_bo, lg_eq, toL_inj, ls_nI, decide_eq_false_iff_not, decide_eq_true_eq, Bool.true_eq_false, Bool.false_eq_true, bq, if_pos, if_neg, if_true, if_false, lq, Nat.reduceAdd, Nat.reduceMul, Nat.reduceSub, Nat.reduceDiv, Nat.reduceMod]
end YE
theorem q_year : cpQ_year cpRl := by
  intro x1 x2 S hR
  have hq := hR.kp (kM_thr S (nI 0)) (fun k j h => h.1)
  rcases in_or x2 41 with ⟨N, hN, rfl⟩ | h2
  · have ew := m_win2 1 40 1 40 (by decide) (by decide) (k := N) (by omega)
    by_cases h0 : N = 0
    · subst h0
      refine ⟨-3, S, _, ?_, ?_, hq⟩
      · unfold fX11_year
        simp (disch := omega) only [lit, lm1, nI_add, pk_mul, nm_eq, nm_eq', nm_lt, nm_lt', nm_le, nm_le', x_lt, x_le, x_eq, x_in, x_cl, x_div, x_sub, x_rem, x_min, x_max, x_and, x_or, x_xor, x_df, x_shl, bI_0, bI_1, bI_bo, lg_eq, toL_inj, ls_nI, decide_eq_false_iff_not, decide_eq_true_eq, Bool.true_eq_false, Bool.false_eq_true, bq, if_pos, if_neg, if_true, if_false, lq, Nat.reduceAdd, Nat.reduceMul, Nat.reduceSub, Nat.reduceDiv, Nat.reduceMod]
      · unfold fX12_year
        simp (disch := omega) only [lit, lm1, nI_add, pk_mul, nm_eq, nm_eq', nm_lt, nm_lt', nm_le, nm_le', x_lt, x_le, x_eq, x_in, x_cl, x_div, x_sub, x_rem, x_min, x_max, x_and, x_or, x_xor, x_df, x_shl, bI_0, bI_1, bI_bo, lg_eq, toL_inj, ls_nI, decide_eq_false_iff_not, decide_eq_true_eq, Bool.true_eq_false, Bool.false_eq_true, bq, if_pos, if_neg, if_true, if_false, lq, Nat.reduceAdd, Nat.reduceMul, Nat.reduceSub, Nat.reduceDiv, Nat.reduceMod, ew]
    · obtain ⟨D, E, z, x, hD, hE, c, m, n, w, z9, x9, hz, hz', hx, old⟩ := hR.un
      obtain ⟨r1, r2, r3⟩ := yr_sp hD hE x1 N
      obtain ⟨A, a1, a2⟩ := e_copyN 61 57 S (by omega)
      have kA : Kp (fun q _ => 61 ≤ q ∧ q ≤ 64) S A := a2.kp (fun q j a b => ⟨a, b⟩)
      have cA' : cA D E A := ⟨c.kp kA (fun k j a b => by omega), n.kp kA (fun k j a b => by omega)⟩
      have k14 : Kp k014 A (cpI A 0 14 x1) := Kp.rf.I (by exact ⟨rfl, rfl⟩)
      have cA2 : cA D E (cpI A 0 14 x1) := cA'.kp k14 (fun k j h => Or.inl (by rw [h.1]; decide))
      obtain ⟨B, b1, b2, b3⟩ := c_year35 hD hE cA2 (x := x1) sI1 (show N ≤ 40 by omega)
      have hcl0 : fX11_year x1 (nI N) S = fX11_year_35 (nI N) cpFu (nI 0) (nI 0) (cpI A 0 14 x1) := by
        unfold fX11_year
        simp (disch := omega) only [lit, lm1, nI_add, pk_mul, nm_eq, nm_eq', nm_lt, nm_lt', nm_le, nm_le', x_lt, x_le, x_eq, x_in, x_cl, x_div, x_sub, x_rem, x_min, x_max, x_and, x_or, x_xor, x_df, x_shl, bI_0, bI_1, bI_bo, lg_eq, toL_inj, ls_nI, decide_eq_false_iff_not, decide_eq_true_eq, Bool.true_eq_false, Bool.false_eq_true, bq, if_pos, if_neg, if_true, if_false, lq, Nat.reduceAdd, Nat.reduceMul, Nat.reduceSub, Nat.reduceDiv, Nat.reduceMod, a1]
      have kAB : Kp kYc A B := (k14.le (fun _ _ h => Or.inr h)).tr b2
      by_cases e : (up (yrS D) N 0 (0, x1, E)).1 = 0
      · have eE := r3 e
        rw [if_pos e] at b1
        rw [eE] at b3
        have s14 : ∀ q j, k014 q j → cpScr q j := fun q j h => by rw [h.1]; exact scr_c (by decide) (by decide) (by decide) j
        have kSB : Kp kEc S B := (kA.le (fun q j h => ⟨Or.inr (Or.inr (scr61 h.1 h.2 j)), by omega⟩)).tr (kAB.le (fun q j h => by
          rcases h with h | h
          · exact kDc_Ec h
          · exact ⟨Or.inr (Or.inr (s14 q j h)), by rw [h.1]; decide⟩))
        have k0 : Kp (fun q j => q < 150 ∨ (q = 150 ∧ j = 0)) S (cpI B 150 0 (nI 0)) := (kSB.le (fun q j h => Or.inl h.2)).I (by exact Or.inr ⟨rfl, rfl⟩)
        have m0 : mA D E (cpI B 150 0 (nI 0)) := ⟨m.kp hD k0 (fun j _ _ _ => by omega), w.kp k0 (fun j _ _ => by omega)⟩
        obtain ⟨F, f1, f2⟩ := e_stores (cpI B 150 0 (nI 0))
        have kF' : Kp (fun q _ => q = 158) (cpI B 150 0 (nI 0)) F := f2.kp (fun j _ _ => rfl)
        have m1 : mA D E F := m0.kp hD kF' (fun q j h => by omega)
        have k2 : Kp k22 F (cpI F 150 22 x1) := Kp.rf.I (by exact ⟨rfl, rfl⟩)
        obtain ⟨G, g1, g2, g3⟩ := m_year34 hD hE (m1.kp hD k2 (fun q j h => by rw [h.1]; decide)) (x := x1) sI1 (show N ≤ 40 by omega)
        rw [if_pos e] at g1
        rw [eE] at g3
        have hm : fX12_year x1 (nI N) B = some (nI 0, G) := by
          unfold fX12_year
          simp (disch := omega) only [lit, lm1, nI_add, pk_mul, nm_eq, nm_eq', nm_lt, nm_lt', nm_le, nm_le', x_lt, x_le, x_eq, x_in, x_cl, x_div, x_sub, x_rem, x_min, x_max, x_and, x_or, x_xor, x_df, x_shl, bI_0, bI_1, bI_bo, lg_eq, toL_inj, ls_nI, decide_eq_false_iff_not, decide_eq_true_eq, Bool.true_eq_false, Bool.false_eq_true, bq, if_pos, if_neg, if_true, if_false, lq, Nat.reduceAdd, Nat.reduceMul, Nat.reduceSub, Nat.reduceDiv, Nat.reduceMod, ew, f1, g1]
        have kY : ∀ q j, kYm q j → kEnd q j ∧ 150 ≤ q := fun q j h => by
          rcases h with h | ⟨rfl, rfl⟩
          · exact ⟨kDt_E (Or.inl h), by unfold kDm kG at h; omega⟩
          · exact ⟨Or.inr (Or.inr ⟨by decide, by decide, by decide⟩), by decide⟩
        have kBG : Kp (fun q j => kEnd q j ∧ 150 ≤ q) B G := (((Kp.rf.I (by exact ⟨Or.inr (Or.inr scr_thr), by decide⟩)).tr (kF'.le (fun q j h => ⟨Or.inr (Or.inr (by rw [h]; exact scr_c (by decide) (by decide) (by decide) j)), by omega⟩))).tr (k2.le (fun q j h => kY q j (Or.inr h)))).tr (g2.le kY)
        exact ⟨_, B, G, hcl0.trans b1, hm, hR.same hD hE c m ((kSB.le (fun _ _ h => h.1)).tr (kBG.le (fun _ _ h => h.1))) (b3.kp kBG (fun q j p1 p2 h => by omega)) g3⟩
      · rw [if_neg e] at b1
        obtain ⟨T, t1, kT, t2, t3, tn, to, -⟩ := c_keepB n a2 hx x9 hz z9 (kAB.le (fun q j h => by
          rcases h with (h | h) | h
          · exact Or.inl h
          · exact Or.inr ⟨(kF_C h).1, (kF_C h).2, by unfold kF at h; omega⟩
          · exact Or.inr ⟨by rw [h.1]; exact scr_c (by decide) (by decide) (by decide) j, by rw [h.1]; decide, by rw [h.1]; omega⟩)) b3
        have hcl : fX11_year x1 (nI N) S = some (nI (up (yrS D) N 0 (0, x1, E)).1, T) := by
          rw [hcl0, b1, t1, bq]
        have kS := mT kT x9
        have m0 : mA D E (cpI T 150 0 (nI 0)) := ⟨m.kp hD kS (fun j _ _ _ => by omega), w.kp kS (fun j _ _ => by omega)⟩
        obtain ⟨F, f1, f2⟩ := e_stores (cpI T 150 0 (nI 0))
        have kF' : Kp (fun q _ => q = 158) (cpI T 150 0 (nI 0)) F := f2.kp (fun j _ _ => rfl)
        have m1 : mA D E F := m0.kp hD kF' (fun q j h => by omega)
        have k2 : Kp k22 F (cpI F 150 22 x1) := Kp.rf.I (by exact ⟨rfl, rfl⟩)
        obtain ⟨G, g1, g2, g3⟩ := m_year34 hD hE (m1.kp hD k2 (fun q j h => by rw [h.1]; decide)) (x := x1) sI1 (show N ≤ 40 by omega)
        rw [if_neg e] at g1
        obtain ⟨U, u1, u2, u2', u3, u4, u5⟩ := m_note (S := cpI T 150 0 (nI 0)) (S1 := F) (S2 := G) (z := z) (f := kYm) z9 (by rw [kS.i (by omega)]; exact hz') f2 ((k2.le (fun _ _ h => Or.inr h)).tr g2) (fun k j h => by
          rcases h with h | ⟨rfl, rfl⟩
          · exact kDt_note (Or.inl h)
          · exact Or.inr ⟨⟨by decide, by decide, by decide⟩, by decide, by decide⟩)
        refine ⟨_, T, U, hcl, ?_, cpRl.fin2 hR hD hE r1 c m w z9 x9 old kT t2 t3 tn to u2 u3 (g3.kp u2' (fun j _ _ => by omega)) u4 u5⟩
        unfold fX12_year
        simp (disch := omega) only [lit, lm1, nI_add, pk_mul, nm_eq, nm_eq', nm_lt, nm_lt', nm_le, nm_le', x_lt, x_le, x_eq, x_in, x_cl, x_div, x_sub, x_rem, x_min, x_max, x_and, x_or, x_xor, x_df, x_shl, bI_0, bI_1, bI_bo, lg_eq, toL_inj, ls_nI, decide_eq_false_iff_not, decide_eq_true_eq, Bool.true_eq_false, Bool.false_eq_true, bq, if_pos, if_neg, if_true, if_false, lq, Nat.reduceAdd, Nat.reduceMul, Nat.reduceSub, Nat.reduceDiv, Nat.reduceMod, ew, f1, g1, u1]
  · have ew : ∀ S : cpS, fX12_within (Int32.toInt64 x2) 1 40 S = some (nI 0, S) := fun S => by
      rw [e_within, if_neg]; rfl
      intro k
      have a := (l_le _ _).mp k.1
      have b := (l_le _ _).mp k.2
      rw [i2l_toInt, show (1 : Int64).toInt = 1 from by decide] at a
      rw [i2l_toInt, show (40 : Int64).toInt = 40 from by decide] at b
      have := of_decide_eq_false h2
      omega
    refine ⟨-3, S, _, ?_, ?_, hq⟩
    · unfold fX11_year
      rcases arg_out 41 40 rfl (by decide) h2 with h | ⟨h, h', -⟩
      · have h3 : (x2 < nI 1) = True := eq_true (by
          have := of_eq_true h
          rw [i_lt] at this ⊢
          have z0 : (nI 0).toInt = 0 := by decide
          have z1 : (nI 1).toInt = 1 := by decide
          omega)
        simp (disch := omega) only [lit, lm1, nI_add, pk_mul, nm_eq, nm_eq', nm_lt, nm_lt', nm_le, nm_le', x_lt, x_le, x_eq, x_in, x_cl, x_div, x_sub, x_rem, x_min, x_max, x_and, x_or, x_xor, x_df, x_shl, bI_0, bI_1, bI_bo, lg_eq, toL_inj, ls_nI, decide_eq_false_iff_not, decide_eq_true_eq, Bool.true_eq_false, Bool.false_eq_true, bq, if_pos, if_neg, if_true, if_false, lq, Nat.reduceAdd, Nat.reduceMul, Nat.reduceSub, Nat.reduceDiv, Nat.reduceMod, h3]
      · rcases Classical.propComplete (x2 < nI 1) with h3 | h3
        · simp (disch := omega) only [lit, lm1, nI_add, pk_mul, nm_eq, nm_eq', nm_lt, nm_lt', nm_le, nm_le', x_lt, x_le, x_eq, x_in, x_cl, x_div, x_sub, x_rem, x_min, x_max, x_and, x_or, x_xor, x_df, x_shl, bI_0, bI_1, bI_bo, lg_eq, toL_inj, ls_nI, decide_eq_false_iff_not, decide_eq_true_eq, Bool.true_eq_false, Bool.false_eq_true, bq, if_pos, if_neg, if_true, if_false, lq, Nat.reduceAdd, Nat.reduceMul, Nat.reduceSub, Nat.reduceDiv, Nat.reduceMod, h3]
        · simp (disch := omega) only [lit, lm1, nI_add, pk_mul, nm_eq, nm_eq', nm_lt, nm_lt', nm_le, nm_le', x_lt, x_le, x_eq, x_in, x_cl, x_div, x_sub, x_rem, x_min, x_max, x_and, x_or, x_xor, x_df, x_shl, bI_0, bI_1, bI_bo, lg_eq, toL_inj, ls_nI, decide_eq_false_iff_not, decide_eq_true_eq, Bool.true_eq_false, Bool.false_eq_true, bq, if_pos, if_neg, if_true, if_false, lq, Nat.reduceAdd, Nat.reduceMul, Nat.reduceSub, Nat.reduceDiv, Nat.reduceMod, h3, h']
    · unfold fX12_year
      simp (disch := omega) only [lit, lm1, nI_add, pk_mul, nm_eq, nm_eq', nm_lt, nm_lt', nm_le, nm_le', x_lt, x_le, x_eq, x_in, x_cl, x_div, x_sub, x_rem, x_min, x_max, x_and, x_or, x_xor, x_df, x_shl, bI_0, bI_1, bI_bo, lg_eq, toL_inj, ls_nI, decide_eq_false_iff_not, decide_eq_true_eq, Bool.true_eq_false, Bool.false_eq_true, bq, if_pos, if_neg, if_true, if_false, lq, Nat.reduceAdd, Nat.reduceMul, Nat.reduceSub, Nat.reduceDiv, Nat.reduceMod, ew]
