/-! quarrels -/
theorem c_keepB {S A B : cpS} {E E' : cpE} {x z : Nat} (n : cN E S 57) (a2 : nC S A 61 57) (hx : S.1 113 1 = nI x) (x9 : x < 10) (hz : S.1 113 2 = nI z) (z9 : z ≤ 10) (kB : Kp (fun q j => (57 ≤ q ∧ q ≤ 60) ∨ (cpScr q j ∧ q < 150 ∧ ¬ (61 ≤ q ∧ q ≤ 64))) A B) (nB : cN E' B 57) : ∃ T, fX6_keep 61 B = some ((), T) ∧ Kp (kpC x) S T ∧ T.1 113 1 = nI ((x + 1) % 10) ∧ T.1 113 2 = nI (min 10 (z + 1)) ∧ cN E' T 57 ∧ cN E T (65 + 4 * x) ∧ cN E T 61 := by
  have kA : Kp (fun q _ => 61 ≤ q ∧ q ≤ 64) S A := a2.kp (fun q j a b => ⟨a, b⟩)
  have eB : ∀ j, B.1 113 j = S.1 113 j := fun j => by
    rw [kB.i (fun g => by
      rcases g with g | g
      · omega
      · exact absurd g.1.1 (by decide)), kA.i (by omega)]
  have e61 : cN E B 61 := (n.cp a2).kp kB (fun k j a b g => by
    rcases g with g | g
    · omega
    · exact g.2.2 ⟨a, b⟩)
  obtain ⟨T, t1, t2, t3, t4, t5⟩ := e_keep (S := B) (k := 61) (x := x) (z := z) (by rw [eB, hx]) x9 (by rw [eB, hz]) z9 (by omega)
  refine ⟨T, t1, ?_, t2, t3, nB.kp t5 (fun k j a b => by omega), t4 E e61, e61.kp t5 (fun k j a b => by omega)⟩
  refine ((kA.le ?_).tr (kB.le ?_)).tr (t5.le ?_)
  · intro k j h; exact Or.inr (Or.inr (Or.inr ⟨scr61 h.1 h.2 j, by omega⟩))
  · intro k j h
    rcases h with h | h
    · exact Or.inl h
    · exact Or.inr (Or.inr (Or.inr ⟨h.1, h.2.1⟩))
  · intro k j h
    rcases h with h | h
    · exact Or.inr (Or.inl h)
    · exact Or.inr (Or.inr (Or.inl h))
theorem hiT {x : Nat} {S T : cpS} (kT : Kp (kpC x) S T) (x9 : x < 10) : ∀ k, 150 ≤ k → T.1 k = S.1 k ∧ T.2 k = S.2 k := fun k hj =>
  ⟨funext fun i => kT.i (fun g => by rcases g with g | g | g | g <;> omega), funext fun i => kT.l (fun g => by rcases g with g | g | g | g <;> omega)⟩
theorem mT {x : Nat} {S T : cpS} (kT : Kp (kpC x) S T) (x9 : x < 10) : Kp (fun k j => k < 150 ∨ (k = 150 ∧ j = 0)) S (cpI T 150 0 (nI 0)) :=
  (kT.le (fun k j g => by rcases g with g | g | g | g <;> exact Or.inl (by omega))).I (by exact Or.inr ⟨rfl, rfl⟩)
/-- the end of a call that noted what was -/
theorem cpRl.fin2 {S T U : cpS} (hR : cpRl S) {D : cpD} {E E' : cpE} {z x : Nat} (hD : D.WF) (hE : E.WF D) (hE' : E'.WF D) (c : cW D S 1) (m : mW D S 0) (w : mN E S 62) (z9 : z ≤ 10) (x9 : x < 10) (old : cpOld S z x)
    (kT : Kp (kpC x) S T) (t1 : T.1 113 1 = nI ((x + 1) % 10)) (t2 : T.1 113 2 = nI (min 10 (z + 1))) (tn : cN E' T 57) (to : cN E T (65 + 4 * x))
    (kU : Kp kpM (cpI T 150 0 (nI 0)) U) (u1 : U.1 151 80 = nI (min 10 (z + 1))) (un : mN E' U 62)
    (uo : ∀ j, j < 18 → U.1 151 (81 + 18 * (min 10 (z + 1) - 1) + j) = (cpI T 150 0 (nI 0)).1 151 (62 + j))
    (uw : ∀ i, 1 ≤ i → i < min 10 (z + 1) → ∀ j, j < 18 → U.1 151 (81 + 18 * (min 10 (z + 1) - 1 - i) + j) = (cpI T 150 0 (nI 0)).1 151 (81 + 18 * (z - i) + j)) : cpRl U := by
  have h := mT kT x9
  refine cpRl.fin hR hD hE hE' c m w z9 x9 old kT t1 t2 tn to ?_ u1 un (fun j hj => ?_) (fun i i1 i2 j hj => ?_)
  · exact ((Kp.rf (S := T)).I (f := kpM) (Or.inr ⟨scr_thr, by decide⟩)).tr kU
  · rw [uo j hj]; exact h.i (by omega)
  · rw [uw i i1 i2 j hj]; exact h.i (by omega)
def cpE.qu (E : cpE) (p q : Nat) : cpE := (E.at', E.rim, fun i => if i = p then E.fd p ^^^ 2 ^ q else if i = q then E.fd q ^^^ 2 ^ p else E.fd i, E.h, E.ca)
theorem cpE.WF.qu {E : cpE} {D : cpD} (hE : E.WF D) (hD : D.WF) {p q : Nat} (hp : p < D.P) (hq : q < D.P) (hn : p ≠ q) : (E.qu p q).WF D := by
  have p8 := hD.p8
  have bt : ∀ i j, i < 8 → (((E.qu p q).fd i).testBit j) = (if (i = p ∧ j = q) ∨ (i = q ∧ j = p) then !((E.fd i).testBit j) else (E.fd i).testBit j) := by
    intro i j hi
    show (if i = p then E.fd p ^^^ 2 ^ q else if i = q then E.fd q ^^^ 2 ^ p else E.fd i).testBit j = _
    by_cases h1 : i = p
    · subst h1
      rw [if_pos rfl, Nat.testBit_xor, Nat.testBit_two_pow]
      by_cases h2 : q = j
      · subst h2; rw [if_pos (Or.inl ⟨rfl, rfl⟩)]; cases (E.fd i).testBit q <;> simp
      · rw [if_neg (by omega)]; simp [h2]
    · rw [if_neg h1]
      by_cases h3 : i = q
      · subst h3
        rw [if_pos rfl, Nat.testBit_xor, Nat.testBit_two_pow]
        by_cases h2 : p = j
        · subst h2; rw [if_pos (Or.inr ⟨rfl, rfl⟩)]; cases (E.fd i).testBit p <;> simp
        · rw [if_neg (by omega)]; simp [h2]
      · rw [if_neg h3, if_neg (by omega)]
  refine ⟨hE.at', hE.no, fun i hi => ?_, fun i j hi hj => ?_, fun i hi => ?_, fun i h1 h2 => ?_, hE.h9⟩
  · show (if i = p then E.fd p ^^^ 2 ^ q else if i = q then E.fd q ^^^ 2 ^ p else E.fd i) < _
    by_cases h1 : i = p
    · rw [if_pos h1]; exact Nat.xor_lt_two_pow (hE.fd p (by omega)) (Nat.pow_lt_pow_right (by decide) hq)
    · rw [if_neg h1]
      by_cases h3 : i = q
      · rw [if_pos h3]; exact Nat.xor_lt_two_pow (hE.fd q (by omega)) (Nat.pow_lt_pow_right (by decide) hp)
      · rw [if_neg h3]; exact hE.fd i hi
  · rw [bt i j hi, bt j i hj, hE.sy i j hi hj]
    by_cases h : (i = p ∧ j = q) ∨ (i = q ∧ j = p)
    · rw [if_pos h, if_pos (by omega)]
    · rw [if_neg h, if_neg (by omega)]
  · rw [bt i i hi, if_neg (by omega)]; exact hE.ir i hi
  · show (if i = p then E.fd p ^^^ 2 ^ q else if i = q then E.fd q ^^^ 2 ^ p else E.fd i) = 0
    rw [if_neg (by omega), if_neg (by omega)]; exact hE.fz i h1 h2
theorem c_quarrelNow {D : cpD} {E : cpE} {S : cpS} (hD : D.WF) (c : cW D S 1) (n : cN E S 57) {p q : Nat} (hp : p < D.P) (hq : q < D.P) (hn : p ≠ q) : ∃ B, fX0_quarrelNow (nI p) (nI q) S = some (nI 0, B) ∧ Kp (fun k _ => k = 60) S B ∧ cN (E.qu p q) B 57 := by
  have p8 := hD.p8
  have e1 := n.fd p (by omega)
  have e2 := n.fd q (by omega)
  refine ⟨cpI (cpI S 60 p (nI (E.fd p ^^^ 2 ^ q))) 60 q (nI (E.fd q ^^^ 2 ^ p)), ?_, (Kp.rf.I (by exact rfl)).I (by exact rfl), fun i hi => ?_, fun i hi => ?_, fun i hi => ?_, ?_, ?_⟩
  · unfold fX0_quarrelNow
    have e3 : (cpI S 60 p (nI (E.fd p ^^^ 2 ^ q))).1 60 q = nI (E.fd q) := by rw [sIn (Or.inr (Ne.symm hn))]; exact e2
    rw [c_areTwo1 hD c hp hq hn]
    simp (disch := omega) only [lit, lm1, nI_add, pk_mul, nm_eq, nm_eq', nm_lt, nm_lt', nm_le, nm_le', x_lt, x_le, x_eq, x_in, x_cl, x_div, x_sub, x_rem, x_min, x_max, x_and, x_or, x_xor, x_df, x_shl, bI_0, bI_1, bI_bo, lg_eq, toL_inj, ls_nI, decide_eq_false_iff_not, decide_eq_true_eq, Bool.true_eq_false, Bool.false_eq_true, bq, if_pos, if_neg, if_true, if_false, lq, Nat.reduceAdd, Nat.reduceMul, Nat.reduceSub, Nat.reduceDiv, Nat.reduceMod, e1, e3]
  · rw [sIr (by decide), sIr (by decide)]; exact n.at' i hi
  · rw [sIr (by decide), sIr (by decide)]; exact n.rim i hi
  · show (cpI (cpI S 60 p (nI (E.fd p ^^^ 2 ^ q))) 60 q (nI (E.fd q ^^^ 2 ^ p))).1 60 i = nI (if i = p then E.fd p ^^^ 2 ^ q else if i = q then E.fd q ^^^ 2 ^ p else E.fd i)
    by_cases h1 : i = p
    · subst h1; rw [sIn (Or.inr hn), sI1, if_pos rfl]
    · by_cases h2 : i = q
      · subst h2; rw [sI1, if_neg h1, if_pos rfl]
      · rw [sIn (Or.inr h2), sIn (Or.inr h1), if_neg h1, if_neg h2]; exact n.fd i hi
  · rw [sIr (by decide), sIr (by decide)]; exact n.h
  · rw [sIr (by decide), sIr (by decide)]; exact n.ca
theorem m_goesQuarrel {E : cpE} {S : cpS} (n : mN E S 62) {p q : Nat} (hp : p < 8) (hq : q < 8) (hn : p ≠ q) : ∃ B, fX12_goesQuarrel (nI p) (nI q) S = some ((), B) ∧ Kp (fun k j => k = 151 ∧ 70 ≤ j ∧ j < 78) S B ∧ mN (E.qu p q) B 62 := by
  have e1 : S.1 151 (70 + p) = _ := n.fd p (by omega)
  have e2 : S.1 151 (70 + q) = _ := n.fd q (by omega)
  refine ⟨cpI (cpI S 151 (70 + p) (nI (E.fd p ^^^ 2 ^ q))) 151 (70 + q) (nI (E.fd q ^^^ 2 ^ p)), ?_, (Kp.rf.I (by refine ⟨rfl, ?_, ?_⟩ <;> omega)).I (by refine ⟨rfl, ?_, ?_⟩ <;> omega), fun i hi => ?_, fun i hi => ?_, fun i hi => ?_, ?_, ?_⟩
  · unfold fX12_goesQuarrel
    have e3 : (cpI S 151 (70 + p) (nI (E.fd p ^^^ 2 ^ q))).1 151 (70 + q) = nI (E.fd q) := by rw [sIn (Or.inr (by omega))]; exact e2
    simp (disch := omega) only [lit, lm1, nI_add, pk_mul, nm_eq, nm_eq', nm_lt, nm_lt', nm_le, nm_le', x_lt, x_le, x_eq, x_in, x_cl, x_div, x_sub, x_rem, x_min, x_max, x_and, x_or, x_xor, x_df, x_shl, bI_0, bI_1, bI_bo, lg_eq, toL_inj, ls_nI, decide_eq_false_iff_not, decide_eq_true_eq, Bool.true_eq_false, Bool.false_eq_true, bq, if_pos, if_neg, if_true, if_false, lq, Nat.reduceAdd, Nat.reduceMul, Nat.reduceSub, Nat.reduceDiv, Nat.reduceMod, e1, e3]
  · rw [sIn (Or.inr (by omega)), sIn (Or.inr (by omega))]; exact n.at' i hi
  · rw [sIn (Or.inr (by omega)), sIn (Or.inr (by omega))]; exact n.rim i hi
  · show (cpI (cpI S 151 (70 + p) (nI (E.fd p ^^^ 2 ^ q))) 151 (70 + q) (nI (E.fd q ^^^ 2 ^ p))).1 151 (62 + 8 + i) = nI (if i = p then E.fd p ^^^ 2 ^ q else if i = q then E.fd q ^^^ 2 ^ p else E.fd i)
    by_cases h1 : i = p
    · subst h1; rw [sIn (Or.inr (by omega)), sI1, if_pos rfl]
    · by_cases h2 : i = q
      · subst h2; rw [sI1, if_neg h1, if_pos rfl]
      · rw [sIn (Or.inr (by omega)), sIn (Or.inr (by omega)), if_neg h1, if_neg h2]; exact n.fd i hi
  · rw [sIn (Or.inr (by omega)), sIn (Or.inr (by omega))]; exact n.h
  · rw [sIn (Or.inr (by omega)), sIn (Or.inr (by omega))]; exact n.ca
/-- two that are: as naturals, or not -/
theorem two_or (x y : Int32) (P : Nat) (hP : P ≤ 8) : (∃ p q, p < P ∧ q < P ∧ p ≠ q ∧ x = nI p ∧ y = nI q) ∨ (cpLs' x P && cpLs' y P && decide (¬ x = y)) = false := by
  rcases in_or x P with ⟨p, hp, rfl⟩ | h
  · rcases in_or y P with ⟨q, hq, rfl⟩ | h
    · by_cases e : p = q
      · right; subst e; simp
      · exact Or.inl ⟨p, q, hp, hq, e, rfl, rfl⟩
    · right; rw [h]; simp
  · right; rw [h]; simp
theorem fd_qu (E : cpE) (p q : Nat) : (E.qu p q).fd p = E.fd p ^^^ 2 ^ q := if_pos rfl
theorem mN.stored {E : cpE} {S B : cpS} (w : mN E S 62) (b : fI S B 158 0 18 (fun j => S.1 151 (62 + j))) : mN E B 62 := w.kp (b.kp (f := fun k _ => k = 158) (fun j _ _ => rfl)) (fun j _ _ => by omega)
theorem q_quarrel : cpQ_quarrel cpRl := by
  intro x1 x2 S hR
  obtain ⟨D, E, z, x, hD, hE, c, m, n, w, z9, x9, hz, hz', hx, old⟩ := hR.un
  obtain ⟨A, a1, a2⟩ := e_copyN 61 57 S (by omega)
  have p8 := hD.p8
  have kA : Kp (fun q _ => 61 ≤ q ∧ q ≤ 64) S A := a2.kp (fun q j a b => ⟨a, b⟩)
  have cA : cW D A 1 := c.kp kA (fun k j a b => by omega)
  have nA : cN E A 57 := n.kp kA (fun k j a b => by omega)
  rcases two_or x1 x2 D.P p8 with ⟨p, q, hp, hq, hn, rfl, rfl⟩ | h
  · obtain ⟨B, b1, b2, b3⟩ := c_quarrelNow hD cA nA hp hq hn
    have hE' := hE.qu hD hp hq hn
    obtain ⟨T, t1, kT, t2, t3, tn, to, -⟩ := c_keepB n a2 hx x9 hz z9 (b2.le (fun k j h => Or.inl (by omega))) b3
    have hc : fX11_quarrel (nI p) (nI q) S = some (bI ((E.fd p ^^^ 2 ^ q).testBit q), T) := by
      unfold fX11_quarrel
      simp (disch := omega) only [lit, lm1, nI_add, pk_mul, nm_eq, nm_eq', nm_lt, nm_lt', nm_le, nm_le', x_lt, x_le, x_eq, x_in, x_cl, x_div, x_sub, x_rem, x_min, x_max, x_and, x_or, x_xor, x_df, x_shl, bI_0, bI_1, bI_bo, lg_eq, toL_inj, ls_nI, decide_eq_false_iff_not, decide_eq_true_eq, Bool.true_eq_false, Bool.false_eq_true, bq, if_pos, if_neg, if_true, if_false, lq, Nat.reduceAdd, Nat.reduceMul, Nat.reduceSub, Nat.reduceDiv, Nat.reduceMod, a1, b1, t1, c_feuding hD hE' tn (show p < 8 by omega) (show q < 8 by omega), fd_qu]
      cases ((E.fd p ^^^ 2 ^ q).testBit q) <;> rfl
    have kS := mT kT x9
    have mS : mW D (cpI T 150 0 (nI 0)) 0 := m.kp hD kS (fun j _ _ _ => by omega)
    have wS : mN E (cpI T 150 0 (nI 0)) 62 := w.kp kS (fun j _ _ => by omega)
    obtain ⟨G, g1, g2⟩ := e_stores (cpI T 150 0 (nI 0))
    obtain ⟨H, h1, h2, h3⟩ := m_goesQuarrel (wS.stored g2) (show p < 8 by omega) (show q < 8 by omega) hn
    obtain ⟨U, u1, u2, u2', u3, u4, u5⟩ := m_note (S := cpI T 150 0 (nI 0)) (S1 := G) (S2 := H) z9 (by rw [kS.i (by omega)]; exact hz') g2 h2 (fun k j h => Or.inl (by omega))
    have un : mN (E.qu p q) U 62 := h3.kp u2' (fun j _ _ => by omega)
    refine ⟨_, T, U, hc, ?_, cpRl.fin2 hR hD hE hE' c m w z9 x9 old kT t2 t3 tn to u2 u3 un u4 u5⟩
    unfold fX12_quarrel
    simp (disch := omega) only [lit, lm1, nI_add, pk_mul, nm_eq, nm_eq', nm_lt, nm_lt', nm_le, nm_le', x_lt, x_le, x_eq, x_in, x_cl, x_div, x_sub, x_rem, x_min, x_max, x_and, x_or, x_xor, x_df, x_shl, bI_0, bI_1, bI_bo, lg_eq, toL_inj, ls_nI, decide_eq_false_iff_not, decide_eq_true_eq, Bool.true_eq_false, Bool.false_eq_true, bq, if_pos, if_neg, if_true, if_false, lq, Nat.reduceAdd, Nat.reduceMul, Nat.reduceSub, Nat.reduceDiv, Nat.reduceMod, m_areTwo1 hD mS hp hq hn, g1, h1, u1, m_quarrelled hD hE' un (show p < 8 by omega) (show q < 8 by omega), fd_qu]
    cases ((E.fd p ^^^ 2 ^ q).testBit q) <;> rfl
  · have kS : Kp (fun k j => (61 ≤ k ∧ k ≤ 64) ∨ (k = 150 ∧ j = 0)) S (cpI A 150 0 (nI 0)) := (kA.le (fun _ _ h => Or.inl h)).I (by exact Or.inr ⟨rfl, rfl⟩)
    refine ⟨-11, A, cpI A 150 0 (nI 0), ?_, ?_, hR.kp kS ?_⟩
    · unfold fX11_quarrel fX0_quarrelNow
      simp (disch := omega) only [lit, lm1, nI_add, pk_mul, nm_eq, nm_eq', nm_lt, nm_lt', nm_le, nm_le', x_lt, x_le, x_eq, x_in, x_cl, x_div, x_sub, x_rem, x_min, x_max, x_and, x_or, x_xor, x_df, x_shl, bI_0, bI_1, bI_bo, lg_eq, toL_inj, ls_nI, decide_eq_false_iff_not, decide_eq_true_eq, Bool.true_eq_false, Bool.false_eq_true, bq, if_pos, if_neg, if_true, if_false, lq, Nat.reduceAdd, Nat.reduceMul, Nat.reduceSub, Nat.reduceDiv, Nat.reduceMod, a1, c_areTwo hD cA, h]
      rfl
    · unfold fX12_quarrel
      simp (disch := omega) only [lit, lm1, nI_add, pk_mul, nm_eq, nm_eq', nm_lt, nm_lt', nm_le, nm_le', x_lt, x_le, x_eq, x_in, x_cl, x_div, x_sub, x_rem, x_min, x_max, x_and, x_or, x_xor, x_df, x_shl, bI_0, bI_1, bI_bo, lg_eq, toL_inj, ls_nI, decide_eq_false_iff_not, decide_eq_true_eq, Bool.true_eq_false, Bool.false_eq_true, bq, if_pos, if_neg, if_true, if_false, lq, Nat.reduceAdd, Nat.reduceMul, Nat.reduceSub, Nat.reduceDiv, Nat.reduceMod, m_areTwo hD (m.kp hD kS (fun j _ _ _ => by omega)), h]
    · intro k j h
      rcases h with h | ⟨h, h'⟩
      · exact scr61 h.1 h.2 j
      · subst h; subst h'; exact scr_thr
