/-! deeds: the hour, quarrels, undoing -/
theorem scr_c {k : Nat} (h : cpCore k = false) (h1 : k ≠ 115) (h2 : k ≠ 150) (j : Nat) : cpScr k j := ⟨h, fun e => absurd e h1, fun e => absurd e h2⟩
def cpOld (S : cpS) (z x : Nat) : Prop := ∀ i, i < z → rN S (65 + 4 * ((x + 9 - i) % 10)) (81 + 18 * (z - 1 - i)) ∧ ∀ K P C : Nat, K ≤ 6 → P ≤ 8 → C ≤ 4 → S.1 1 0 = nI K → S.1 1 7 = nI P → S.1 1 11 = nI C → nW S (65 + 4 * ((x + 9 - i) % 10)) K P C
theorem cpRl.un {S : cpS} (hR : cpRl S) : ∃ (D : cpD) (E : cpE) (z x : Nat), D.WF ∧ E.WF D ∧ cW D S 1 ∧ mW D S 0 ∧ cN E S 57 ∧ mN E S 62 ∧ z ≤ 10 ∧ x < 10 ∧ S.1 113 2 = nI z ∧ S.1 151 80 = nI z ∧ S.1 113 1 = nI x ∧ cpOld S z x := by
  obtain ⟨D, E, h1, h2, h3, h4, h5, h6⟩ := hR.2.2.2.1.un
  obtain ⟨z, x, g1, g2, g3, g4, g5, g6⟩ := hR.2.2.2.2.1
  exact ⟨D, E, z, x, h1, h2, h3, h4, h5, h6, g1, g2, g3, g4, g5, g6⟩
def kpC (x : Nat) (q j : Nat) : Prop := (57 ≤ q ∧ q ≤ 60) ∨ (65 + 4 * x ≤ q ∧ q ≤ 65 + 4 * x + 3) ∨ q = 113 ∨ (cpScr q j ∧ q < 150)
def kpM (q j : Nat) : Prop := (q = 151 ∧ 62 ≤ j ∧ j < 261) ∨ (cpScr q j ∧ 150 ≤ q)
theorem core_ring {q : Nat} (h1 : 65 ≤ q) (h2 : q ≤ 104) : cpCore q = true := by unfold cpCore; simp; omega
theorem core_val {q : Nat} (h1 : 1 ≤ q) (h2 : q ≤ 13) : cpCore q = true := by unfold cpCore; simp; omega
theorem cpRl.fin {S T U : cpS} (hR : cpRl S) {D : cpD} {E E' : cpE} {z x : Nat} (hD : D.WF) (hE : E.WF D) (hE' : E'.WF D) (c : cW D S 1) (m : mW D S 0) (w : mN E S 62) (z9 : z ≤ 10) (x9 : x < 10) (old : cpOld S z x)
    (kT : Kp (kpC x) S T) (t1 : T.1 113 1 = nI ((x + 1) % 10)) (t2 : T.1 113 2 = nI (min 10 (z + 1))) (tn : cN E' T 57) (to : cN E T (65 + 4 * x))
    (kU : Kp kpM T U) (u1 : U.1 151 80 = nI (min 10 (z + 1))) (un : mN E' U 62)
    (uo : ∀ j, j < 18 → U.1 151 (81 + 18 * (min 10 (z + 1) - 1) + j) = S.1 151 (62 + j))
    (uw : ∀ i, 1 ≤ i → i < min 10 (z + 1) → ∀ j, j < 18 → U.1 151 (81 + 18 * (min 10 (z + 1) - 1 - i) + j) = S.1 151 (81 + 18 * (z - i) + j)) : cpRl U := by
  have kD : Kp cpDed S U := by
    refine (kT.le ?_).tr (kU.le ?_)
    · intro k j h
      rcases h with h | h | h | h
      · exact Or.inl h
      · exact Or.inr (Or.inl (by omega))
      · exact Or.inr (Or.inr (Or.inl h))
      · exact Or.inr (Or.inr (Or.inr (Or.inr h.1)))
    · intro k j h
      rcases h with h | h
      · exact Or.inr (Or.inr (Or.inr (Or.inl h)))
      · exact Or.inr (Or.inr (Or.inr (Or.inr h.1)))
  have lo : ∀ q j, q < 150 → U.1 q j = T.1 q j := fun q j h => kU.i (fun g => by rcases g with g | g <;> omega)
  have kLo : Kp (fun q _ => 150 ≤ q) T U := kU.le (fun k j h => by rcases h with h | h <;> omega)
  have cU : cW D U 1 := c.kp kD (fun k j h1 h2 => ded_core (core_val h1 (by omega)) (by omega) (by omega) (by omega) (by omega))
  refine hR.deed kD hD hE' c m (tn.kp kLo (fun k j a b => by omega)) un ?_
  refine rP.st z9 x9 hD hE old (by rw [lo _ _ (by omega)]; exact t2) u1 (by rw [lo _ _ (by omega)]; exact t1) ?_ (to.kp kLo (fun k j a b => by omega)) (w.mv uo) uw c cU
  intro q j h1 h2 h3
  rw [lo _ _ (by omega)]
  refine kT.i (fun g => ?_)
  rcases g with g | g | g | g
  · omega
  · omega
  · omega
  · have := g.1.1; rw [core_ring h1 h2] at this; cases this
/-- the reference stores, does, notes -/
theorem m_note {S S1 S2 : cpS} {z : Nat} {f : Nat → Nat → Prop} (z9 : z ≤ 10) (hz : S.1 151 80 = nI z) (h1 : fI S S1 158 0 18 (fun j => S.1 151 (62 + j))) (h2 : Kp f S1 S2) (hf : ∀ k j, f k j → (k = 151 ∧ 62 ≤ j ∧ j < 80) ∨ (cpScr k j ∧ 150 ≤ k ∧ k ≠ 158)) : ∃ U, fX12_notes S2 = some ((), U) ∧ Kp kpM S U ∧ Kp (fun q j => q = 151 ∧ 80 ≤ j ∧ j < 261) S2 U ∧ U.1 151 80 = nI (min 10 (z + 1)) ∧ (∀ j, j < 18 → U.1 151 (81 + 18 * (min 10 (z + 1) - 1) + j) = S.1 151 (62 + j)) ∧ (∀ i, 1 ≤ i → i < min 10 (z + 1) → ∀ j, j < 18 → U.1 151 (81 + 18 * (min 10 (z + 1) - 1 - i) + j) = S.1 151 (81 + 18 * (z - i) + j)) := by
  have n151 : ∀ j, 80 ≤ j → S2.1 151 j = S.1 151 j := fun j hj => by
    rw [h2.i (fun g => by
      rcases hf _ _ g with g | g
      · omega
      · exact absurd g.1.1 (by decide)), h1.2.1 151 (by decide)]
  have n158 : ∀ j, j < 18 → S2.1 158 j = S.1 151 (62 + j) := fun j hj => by
    rw [h2.i (fun g => by rcases hf _ _ g with g | g <;> omega)]
    exact h1.2.2.1 j (by omega) hj
  obtain ⟨U, a1, a2, a3, a4, a5⟩ := e_notes (S := S2) (by rw [n151 80 (by omega)]; exact hz) z9
  refine ⟨U, a1, ?_, a3, a2, fun j hj => by rw [a4 j hj]; exact n158 j hj, fun i i1 i2 j hj => by rw [a5 i i1 i2 j hj]; exact n151 _ (by omega)⟩
  refine ((h1.kp (f := kpM) ?_).tr (h2.le ?_)).tr (a3.le ?_)
  · intro j _ _; exact Or.inr ⟨scr_c (by decide) (by decide) (by decide) j, by decide⟩
  · intro k j h
    rcases hf k j h with g | g
    · exact Or.inl (by omega)
    · exact Or.inr ⟨g.1, g.2.1⟩
  · intro k j h; exact Or.inl (by omega)
theorem scr_thr : cpScr 150 0 := ⟨by decide, by decide, by decide⟩
theorem scr61 {k : Nat} (h1 : 61 ≤ k) (h2 : k ≤ 64) (j : Nat) : cpScr k j := by
  rcases (show k = 61 ∨ k = 62 ∨ k = 63 ∨ k = 64 by omega) with rfl | rfl | rfl | rfl <;> exact scr_c (by decide) (by decide) (by decide) j
theorem q_hour : cpQ_hour cpRl := by
  intro x1 S hR
  obtain ⟨D, E, z, x, hD, hE, c, m, n, w, z9, x9, hz, hz', hx, old⟩ := hR.un
  obtain ⟨A, a1, a2⟩ := e_copyN 61 57 S (by omega)
  have kA : Kp (fun q _ => 61 ≤ q ∧ q ≤ 64) S A := a2.kp (fun q j a b => ⟨a, b⟩)
  rcases in_or x1 10 with ⟨p, hp, rfl⟩ | h1
  · -- class
    have eA : ∀ j, A.1 113 j = S.1 113 j := fun j => kA.i (by omega)
    have e61 : cN E A 61 := n.cp a2
    have n57 : cN E A 57 := n.kp kA (fun k j a b => by omega)
    obtain ⟨T, t1, t2, t3, t4, t5⟩ := e_keep (S := cpI A 57 3 (nI p)) (k := 61) (x := x) (z := z) (by rw [sIr (by decide), eA, hx]) x9 (by rw [sIr (by decide), eA, hz]) z9 (by omega)
    have k1 : Kp (fun q j => (57 = q ∧ j = 3) ∨ (61 ≤ q ∧ q ≤ 64)) S (cpI A 57 3 (nI p)) := (kA.le (fun _ _ h => Or.inr h)).I (by exact Or.inl ⟨rfl, rfl⟩)
    have hE' : cpE.WF (E.at', E.rim, E.fd, p, E.ca) D := ⟨hE.at', hE.no, hE.fd, hE.sy, hE.ir, hE.fz, by show p ≤ 9; omega⟩
    have kT : Kp (kpC x) S T := by
      refine (k1.le ?_).tr (t5.le ?_)
      · intro k j h
        rcases h with h | h
        · exact Or.inl (by omega)
        · exact Or.inr (Or.inr (Or.inr ⟨scr61 h.1 h.2 j, by omega⟩))
      · intro k j h
        rcases h with h | h
        · exact Or.inr (Or.inl h)
        · exact Or.inr (Or.inr (Or.inl h))
    have tn : cN (E.at', E.rim, E.fd, p, E.ca) T 57 := by
      have : cN (E.at', E.rim, E.fd, p, E.ca) (cpI A 57 3 (nI p)) 57 := ⟨fun q hq => by rw [sIr (by omega)]; exact n57.at' q hq, fun q hq => by rw [sIr (by omega)]; exact n57.rim q hq, fun q hq => by rw [sIr (by omega)]; exact n57.fd q hq, sI1, by rw [sIn (Or.inr (by decide))]; exact n57.ca⟩
      exact this.kp t5 (fun k j a b => by omega)
    have to : cN E T (65 + 4 * x) := t4 E (e61.kp (f := fun q _ => q = 57) (Kp.rf.I (by exact rfl)) (fun k j a b => by omega))
    have r61 : T.1 61 3 = nI E.h := by rw [t5.i (by omega), sIr (by decide)]; exact e61.h
    have hc : fX11_hour (nI p) S = some (nI E.h, T) := by
      unfold fX11_hour fX0_hourNow
      simp (disch := omega) only [lit, lm1, nI_add, pk_mul, nm_eq, nm_eq', nm_lt, nm_lt', nm_le, nm_le', x_lt, x_le, x_eq, x_in, x_cl, x_div, x_sub, x_rem, x_min, x_max, x_and, x_or, x_xor, x_df, x_shl, bI_0, bI_1, bI_bo, lg_eq, toL_inj, ls_nI, decide_eq_false_iff_not, decide_eq_true_eq, Bool.true_eq_false, Bool.false_eq_true, bq, if_pos, if_neg, if_true, if_false, lq, Nat.reduceAdd, Nat.reduceMul, Nat.reduceSub, Nat.reduceDiv, Nat.reduceMod, a1, t1, r61]
    -- reference
    have hi : ∀ j, 150 ≤ j → T.1 j = S.1 j := fun j hj => funext fun i => kT.i (fun g => by rcases g with g | g | g | g <;> omega)
    have w0 : fI (cpI T 150 0 (nI 0)) (cpI T 150 0 (nI 0)) 158 0 0 (fun j => (cpI T 150 0 (nI 0)).1 151 (62 + j)) := fI.rf _ _ _ _
    obtain ⟨B, b1, b2⟩ := e_stores (cpI T 150 0 (nI 0))
    have b2' : ∀ j, B.1 151 j = S.1 151 j := fun j => by rw [b2.2.1 151 (by decide), sIr (by decide), hi 151 (by decide)]
    obtain ⟨U, u1, u2, u2', u3, u4, u5⟩ := m_note (S := cpI T 150 0 (nI 0)) (S1 := B) (S2 := cpI B 151 78 (nI p)) (f := fun q j => q = 151 ∧ j = 78) z9 (by rw [sIr (by decide), hi 151 (by decide)]; exact hz') b2 (Kp.rf.I (by exact ⟨rfl, rfl⟩)) (fun k j h => Or.inl (by omega))
    have r158 : U.1 158 16 = nI E.h := by
      rw [u2'.i (by omega), sIr (by decide)]
      refine (b2.2.2.1 16 (by omega) (by omega)).trans ?_
      show (cpI T 150 0 (nI 0)).1 151 78 = _
      rw [sIr (by decide), hi 151 (by decide)]
      exact w.h
    have hm : fX12_hour (nI p) T = some (nI E.h, U) := by
      unfold fX12_hour
      simp (disch := omega) only [lit, lm1, nI_add, pk_mul, nm_eq, nm_eq', nm_lt, nm_lt', nm_le, nm_le', x_lt, x_le, x_eq, x_in, x_cl, x_div, x_sub, x_rem, x_min, x_max, x_and, x_or, x_xor, x_df, x_shl, bI_0, bI_1, bI_bo, lg_eq, toL_inj, ls_nI, decide_eq_false_iff_not, decide_eq_true_eq, Bool.true_eq_false, Bool.false_eq_true, bq, if_pos, if_neg, if_true, if_false, lq, Nat.reduceAdd, Nat.reduceMul, Nat.reduceSub, Nat.reduceDiv, Nat.reduceMod, m_win 10 9 (by decide), b1, u1, r158]
    refine ⟨_, T, U, hc, hm, ?_⟩
    refine cpRl.fin hR hD hE hE' c m w z9 x9 old kT t2 t3 tn to ?_ u3 ?_ (fun j hj => ?_) (fun i i1 i2 j hj => ?_)
    · exact ((Kp.rf (S := T)).I (f := kpM) (Or.inr ⟨scr_thr, by decide⟩)).tr u2
    · have e : ∀ j, 62 ≤ j → j < 80 → j ≠ 78 → U.1 151 j = S.1 151 j := fun j h1 h2 h3 => by rw [u2'.i (by omega), sIn (Or.inr h3), b2']
      refine ⟨fun q hq => by rw [e _ (by omega) (by omega) (by omega)]; exact w.at' q hq, fun q hq => by rw [e _ (by omega) (by omega) (by omega)]; exact w.rim q hq, fun q hq => by rw [e _ (by omega) (by omega) (by omega)]; exact w.fd q hq, ?_, by rw [e _ (by omega) (by omega) (by omega)]; exact w.ca⟩
      rw [u2'.i (by omega)]; exact sI1
    · rw [u4 j hj, sIr (by decide), hi 151 (by decide)]
    · rw [u5 i i1 i2 j hj, sIr (by decide), hi 151 (by decide)]
  · refine ⟨-11, A, cpI A 150 0 (nI 0), ?_, ?_, hR.kp (f := fun q j => (61 ≤ q ∧ q ≤ 64) ∨ (q = 150 ∧ j = 0)) ((kA.le (fun _ _ h => Or.inl h)).I (by exact Or.inr ⟨rfl, rfl⟩)) ?_⟩
    · unfold fX11_hour fX0_hourNow
      rw [a1]
      rcases out_or (by decide) h1 with h | ⟨h, h', -⟩
      · simp only [bq, h, if_true]; rw [if_neg (by decide)]; rfl
      · have h4 : ¬ x1 < (10 : Int32) := h'
        simp only [bq, h, h4, if_false]; rw [if_neg (by decide)]; rfl
    · unfold fX12_hour
      simp (disch := omega) only [lit, lm1, nI_add, pk_mul, nm_eq, nm_eq', nm_lt, nm_lt', nm_le, nm_le', x_lt, x_le, x_eq, x_in, x_cl, x_div, x_sub, x_rem, x_min, x_max, x_and, x_or, x_xor, x_df, x_shl, bI_0, bI_1, bI_bo, lg_eq, toL_inj, ls_nI, decide_eq_false_iff_not, decide_eq_true_eq, Bool.true_eq_false, Bool.false_eq_true, bq, if_pos, if_neg, if_true, if_false, lq, Nat.reduceAdd, Nat.reduceMul, Nat.reduceSub, Nat.reduceDiv, Nat.reduceMod, m_win 10 9 (by decide), h1]
    · intro k j h
      rcases h with h | ⟨h, h'⟩
      · exact scr61 h.1 h.2 j
      · subst h; subst h'; exact scr_thr
