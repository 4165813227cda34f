/-! lists: the way, written into a tray -/
theorem cA.hi {D : cpD} {E : cpE} {S T : cpS} (c : cA D E S) {f : Nat → Nat → Prop} (g : Kp f S T) (hf : ∀ k j, f k j → 100 ≤ k) : cA D E T :=
  ⟨c.1.kp g (fun k j h1 h2 q => by have := hf k j q; omega), c.2.kp g (fun k j h1 h2 q => by have := hf k j q; omega)⟩
theorem Kp.agY {f : Nat → Nat → Prop} {S T : cpS} (h : Kp f S T) (hf : ∀ k j, f k j → cpScr k j ∨ cpCoreY k = false ∧ k ≠ 115 ∧ k ≠ 150) : cpAg cpCoreY S T := by
  have z : ∀ k : Nat, cpCore k = false → cpCoreY k = true → False := fun k h1 h2 => by unfold cpCoreY at h2; rw [h1] at h2; cases h2
  refine ⟨fun k hk => ?_, ?_, ?_, ?_, ?_, ?_, ?_⟩
  · have e : ∀ j, ¬ f k j := fun j q => by
      rcases hf k j q with q | q
      · exact z k q.1 hk
      · rw [q.1] at hk; cases hk
    exact ⟨funext fun j => (h k j (e j)).1, funext fun j => (h k j (e j)).2⟩
  · exact h.i (fun q => by rcases hf _ _ q with q | q; (have := q.2.1 rfl; omega); omega)
  · exact h.i (fun q => by rcases hf _ _ q with q | q; (have := q.2.1 rfl; omega); omega)
  · exact h.i (fun q => by rcases hf _ _ q with q | q; (have := q.2.1 rfl; omega); omega)
  · exact h.i (fun q => by rcases hf _ _ q with q | q; (have := q.2.2 rfl; omega); omega)
  · exact h.i (fun q => by rcases hf _ _ q with q | q; (have := q.2.2 rfl; omega); omega)
  · exact h.i (fun q => by rcases hf _ _ q with q | q; (have := q.2.2 rfl; omega); omega)
theorem cut_all {q : Nat} (hq : q < 4) : ∃ cv : Int64 → Int64, (∀ (x : Int64) (S : cpS) (v : Nat), S.1 v 2 = nI q → fX9_cut v x S = some (cv x, S)) ∧ ∀ (x : Int64) (S : cpS), fX12_cut x (nI q) S = some (cv x, S) :=
  ⟨fun x => Classical.choose (e_cut q hq x), fun x => (Classical.choose_spec (e_cut q hq x)).1, fun x => (Classical.choose_spec (e_cut q hq x)).2⟩
def kY (t M : Nat) (k j : Nat) : Prop := k = 139 + 2 * t + 1 ∧ j < M
def kZ (t M : Nat) (k j : Nat) : Prop := (k = 173 ∧ 40 * t ≤ j ∧ j < 40 * t + M) ∨ kH k j
section LI
variable {D : cpD} {E : cpE} {S : cpS}
theorem c_lists107 (hD : D.WF) (c : cA D E S) {k to a N M t q : Nat} {cv : Int64 → Int64} (l : lrn D E false k S) (ms : mes D E k to S) (hk : k < D.C) (ht : to < D.K) (hd : dst D E k to a = some N) (hM : M ≤ N) (ht4 : t < 4) (hs : S.1 (139 + 2 * t) 2 = nI q) (hcv : ∀ (x : Int64) (S : cpS) (v : Nat), S.1 v 2 = nI q → fX9_cut v x S = some (cv x, S)) : ∃ T, fX11_lists_107 (nI t) (nI k) (nI M) cpFu (nI a) (nI 0) S = some (nI M, T) ∧ (∀ i, i < M → T.2 (139 + 2 * t + 1) i = cv (Int32.toInt64 (nI (fd1 D E k to (plc D E k to a i))))) ∧ Kp (kY t M) S T := by
  have hN := (dst_in hd).1
  have := up_lpR (F := fun n i (x : Int32 × cpS) => fX11_lists_107 (nI t) (nI k) (nI M) n x.1 i x.2) (K := fun x => some (nI M, x.2)) M (fun _ (s : Unit) => s) (fun i _ x => x.1 = nI (plc D E k to a i) ∧ (∀ y, y < i → x.2.2 (139 + 2 * t + 1) y = cv (Int32.toInt64 (nI (fd1 D E k to (plc D E k to a y))))) ∧ Kp (kY t M) S x.2) (by omega) (fun n i s x hi hI => ?_) (fun n s x hI => ?_) (i0 := 0) (s := ()) (a := (nI a, S)) (Nat.zero_le _) ⟨rfl, fun y hy => absurd hy (by omega), Kp.rf⟩
  · obtain ⟨⟨x, T⟩, t1, t2, t3, t4⟩ := this
    exact ⟨T, t1, t3, t4⟩
  · obtain ⟨x, T⟩ := x
    obtain ⟨i1, i2, i3⟩ := hI
    have j1 : x = nI (plc D E k to a i) := i1
    have j2 : ∀ y, y < i → T.2 (139 + 2 * t + 1) y = cv (Int32.toInt64 (nI (fd1 D E k to (plc D E k to a y)))) := i2
    have j3 : Kp (kY t M) S T := i3
    clear i1 i2 i3
    subst j1
    have h1 := plc_d hD hk ht hd i (by omega)
    rw [show N - i = (N - (i + 1)) + 1 by omega] at h1
    have h2 := fd1_s hD hk ht h1
    have cT := c.hi j3 (fun q j h => by unfold kY at h; omega)
    have lT := l.kp j3 (fun q j h => by unfold kY at h; omega)
    have mT : mes D E k to T := fun x hx => by rw [j3.i (by unfold kY; omega)]; exact ms x hx
    have hf := c_firstDeed hD cT lT mT hk ht h1
    have sT : T.1 (139 + 2 * t) 2 = nI q := by rw [j3.i (by unfold kY; omega)]; exact hs
    have hp : fX9_put (139 + 2 * t) (nI i) (Int32.toInt64 (nI (fd1 D E k to (plc D E k to a i)))) T = some (cv (Int32.toInt64 (nI (fd1 D E k to (plc D E k to a i)))), cpL T (139 + 2 * t + 1) i (cv (Int32.toInt64 (nI (fd1 D E k to (plc D E k to a i)))))) := by
      unfold fX9_put
      simp (disch := omega) only [lit, lm1, nI_add, pk_mul, nm_eq, nm_eq', nm_lt, nm_lt', nm_le, nm_le', x_lt, x_le, x_eq, x_in, x_cl, x_div, x_sub, x_rem, x_min, x_max, x_and, x_or, x_xor, x_df, x_shl, bI_0, bI_1, bI_bo, lg_eq, toL_inj, ls_nI, decide_eq_false_iff_not, decide_eq_true_eq, Bool.true_eq_false, Bool.false_eq_true, bq, if_pos, if_neg, if_true, if_false, lq, Nat.reduceAdd, Nat.reduceMul, Nat.reduceSub, Nat.reduceDiv, Nat.reduceMod, hcv _ T (139 + 2 * t) sT, sL1]
    refine ⟨(nI (plc D E k to a (i + 1)), cpL T (139 + 2 * t + 1) i (cv (Int32.toInt64 (nI (fd1 D E k to (plc D E k to a i)))))), ?_, rfl, fun y hy => ?_, j3.L (by exact ⟨rfl, hi⟩)⟩
    · rw [fX11_lists_107, plc_s]
      simp (disch := omega) only [lit, lm1, nI_add, pk_mul, nm_eq, nm_eq', nm_lt, nm_lt', nm_le, nm_le', x_lt, x_le, x_eq, x_in, x_cl, x_div, x_sub, x_rem, x_min, x_max, x_and, x_or, x_xor, x_df, x_shl, bI_0, bI_1, bI_bo, lg_eq, toL_inj, ls_nI, decide_eq_false_iff_not, decide_eq_true_eq, Bool.true_eq_false, Bool.false_eq_true, bq, if_pos, if_neg, if_true, if_false, lq, Nat.reduceAdd, Nat.reduceMul, Nat.reduceSub, Nat.reduceDiv, Nat.reduceMod, hf, hp]
    · by_cases e : y = i
      · rw [e]; exact sL1
      · rw [show (cpL T (139 + 2 * t + 1) i (cv (Int32.toInt64 (nI (fd1 D E k to (plc D E k to a i)))))).2 (139 + 2 * t + 1) y = T.2 (139 + 2 * t + 1) y from sLn (Or.inr e)]
        exact j2 y (by omega)
  · rw [fX11_lists_107]
    simp (disch := omega) only [lit, lm1, nI_add, pk_mul, nm_eq, nm_eq', nm_lt, nm_lt', nm_le, nm_le', x_lt, x_le, x_eq, x_in, x_cl, x_div, x_sub, x_rem, x_min, x_max, x_and, x_or, x_xor, x_df, x_shl, bI_0, bI_1, bI_bo, lg_eq, toL_inj, ls_nI, decide_eq_false_iff_not, decide_eq_true_eq, Bool.true_eq_false, Bool.false_eq_true, bq, if_pos, if_neg, if_true, if_false, lq, Nat.reduceAdd, Nat.reduceMul, Nat.reduceSub, Nat.reduceDiv, Nat.reduceMod]
theorem m_lists90 (hD : D.WF) (hE : E.WF D) (m : mF D E S E.h) {k to N M t q : Nat} {cv : Int64 → Int64} (su : stU S (dst D E k to) 1000) (hk : k < D.C) (ht : to < D.K) (hd : dst D E k to (E.at' k) = some N) (hM : M ≤ N) (ht4 : t < 4) (hs : S.1 171 t = nI q) (hcv : ∀ (x : Int64) (S : cpS), fX12_cut x (nI q) S = some (cv x, S)) : ∃ T, fX12_lists_90 (nI t) (nI k) (nI M) cpFu (nI 0) S = some (nI M, T) ∧ (∀ i, i < M → T.2 173 (40 * t + i) = cv (Int32.toInt64 (nI (fd1 D E k to (plc D E k to (E.at' k) i))))) ∧ Kp (kZ t M) S T := by
  have hN := (dst_in hd).1
  refine up_lpR (F := fun n i (T : cpS) => fX12_lists_90 (nI t) (nI k) (nI M) n i T) (K := fun T => some (nI M, T)) M (fun _ (s : Unit) => s) (fun i _ T => (∀ y, y < i → T.2 173 (40 * t + y) = cv (Int32.toInt64 (nI (fd1 D E k to (plc D E k to (E.at' k) y))))) ∧ Kp (kZ t M) S T) (by omega) (fun n i s T hi hI => ?_) (fun n s T hI => ?_) (i0 := 0) (s := ()) (a := S) (Nat.zero_le _) ⟨fun y hy => absurd hy (by omega), Kp.rf⟩
  · obtain ⟨i1, i2⟩ := hI
    have mT : mF D E T E.h := m.kp hD i2 (fun k j q => by unfold kZ kH at q; omega)
    have sT : stU T (dst D E k to) 1000 := ⟨fun x hx => by rw [i2.i (by unfold kZ kH; omega)]; exact su.1 x hx, su.2⟩
    obtain ⟨U, u1, u2⟩ := m_carryingAt hD hE mT sT hk ht hd (show i < 2 ^ 31 by omega)
    rw [if_pos (by omega)] at u2
    have sU : U.1 171 t = nI q := by rw [u1.i (by unfold kH; omega), i2.i (by unfold kZ kH; omega)]; exact hs
    refine ⟨cpL U 173 (40 * t + i) (cv (Int32.toInt64 (nI (fd1 D E k to (plc D E k to (E.at' k) i))))), ?_, fun y hy => ?_, (i2.tr (u1.le (fun _ _ h => Or.inr h))).L (by exact Or.inl ⟨rfl, by omega, by omega⟩)⟩
    · rw [fX12_lists_90]
      simp (disch := omega) only [lit, lm1, nI_add, pk_mul, nm_eq, nm_eq', nm_lt, nm_lt', nm_le, nm_le', x_lt, x_le, x_eq, x_in, x_cl, x_div, x_sub, x_rem, x_min, x_max, x_and, x_or, x_xor, x_df, x_shl, bI_0, bI_1, bI_bo, lg_eq, toL_inj, ls_nI, decide_eq_false_iff_not, decide_eq_true_eq, Bool.true_eq_false, Bool.false_eq_true, bq, if_pos, if_neg, if_true, if_false, lq, Nat.reduceAdd, Nat.reduceMul, Nat.reduceSub, Nat.reduceDiv, Nat.reduceMod, u2, sU, hcv]
    · by_cases e : y = i
      · rw [e]; exact sL1
      · rw [sLn (Or.inr (by omega)), u1.l (by unfold kH; omega)]; exact i1 y (by omega)
  · rw [fX12_lists_90]
    simp (disch := omega) only [lit, lm1, nI_add, pk_mul, nm_eq, nm_eq', nm_lt, nm_lt', nm_le, nm_le', x_lt, x_le, x_eq, x_in, x_cl, x_div, x_sub, x_rem, x_min, x_max, x_and, x_or, x_xor, x_df, x_shl, bI_0, bI_1, bI_bo, lg_eq, toL_inj, ls_nI, decide_eq_false_iff_not, decide_eq_true_eq, Bool.true_eq_false, Bool.false_eq_true, bq, if_pos, if_neg, if_true, if_false, lq, Nat.reduceAdd, Nat.reduceMul, Nat.reduceSub, Nat.reduceDiv, Nat.reduceMod]
end LI
theorem q_lists : cpQ_lists cpRl := by
  intro x1 x2 x3 S hR
  obtain ⟨D, E, hD, hE, c, m, n, w⟩ := hR.2.2.2.1.un
  have cS : cA D E S := ⟨c, n⟩
  have mS : mA D E S := ⟨m, w⟩
  have c4 := hD.c4
  have k6 := hD.k6
  have w1 := m_win 4 3 (by decide)
  have hR0 : cpRl (cpI S 150 0 (nI 0)) := hR.kp (kM_thr S (nI 0)) (fun k j q => q.1)
  have m0 := mS.thr hD (nI 0)
  have hc : ∀ (x : Int32) (S : cpS), fX11_hasTray x S = some (bI (cpLs' x 4), S) := fun x S => by rw [e_hasTray, bI_if]
  rcases in_or x1 4 with ⟨t, ht, rfl⟩ | h1
  · rcases arg2 D x2 x3 with ⟨k, to, hk, hto, rfl, rfl⟩ | h
    · have ha := hE.at' k hk
      obtain ⟨b1, b2⟩ := hR.2.2.1 t ht
      rcases b2 with b2 | ⟨⟨q, hq, b3⟩, sz, hsz, b4, b5, b6⟩
      · have hi : fX9_isMissing (139 + 2 * t) S = some (nI 1, S) := by unfold fX9_isMissing; rw [b1, b2, if_pos rfl]; rfl
        have hm := e_noTray (S := cpI S 150 0 (nI 0)) ht
        rw [sIr (by decide), if_pos b2] at hm
        refine ⟨-6, S, cpI S 150 0 (nI 0), ?_, ?_, hR0⟩
        · unfold fX11_lists
          simp (disch := omega) only [lit, lm1, nI_add, pk_mul, nm_eq, nm_eq', nm_lt, nm_lt', nm_le, nm_le', x_lt, x_le, x_eq, x_in, x_cl, x_div, x_sub, x_rem, x_min, x_max, x_and, x_or, x_xor, x_df, x_shl, bI_0, bI_1, bI_bo, lg_eq, toL_inj, ls_nI, decide_eq_false_iff_not, decide_eq_true_eq, Bool.true_eq_false, Bool.false_eq_true, bq, if_pos, if_neg, if_true, if_false, lq, Nat.reduceAdd, Nat.reduceMul, Nat.reduceSub, Nat.reduceDiv, Nat.reduceMod, hc, c_cap1 hD cS hk hto, hi]
        · unfold fX12_lists
          simp (disch := omega) only [lit, lm1, nI_add, pk_mul, nm_eq, nm_eq', nm_lt, nm_lt', nm_le, nm_le', x_lt, x_le, x_eq, x_in, x_cl, x_div, x_sub, x_rem, x_min, x_max, x_and, x_or, x_xor, x_df, x_shl, bI_0, bI_1, bI_bo, lg_eq, toL_inj, ls_nI, decide_eq_false_iff_not, decide_eq_true_eq, Bool.true_eq_false, Bool.false_eq_true, bq, if_pos, if_neg, if_true, if_false, lq, Nat.reduceAdd, Nat.reduceMul, Nat.reduceSub, Nat.reduceDiv, Nat.reduceMod, w1, m_noCoin1 hD m0 hk hto, hm]
          rfl
      · have nq := nI_nm hq
        have hsn : ¬ S.1 171 t = -1 := by rw [b3]; exact nq
        have hi : fX9_isMissing (139 + 2 * t) S = some (nI 0, S) := by unfold fX9_isMissing; rw [b1, b3, if_neg nq]; rfl
        obtain ⟨A, a1, a2, a3⟩ := c_learn hD hE cS false hk
        have a1 : fX4_learn (nI k) (nI 0) S = some ((), A) := a1
        have cA' := cS.cc (a3.le (fun _ _ => kL_C))
        obtain ⟨B, b1', b2', b3'⟩ := c_measureTo hD cA' a2 hto
        have cB := cA'.cc (b3'.le (fun _ _ => k122_C))
        have lB := a2.kp b3' (fun q j h => by unfold k122 at h; omega)
        have kB' : Kp kC S B := (a3.le (fun _ _ => kL_C)).tr (b3'.le (fun _ _ => k122_C))
        have e := b2' (E.at' k) ha
        cases hd : dst D E k to (E.at' k) with
        | none =>
          rw [hd] at e
          have e : B.1 122 (E.at' k) = nM := e
          have mB : mA D E B := mS.kp hD kB' (fun k j q e => by have := q.2; omega)
          have mB0 := mB.thr hD (nI 0)
          have hm := e_noTray (S := cpI B 150 0 (nI 0)) ht
          rw [sIr (by decide), kB'.i (fun q => by have := q.2; omega), if_neg hsn] at hm
          have hm : fX12_noTray (nI t) (cpI B 150 0 (nI 0)) = some (nI 0, cpI B 150 0 (nI 0)) := hm
          obtain ⟨T, t1, t2, t3, t4, t5⟩ := m_laysStill hD hE mB0 hk hto
          rw [hd] at t1
          have t1 : fX12_laysStill (nI k) (nI to) (cpI B 150 0 (nI 0)) = some (nI 268435456, T) := t1
          refine ⟨-5, B, T, ?_, ?_, hR.kp ((kB'.le (fun k j q => q.1)).tr (((kM_thr B (nI 0)).tr (t5.le (fun _ _ => kS_M))).le (fun k j q => q.1))) (fun k j q => q)⟩
          · unfold fX11_lists
            simp (disch := omega) only [lit, lm1, nI_add, pk_mul, nm_eq, nm_eq', nm_lt, nm_lt', nm_le, nm_le', x_lt, x_le, x_eq, x_in, x_cl, x_div, x_sub, x_rem, x_min, x_max, x_and, x_or, x_xor, x_df, x_shl, bI_0, bI_1, bI_bo, lg_eq, toL_inj, ls_nI, decide_eq_false_iff_not, decide_eq_true_eq, Bool.true_eq_false, Bool.false_eq_true, bq, if_pos, if_neg, if_true, if_false, lq, Nat.reduceAdd, Nat.reduceMul, Nat.reduceSub, Nat.reduceDiv, Nat.reduceMod, hc, c_cap1 hD cS hk hto, hi, a1, b1', cB.at', e, eq_self]
          · unfold fX12_lists
            simp (disch := omega) only [lit, lm1, nI_add, pk_mul, nm_eq, nm_eq', nm_lt, nm_lt', nm_le, nm_le', x_lt, x_le, x_eq, x_in, x_cl, x_div, x_sub, x_rem, x_min, x_max, x_and, x_or, x_xor, x_df, x_shl, bI_0, bI_1, bI_bo, lg_eq, toL_inj, ls_nI, decide_eq_false_iff_not, decide_eq_true_eq, Bool.true_eq_false, Bool.false_eq_true, bq, if_pos, if_neg, if_true, if_false, lq, Nat.reduceAdd, Nat.reduceMul, Nat.reduceSub, Nat.reduceDiv, Nat.reduceMod, w1, m_noCoin1 hD mB0 hk hto, hm, t1]
        | some N =>
          have hN := (dst_in hd).1
          rw [hd] at e
          have e : B.1 122 (E.at' k) = nI N := e
          have tB : ∀ k j, 139 ≤ k → k ≤ 146 → B.1 k j = S.1 k j := fun k j g1 g2 => kB'.i (kC_tr g1 g2)
          obtain ⟨cv, v1, v2⟩ := cut_all hq
          obtain ⟨T, t1, t2, t3⟩ := c_lists107 hD cB (M := min N sz) (t := t) (q := q) (cv := cv) lB b2' hk hto hd (by omega) ht (by rw [tB _ _ (by omega) (by omega), b1, b3]) v1
          have kT : Kp (fun k j => kC k j ∨ kY t (min N sz) k j) S T := (kB'.le (fun _ _ h => Or.inl h)).tr (t3.le (fun _ _ h => Or.inr h))
          have mT : mA D E T := mS.kp hD kT (fun k j q e => by rcases q with q | q; (have := q.2; omega); (unfold kY at q; omega))
          have mT0 := mT.thr hD (nI 0)
          have hm := e_noTray (S := cpI T 150 0 (nI 0)) ht
          have eT : ∀ k j, 150 ≤ k → T.1 k j = S.1 k j ∧ T.2 k j = S.2 k j := fun k j g => kT k j (fun q => by rcases q with q | q; (have := q.2; omega); (unfold kY at q; omega))
          rw [sIr (by decide), (eT 171 t (by omega)).1, if_neg hsn] at hm
          have hm : fX12_noTray (nI t) (cpI T 150 0 (nI 0)) = some (nI 0, cpI T 150 0 (nI 0)) := hm
          obtain ⟨L, l1, l2, l3, l4, l5⟩ := m_laysStill hD hE mT0 hk hto
          rw [hd] at l1
          have l1 : fX12_laysStill (nI k) (nI to) (cpI T 150 0 (nI 0)) = some (nI N, L) := l1
          have kL' : Kp kM T L := (kM_thr T (nI 0)).tr (l5.le (fun _ _ => kS_M))
          have eL : ∀ k j, 171 ≤ k → k ≤ 173 → L.1 k j = S.1 k j ∧ L.2 k j = S.2 k j := fun k j g1 g2 => ⟨(kL'.i (kM_tr g1 g2)).trans (eT k j (by omega)).1, (kL'.l (kM_tr g1 g2)).trans (eT k j (by omega)).2⟩
          obtain ⟨U, u1, u2, u3⟩ := m_lists90 hD hE l4 (M := min N sz) (t := t) (q := q) (cv := cv) l2 hk hto hd (by omega) ht (by rw [(eL 171 t (by omega) (by omega)).1, b3]) v2
          refine ⟨nI (min N sz), T, U, ?_, ?_, hR.agY (Kp.agY (f := fun k j => (kC k j ∨ kY t (min N sz) k j) ∨ (kM k j ∨ kZ t (min N sz) k j)) ((kT.le (fun _ _ h => Or.inl h)).tr ((kL'.le (fun _ _ h => Or.inr (Or.inl h))).tr (u3.le (fun _ _ h => Or.inr (Or.inr h))))) (fun k j h => ?_)) (fun t' ht' => ?_)⟩
          · unfold fX11_lists
            simp (disch := omega) only [lit, lm1, nI_add, pk_mul, nm_eq, nm_eq', nm_lt, nm_lt', nm_le, nm_le', x_lt, x_le, x_eq, x_in, x_cl, x_div, x_sub, x_rem, x_min, x_max, x_and, x_or, x_xor, x_df, x_shl, bI_0, bI_1, bI_bo, lg_eq, toL_inj, ls_nI, decide_eq_false_iff_not, decide_eq_true_eq, Bool.true_eq_false, Bool.false_eq_true, bq, if_pos, if_neg, if_true, if_false, lq, Nat.reduceAdd, Nat.reduceMul, Nat.reduceSub, Nat.reduceDiv, Nat.reduceMod, hc, c_cap1 hD cS hk hto, hi, a1, b1', cB.at', e, tB (139 + 2 * t) 1 (by omega) (by omega), b4]
            exact t1
          · unfold fX12_lists
            by_cases hle : sz ≤ N
            · rw [show min N sz = sz by omega] at u1 ⊢
              simp (disch := omega) only [lit, lm1, nI_add, pk_mul, nm_eq, nm_eq', nm_lt, nm_lt', nm_le, nm_le', x_lt, x_le, x_eq, x_in, x_cl, x_div, x_sub, x_rem, x_min, x_max, x_and, x_or, x_xor, x_df, x_shl, bI_0, bI_1, bI_bo, lg_eq, toL_inj, ls_nI, decide_eq_false_iff_not, decide_eq_true_eq, Bool.true_eq_false, Bool.false_eq_true, bq, if_pos, if_neg, if_true, if_false, lq, Nat.reduceAdd, Nat.reduceMul, Nat.reduceSub, Nat.reduceDiv, Nat.reduceMod, w1, m_noCoin1 hD mT0 hk hto, hm, l1, (eL 172 t (by omega) (by omega)).1, b5]
              exact u1
            · rw [show min N sz = N by omega] at u1 ⊢
              simp (disch := omega) only [lit, lm1, nI_add, pk_mul, nm_eq, nm_eq', nm_lt, nm_lt', nm_le, nm_le', x_lt, x_le, x_eq, x_in, x_cl, x_div, x_sub, x_rem, x_min, x_max, x_and, x_or, x_xor, x_df, x_shl, bI_0, bI_1, bI_bo, lg_eq, toL_inj, ls_nI, decide_eq_false_iff_not, decide_eq_true_eq, Bool.true_eq_false, Bool.false_eq_true, bq, if_pos, if_neg, if_true, if_false, lq, Nat.reduceAdd, Nat.reduceMul, Nat.reduceSub, Nat.reduceDiv, Nat.reduceMod, w1, m_noCoin1 hD mT0 hk hto, hm, l1, (eL 172 t (by omega) (by omega)).1, b5]
              exact u1
          · rcases h with (h | h) | (h | h)
            · exact Or.inl h.1
            · unfold kY at h
              obtain ⟨rfl, -⟩ := h
              exact Or.inr ⟨(cY1 ht).2, by omega, by omega⟩
            · exact Or.inl h.1
            · rcases h with h | h
              · obtain ⟨rfl, -⟩ := h
                exact Or.inr ⟨by decide, by decide, by decide⟩
              · exact Or.inl (kH_M h).1
          · obtain ⟨d1, d2⟩ := hR.2.2.1 t' ht'
            have z1 : ∀ j, U.1 (139 + 2 * t') j = S.1 (139 + 2 * t') j := fun j => by
              rw [u3.i (by unfold kZ kH; omega), kL'.i (fun q => by have := q.2; omega), t3.i (by unfold kY; omega)]
              exact tB _ j (by omega) (by omega)
            have z2 : ∀ k j, 171 ≤ k → k ≤ 172 → U.1 k j = S.1 k j := fun k j g1 g2 => by
              rw [u3.i (by unfold kZ kH; omega)]
              exact (eL k j (by omega) (by omega)).1
            rw [z1, z1, z2 _ _ (by omega) (by omega), z2 _ _ (by omega) (by omega)]
            refine ⟨d1, ?_⟩
            rcases d2 with d2 | ⟨d3, n', d4, d5, d6, d7⟩
            · exact Or.inl d2
            · refine Or.inr ⟨d3, n', d4, d5, d6, fun j' hj' => ?_⟩
              have y1 : U.2 (140 + 2 * t') j' = T.2 (140 + 2 * t') j' := by rw [u3.l (by unfold kZ kH; omega), kL'.l (fun q => by have := q.2; omega)]
              rw [y1]
              by_cases e : t' = t ∧ j' < min N sz
              · obtain ⟨rfl, ej⟩ := e
                rw [u2 j' ej, show 140 + 2 * t' = 139 + 2 * t' + 1 by omega, t2 j' ej]
              · rw [u3.l (by unfold kZ kH; omega), (eL 173 _ (by omega) (by omega)).2, t3.l (by unfold kY; omega), kB'.l (kC_tr (by omega) (by omega))]
                exact d7 j' hj'
    · have hno : fX12_noCoin x2 x3 (cpI S 150 0 (nI 0)) = some (-2, cpI S 150 0 (nI 0)) := by rw [m_noCoin hD m0, h]; rfl
      refine ⟨-2, S, cpI S 150 0 (nI 0), ?_, ?_, hR0⟩
      · unfold fX11_lists
        simp (disch := omega) only [lit, lm1, nI_add, pk_mul, nm_eq, nm_eq', nm_lt, nm_lt', nm_le, nm_le', x_lt, x_le, x_eq, x_in, x_cl, x_div, x_sub, x_rem, x_min, x_max, x_and, x_or, x_xor, x_df, x_shl, bI_0, bI_1, bI_bo, lg_eq, toL_inj, ls_nI, decide_eq_false_iff_not, decide_eq_true_eq, Bool.true_eq_false, Bool.false_eq_true, bq, if_pos, if_neg, if_true, if_false, lq, Nat.reduceAdd, Nat.reduceMul, Nat.reduceSub, Nat.reduceDiv, Nat.reduceMod, hc, c_coinAndPlace hD cS, h]
      · unfold fX12_lists
        simp (disch := omega) only [lit, lm1, nI_add, pk_mul, nm_eq, nm_eq', nm_lt, nm_lt', nm_le, nm_le', x_lt, x_le, x_eq, x_in, x_cl, x_div, x_sub, x_rem, x_min, x_max, x_and, x_or, x_xor, x_df, x_shl, bI_0, bI_1, bI_bo, lg_eq, toL_inj, ls_nI, decide_eq_false_iff_not, decide_eq_true_eq, Bool.true_eq_false, Bool.false_eq_true, bq, if_pos, if_neg, if_true, if_false, lq, Nat.reduceAdd, Nat.reduceMul, Nat.reduceSub, Nat.reduceDiv, Nat.reduceMod, w1, hno]
        rfl
  · refine ⟨-2, S, cpI S 150 0 (nI 0), ?_, ?_, hR0⟩
    · unfold fX11_lists
      simp (disch := omega) only [lit, lm1, nI_add, pk_mul, nm_eq, nm_eq', nm_lt, nm_lt', nm_le, nm_le', x_lt, x_le, x_eq, x_in, x_cl, x_div, x_sub, x_rem, x_min, x_max, x_and, x_or, x_xor, x_df, x_shl, bI_0, bI_1, bI_bo, lg_eq, toL_inj, ls_nI, decide_eq_false_iff_not, decide_eq_true_eq, Bool.true_eq_false, Bool.false_eq_true, bq, if_pos, if_neg, if_true, if_false, lq, Nat.reduceAdd, Nat.reduceMul, Nat.reduceSub, Nat.reduceDiv, Nat.reduceMod, hc, h1]
    · unfold fX12_lists
      simp (disch := omega) only [lit, lm1, nI_add, pk_mul, nm_eq, nm_eq', nm_lt, nm_lt', nm_le, nm_le', x_lt, x_le, x_eq, x_in, x_cl, x_div, x_sub, x_rem, x_min, x_max, x_and, x_or, x_xor, x_df, x_shl, bI_0, bI_1, bI_bo, lg_eq, toL_inj, ls_nI, decide_eq_false_iff_not, decide_eq_true_eq, Bool.true_eq_false, Bool.false_eq_true, bq, if_pos, if_neg, if_true, if_false, lq, Nat.reduceAdd, Nat.reduceMul, Nat.reduceSub, Nat.reduceDiv, Nat.reduceMod, w1, h1]
