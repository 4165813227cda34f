/-! trays, as both sides see them; deeds one behind the other -/
abbrev cpT : Type := Option (Nat × (Nat → Int64))
def cY (t : Nat) (o : cpT) (S : cpS) : Prop := match o with
  | none => S.1 (139 + 2 * t) 2 = nM
  | some (n, v) => S.1 (139 + 2 * t) 2 ≠ nM ∧ S.1 (139 + 2 * t) 1 = nI n ∧ ∀ j, j < n → S.2 (139 + 2 * t + 1) j = v j
def mY (t : Nat) (o : cpT) (S : cpS) : Prop := match o with
  | none => S.1 171 t = nM
  | some (n, v) => S.1 171 t ≠ nM ∧ S.1 172 t = nI n ∧ ∀ j, j < n → S.2 173 (40 * t + j) = v j
def yO (o : cpT) : Prop := ∀ n v, o = some (n, v) → n ≤ 40
theorem cpRl.tray {S : cpS} (hR : cpRl S) {t : Nat} (ht : t < 4) : ∃ o, cY t o S ∧ mY t o S ∧ yO o := by
  obtain ⟨b1, b2⟩ := hR.2.2.1 t ht
  rcases b2 with b2 | ⟨⟨q, hq, b3⟩, n, hn, b4, b5, b6⟩
  · exact ⟨none, by show S.1 (139 + 2 * t) 2 = nM; rw [b1]; exact b2, b2, fun n v e => by cases e⟩
  · have hne : S.1 171 t ≠ nM := by rw [b3]; intro e; have := nm_eq (show q < 2 ^ 31 by omega); rw [e] at this; exact this ▸ rfl
    refine ⟨some (n, fun j => S.2 (139 + 2 * t + 1) j), ⟨by rw [b1]; exact hne, b4, fun j hj => rfl⟩, ⟨hne, b5, fun j hj => ?_⟩, fun n' v e => by cases e; exact hn⟩
    rw [b6 j hj, show 140 + 2 * t = 139 + 2 * t + 1 by omega]
theorem cY.kp {t : Nat} {o : cpT} {S T : cpS} (h : cY t o S) (ht : t < 4) {f : Nat → Nat → Prop} (g : Kp f S T) (hf : ∀ k j, 139 ≤ k → k ≤ 146 → ¬ f k j) : cY t o T := by
  cases o with
  | none => show T.1 (139 + 2 * t) 2 = nM; rw [g.i (hf _ _ (by omega) (by omega))]; exact h
  | some x =>
    obtain ⟨n, v⟩ := x
    obtain ⟨h1, h2, h3⟩ := h
    exact ⟨by rw [g.i (hf _ _ (by omega) (by omega))]; exact h1, by rw [g.i (hf _ _ (by omega) (by omega))]; exact h2, fun j hj => by rw [g.l (hf _ _ (by omega) (by omega))]; exact h3 j hj⟩
theorem mY.kp {t : Nat} {o : cpT} {S T : cpS} (h : mY t o S) {f : Nat → Nat → Prop} (g : Kp f S T) (hf : ∀ k j, 171 ≤ k → k ≤ 173 → ¬ f k j) : mY t o T := by
  cases o with
  | none => show T.1 171 t = nM; rw [g.i (hf _ _ (by omega) (by omega))]; exact h
  | some x =>
    obtain ⟨n, v⟩ := x
    obtain ⟨h1, h2, h3⟩ := h
    exact ⟨by rw [g.i (hf _ _ (by omega) (by omega))]; exact h1, by rw [g.i (hf _ _ (by omega) (by omega))]; exact h2, fun j hj => by rw [g.l (hf _ _ (by omega) (by omega))]; exact h3 j hj⟩
theorem core_tr {k : Nat} (h1 : 139 ≤ k) (h2 : k ≤ 146) : cpCore k = true := by unfold cpCore; simp; omega
theorem kC_tr {k j : Nat} (h1 : 139 ≤ k) (h2 : k ≤ 146) : ¬ kC k j := fun q => by have := q.1.1; rw [core_tr h1 h2] at this; cases this
theorem kM_tr {k j : Nat} (h1 : 171 ≤ k) (h2 : k ≤ 173) : ¬ kM k j := fun q => by
  have := q.1.1
  rcases (show k = 171 ∨ k = 172 ∨ k = 173 by omega) with rfl | rfl | rfl <;> exact absurd this (by decide)
theorem cY.miss {t : Nat} {o : cpT} {S : cpS} (h : cY t o S) : fX9_isMissing (139 + 2 * t) S = some (bI o.isNone, S) := by
  unfold fX9_isMissing
  cases o with
  | none =>
    have h : S.1 (139 + 2 * t) 2 = nM := h
    simp (disch := omega) only [lit, lm1, nI_add, pk_mul, nm_eq, nm_eq', nm_lt, nm_lt', nm_le, nm_le', x_lt, x_le, x_eq, x_in, x_cl, x_div, x_sub, x_rem, x_min, x_max, x_and, x_or, x_xor, x_df, x_shl, bI_0, bI_1, bI_bo, lg_eq, toL_inj, ls_nI, decide_eq_false_iff_not, decide_eq_true_eq, Bool.true_eq_false, Bool.false_eq_true, bq, if_pos, if_neg, if_true, if_false, lq, Nat.reduceAdd, Nat.reduceMul, Nat.reduceSub, Nat.reduceDiv, Nat.reduceMod, h, eq_self]; rfl
  | some x =>
    have h1 : (S.1 (139 + 2 * t) 2 = nM) = False := eq_false h.1
    simp (disch := omega) only [lit, lm1, nI_add, pk_mul, nm_eq, nm_eq', nm_lt, nm_lt', nm_le, nm_le', x_lt, x_le, x_eq, x_in, x_cl, x_div, x_sub, x_rem, x_min, x_max, x_and, x_or, x_xor, x_df, x_shl, bI_0, bI_1, bI_bo, lg_eq, toL_inj, ls_nI, decide_eq_false_iff_not, decide_eq_true_eq, Bool.true_eq_false, Bool.false_eq_true, bq, if_pos, if_neg, if_true, if_false, lq, Nat.reduceAdd, Nat.reduceMul, Nat.reduceSub, Nat.reduceDiv, Nat.reduceMod, h1]; rfl
theorem mY.no {t : Nat} {o : cpT} {S : cpS} (h : mY t o S) (ht : t < 4) : fX12_noTray (nI t) S = some (if o.isNone then -6 else nI 0, S) := by
  rw [e_noTray ht]
  cases o with
  | none => rw [if_pos (show S.1 171 t = -1 from h)]; rfl
  | some x => rw [if_neg (show ¬ S.1 171 t = -1 from h.1)]; rfl
/-- a question that looks into a tray -/
theorem qY {ρ : Type} {S : cpS} {F G : cpS → Option (ρ × cpS)} (hR : cpRl S) {t : Nat} (ht : t < 4) (h : ∀ (D : cpD) (E : cpE) (o : cpT), D.WF → E.WF D → yO o → ∃ r, (∀ S, cA D E S → cY t o S → ∃ T, F S = some (r, T) ∧ Kp kC S T) ∧ ∀ S, mA D E S → mY t o S → ∃ U, G S = some (r, U) ∧ Kp kM S U) : ∃ (r : ρ) (S1 S2 : cpS), F S = some (r, S1) ∧ G S1 = some (r, S2) ∧ cpRl S2 := by
  obtain ⟨D, E, hD, hE, c, m, n, w⟩ := hR.2.2.2.1.un
  obtain ⟨o, o1, o2, o3⟩ := hR.tray ht
  obtain ⟨r, h1, h2⟩ := h D E o hD hE o3
  obtain ⟨T, t1, t2⟩ := h1 S ⟨c, n⟩ o1
  have m0 : mA D E S := ⟨m, w⟩
  have mT : mA D E T := m0.kp hD t2 (fun k j q e => by have := q.2; omega)
  obtain ⟨U, u1, u2⟩ := h2 T mT (o2.kp t2 (fun k j a b q => by have := q.2; omega))
  exact ⟨r, T, U, t1, u1, hR.kp ((t2.le (fun k j q => q.1)).tr (u2.le (fun k j q => q.1))) (fun k j q => q)⟩
theorem mY.thr {t : Nat} {o : cpT} {S : cpS} (h : mY t o S) (x : Int32) : mY t o (cpI S 150 0 x) := h.kp (kM_thr S x) (fun k j a b => kM_tr a b)
/-! deeds one behind the other -/
def rn (D : cpD) (v : Nat → Int64) : Nat → Nat → cpE → Nat × Nat × cpE
  | 0, i, E => (i, 0, E)
  | d + 1, i, E => if (dd D E (v i)).1 = 0 then rn D v d (i + 1) (dd D E (v i)).2 else (i, (dd D E (v i)).1, E)
theorem dd_ne {D : cpD} {E : cpE} {v : Int64} (h : (dd D E v).1 ≠ 0) : (dd D E v).2 = E := by
  rcases v64 v with ⟨k, hk, rfl⟩ | h'
  · rw [dd_N D E hk] at h ⊢
    unfold ddN at h ⊢
    split at h
    · exact absurd rfl h
    · rename_i h1
      rw [if_neg h1]
      split at h
      · rename_i h2
        rw [if_pos h2]
        split at h
        · exact absurd rfl h
        · rename_i h3; rw [if_neg h3]
      · rename_i h2
        rw [if_neg h2]
        split at h
        · rename_i h3
          rw [if_pos h3]
          split at h
          · rename_i h4
            rw [if_pos h4]
            split at h
            · exact absurd rfl h
            · rename_i h5; rw [if_neg h5]
          · rename_i h4; rw [if_neg h4]
        · rename_i h3; rw [if_neg h3]
  · rw [dd_out D E h']
theorem rn_sp {D : cpD} {v : Nat → Int64} (hD : D.WF) : ∀ d i E, E.WF D → (rn D v d i E).2.2.WF D ∧ i ≤ (rn D v d i E).1 ∧ (rn D v d i E).1 ≤ i + d ∧ ((rn D v d i E).2.1 = 0 ↔ (rn D v d i E).1 = i + d) ∧ ((rn D v d i E).1 = i → (rn D v d i E).2.2 = E) ∧ ((rn D v d i E).2.1 ≠ 0 → dd D (rn D v d i E).2.2 (v (rn D v d i E).1) = ((rn D v d i E).2.1, (rn D v d i E).2.2)) ∧ (rn D v d i E).2.1 < 5 := by
  intro d
  induction d with
  | zero => intro i E hE; exact ⟨hE, Nat.le_refl _, Nat.le_refl _, ⟨fun _ => rfl, fun _ => rfl⟩, fun _ => rfl, fun h => absurd rfl h, by show 0 < 5; decide⟩
  | succ d ih =>
    intro i E hE
    rw [rn]
    by_cases h : (dd D E (v i)).1 = 0
    · rw [if_pos h]
      obtain ⟨h1, h2, h3, h4, h5, h6, h7⟩ := ih (i + 1) (dd D E (v i)).2 (dd_WF hD hE _)
      refine ⟨h1, by omega, by omega, ?_, fun e => by omega, h6, h7⟩
      rw [h4]; omega
    · rw [if_neg h]
      refine ⟨hE, Nat.le_refl _, by (try dsimp only); omega, ⟨fun e => absurd e h, fun e => by (try dsimp only at e); omega⟩, fun _ => rfl, fun _ => ?_, ?_⟩
      · (try dsimp only)
        have := dd_ne h
        exact Prod.ext rfl this
      · (try dsimp only)
        rcases v64 (v i) with ⟨k, hk, e⟩ | h'
        · rw [e, dd_N D E hk]
          have z0 : 0 < 5 := by decide
          have z1 : 1 < 5 := by decide
          unfold ddN
          split
          · exact z0
          · split
            · split
              · exact z0
              · exact z1
            · split
              · split
                · split
                  · exact z0
                  · show wy D E ((k - 10000) / 1000) ((k - 10000) / 100 % 10) ((k - 10000) / 10 % 10) ((k - 10000) % 10) E.h < 5
                    unfold wy
                    rcases wyF_cases D E ((k - 10000) / 1000) ((k - 10000) / 100 % 10) ((k - 10000) / 10 % 10) (E.at' ((k - 10000) / 10 % 10)) ((k - 10000) % 10) E.h with g | g | g | g <;> (rw [g]; decide)
                · exact z1
              · exact z1
        · rw [dd_out D E h']; exact (by decide : 1 < 5)
section RN
variable {D : cpD}
theorem kDc_co {k j : Nat} (h : kDc k j) : ¬ (139 ≤ k ∧ k ≤ 146) := by unfold kDc kF at h; omega
theorem c_doAll2 (hD : D.WF) {t n : Nat} {v : Nat → Int64} (ht : t < 4) (hn : n ≤ 40) : ∀ d i f (E : cpE) (S : cpS), i + d = n → d < f → E.WF D → cA D E S → cY t (some (n, v)) S → ∃ T, fX11_doAll_2 (139 + 2 * t) f (nI i) S = some (nI (rn D v d i E).1, T) ∧ Kp kDc S T ∧ cN (rn D v d i E).2.2 T 57 := by
  intro d
  induction d with
  | zero =>
    intro i f E S h hf hE c y
    obtain ⟨f, rfl⟩ : ∃ g, f = g + 1 := ⟨f - 1, by omega⟩
    obtain rfl : i = n := by omega
    refine ⟨S, ?_, Kp.rf, c.2⟩
    rw [fX11_doAll_2]
    simp (disch := omega) only [lit, lm1, nI_add, pk_mul, nm_eq, nm_eq', nm_lt, nm_lt', nm_le, nm_le', x_lt, x_le, x_eq, x_in, x_cl, x_div, x_sub, x_rem, x_min, x_max, x_and, x_or, x_xor, x_df, x_shl, bI_0, bI_1, bI_bo, lg_eq, toL_inj, ls_nI, decide_eq_false_iff_not, decide_eq_true_eq, Bool.true_eq_false, Bool.false_eq_true, bq, if_pos, if_neg, if_true, if_false, lq, Nat.reduceAdd, Nat.reduceMul, Nat.reduceSub, Nat.reduceDiv, Nat.reduceMod, y.2.1]
    rfl
  | succ d ih =>
    intro i f E S h hf hE c y
    obtain ⟨f, rfl⟩ : ∃ g, f = g + 1 := ⟨f - 1, by omega⟩
    obtain ⟨A, a1, a2, a3⟩ := c_tryDeed hD hE c (v i)
    have cA' : cA D (dd D E (v i)).2 A := ⟨c.1.kp a2 (fun k j p1 p2 q => by unfold kDc kF at q; omega), a3⟩
    have yA := y.kp ht a2 (fun k j p1 p2 q => kDc_co q ⟨p1, p2⟩)
    have e0 := y.2.2 i (by omega)
    rw [rn]
    by_cases h0 : (dd D E (v i)).1 = 0
    · rw [if_pos h0]
      rw [h0] at a1
      obtain ⟨T, t1, t2, t3⟩ := ih (i + 1) f (dd D E (v i)).2 A (by omega) (by omega) (dd_WF hD hE _) cA' yA
      refine ⟨T, ?_, a2.tr t2, t3⟩
      rw [fX11_doAll_2]
      simp (disch := omega) only [lit, lm1, nI_add, pk_mul, nm_eq, nm_eq', nm_lt, nm_lt', nm_le, nm_le', x_lt, x_le, x_eq, x_in, x_cl, x_div, x_sub, x_rem, x_min, x_max, x_and, x_or, x_xor, x_df, x_shl, bI_0, bI_1, bI_bo, lg_eq, toL_inj, ls_nI, decide_eq_false_iff_not, decide_eq_true_eq, Bool.true_eq_false, Bool.false_eq_true, bq, if_pos, if_neg, if_true, if_false, lq, Nat.reduceAdd, Nat.reduceMul, Nat.reduceSub, Nat.reduceDiv, Nat.reduceMod, y.2.1, e0, a1]
      exact t1
    · rw [if_neg h0]
      have h5 := (rn_sp (v := v) hD (d + 1) i E hE).2.2.2.2.2.2
      rw [rn, if_neg h0] at h5
      (try dsimp only at h5)
      rw [dd_ne h0] at a3
      refine ⟨A, ?_, a2, a3⟩
      rw [fX11_doAll_2]
      simp (disch := omega) only [lit, lm1, nI_add, pk_mul, nm_eq, nm_eq', nm_lt, nm_lt', nm_le, nm_le', x_lt, x_le, x_eq, x_in, x_cl, x_div, x_sub, x_rem, x_min, x_max, x_and, x_or, x_xor, x_df, x_shl, bI_0, bI_1, bI_bo, lg_eq, toL_inj, ls_nI, decide_eq_false_iff_not, decide_eq_true_eq, Bool.true_eq_false, Bool.false_eq_true, bq, if_pos, if_neg, if_true, if_false, lq, Nat.reduceAdd, Nat.reduceMul, Nat.reduceSub, Nat.reduceDiv, Nat.reduceMod, y.2.1, e0, a1, h0]
theorem c_doAll (hD : D.WF) {t n : Nat} {v : Nat → Int64} (ht : t < 4) (hn : n ≤ 40) {E : cpE} {S : cpS} (hE : E.WF D) (c : cA D E S) (y : cY t (some (n, v)) S) : ∃ T, fX11_doAll (139 + 2 * t) S = some (nI (rn D v n 0 E).1, T) ∧ Kp kDc S T ∧ cN (rn D v n 0 E).2.2 T 57 := by
  unfold fX11_doAll
  simp only [lit]
  exact c_doAll2 hD ht hn n 0 cpFu E S (by omega) (by show n < 5000; omega) hE c y
def kDt (q j : Nat) : Prop := kDm q j ∨ (q = 150 ∧ j = 21)
theorem m_tells7 (hD : D.WF) {t n : Nat} {v : Nat → Int64} (ht : t < 4) (hn : n ≤ 40) : ∀ d i f (E : cpE) (S : cpS), i + d = n → d < f → E.WF D → mA D E S → mY t (some (n, v)) S → S.1 150 21 = nI 0 → ∃ T, fX12_tells_7 (nI t) f (nI i) S = some (nI (rn D v d i E).1, T) ∧ Kp kDt S T ∧ mN (rn D v d i E).2.2 T 62 ∧ T.1 150 21 = nI (rn D v d i E).2.1 := by
  intro d
  induction d with
  | zero =>
    intro i f E S h hf hE m y h0
    obtain ⟨f, rfl⟩ : ∃ g, f = g + 1 := ⟨f - 1, by omega⟩
    obtain rfl : i = n := by omega
    refine ⟨S, ?_, Kp.rf, m.2, h0⟩
    rw [fX12_tells_7]
    simp (disch := omega) only [lit, lm1, nI_add, pk_mul, nm_eq, nm_eq', nm_lt, nm_lt', nm_le, nm_le', x_lt, x_le, x_eq, x_in, x_cl, x_div, x_sub, x_rem, x_min, x_max, x_and, x_or, x_xor, x_df, x_shl, bI_0, bI_1, bI_bo, lg_eq, toL_inj, ls_nI, decide_eq_false_iff_not, decide_eq_true_eq, Bool.true_eq_false, Bool.false_eq_true, bq, if_pos, if_neg, if_true, if_false, lq, Nat.reduceAdd, Nat.reduceMul, Nat.reduceSub, Nat.reduceDiv, Nat.reduceMod, y.2.1]
    rfl
  | succ d ih =>
    intro i f E S h hf hE m y hz
    obtain ⟨f, rfl⟩ : ∃ g, f = g + 1 := ⟨f - 1, by omega⟩
    obtain ⟨A, a1, a2⟩ := m_whyNot hD hE m (v i)
    have h5 : (dd D E (v i)).1 < 5 := by
      have := (rn_sp (v := v) hD (d + 1) i E hE).2.2.2.2.2.2
      rw [rn] at this
      by_cases h0 : (dd D E (v i)).1 = 0
      · omega
      · rw [if_neg h0] at this; exact this
    have k1 : Kp kDt S (cpI A 150 21 (nI (dd D E (v i)).1)) := (a2.le (fun _ _ q => Or.inl (Or.inr q))).I (by exact Or.inr ⟨rfl, rfl⟩)
    have kk : Kp (fun q j => kG q j ∨ (q = 150 ∧ j = 21)) S (cpI A 150 21 (nI (dd D E (v i)).1)) := (a2.le (fun _ _ q => Or.inl q)).I (by exact Or.inr ⟨rfl, rfl⟩)
    have m1 : mA D E (cpI A 150 21 (nI (dd D E (v i)).1)) := m.kp hD kk (fun k j q => by unfold kG at q; omega)
    have y1 : mY t (some (n, v)) (cpI A 150 21 (nI (dd D E (v i)).1)) := y.kp kk (fun k j p1 p2 q => by unfold kG at q; omega)
    have e0 := y.2.2 i (by omega)
    have e1 := y1.2.2 i (by omega)
    rw [rn]
    by_cases h0 : (dd D E (v i)).1 = 0
    · rw [if_pos h0]
      obtain ⟨B, b1, b2, b3⟩ := m_does hD hE m1 (v i) h0
      have mB : mA D (dd D E (v i)).2 B := ⟨m1.1.kp hD b2 (fun j p1 p2 p3 q => by unfold kDm kG at q; omega), b3⟩
      have yB := y1.kp b2 (fun k j p1 p2 q => by unfold kDm kG at q; omega)
      have zB : B.1 150 21 = nI 0 := by rw [b2.i (by unfold kDm kG; omega), sI1, h0]
      obtain ⟨T, t1, t2, t3, t4⟩ := ih (i + 1) f (dd D E (v i)).2 B (by omega) (by omega) (dd_WF hD hE _) mB yB zB
      refine ⟨T, ?_, (k1.tr (b2.le (fun _ _ q => Or.inl q))).tr t2, t3, t4⟩
      rw [fX12_tells_7]
      simp (disch := omega) only [lit, lm1, nI_add, pk_mul, nm_eq, nm_eq', nm_lt, nm_lt', nm_le, nm_le', x_lt, x_le, x_eq, x_in, x_cl, x_div, x_sub, x_rem, x_min, x_max, x_and, x_or, x_xor, x_df, x_shl, bI_0, bI_1, bI_bo, lg_eq, toL_inj, ls_nI, decide_eq_false_iff_not, decide_eq_true_eq, Bool.true_eq_false, Bool.false_eq_true, bq, if_pos, if_neg, if_true, if_false, lq, Nat.reduceAdd, Nat.reduceMul, Nat.reduceSub, Nat.reduceDiv, Nat.reduceMod, y.2.1, e0, a1, sI1, h0, e1]
      rw [h0] at b1 e1
      simp (disch := omega) only [lit, lm1, nI_add, pk_mul, nm_eq, nm_eq', nm_lt, nm_lt', nm_le, nm_le', x_lt, x_le, x_eq, x_in, x_cl, x_div, x_sub, x_rem, x_min, x_max, x_and, x_or, x_xor, x_df, x_shl, bI_0, bI_1, bI_bo, lg_eq, toL_inj, ls_nI, decide_eq_false_iff_not, decide_eq_true_eq, Bool.true_eq_false, Bool.false_eq_true, bq, if_pos, if_neg, if_true, if_false, lq, Nat.reduceAdd, Nat.reduceMul, Nat.reduceSub, Nat.reduceDiv, Nat.reduceMod, e1, b1]
      exact t1
    · rw [if_neg h0]
      refine ⟨cpI A 150 21 (nI (dd D E (v i)).1), ?_, k1, m1.2, sI1⟩
      rw [fX12_tells_7]
      simp (disch := omega) only [lit, lm1, nI_add, pk_mul, nm_eq, nm_eq', nm_lt, nm_lt', nm_le, nm_le', x_lt, x_le, x_eq, x_in, x_cl, x_div, x_sub, x_rem, x_min, x_max, x_and, x_or, x_xor, x_df, x_shl, bI_0, bI_1, bI_bo, lg_eq, toL_inj, ls_nI, decide_eq_false_iff_not, decide_eq_true_eq, Bool.true_eq_false, Bool.false_eq_true, bq, if_pos, if_neg, if_true, if_false, lq, Nat.reduceAdd, Nat.reduceMul, Nat.reduceSub, Nat.reduceDiv, Nat.reduceMod, y.2.1, e0, a1, sI1, h0]
theorem m_tells (hD : D.WF) {t n : Nat} {v : Nat → Int64} (ht : t < 4) (hn : n ≤ 40) {E : cpE} {S : cpS} (hE : E.WF D) (m : mA D E S) (y : mY t (some (n, v)) S) : ∃ T, fX12_tells (nI t) S = some (nI (rn D v n 0 E).1, T) ∧ Kp kDt S T ∧ mN (rn D v n 0 E).2.2 T 62 ∧ T.1 150 21 = nI (rn D v n 0 E).2.1 := by
  have k0 : Kp (fun q j => q = 150 ∧ j = 21) S (cpI S 150 21 (nI 0)) := Kp.rf.I (by exact ⟨rfl, rfl⟩)
  obtain ⟨T, t1, t2, t3, t4⟩ := m_tells7 hD ht hn n 0 cpFu E (cpI S 150 21 (nI 0)) (by omega) (by show n < 5000; omega) hE (m.kp hD k0 (fun k j q => by omega)) (y.kp k0 (fun k j p1 p2 q => by omega)) sI1
  refine ⟨T, ?_, (k0.le (fun _ _ q => Or.inr q)).tr t2, t3, t4⟩
  unfold fX12_tells
  simp (disch := omega) only [lit, lm1, nI_add, pk_mul, nm_eq, nm_eq', nm_lt, nm_lt', nm_le, nm_le', x_lt, x_le, x_eq, x_in, x_cl, x_div, x_sub, x_rem, x_min, x_max, x_and, x_or, x_xor, x_df, x_shl, bI_0, bI_1, bI_bo, lg_eq, toL_inj, ls_nI, decide_eq_false_iff_not, decide_eq_true_eq, Bool.true_eq_false, Bool.false_eq_true, bq, if_pos, if_neg, if_true, if_false, lq, Nat.reduceAdd, Nat.reduceMul, Nat.reduceSub, Nat.reduceDiv, Nat.reduceMod]
  exact t1
end RN
