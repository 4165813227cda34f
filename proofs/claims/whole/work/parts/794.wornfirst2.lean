/-! the first row that wears so: the reference -/
theorem gD_congr {f g : Nat → Nat → Nat → Bool} {P K c : Nat} (h : ∀ p q b, p < P → q < P → b < K → f p q b = g p q b) : gD f P K c = gD g P K c := by
  unfold gD
  refine up_congr (N := P) (fun p s hp => ?_) P 0 none (by omega)
  refine up_congr (N := P) (fun q s hq => ?_) (P - (p + 1)) (p + 1) s (by omega)
  unfold gS
  cases s with
  | some v => rfl
  | none =>
    (try dsimp only)
    rw [ff_congr (N := K) (fun b hb => h p q b hp hq hb) K 0 (by omega)]
section WG
variable {D : cpD} {E : cpE} {S : cpS}
theorem mlw.hh {T : cpS} {c n t : Nat} {v : Nat → Int64} (w : mlw D E c n t v S) (hD : D.WF) (g : Kp kH S T) : mlw D E c n t v T :=
  ⟨w.1.H hD g, w.2.1.kp g (fun q j h => by unfold kH at h; omega), ⟨by rw [g.i (by unfold kH; omega)]; exact w.2.2.1.1, fun j hj => by rw [g.l (by unfold kH; omega)]; exact w.2.2.1.2 j hj⟩, fun j a hj ha => by rw [g.l (by unfold kH; omega)]; exact w.2.2.2 j a hj ha⟩
def fgd (D : cpD) (E : cpE) (c : Nat) (v : Nat → Int64) (n j a d : Nat) : Bool := fg D E c v n j a (d / 1000 % 10) (d / 100 % 10) (d % 10)
theorem m_canGo (hD : D.WF) (hE : E.WF D) {c n t j a d : Nat} {v : Nat → Int64} (hc : c < D.C) (ht : t < 4) (hn : n ≤ 8) (w : mlw D E c n t v S) (hj : j < n) (ha : a < D.K) (hd : dOk D c d) : ∃ T, fX12_canGo (nI t) (nI j) (nI d) (nI a) S = some (bI (fgd D E c v n j a d), T) ∧ Kp kH S T := by
  have c4 := hD.c4
  have k6 := hD.k6
  have p8 := hD.p8
  obtain ⟨p, q, b, hpq, hq, hb, rfl⟩ := hd
  obtain ⟨e1, e2, e3, e4, e5⟩ := dn_dec (c := c) (p := p) (q := q) (b := b) (by omega) (by omega) (by omega) (by omega)
  have hr := w.2.2.2 (j + 1) b (by omega) hb
  have hlt := rwD_lt (E := E) (c := c) (v := v) (d := n - (j + 1)) (j := j + 1) (a := b) hD (by omega)
  unfold fgd fg fX12_canGo
  rw [e1, e2, e4]
  by_cases h0 : rwD D E c v (n - (j + 1)) (j + 1) b = 0
  · rw [h0] at hr ⊢
    have hz : (lg_cmp (lN 0) (0 : Int64) ≤ nI 0) = True := eq_true (by rw [lg_0 (by decide)])
    refine ⟨S, ?_, Kp.rf⟩
    simp (disch := omega) only [lit, lm1, nI_add, pk_mul, nm_eq, nm_eq', nm_lt, nm_lt', nm_le, nm_le', x_lt, x_le, x_eq, x_in, x_cl, x_div, x_sub, x_rem, x_min, x_max, x_and, x_or, x_xor, x_df, x_shl, bI_0, bI_1, bI_bo, lg_eq, toL_inj, ls_nI, decide_eq_false_iff_not, decide_eq_true_eq, Bool.true_eq_false, Bool.false_eq_true, bq, if_pos, if_neg, if_true, if_false, lq, Nat.reduceAdd, Nat.reduceMul, Nat.reduceSub, Nat.reduceDiv, Nat.reduceMod, e4, hr, hz]
    rw [show decide (0 < 0) = false from rfl, Bool.and_false]
    rfl
  · have hz : (lg_cmp (lN (rwD D E c v (n - (j + 1)) (j + 1) b)) (0 : Int64) ≤ nI 0) = False := eq_false (by rw [lg_0 hlt]; exact h0)
    obtain ⟨U, u1, u2⟩ := m_isWorn hD hE w.1 (t := t) (j := j) (c := c) (p := p) (q := q) (a := a) (b := b) ht (by omega) (by omega) hq hc ha hb (w.2.2.1.2 j hj)
    refine ⟨U, ?_, u2⟩
    rw [decide_eq_true (show 0 < rwD D E c v (n - (j + 1)) (j + 1) b by omega), Bool.and_true]
    cases hf : fit D E c (v j) a b p q
    · rw [hf] at u1
      simp (disch := omega) only [lit, lm1, nI_add, pk_mul, nm_eq, nm_eq', nm_lt, nm_lt', nm_le, nm_le', x_lt, x_le, x_eq, x_in, x_cl, x_div, x_sub, x_rem, x_min, x_max, x_and, x_or, x_xor, x_df, x_shl, bI_0, bI_1, bI_bo, lg_eq, toL_inj, ls_nI, decide_eq_false_iff_not, decide_eq_true_eq, Bool.true_eq_false, Bool.false_eq_true, bq, if_pos, if_neg, if_true, if_false, lq, Nat.reduceAdd, Nat.reduceMul, Nat.reduceSub, Nat.reduceDiv, Nat.reduceMod, e4, hr, hz, u1]
      rfl
    · rw [hf] at u1
      simp (disch := omega) only [lit, lm1, nI_add, pk_mul, nm_eq, nm_eq', nm_lt, nm_lt', nm_le, nm_le', x_lt, x_le, x_eq, x_in, x_cl, x_div, x_sub, x_rem, x_min, x_max, x_and, x_or, x_xor, x_df, x_shl, bI_0, bI_1, bI_bo, lg_eq, toL_inj, ls_nI, decide_eq_false_iff_not, decide_eq_true_eq, Bool.true_eq_false, Bool.false_eq_true, bq, if_pos, if_neg, if_true, if_false, lq, Nat.reduceAdd, Nat.reduceMul, Nat.reduceSub, Nat.reduceDiv, Nat.reduceMod, e4, hr, hz, u1]
      rfl
theorem m_first68 (hD : D.WF) (hE : E.WF D) {c n t j a i : Nat} {v : Nat → Int64} (hc : c < D.C) (ht : t < 4) (hn : n ≤ 8) (w : mlw D E c n t v S) (hj : j < n) (hi : i < n) (ha : a < D.K) (h : 0 < rwD D E c v (n - j) j a) (k65 : Int32 → Int32 → cpS → Option (Int32 × cpS)) : ∃ T, fX12_wornFirst_68 (nI t) (nI i) (nI a) (nI j) k65 cpFu (nI 0) S = (if j = i then some (nI (wd D E c v n j a), T) else k65 (nI (wd D E c v n j a % 10)) (nI (j + 1)) T) ∧ Kp kH S T := by
  have c4 := hD.c4
  have k6 := hD.k6
  have p8 := hD.p8
  obtain ⟨w1, w2⟩ := wd_s hD hj h
  have hl := w.2.1.1
  have hf := dls_first (D := D) c (fgd D E c v n j a)
  rw [gD_congr (g := fg D E c v n j a) (fun p q b hp hq hb => by
    obtain ⟨e1, e2, e3, e4, e5⟩ := dn_dec (c := c) (p := p) (q := q) (b := b) (by omega) (by omega) (by omega) (by omega)
    unfold fgd
    rw [e1, e2, e4]), w1] at hf
  have := ff_lp (F := fun f x (T : cpS) => fX12_wornFirst_68 (nI t) (nI i) (nI a) (nI j) k65 f x T) (dls D c).length (fun x => fgd D E c v n j a ((dls D c).getD x 0)) (fun _ T => Kp kH S T) (fun o r => ∀ x, o = some x → ∃ T, r = (if j = i then some (nI ((dls D c).getD x 0), T) else k65 (nI ((dls D c).getD x 0 % 10)) (nI (j + 1)) T) ∧ Kp kH S T) (by omega) (fun f x T hx hT hp => ?_) (fun f x T hx hT hp y hy => ?_) (fun f T hT x hx => by cases hx) (i0 := 0) (a := S) (Nat.zero_le _) Kp.rf
  · cases hq : ff (fun x => fgd D E c v n j a ((dls D c).getD x 0)) (dls D c).length 0 with
    | none => rw [hq] at hf; cases hf
    | some x =>
      rw [hq] at hf
      have hf : (dls D c).getD x 0 = wd D E c v n j a := Option.some.inj hf
      obtain ⟨T, t1, t2⟩ := this x hq
      rw [hf] at t1
      exact ⟨T, t1, t2⟩
  · have wT := w.hh hD hT
    obtain ⟨U, u1, u2⟩ := m_canGo hD hE hc ht hn wT hj ha (wT.2.1.2.2.2 x hx)
    have e1 := wT.2.1.2.2.1 x hx
    (try dsimp only at hp)
    rw [hp] at u1
    refine ⟨U, ?_, hT.tr u2⟩
    rw [fX12_wornFirst_68]
    simp (disch := omega) only [lit, lm1, nI_add, pk_mul, nm_eq, nm_eq', nm_lt, nm_lt', nm_le, nm_le', x_lt, x_le, x_eq, x_in, x_cl, x_div, x_sub, x_rem, x_min, x_max, x_and, x_or, x_xor, x_df, x_shl, bI_0, bI_1, bI_bo, lg_eq, toL_inj, ls_nI, decide_eq_false_iff_not, decide_eq_true_eq, Bool.true_eq_false, Bool.false_eq_true, bq, if_pos, if_neg, if_true, if_false, lq, Nat.reduceAdd, Nat.reduceMul, Nat.reduceSub, Nat.reduceDiv, Nat.reduceMod, e1, u1]
  · cases hy
    have wT := w.hh hD hT
    obtain ⟨U, u1, u2⟩ := m_canGo hD hE hc ht hn wT hj ha (wT.2.1.2.2.2 x hx)
    have e1 := wT.2.1.2.2.1 x hx
    have e2 : U.1 168 x = nI ((dls D c).getD x 0) := (wT.hh hD u2).2.1.2.2.1 x hx
    have hlt : (dls D c).getD x 0 < 20000 := by
      obtain ⟨p, q, b, hpq, hq, hb, e⟩ := wT.2.1.2.2.2 x hx
      rw [e]
      exact (dn_dec (c := c) (p := p) (q := q) (b := b) (by omega) (by omega) (by omega) (by omega)).2.2.2.2
    (try dsimp only at hp)
    rw [hp] at u1
    refine ⟨U, ?_, hT.tr u2⟩
    rw [fX12_wornFirst_68]
    by_cases e : j = i
    · rw [if_pos e]
      subst e
      simp (disch := omega) only [lit, lm1, nI_add, pk_mul, nm_eq, nm_eq', nm_lt, nm_lt', nm_le, nm_le', x_lt, x_le, x_eq, x_in, x_cl, x_div, x_sub, x_rem, x_min, x_max, x_and, x_or, x_xor, x_df, x_shl, bI_0, bI_1, bI_bo, lg_eq, toL_inj, ls_nI, decide_eq_false_iff_not, decide_eq_true_eq, Bool.true_eq_false, Bool.false_eq_true, bq, if_pos, if_neg, if_true, if_false, lq, Nat.reduceAdd, Nat.reduceMul, Nat.reduceSub, Nat.reduceDiv, Nat.reduceMod, e1, u1, e2, eq_self]
    · rw [if_neg e]
      simp (disch := omega) only [lit, lm1, nI_add, pk_mul, nm_eq, nm_eq', nm_lt, nm_lt', nm_le, nm_le', x_lt, x_le, x_eq, x_in, x_cl, x_div, x_sub, x_rem, x_min, x_max, x_and, x_or, x_xor, x_df, x_shl, bI_0, bI_1, bI_bo, lg_eq, toL_inj, ls_nI, decide_eq_false_iff_not, decide_eq_true_eq, Bool.true_eq_false, Bool.false_eq_true, bq, if_pos, if_neg, if_true, if_false, lq, Nat.reduceAdd, Nat.reduceMul, Nat.reduceSub, Nat.reduceDiv, Nat.reduceMod, e1, u1, e2, e]
theorem m_first65 (hD : D.WF) (hE : E.WF D) {c n t a i : Nat} {v : Nat → Int64} (hc : c < D.C) (ht : t < 4) (hn : n ≤ 8) (hi : i < n) (ha : a < D.K) (h : 0 < rwD D E c v n 0 a) : ∀ d j f (S : cpS), j + d = i → d < f → mlw D E c n t v S → ∃ T, fX12_wornFirst_65 (nI t) (nI i) f (nI (wp D E c v n a j)) (nI j) S = some (nI (wd D E c v n i (wp D E c v n a i)), T) ∧ Kp kH S T := by
  intro d
  induction d with
  | zero =>
    intro j f S hjd hf w
    obtain ⟨f, rfl⟩ : ∃ g, f = g + 1 := ⟨f - 1, by omega⟩
    obtain rfl : j = i := by omega
    obtain ⟨i1, i2⟩ := wp_d hD hc ha h j (by omega)
    obtain ⟨T, t1, t2⟩ := m_first68 hD hE hc ht hn w hi hi i1 i2 (fX12_wornFirst_65 (nI t) (nI j) f)
    rw [if_pos rfl] at t1
    refine ⟨T, ?_, t2⟩
    rw [fX12_wornFirst_65]
    simp (disch := omega) only [lit, lm1, nI_add, pk_mul, nm_eq, nm_eq', nm_lt, nm_lt', nm_le, nm_le', x_lt, x_le, x_eq, x_in, x_cl, x_div, x_sub, x_rem, x_min, x_max, x_and, x_or, x_xor, x_df, x_shl, bI_0, bI_1, bI_bo, lg_eq, toL_inj, ls_nI, decide_eq_false_iff_not, decide_eq_true_eq, Bool.true_eq_false, Bool.false_eq_true, bq, if_pos, if_neg, if_true, if_false, lq, Nat.reduceAdd, Nat.reduceMul, Nat.reduceSub, Nat.reduceDiv, Nat.reduceMod]
    exact t1
  | succ d ih =>
    intro j f S hjd hf w
    obtain ⟨f, rfl⟩ : ∃ g, f = g + 1 := ⟨f - 1, by omega⟩
    obtain ⟨i1, i2⟩ := wp_d hD hc ha h j (by omega)
    obtain ⟨A, a1, a2⟩ := m_first68 hD hE hc ht hn w (show j < n by omega) hi i1 i2 (fX12_wornFirst_65 (nI t) (nI i) f)
    rw [if_neg (by omega)] at a1
    obtain ⟨T, t1, t2⟩ := ih (j + 1) f A (by omega) (by omega) (w.hh hD a2)
    rw [wp_s] at t1
    refine ⟨T, ?_, a2.tr t2⟩
    rw [fX12_wornFirst_65]
    simp (disch := omega) only [lit, lm1, nI_add, pk_mul, nm_eq, nm_eq', nm_lt, nm_lt', nm_le, nm_le', x_lt, x_le, x_eq, x_in, x_cl, x_div, x_sub, x_rem, x_min, x_max, x_and, x_or, x_xor, x_df, x_shl, bI_0, bI_1, bI_bo, lg_eq, toL_inj, ls_nI, decide_eq_false_iff_not, decide_eq_true_eq, Bool.true_eq_false, Bool.false_eq_true, bq, if_pos, if_neg, if_true, if_false, lq, Nat.reduceAdd, Nat.reduceMul, Nat.reduceSub, Nat.reduceDiv, Nat.reduceMod]
    exact a1.trans t1
end WG
theorem q_wornFirst : cpQ_wornFirst cpRl := by
  intro x1 x2 x3 S hR
  have w1 := m_win 4 3 (by decide)
  rcases in_or x1 4 with ⟨t, ht, rfl⟩ | h1
  · refine qY hR ht (fun D E o hD hE hO => ?_)
    have c4 := hD.c4
    have k6 := hD.k6
    have hc : ∀ S, fX11_hasTray (nI t) S = some (nI 1, S) := fun S => by rw [e_hasTray, if_pos (cpLs_of ht (by decide))]; rfl
    rcases in_or x2 D.C with ⟨k, hk, rfl⟩ | h2
    · have ha := hE.at' k hk
      by_cases e : tc o nM (nI 9) = nI 0
      · have erc : rc o = nI 0 := Classical.byContradiction (fun q => q (by rw [← tc_rc q]; exact e))
        obtain ⟨n, v, rfl, n1, n8, hv⟩ := tc_0 e
        rcases in_or x3 (2 ^ 31) with ⟨i, hi, rfl⟩ | h3
        · refine ⟨if i < n then (if rwD D E k v n 0 (E.at' k) = 0 then nM else nI (wd D E k v n i (wp D E k v n (E.at' k) i))) else nM, fun S c y => ?_, fun S m y => ?_⟩
          · have hr := c_rimCode hD c (x3 := nI i) ht hk y hO
            rw [if_pos erc, if_neg (show ¬ nI i < nI 0 from nI_pos hi), e] at hr
            unfold fX11_wornFirst
            by_cases hin : i < n
            · obtain ⟨T, t1, t2, t3⟩ := c_wornLearn hD hE c hk ht n1 n8 y
              have cT := c.cc (t3.le (fun _ _ => kWo_C))
              have hf := c_firstRows hD cT hk ha n8 t2 hin
              refine ⟨T, ?_, t3.le (fun _ _ => kWo_C)⟩
              rw [if_pos hin]
              simp (disch := omega) only [lit, lm1, nI_add, pk_mul, nm_eq, nm_eq', nm_lt, nm_lt', nm_le, nm_le', x_lt, x_le, x_eq, x_in, x_cl, x_div, x_sub, x_rem, x_min, x_max, x_and, x_or, x_xor, x_df, x_shl, bI_0, bI_1, bI_bo, lg_eq, toL_inj, ls_nI, decide_eq_false_iff_not, decide_eq_true_eq, Bool.true_eq_false, Bool.false_eq_true, bq, if_pos, if_neg, if_true, if_false, lq, Nat.reduceAdd, Nat.reduceMul, Nat.reduceSub, Nat.reduceDiv, Nat.reduceMod, hr, y.2.1, hin, t1, cT.at', hf]
            · refine ⟨S, ?_, Kp.rf⟩
              rw [if_neg hin]
              simp (disch := omega) only [lit, lm1, nI_add, pk_mul, nm_eq, nm_eq', nm_lt, nm_lt', nm_le, nm_le', x_lt, x_le, x_eq, x_in, x_cl, x_div, x_sub, x_rem, x_min, x_max, x_and, x_or, x_xor, x_df, x_shl, bI_0, bI_1, bI_bo, lg_eq, toL_inj, ls_nI, decide_eq_false_iff_not, decide_eq_true_eq, Bool.true_eq_false, Bool.false_eq_true, bq, if_pos, if_neg, if_true, if_false, lq, Nat.reduceAdd, Nat.reduceMul, Nat.reduceSub, Nat.reduceDiv, Nat.reduceMod, hr, y.2.1, hin]
          · have m0 := m.thr hD (nI 0)
            obtain ⟨T, t1, t2, t3⟩ := m_laysWorn hD hE m0 hk ht n1 n8 (y.thr (nI 0))
            have kT := (kM_thr S (nI 0)).tr (t3.le (fun _ _ => kWm_M))
            have hlt := rwD_lt (E := E) (c := k) (v := v) (d := n) (j := 0) (a := E.at' k) hD n8
            have hpos : (nI 0 ≤ nI i) = True := eq_true ((nI_leI (by omega) hi).mpr (Nat.zero_le _))
            unfold fX12_wornFirst
            by_cases h0 : rwD D E k v n 0 (E.at' k) = 0
            · refine ⟨T, ?_, kT⟩
              have : (if i < n then (if rwD D E k v n 0 (E.at' k) = 0 then nM else nI (wd D E k v n i (wp D E k v n (E.at' k) i))) else nM) = nM := by
                rw [if_pos h0]
                split <;> rfl
              rw [this]
              rw [h0] at t1
              simp (disch := omega) only [lit, lm1, nI_add, pk_mul, nm_eq, nm_eq', nm_lt, nm_lt', nm_le, nm_le', x_lt, x_le, x_eq, x_in, x_cl, x_div, x_sub, x_rem, x_min, x_max, x_and, x_or, x_xor, x_df, x_shl, bI_0, bI_1, bI_bo, lg_eq, toL_inj, ls_nI, decide_eq_false_iff_not, decide_eq_true_eq, Bool.true_eq_false, Bool.false_eq_true, bq, if_pos, if_neg, if_true, if_false, lq, Nat.reduceAdd, Nat.reduceMul, Nat.reduceSub, Nat.reduceDiv, Nat.reduceMod, m_noWorn hD m0 ht hk (y.thr (nI 0)) hO, e, t1, hpos]
              rw [if_pos (show lN 0 = 0 from rfl)]
            · have hz : (lN (rwD D E k v n 0 (E.at' k)) = (0 : Int64)) = False := eq_false (by rw [l_0 hlt]; exact h0)
              by_cases hin : i < n
              · obtain ⟨U, u1, u2⟩ := m_first65 hD hE hk ht n8 hin ha (show 0 < rwD D E k v n 0 (E.at' k) by omega) i 0 cpFu T (by omega) (by show _ < 5000; omega) t2
                refine ⟨U, ?_, kT.tr (u2.le (fun _ _ => kH_M))⟩
                rw [if_pos hin, if_neg h0]
                simp (disch := omega) only [lit, lm1, nI_add, pk_mul, nm_eq, nm_eq', nm_lt, nm_lt', nm_le, nm_le', x_lt, x_le, x_eq, x_in, x_cl, x_div, x_sub, x_rem, x_min, x_max, x_and, x_or, x_xor, x_df, x_shl, bI_0, bI_1, bI_bo, lg_eq, toL_inj, ls_nI, decide_eq_false_iff_not, decide_eq_true_eq, Bool.true_eq_false, Bool.false_eq_true, bq, if_pos, if_neg, if_true, if_false, lq, Nat.reduceAdd, Nat.reduceMul, Nat.reduceSub, Nat.reduceDiv, Nat.reduceMod, m_noWorn hD m0 ht hk (y.thr (nI 0)) hO, e, t1, hpos, hz, t2.2.2.1.1, t2.1.1.at', hin]
                exact u1
              · refine ⟨T, ?_, kT⟩
                rw [if_neg hin]
                simp (disch := omega) only [lit, lm1, nI_add, pk_mul, nm_eq, nm_eq', nm_lt, nm_lt', nm_le, nm_le', x_lt, x_le, x_eq, x_in, x_cl, x_div, x_sub, x_rem, x_min, x_max, x_and, x_or, x_xor, x_df, x_shl, bI_0, bI_1, bI_bo, lg_eq, toL_inj, ls_nI, decide_eq_false_iff_not, decide_eq_true_eq, Bool.true_eq_false, Bool.false_eq_true, bq, if_pos, if_neg, if_true, if_false, lq, Nat.reduceAdd, Nat.reduceMul, Nat.reduceSub, Nat.reduceDiv, Nat.reduceMod, m_noWorn hD m0 ht hk (y.thr (nI 0)) hO, e, t1, hpos, hz, t2.2.2.1.1, t2.1.1.at', hin]
        · have hneg : (nI 0 ≤ x3) = False := eq_false (fun q => by
            have h1 : ¬ (0 ≤ x3.toInt ∧ x3.toInt < (2 ^ 31 : Nat)) := of_decide_eq_false h3
            have z : (nI 0).toInt = 0 := by decide
            rw [i_le, z] at q
            have := x3.toInt_lt
            exact h1 ⟨q, by omega⟩)
          have hlt : x3 < nI 0 := by rw [i_lt]; have := of_eq_false hneg; rw [i_le] at this; omega
          refine ⟨-3, fun S c y => ⟨S, ?_, Kp.rf⟩, fun S m y => ⟨_, ?_, kM_thr S (nI 0)⟩⟩
          · have hr := c_rimCode hD c (x3 := x3) ht hk y hO
            rw [if_pos erc, if_pos hlt] at hr
            unfold fX11_wornFirst
            simp (disch := omega) only [lit, lm1, nI_add, pk_mul, nm_eq, nm_eq', nm_lt, nm_lt', nm_le, nm_le', x_lt, x_le, x_eq, x_in, x_cl, x_div, x_sub, x_rem, x_min, x_max, x_and, x_or, x_xor, x_df, x_shl, bI_0, bI_1, bI_bo, lg_eq, toL_inj, ls_nI, decide_eq_false_iff_not, decide_eq_true_eq, Bool.true_eq_false, Bool.false_eq_true, bq, if_pos, if_neg, if_true, if_false, lq, Nat.reduceAdd, Nat.reduceMul, Nat.reduceSub, Nat.reduceDiv, Nat.reduceMod, hr]
            rfl
          · unfold fX12_wornFirst
            simp (disch := omega) only [lit, lm1, nI_add, pk_mul, nm_eq, nm_eq', nm_lt, nm_lt', nm_le, nm_le', x_lt, x_le, x_eq, x_in, x_cl, x_div, x_sub, x_rem, x_min, x_max, x_and, x_or, x_xor, x_df, x_shl, bI_0, bI_1, bI_bo, lg_eq, toL_inj, ls_nI, decide_eq_false_iff_not, decide_eq_true_eq, Bool.true_eq_false, Bool.false_eq_true, bq, if_pos, if_neg, if_true, if_false, lq, Nat.reduceAdd, Nat.reduceMul, Nat.reduceSub, Nat.reduceDiv, Nat.reduceMod, m_noWorn hD (m.thr hD (nI 0)) ht hk (y.thr (nI 0)) hO, e, hneg]
      · refine ⟨tc o nM (nI 9), fun S c y => ⟨S, ?_, Kp.rf⟩, fun S m y => ⟨_, ?_, kM_thr S (nI 0)⟩⟩
        · have hr := c_rimCode hD c (x3 := x3) ht hk y hO
          have hcode : (if rc o = nI 0 then (if x3 < nI 0 then -3 else tc o nM (nI 9)) else rc o) = tc o nM (nI 9) := by
            by_cases e' : rc o = nI 0
            · rw [if_pos e']
              split
              · cases o with
                | none => exact absurd (show (-6 : Int32) = nI 0 from e') (by decide)
                | some w =>
                  obtain ⟨n, v⟩ := w
                  have hb : ¬ (n < 1 ∨ 8 < n) := fun q => by rw [rc_s, if_pos q] at e'; exact absurd e' (by decide)
                  rw [tc_s, if_neg hb] at e ⊢
                  split
                  · rename_i q; rw [if_pos q] at e; exact absurd rfl e
                  · rfl
              · rfl
            · rw [if_neg e', tc_rc e']
          rw [hcode] at hr
          unfold fX11_wornFirst
          simp (disch := omega) only [lit, lm1, nI_add, pk_mul, nm_eq, nm_eq', nm_lt, nm_lt', nm_le, nm_le', x_lt, x_le, x_eq, x_in, x_cl, x_div, x_sub, x_rem, x_min, x_max, x_and, x_or, x_xor, x_df, x_shl, bI_0, bI_1, bI_bo, lg_eq, toL_inj, ls_nI, decide_eq_false_iff_not, decide_eq_true_eq, Bool.true_eq_false, Bool.false_eq_true, bq, if_pos, if_neg, if_true, if_false, lq, Nat.reduceAdd, Nat.reduceMul, Nat.reduceSub, Nat.reduceDiv, Nat.reduceMod, hr, tc_ne e]
        · unfold fX12_wornFirst
          simp (disch := omega) only [lit, lm1, nI_add, pk_mul, nm_eq, nm_eq', nm_lt, nm_lt', nm_le, nm_le', x_lt, x_le, x_eq, x_in, x_cl, x_div, x_sub, x_rem, x_min, x_max, x_and, x_or, x_xor, x_df, x_shl, bI_0, bI_1, bI_bo, lg_eq, toL_inj, ls_nI, decide_eq_false_iff_not, decide_eq_true_eq, Bool.true_eq_false, Bool.false_eq_true, bq, if_pos, if_neg, if_true, if_false, lq, Nat.reduceAdd, Nat.reduceMul, Nat.reduceSub, Nat.reduceDiv, Nat.reduceMod, m_noWorn hD (m.thr hD (nI 0)) ht hk (y.thr (nI 0)) hO, tc_ne e]
    · refine ⟨-2, fun S c y => ⟨S, ?_, Kp.rf⟩, fun S m y => ⟨_, ?_, kM_thr S (nI 0)⟩⟩
      · unfold fX11_wornFirst fX11_rimCode
        simp (disch := omega) only [lit, lm1, nI_add, pk_mul, nm_eq, nm_eq', nm_lt, nm_lt', nm_le, nm_le', x_lt, x_le, x_eq, x_in, x_cl, x_div, x_sub, x_rem, x_min, x_max, x_and, x_or, x_xor, x_df, x_shl, bI_0, bI_1, bI_bo, lg_eq, toL_inj, ls_nI, decide_eq_false_iff_not, decide_eq_true_eq, Bool.true_eq_false, Bool.false_eq_true, bq, if_pos, if_neg, if_true, if_false, lq, Nat.reduceAdd, Nat.reduceMul, Nat.reduceSub, Nat.reduceDiv, Nat.reduceMod, hc, c.hasCoin hD, h2]
        rfl
      · unfold fX12_wornFirst fX12_noWorn
        simp (disch := omega) only [lit, lm1, nI_add, pk_mul, nm_eq, nm_eq', nm_lt, nm_lt', nm_le, nm_le', x_lt, x_le, x_eq, x_in, x_cl, x_div, x_sub, x_rem, x_min, x_max, x_and, x_or, x_xor, x_df, x_shl, bI_0, bI_1, bI_bo, lg_eq, toL_inj, ls_nI, decide_eq_false_iff_not, decide_eq_true_eq, Bool.true_eq_false, Bool.false_eq_true, bq, if_pos, if_neg, if_true, if_false, lq, Nat.reduceAdd, Nat.reduceMul, Nat.reduceSub, Nat.reduceDiv, Nat.reduceMod, w1, (m.thr hD (nI 0)).isCoin hD, h2]
        rfl
  · refine q1 hR (fun D E hD hE => ⟨-2, fun S c => ⟨S, ?_, Kp.rf⟩, fun S m => ⟨_, ?_, kM_thr S (nI 0)⟩⟩)
    · have hc : fX11_hasTray x1 S = some (nI 0, S) := by rw [e_hasTray, h1]; rfl
      unfold fX11_wornFirst fX11_rimCode
      simp (disch := omega) only [lit, lm1, nI_add, pk_mul, nm_eq, nm_eq', nm_lt, nm_lt', nm_le, nm_le', x_lt, x_le, x_eq, x_in, x_cl, x_div, x_sub, x_rem, x_min, x_max, x_and, x_or, x_xor, x_df, x_shl, bI_0, bI_1, bI_bo, lg_eq, toL_inj, ls_nI, decide_eq_false_iff_not, decide_eq_true_eq, Bool.true_eq_false, Bool.false_eq_true, bq, if_pos, if_neg, if_true, if_false, lq, Nat.reduceAdd, Nat.reduceMul, Nat.reduceSub, Nat.reduceDiv, Nat.reduceMod, hc]
      rfl
    · unfold fX12_wornFirst fX12_noWorn
      simp (disch := omega) only [lit, lm1, nI_add, pk_mul, nm_eq, nm_eq', nm_lt, nm_lt', nm_le, nm_le', x_lt, x_le, x_eq, x_in, x_cl, x_div, x_sub, x_rem, x_min, x_max, x_and, x_or, x_xor, x_df, x_shl, bI_0, bI_1, bI_bo, lg_eq, toL_inj, ls_nI, decide_eq_false_iff_not, decide_eq_true_eq, Bool.true_eq_false, Bool.false_eq_true, bq, if_pos, if_neg, if_true, if_false, lq, Nat.reduceAdd, Nat.reduceMul, Nat.reduceSub, Nat.reduceDiv, Nat.reduceMod, w1, h1]
      rfl
