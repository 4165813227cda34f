/-! the first row that wears so -/
def gS (f : Nat → Nat → Nat → Bool) (K c p q : Nat) (s : Option Nat) : Option Nat := match s with
  | some v => some v
  | none => (ff (f p q) K 0).map (dn c p q)
def gD (f : Nat → Nat → Nat → Bool) (P K c : Nat) : Option Nat := up (fun p s => up (fun q s => gS f K c p q s) (P - (p + 1)) (p + 1) s) P 0 none
def gC (f : Nat → Nat → Nat → Bool) (P K c k : Nat) (s : Option Nat) : Option Nat := if poN k < P then gS f K c (plN k) (poN k) s else s
theorem gD_cls (f : Nat → Nat → Nat → Bool) {P : Nat} (K c : Nat) (hP : P ≤ 8) : up (gC f P K c) 28 0 none = gD f P K c := cls_mdl (gS f K c) hP none
def gOk (f : Nat → Nat → Nat → Bool) (P K c v : Nat) : Prop := ∃ p q b, p < q ∧ q < P ∧ b < K ∧ f p q b = true ∧ v = dn c p q b
theorem gD_s {f : Nat → Nat → Nat → Bool} {P K c : Nat} (hP : P ≤ 8) (h : ∃ i b, i < 28 ∧ poN i < P ∧ b < K ∧ f (plN i) (poN i) b = true) : ∃ v, gD f P K c = some v ∧ gOk f P K c v := by
  have h1 : ∀ v, gD f P K c = some v → gOk f P K c v := by
    rw [← gD_cls f K c hP]
    refine up_inv (gC f P K c) 28 (fun _ s => ∀ v, s = some v → gOk f P K c v) (fun i s hi q v hv => ?_) 28 0 none (by omega) (fun v hv => by cases hv)
    obtain ⟨g1, g2, g3, g4⟩ := p28 i hi
    unfold gC at hv
    split at hv
    · rename_i hP
      unfold gS at hv
      cases s with
      | some w => exact q v hv
      | none =>
        (try dsimp only at hv)
        cases hb : ff (f (plN i) (poN i)) K 0 with
        | none => rw [hb] at hv; cases hv
        | some b =>
          rw [hb] at hv
          obtain ⟨-, b2, b3, -⟩ := (ff_some _ _ _).mp hb
          have hv : dn c (plN i) (poN i) b = v := by cases hv; rfl
          exact ⟨plN i, poN i, b, g3, hP, by omega, b3, hv.symm⟩
    · exact q v hv
  cases hv : gD f P K c with
  | some v => exact ⟨v, rfl, h1 v hv⟩
  | none =>
    exfalso
    obtain ⟨i, b, hi, hPi, hb, hf⟩ := h
    rw [← gD_cls f K c hP] at hv
    have := up_inv (gC f P K c) 28 (fun x s => s = none → ∀ i, i < x → poN i < P → ff (f (plN i) (poN i)) K 0 = none) (fun x s hx q hn i hi hPi => ?_) 28 0 none (by omega) (fun _ i hi => absurd hi (by omega)) hv i hi hPi
    · have := (ff_none K 0).mp this b (by omega) (by omega)
      rw [hf] at this
      cases this
    · cases s with
      | some w =>
        exfalso
        unfold gC gS at hn
        split at hn <;> cases hn
      | none =>
        by_cases e : i = x
        · subst e
          unfold gC at hn
          rw [if_pos hPi] at hn
          unfold gS at hn
          (try dsimp only at hn)
          cases hq : ff (f (plN i) (poN i)) K 0 with
          | none => rfl
          | some b => rw [hq] at hn; cases hn
        · exact q rfl i (by omega) hPi
def fS {α : Type} (g : Nat → Bool) (h : Nat → α) (i : Nat) (s : Option α) : Option α := match s with
  | some v => some v
  | none => if g i then some (h i) else none
theorem up_first {α : Type} (g : Nat → Bool) (h : Nat → α) : ∀ d i, up (fS g h) d i none = (ff g d i).map h := by
  have so : ∀ d i v, up (fS g h) d i (some v) = some v := by
    intro d
    induction d with
    | zero => intro i v; rfl
    | succ d ih => intro i v; exact ih (i + 1) v
  intro d
  induction d with
  | zero => intro i; rfl
  | succ d ih =>
    intro i
    rw [up, ff]
    unfold fS
    (try dsimp only)
    by_cases hg : g i = true
    · rw [if_pos hg, if_pos hg]; exact so d (i + 1) (h i)
    · rw [if_neg hg, if_neg hg]; exact ih (i + 1)
theorem dls_first {D : cpD} (c : Nat) (g : Nat → Bool) : (ff (fun x => g ((dls D c).getD x 0)) (dls D c).length 0).map (fun x => (dls D c).getD x 0) = gD (fun p q b => g (dn c p q b)) D.P D.K c := by
  rw [← up_first (fun x => g ((dls D c).getD x 0)) (fun x => (dls D c).getD x 0)]
  have e : (fS (fun x => g ((dls D c).getD x 0)) (fun x => (dls D c).getD x 0)) = fun x s => fS g (fun d => d) ((dls D c).getD x 0) s := rfl
  rw [e, up_list (fS g (fun d => d)), dls_fold]
  unfold gD
  congr 1
  funext p s
  congr 1
  funext q s
  cases s with
  | some v => exact up_so (fun _ _ => rfl) _ _ _
  | none => exact up_first (fun b => g (dn c p q b)) (fun b => dn c p q b) D.K 0
section WF
variable {D : cpD} {E : cpE} {S : cpS}
/-- a carrying fits, and rows can go on behind it -/
def fg (D : cpD) (E : cpE) (c : Nat) (v : Nat → Int64) (n j a p q b : Nat) : Bool := fit D E c (v j) a b p q && decide (0 < rwD D E c v (n - (j + 1)) (j + 1) b)
theorem rw_pos {g : Nat → Nat → Bool} {R : Nat → Nat} {K : Nat} (h : 0 < up (fun b s => up (fun i s => adI (g b i) (R b) s) 28 0 s) K 0 0) : ∃ b i, b < K ∧ i < 28 ∧ g b i = true ∧ 0 < R b := by
  refine Classical.byContradiction (fun no => ?_)
  have : up (fun b s => up (fun i s => adI (g b i) (R b) s) 28 0 s) K 0 0 = 0 := by
    refine up_inv (fun b s => up (fun i s => adI (g b i) (R b) s) 28 0 s) K (fun _ s => s = 0) (fun b s hb q => ?_) K 0 0 (by omega) rfl
    refine up_inv (fun i s => adI (g b i) (R b) s) 28 (fun _ s => s = 0) (fun i s hi q => ?_) 28 0 s (by omega) q
    (try dsimp only)
    unfold adI
    split
    · rename_i hg
      have : ¬ 0 < R b := fun r => no ⟨b, i, hb, hi, hg, r⟩
      omega
    · exact q
  omega
def wd (D : cpD) (E : cpE) (c : Nat) (v : Nat → Int64) (n j a : Nat) : Nat := (gD (fg D E c v n j a) D.P D.K c).getD 0
theorem wd_s (hD : D.WF) {c n j a : Nat} {v : Nat → Int64} (hj : j < n) (h : 0 < rwD D E c v (n - j) j a) : gD (fg D E c v n j a) D.P D.K c = some (wd D E c v n j a) ∧ gOk (fg D E c v n j a) D.P D.K c (wd D E c v n j a) := by
  rw [show n - j = (n - (j + 1)) + 1 by omega, rwD_s] at h
  obtain ⟨b, i, hb, hi, hg, hr⟩ := rw_pos h
  unfold ftI at hg
  rw [Bool.and_eq_true, decide_eq_true_eq] at hg
  obtain ⟨w, w1, w2⟩ := gD_s (f := fg D E c v n j a) (P := D.P) (K := D.K) (c := c) hD.p8 ⟨i, b, hi, hg.1, hb, by unfold fg; rw [hg.2, decide_eq_true hr]; rfl⟩
  have e : wd D E c v n j a = w := by unfold wd; rw [w1]; rfl
  rw [e]; exact ⟨w1, w2⟩
theorem gOk_d (hD : D.WF) {f : Nat → Nat → Nat → Bool} {c w : Nat} (hc : c < D.C) (h : gOk f D.P D.K c w) : w < 20000 ∧ w % 10 < D.K ∧ f (w / 1000 % 10) (w / 100 % 10) (w % 10) = true := by
  have c4 := hD.c4
  have k6 := hD.k6
  have p8 := hD.p8
  obtain ⟨p, q, b, hpq, hq, hb, hf, rfl⟩ := h
  obtain ⟨e1, e2, e3, e4, e5⟩ := dn_dec (c := c) (p := p) (q := q) (b := b) (by omega) (by omega) (by omega) (by omega)
  rw [e1, e2, e4]
  exact ⟨e5, hb, hf⟩
theorem lg_0 {R : Nat} (h : R < 2 ^ 63) : (lg_cmp (lN R) (0 : Int64) ≤ nI 0) = (R = 0) := by
  rw [lg_leP]
  show (¬ lN 0 < lN R) = _
  rw [lN_p h]
  exact propext (by omega)
theorem l_0 {R : Nat} (h : R < 2 ^ 63) : (lN R = (0 : Int64)) = (R = 0) := lN_z h
theorem c_fit13 (hD : D.WF) (cS : cA D E S) {c n j a i : Nat} {v : Nat → Int64} (hc : c < D.C) (hn : n ≤ 8) (w : clw D E c n v S) (hj : j < n) (ha : a < D.K) (hi : i < 28) (kk : Int32 → cpS → Option (Int32 × cpS)) : fX8_firstFitting_13 (nI j) (nI c) (nI a) (nI i) kk cpFu (nI 0) S = match (if poN i < D.P then ff (fg D E c v n j a (plN i) (poN i)) D.K 0 else none) with
    | none => kk (nI (i + 1)) S
    | some b => some (nI (dn c (plN i) (poN i) b), S) := by
  have k6 := hD.k6
  have p8 := hD.p8
  have c4 := hD.c4
  obtain ⟨g1, g2, g3, g4⟩ := p28 i hi
  have e : (if poN i < D.P then ff (fg D E c v n j a (plN i) (poN i)) D.K 0 else none) = ff (fun b => ftI D E c (v j) a b i && decide (0 < rwD D E c v (n - (j + 1)) (j + 1) b)) D.K 0 := by
    by_cases hP : poN i < D.P
    · rw [if_pos hP]
      exact ff_congr (N := D.K) (fun b _ => by unfold fg ftI; rw [decide_eq_true hP]; rfl) D.K 0 (by omega)
    · rw [if_neg hP]
      exact ((ff_none D.K 0).mpr (fun b _ _ => by unfold ftI; rw [decide_eq_false hP]; rfl)).symm
  rw [e]
  refine ff_lp (F := fun f b (T : cpS) => fX8_firstFitting_13 (nI j) (nI c) (nI a) (nI i) kk f b T) D.K (fun b => ftI D E c (v j) a b i && decide (0 < rwD D E c v (n - (j + 1)) (j + 1) b)) (fun _ T => T = S) (fun o r => r = match o with
    | none => kk (nI (i + 1)) S
    | some b => some (nI (dn c (plN i) (poN i) b), S)) (by omega) (fun f b T hb hT hp => ⟨S, ?_, rfl⟩) (fun f b T hb hT hp => ?_) (fun f T hT => ?_) (i0 := 0) (a := S) (Nat.zero_le _) rfl
  · subst hT
    have hr := w.2.2 (j + 1) b (by omega) hb
    have hlt := rwD_lt (E := E) (c := c) (v := v) (d := n - (j + 1)) (j := j + 1) (a := b) hD (by omega)
    rw [fX8_firstFitting_13]
    unfold fX4_places fX8_rowsFrom
    cases hf : ftI D E c (v j) a b i
    · simp (disch := omega) only [lit, lm1, nI_add, pk_mul, nm_eq, nm_eq', nm_lt, nm_lt', nm_le, nm_le', x_lt, x_le, x_eq, x_in, x_cl, x_div, x_sub, x_rem, x_min, x_max, x_and, x_or, x_xor, x_df, x_shl, bI_0, bI_1, bI_bo, lg_eq, toL_inj, ls_nI, decide_eq_false_iff_not, decide_eq_true_eq, Bool.true_eq_false, Bool.false_eq_true, bq, if_pos, if_neg, if_true, if_false, lq, Nat.reduceAdd, Nat.reduceMul, Nat.reduceSub, Nat.reduceDiv, Nat.reduceMod, cS.K, c_wearOf hD w.1 ha hb hi, c_fits (show j < 8 by omega) (w.2.1 j hj), hf]
    · have h0 : rwD D E c v (n - (j + 1)) (j + 1) b = 0 := by
        (try dsimp only at hp)
        rw [hf, Bool.true_and] at hp
        have := of_decide_eq_false hp
        omega
      rw [h0] at hr
      have hz : (lg_cmp (lN 0) (0 : Int64) ≤ nI 0) = True := eq_true (by rw [lg_0 (by decide)])
      simp (disch := omega) only [lit, lm1, nI_add, pk_mul, nm_eq, nm_eq', nm_lt, nm_lt', nm_le, nm_le', x_lt, x_le, x_eq, x_in, x_cl, x_div, x_sub, x_rem, x_min, x_max, x_and, x_or, x_xor, x_df, x_shl, bI_0, bI_1, bI_bo, lg_eq, toL_inj, ls_nI, decide_eq_false_iff_not, decide_eq_true_eq, Bool.true_eq_false, Bool.false_eq_true, bq, if_pos, if_neg, if_true, if_false, lq, Nat.reduceAdd, Nat.reduceMul, Nat.reduceSub, Nat.reduceDiv, Nat.reduceMod, cS.K, c_wearOf hD w.1 ha hb hi, c_fits (show j < 8 by omega) (w.2.1 j hj), hf, hr, hz]
  · subst hT
    have hr := w.2.2 (j + 1) b (by omega) hb
    have hlt := rwD_lt (E := E) (c := c) (v := v) (d := n - (j + 1)) (j := j + 1) (a := b) hD (by omega)
    (try dsimp only at hp)
    rw [Bool.and_eq_true, decide_eq_true_eq] at hp
    have hz : (lg_cmp (lN (rwD D E c v (n - (j + 1)) (j + 1) b)) (0 : Int64) ≤ nI 0) = False := eq_false (by rw [lg_0 hlt]; omega)
    rw [fX8_firstFitting_13]
    unfold fX4_places fX8_rowsFrom fX11_deedOf
    simp (disch := omega) only [lit, lm1, nI_add, pk_mul, nm_eq, nm_eq', nm_lt, nm_lt', nm_le, nm_le', x_lt, x_le, x_eq, x_in, x_cl, x_div, x_sub, x_rem, x_min, x_max, x_and, x_or, x_xor, x_df, x_shl, bI_0, bI_1, bI_bo, lg_eq, toL_inj, ls_nI, decide_eq_false_iff_not, decide_eq_true_eq, Bool.true_eq_false, Bool.false_eq_true, bq, if_pos, if_neg, if_true, if_false, lq, Nat.reduceAdd, Nat.reduceMul, Nat.reduceSub, Nat.reduceDiv, Nat.reduceMod, cS.K, c_wearOf hD w.1 ha hb hi, c_fits (show j < 8 by omega) (w.2.1 j hj), hp.1, hr, hz, g1, g2]
    rfl
  · subst hT
    rw [fX8_firstFitting_13]
    unfold fX4_places
    simp (disch := omega) only [lit, lm1, nI_add, pk_mul, nm_eq, nm_eq', nm_lt, nm_lt', nm_le, nm_le', x_lt, x_le, x_eq, x_in, x_cl, x_div, x_sub, x_rem, x_min, x_max, x_and, x_or, x_xor, x_df, x_shl, bI_0, bI_1, bI_bo, lg_eq, toL_inj, ls_nI, decide_eq_false_iff_not, decide_eq_true_eq, Bool.true_eq_false, Bool.false_eq_true, bq, if_pos, if_neg, if_true, if_false, lq, Nat.reduceAdd, Nat.reduceMul, Nat.reduceSub, Nat.reduceDiv, Nat.reduceMod, cS.K]
theorem c_firstFit (hD : D.WF) (cS : cA D E S) {c n j a : Nat} {v : Nat → Int64} (hc : c < D.C) (hn : n ≤ 8) (w : clw D E c n v S) (hj : j < n) (ha : a < D.K) (h : 0 < rwD D E c v (n - j) j a) : fX8_firstFitting (nI j) (nI c) (nI a) S = some (nI (wd D E c v n j a), S) := by
  obtain ⟨w1, -⟩ := wd_s hD hj h
  have := up_lpE (F := fun f i (T : cpS) => fX8_firstFitting_3 (nI j) (nI c) (nI a) f i T) 28 (gC (fg D E c v n j a) D.P D.K c) (fun _ T => T = S) (fun o r => ∀ v, o = some v → r = some (nI v, S)) (by decide) (fun i v => by unfold gC gS; split <;> rfl) (fun f i T hi hT hq => ⟨S, ?_, rfl⟩) (fun f i T x hi hT hq y hy => ?_) (fun f T hT v hv => by cases hv) (i0 := 0) (a := S) (Nat.zero_le _) rfl
  · exact this _ ((gD_cls _ _ _ hD.p8).trans w1)
  · subst hT
    have hc := c_fit13 hD cS hc hn w hj ha hi (fX8_firstFitting_3 (nI j) (nI c) (nI a) f)
    have : (if poN i < D.P then ff (fg D E c v n j a (plN i) (poN i)) D.K 0 else none) = none := by
      unfold gC gS at hq
      split
      · rename_i hP
        rw [if_pos hP] at hq
        (try dsimp only at hq)
        cases e : ff (fg D E c v n j a (plN i) (poN i)) D.K 0 with
        | none => rfl
        | some b => rw [e] at hq; cases hq
      · rfl
    rw [this] at hc
    rw [fX8_firstFitting_3]
    simp (disch := omega) only [lit, lm1, nI_add, pk_mul, nm_eq, nm_eq', nm_lt, nm_lt', nm_le, nm_le', x_lt, x_le, x_eq, x_in, x_cl, x_div, x_sub, x_rem, x_min, x_max, x_and, x_or, x_xor, x_df, x_shl, bI_0, bI_1, bI_bo, lg_eq, toL_inj, ls_nI, decide_eq_false_iff_not, decide_eq_true_eq, Bool.true_eq_false, Bool.false_eq_true, bq, if_pos, if_neg, if_true, if_false, lq, Nat.reduceAdd, Nat.reduceMul, Nat.reduceSub, Nat.reduceDiv, Nat.reduceMod]
    exact hc
  · subst hT
    have hc := c_fit13 hD cS hc hn w hj ha hi (fX8_firstFitting_3 (nI j) (nI c) (nI a) f)
    cases hy
    have : ∃ b, (if poN i < D.P then ff (fg D E c v n j a (plN i) (poN i)) D.K 0 else none) = some b ∧ x = dn c (plN i) (poN i) b := by
      unfold gC gS at hq
      split
      · rename_i hP
        rw [if_pos hP] at hq
        (try dsimp only at hq)
        cases e : ff (fg D E c v n j a (plN i) (poN i)) D.K 0 with
        | none => rw [e] at hq; cases hq
        | some b => rw [e] at hq; cases hq; exact ⟨b, rfl, rfl⟩
      · rename_i hP
        rw [if_neg hP] at hq; cases hq
    obtain ⟨b, b1, b2⟩ := this
    rw [b1] at hc
    rw [fX8_firstFitting_3, b2]
    simp (disch := omega) only [lit, lm1, nI_add, pk_mul, nm_eq, nm_eq', nm_lt, nm_lt', nm_le, nm_le', x_lt, x_le, x_eq, x_in, x_cl, x_div, x_sub, x_rem, x_min, x_max, x_and, x_or, x_xor, x_df, x_shl, bI_0, bI_1, bI_bo, lg_eq, toL_inj, ls_nI, decide_eq_false_iff_not, decide_eq_true_eq, Bool.true_eq_false, Bool.false_eq_true, bq, if_pos, if_neg, if_true, if_false, lq, Nat.reduceAdd, Nat.reduceMul, Nat.reduceSub, Nat.reduceDiv, Nat.reduceMod]
    exact hc
/-! the chain -/
def wp (D : cpD) (E : cpE) (c : Nat) (v : Nat → Int64) (n a : Nat) : Nat → Nat
  | 0 => a
  | j + 1 => wd D E c v n j (wp D E c v n a j) % 10
theorem wp_s (c : Nat) (v : Nat → Int64) (n a j : Nat) : wp D E c v n a (j + 1) = wd D E c v n j (wp D E c v n a j) % 10 := rfl
theorem wp_d (hD : D.WF) {c n a : Nat} {v : Nat → Int64} (hc : c < D.C) (ha : a < D.K) (h : 0 < rwD D E c v n 0 a) : ∀ j, j ≤ n → wp D E c v n a j < D.K ∧ 0 < rwD D E c v (n - j) j (wp D E c v n a j) := by
  intro j
  induction j with
  | zero => intro _; exact ⟨ha, h⟩
  | succ j ih =>
    intro hj
    obtain ⟨i1, i2⟩ := ih (by omega)
    obtain ⟨-, w2⟩ := wd_s hD (show j < n by omega) i2
    obtain ⟨-, g2, g3⟩ := gOk_d hD hc w2
    unfold fg at g3
    rw [Bool.and_eq_true, decide_eq_true_eq] at g3
    rw [wp_s]
    exact ⟨g2, g3.2⟩
theorem c_first25 (hD : D.WF) (cS : cA D E S) {c n a i : Nat} {v : Nat → Int64} (hc : c < D.C) (ha : a < D.K) (hn : n ≤ 8) (w : clw D E c n v S) (h : 0 < rwD D E c v n 0 a) (hi : i < n) : ∀ d j f, j + d = i → d < f → fX8_firstRowsDeed_25 (nI c) (nI i) f (nI (wd D E c v n j (wp D E c v n a j))) (nI (j + 1)) S = some (nI (wd D E c v n i (wp D E c v n a i)), S) := by
  intro d
  induction d with
  | zero =>
    intro j f hjd hf
    obtain ⟨f, rfl⟩ : ∃ g, f = g + 1 := ⟨f - 1, by omega⟩
    obtain rfl : j = i := by omega
    rw [fX8_firstRowsDeed_25]
    simp (disch := omega) only [lit, lm1, nI_add, pk_mul, nm_eq, nm_eq', nm_lt, nm_lt', nm_le, nm_le', x_lt, x_le, x_eq, x_in, x_cl, x_div, x_sub, x_rem, x_min, x_max, x_and, x_or, x_xor, x_df, x_shl, bI_0, bI_1, bI_bo, lg_eq, toL_inj, ls_nI, decide_eq_false_iff_not, decide_eq_true_eq, Bool.true_eq_false, Bool.false_eq_true, bq, if_pos, if_neg, if_true, if_false, lq, Nat.reduceAdd, Nat.reduceMul, Nat.reduceSub, Nat.reduceDiv, Nat.reduceMod]
  | succ d ih =>
    intro j f hjd hf
    obtain ⟨f, rfl⟩ : ∃ g, f = g + 1 := ⟨f - 1, by omega⟩
    obtain ⟨i1, i2⟩ := wp_d hD hc ha h j (by omega)
    obtain ⟨-, w2⟩ := wd_s hD (show j < n by omega) i2
    have g1 := (gOk_d hD hc w2).1
    obtain ⟨i3, i4⟩ := wp_d hD hc ha h (j + 1) (by omega)
    have hf' := c_firstFit hD cS hc hn w (show j + 1 < n by omega) i3 i4
    rw [wp_s] at hf'
    have := ih (j + 1) f (by omega) (by omega)
    rw [wp_s] at this
    rw [fX8_firstRowsDeed_25]
    simp (disch := omega) only [lit, lm1, nI_add, pk_mul, nm_eq, nm_eq', nm_lt, nm_lt', nm_le, nm_le', x_lt, x_le, x_eq, x_in, x_cl, x_div, x_sub, x_rem, x_min, x_max, x_and, x_or, x_xor, x_df, x_shl, bI_0, bI_1, bI_bo, lg_eq, toL_inj, ls_nI, decide_eq_false_iff_not, decide_eq_true_eq, Bool.true_eq_false, Bool.false_eq_true, bq, if_pos, if_neg, if_true, if_false, lq, Nat.reduceAdd, Nat.reduceMul, Nat.reduceSub, Nat.reduceDiv, Nat.reduceMod, hf']
    exact this
theorem c_firstRows (hD : D.WF) (cS : cA D E S) {c n a i : Nat} {v : Nat → Int64} (hc : c < D.C) (ha : a < D.K) (hn : n ≤ 8) (w : clw D E c n v S) (hi : i < n) : fX8_firstRowsDeed (nI c) (nI a) (nI i) S = some (if rwD D E c v n 0 a = 0 then nM else nI (wd D E c v n i (wp D E c v n a i)), S) := by
  have k6 := hD.k6
  have e0 := w.2.2 0 a (Nat.zero_le _) ha
  rw [Nat.zero_mul, Nat.zero_add, Nat.sub_zero] at e0
  have hlt := rwD_lt (E := E) (c := c) (v := v) (d := n) (j := 0) (a := a) hD hn
  unfold fX8_firstRowsDeed fX8_rowsFrom
  by_cases h : rwD D E c v n 0 a = 0
  · rw [if_pos h]
    rw [h] at e0
    simp (disch := omega) only [lit, lm1, nI_add, pk_mul, nm_eq, nm_eq', nm_lt, nm_lt', nm_le, nm_le', x_lt, x_le, x_eq, x_in, x_cl, x_div, x_sub, x_rem, x_min, x_max, x_and, x_or, x_xor, x_df, x_shl, bI_0, bI_1, bI_bo, lg_eq, toL_inj, ls_nI, decide_eq_false_iff_not, decide_eq_true_eq, Bool.true_eq_false, Bool.false_eq_true, bq, if_pos, if_neg, if_true, if_false, lq, Nat.reduceAdd, Nat.reduceMul, Nat.reduceSub, Nat.reduceDiv, Nat.reduceMod, e0, Nat.zero_mul, Nat.zero_add]
    rw [if_pos (show lN 0 = 0 from rfl)]
  · rw [if_neg h]
    have hz : (lN (rwD D E c v n 0 a) = (0 : Int64)) = False := eq_false (by rw [l_0 hlt]; exact h)
    have f1 := c_firstFit hD cS hc hn w (show 0 < n by omega) ha (by rw [Nat.sub_zero]; omega)
    have f2 := c_first25 hD cS hc ha hn w (show 0 < rwD D E c v n 0 a by omega) hi i 0 cpFu (by omega) (by show _ < 5000; omega)
    simp (disch := omega) only [lit, lm1, nI_add, pk_mul, nm_eq, nm_eq', nm_lt, nm_lt', nm_le, nm_le', x_lt, x_le, x_eq, x_in, x_cl, x_div, x_sub, x_rem, x_min, x_max, x_and, x_or, x_xor, x_df, x_shl, bI_0, bI_1, bI_bo, lg_eq, toL_inj, ls_nI, decide_eq_false_iff_not, decide_eq_true_eq, Bool.true_eq_false, Bool.false_eq_true, bq, if_pos, if_neg, if_true, if_false, lq, Nat.reduceAdd, Nat.reduceMul, Nat.reduceSub, Nat.reduceDiv, Nat.reduceMod, e0, Nat.zero_mul, Nat.zero_add, hz, f1]
    exact f2
end WF
