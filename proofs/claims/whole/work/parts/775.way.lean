/-! the way of fewest carryings: its first deed, and on -/
def dn (c p q b : Nat) : Nat := 10000 + 1000 * p + 100 * q + 10 * c + b
def nr (D : cpD) (E : cpE) (c to a b : Nat) : Bool := match dst D E c to b with
  | none => false
  | some m => decide (dst D E c to a = some (m + 1))
def fbB (D : cpD) (E : cpE) (c to a p q : Nat) : Option Nat := ff (fun b => bro D E c a b E.h p q && nr D E c to a b) D.K 0
def fdS (D : cpD) (E : cpE) (c to a p q : Nat) (s : Option Nat) : Option Nat := match s with
  | some v => some v
  | none => (fbB D E c to a p q).map (dn c p q)
def fdD (D : cpD) (E : cpE) (c to a : Nat) : Option Nat := up (fun p s => up (fun q s => fdS D E c to a p q s) (D.P - (p + 1)) (p + 1) s) D.P 0 none
def fdC (D : cpD) (E : cpE) (c to a k : Nat) (s : Option Nat) : Option Nat := if poN k < D.P then fdS D E c to a (plN k) (poN k) s else s
theorem up_so {step : Nat → Option Nat → Option Nat} (h : ∀ i v, step i (some v) = some v) : ∀ d i v, up step d i (some v) = some v := by
  intro d
  induction d with
  | zero => intro i v; rfl
  | succ d ih => intro i v; rw [up, h, ih]
theorem up_lpE {α β : Type} {F : Nat → Int32 → α → Option β} (N : Nat) (step : Nat → Option Nat → Option Nat) (J : Nat → α → Prop) (G : Option Nat → Option β → Prop) (hN : N < 5000) (h1 : ∀ i v, step i (some v) = some v)
    (hs : ∀ n i a, i < N → J i a → step i none = none → ∃ a', F (n + 1) (nI i) a = F n (nI (i + 1)) a' ∧ J (i + 1) a')
    (ht : ∀ n i a v, i < N → J i a → step i none = some v → G (some v) (F (n + 1) (nI i) a))
    (he : ∀ n a, J N a → G none (F (n + 1) (nI N) a)) {i0 : Nat} {a : α} (hi : i0 ≤ N) (h0 : J i0 a) : G (up step (N - i0) i0 none) (F cpFu (nI i0) a) := by
  have e : ∀ d i, up step d i none = (ff (fun i => (step i none).isSome) d i).bind (fun i => step i none) := by
    intro d
    induction d with
    | zero => intro i; rfl
    | succ d ih =>
      intro i
      rw [up, ff]
      cases hq : step i none with
      | none => rw [if_neg (by simp), ih]
      | some v => rw [if_pos (by rfl), up_so h1]; exact hq.symm
  rw [e]
  refine ff_lp (F := F) N (fun i => (step i none).isSome) J (fun o r => G (o.bind (fun i => step i none)) r) hN (fun n i a hi hJ hp => hs n i a hi hJ (by cases hq : step i none with | none => rfl | some v => (try dsimp only at hp); rw [hq] at hp; cases hp)) (fun n i a hi hJ hp => ?_) (fun n a hJ => he n a hJ) hi h0
  cases hq : step i none with
  | none => (try dsimp only at hp); rw [hq] at hp; cases hp
  | some v =>
    show G (step i none) _
    rw [hq]
    exact ht n i a v hi hJ hq
section WA
variable {D : cpD} {E : cpE} {S : cpS}
theorem fdD_cls (hD : D.WF) (c to a : Nat) : up (fdC D E c to a) 28 0 none = fdD D E c to a := cls_mdl (fdS D E c to a) hD.p8 none
theorem nr_s {c to a b n : Nat} (h : dst D E c to a = some (n + 1)) : nr D E c to a b = decide (dst D E c to b = some n) := by
  unfold nr
  cases hb : dst D E c to b with
  | none => exact (decide_eq_false (fun q => by cases q)).symm
  | some m =>
    dsimp only
    rw [h]
    by_cases e : m = n
    · rw [e, decide_eq_true rfl, decide_eq_true rfl]
    · rw [decide_eq_false (fun q => by cases q; exact e rfl), decide_eq_false (fun q => by cases q; exact e rfl)]
theorem bro_go (hD : D.WF) {c a b i : Nat} (hi : i < 28) (hP : poN i < D.P) (h : bro D E c a b E.h (plN i) (poN i) = true) : go D E c a b = true := by
  refine decide_eq_true ?_
  unfold brN
  rw [← cls_mdl (brS D E c a b E.h) hD.p8]
  refine up_inv (fun i s => if poN i < D.P then brS D E c a b E.h (plN i) (poN i) s else s) 28 (fun x s => i < x → 0 < s) (fun x s hx q hix => ?_) 28 0 0 (by omega) (fun q => absurd q (by omega)) hi
  (try dsimp only)
  by_cases e : x = i
  · rw [e, if_pos hP]; unfold brS; rw [if_pos h]; omega
  · have := q (by omega)
    unfold brS
    split
    · split <;> omega
    · exact this
theorem go_bro (hD : D.WF) {c a b : Nat} (h : go D E c a b = true) : ∃ i, i < 28 ∧ poN i < D.P ∧ bro D E c a b E.h (plN i) (poN i) = true := by
  refine Classical.byContradiction (fun no => ?_)
  have h := of_decide_eq_true h
  have : brN D E c a b E.h = 0 := by
    unfold brN
    rw [← cls_mdl (brS D E c a b E.h) hD.p8]
    refine up_inv (fun i s => if poN i < D.P then brS D E c a b E.h (plN i) (poN i) s else s) 28 (fun x s => s = 0) (fun x s hx q => ?_) 28 0 0 (by omega) rfl
    (try dsimp only)
    split
    · rename_i hP
      unfold brS
      rw [if_neg (fun g => no ⟨x, hx, hP, g⟩)]; exact q
    · exact q
  omega
theorem fdD_s (hD : D.WF) {c to a n : Nat} (hc : c < D.C) (ht : to < D.K) (h : dst D E c to a = some (n + 1)) : ∃ v, fdD D E c to a = some v ∧ v < 20000 ∧ dst D E c to (v % 10) = some n := by
  have c4 := hD.c4
  have k6 := hD.k6
  have p8 := hD.p8
  have h1 : ∀ v, fdD D E c to a = some v → v < 20000 ∧ dst D E c to (v % 10) = some n := by
    rw [← fdD_cls hD]
    refine up_inv (fdC D E c to a) 28 (fun _ s => ∀ v, s = some v → v < 20000 ∧ dst D E c to (v % 10) = some n) (fun i s hi q v hv => ?_) 28 0 none (by omega) (fun v hv => by cases hv)
    obtain ⟨g1, g2, g3, g4⟩ := p28 i hi
    unfold fdC at hv
    split at hv
    · rename_i hP
      unfold fdS at hv
      cases s with
      | some w => exact q v hv
      | none =>
        (try dsimp only at hv)
        cases hb : fbB D E c to a (plN i) (poN i) with
        | none => rw [hb] at hv; cases hv
        | some b =>
          rw [hb] at hv
          obtain ⟨-, b2, b3, -⟩ := (ff_some _ _ _).mp hb
          (try dsimp only at b3)
          rw [nr_s h, Bool.and_eq_true, decide_eq_true_eq] at b3
          have hv : dn c (plN i) (poN i) b = v := by cases hv; rfl
          have e : v % 10 = b := by unfold dn at hv; omega
          exact ⟨by unfold dn at hv; omega, by rw [e]; exact b3.2⟩
    · exact q v hv
  cases hv : fdD D E c to a with
  | some v => exact ⟨v, rfl, (h1 v hv).1, (h1 v hv).2⟩
  | none =>
    exfalso
    obtain ⟨ha, b, hb, hg, hb2⟩ := dst_3 hD ht h
    obtain ⟨i, hi, hP, hbr⟩ := go_bro hD hg
    rw [← fdD_cls hD] at hv
    have := up_inv (fdC D E c to a) 28 (fun x s => s = none → ∀ i, i < x → poN i < D.P → fbB D E c to a (plN i) (poN i) = none) (fun x s hx q hn i hi hP => ?_) 28 0 none (by omega) (fun _ i hi => absurd hi (by omega)) hv i hi hP
    · have := (ff_none D.K 0).mp this b (by omega) (by omega)
      (try dsimp only at this)
      rw [hbr, nr_s h, decide_eq_true hb2] at this
      cases this
    · cases s with
      | some w =>
        exfalso
        unfold fdC fdS at hn
        split at hn <;> cases hn
      | none =>
        by_cases e : i = x
        · subst e
          unfold fdC at hn
          rw [if_pos hP] at hn
          unfold fdS at hn
          (try dsimp only at hn)
          cases hq : fbB D E c to a (plN i) (poN i) with
          | none => rfl
          | some b => rw [hq] at hn; cases hn
        · exact q rfl i (by omega) hP
/-! the class's first deed -/
def mes (D : cpD) (E : cpE) (c to : Nat) (S : cpS) : Prop := ∀ x, x < D.K → S.1 122 x = oI (dst D E c to x)
theorem c_first11 (hD : D.WF) (c : cA D E S) {k to a i n : Nat} (l : lrn D E false k S) (ms : mes D E k to S) (hk : k < D.C) (ht : to < D.K) (hd : dst D E k to a = some (n + 1)) (hi : i < 28) (kk : Int32 → cpS → Option (Int32 × cpS)) : fX4_firstDeed_11 (nI k) (nI a) (nI i) kk cpFu (nI 0) S = match (if poN i < D.P then fbB D E k to a (plN i) (poN i) else none) with
    | none => kk (nI (i + 1)) S
    | some b => some (nI (dn k (plN i) (poN i) b), S) := by
  have k6 := hD.k6
  have p8 := hD.p8
  have c4 := hD.c4
  have ha := (dst_lt hD ht hd).1
  have hn := (dst_in hd).1
  obtain ⟨g1, g2, g3, g4⟩ := p28 i hi
  have e : (if poN i < D.P then fbB D E k to a (plN i) (poN i) else none) = ff (fun b => decide (poN i < D.P) && (bro D E k a b E.h (plN i) (poN i) && nr D E k to a b)) D.K 0 := by
    by_cases hP : poN i < D.P
    · rw [if_pos hP]
      exact ff_congr (N := D.K) (fun b _ => by rw [decide_eq_true hP]; rfl) D.K 0 (by omega)
    · rw [if_neg hP]
      exact ((ff_none D.K 0).mpr (fun b _ _ => by rw [decide_eq_false hP]; rfl)).symm
  rw [e]
  have ea : S.1 122 a = nI (n + 1) := by rw [ms a ha, hd]; rfl
  refine ff_lp (F := fun f b (T : cpS) => fX4_firstDeed_11 (nI k) (nI a) (nI i) kk f b T) D.K (fun b => decide (poN i < D.P) && (bro D E k a b E.h (plN i) (poN i) && nr D E k to a b)) (fun _ T => T = S) (fun o r => r = match o with
    | none => kk (nI (i + 1)) S
    | some b => some (nI (dn k (plN i) (poN i) b), S)) (by omega) (fun f b T hb hT hp => ⟨S, ?_, rfl⟩) (fun f b T hb hT hp => ?_) (fun f T hT => ?_) (i0 := 0) (a := S) (Nat.zero_le _) rfl
  · subst hT
    have hl := l.2 a b i ha hb hi
    rw [fX4_firstDeed_11]
    unfold fX4_places fX4_wearOf
    by_cases hw : poN i < D.P ∧ bro D E k a b E.h (plN i) (poN i) = true
    · have hv : wv D E false k a b i = nI ((rdT D (plN i) (poN i) k a b E.h).getD 0) := by
        unfold wv
        rw [if_pos hw]; rfl
      obtain ⟨-, -, rr, hr, hrR⟩ := wyF_0 (wy_bro.mpr hw.2)
      have r9 := hD.r9
      have hv : T.1 120 ((a * 6 + b) * 28 + i) = nI rr := by rw [hl, hv, hr]; rfl
      have hg := bro_go hD hi hw.1 hw.2
      cases hb2 : dst D E k to b with
      | none =>
        have eb : T.1 122 b = nM := by rw [ms b hb, hb2]; rfl
        simp (disch := omega) only [lit, lm1, nI_add, pk_mul, nm_eq, nm_eq', nm_lt, nm_lt', nm_le, nm_le', x_lt, x_le, x_eq, x_in, x_cl, x_div, x_sub, x_rem, x_min, x_max, x_and, x_or, x_xor, x_df, x_shl, bI_0, bI_1, bI_bo, lg_eq, toL_inj, ls_nI, decide_eq_false_iff_not, decide_eq_true_eq, Bool.true_eq_false, Bool.false_eq_true, bq, if_pos, if_neg, if_true, if_false, lq, Nat.reduceAdd, Nat.reduceMul, Nat.reduceSub, Nat.reduceDiv, Nat.reduceMod, c.K, hv, eb, eq_self]
      | some m =>
        have hm := (dst_in hb2).1
        have eb : T.1 122 b = nI m := by rw [ms b hb, hb2]; rfl
        obtain ⟨n', e1, e2⟩ := dst_2 hD ht ha hb hg hb2
        rw [hd] at e1
        cases e1
        have : n ≠ m := fun q => by
          rw [decide_eq_true hw.1, hw.2, nr_s hd, hb2, q] at hp
          simp at hp
        simp (disch := omega) only [lit, lm1, nI_add, pk_mul, nm_eq, nm_eq', nm_lt, nm_lt', nm_le, nm_le', x_lt, x_le, x_eq, x_in, x_cl, x_div, x_sub, x_rem, x_min, x_max, x_and, x_or, x_xor, x_df, x_shl, bI_0, bI_1, bI_bo, lg_eq, toL_inj, ls_nI, decide_eq_false_iff_not, decide_eq_true_eq, Bool.true_eq_false, Bool.false_eq_true, bq, if_pos, if_neg, if_true, if_false, lq, Nat.reduceAdd, Nat.reduceMul, Nat.reduceSub, Nat.reduceDiv, Nat.reduceMod, c.K, hv, eb, ea]
    · have hv : T.1 120 ((a * 6 + b) * 28 + i) = nM := by rw [hl]; unfold wv; rw [if_neg hw]
      simp (disch := omega) only [lit, lm1, nI_add, pk_mul, nm_eq, nm_eq', nm_lt, nm_lt', nm_le, nm_le', x_lt, x_le, x_eq, x_in, x_cl, x_div, x_sub, x_rem, x_min, x_max, x_and, x_or, x_xor, x_df, x_shl, bI_0, bI_1, bI_bo, lg_eq, toL_inj, ls_nI, decide_eq_false_iff_not, decide_eq_true_eq, Bool.true_eq_false, Bool.false_eq_true, bq, if_pos, if_neg, if_true, if_false, lq, Nat.reduceAdd, Nat.reduceMul, Nat.reduceSub, Nat.reduceDiv, Nat.reduceMod, c.K, hv, eq_self]
  · subst hT
    (try dsimp only at hp)
    rw [Bool.and_eq_true, Bool.and_eq_true, decide_eq_true_eq, nr_s hd, decide_eq_true_eq] at hp
    obtain ⟨h1, h2, h3⟩ := hp
    have hl := l.2 a b i ha hb hi
    have hv : wv D E false k a b i = nI ((rdT D (plN i) (poN i) k a b E.h).getD 0) := by
      unfold wv
      rw [if_pos ⟨h1, h2⟩]; rfl
    obtain ⟨-, -, rr, hr, hrR⟩ := wyF_0 (wy_bro.mpr h2)
    have r9 := hD.r9
    have hv : T.1 120 ((a * 6 + b) * 28 + i) = nI rr := by rw [hl, hv, hr]; rfl
    have eb : T.1 122 b = nI n := by rw [ms b hb, h3]; rfl
    rw [fX4_firstDeed_11]
    unfold fX4_places fX4_wearOf fX11_deedOf
    simp (disch := omega) only [lit, lm1, nI_add, pk_mul, nm_eq, nm_eq', nm_lt, nm_lt', nm_le, nm_le', x_lt, x_le, x_eq, x_in, x_cl, x_div, x_sub, x_rem, x_min, x_max, x_and, x_or, x_xor, x_df, x_shl, bI_0, bI_1, bI_bo, lg_eq, toL_inj, ls_nI, decide_eq_false_iff_not, decide_eq_true_eq, Bool.true_eq_false, Bool.false_eq_true, bq, if_pos, if_neg, if_true, if_false, lq, Nat.reduceAdd, Nat.reduceMul, Nat.reduceSub, Nat.reduceDiv, Nat.reduceMod, c.K, hv, eb, ea, g1, g2]
    rfl
  · subst hT
    rw [fX4_firstDeed_11]
    unfold fX4_places
    simp (disch := omega) only [lit, lm1, nI_add, pk_mul, nm_eq, nm_eq', nm_lt, nm_lt', nm_le, nm_le', x_lt, x_le, x_eq, x_in, x_cl, x_div, x_sub, x_rem, x_min, x_max, x_and, x_or, x_xor, x_df, x_shl, bI_0, bI_1, bI_bo, lg_eq, toL_inj, ls_nI, decide_eq_false_iff_not, decide_eq_true_eq, Bool.true_eq_false, Bool.false_eq_true, bq, if_pos, if_neg, if_true, if_false, lq, Nat.reduceAdd, Nat.reduceMul, Nat.reduceSub, Nat.reduceDiv, Nat.reduceMod, c.K]
def fd1 (D : cpD) (E : cpE) (c to a : Nat) : Nat := (fdD D E c to a).getD 0
theorem c_firstDeed (hD : D.WF) (c : cA D E S) {k to a n : Nat} (l : lrn D E false k S) (ms : mes D E k to S) (hk : k < D.C) (ht : to < D.K) (hd : dst D E k to a = some (n + 1)) : fX4_firstDeed (nI k) (nI a) S = some (nI (fd1 D E k to a), S) := by
  obtain ⟨v, v1, v2, v3⟩ := fdD_s hD hk ht hd
  have ev : fd1 D E k to a = v := by unfold fd1; rw [v1]; rfl
  rw [ev]
  have := up_lpE (F := fun f i (T : cpS) => fX4_firstDeed_2 (nI k) (nI a) f i T) 28 (fdC D E k to a) (fun _ T => T = S) (fun o r => ∀ v, o = some v → r = some (nI v, S)) (by decide) (fun i v => by unfold fdC fdS; split <;> rfl) (fun f i T hi hT hq => ⟨S, ?_, rfl⟩) (fun f i T v hi hT hq w hw => ?_) (fun f T hT v hv => by cases hv) (i0 := 0) (a := S) (Nat.zero_le _) rfl
  · exact this v ((fdD_cls hD _ _ _).trans v1)
  · subst hT
    have hc := c_first11 hD c l ms hk ht hd hi (fX4_firstDeed_2 (nI k) (nI a) f)
    have : (if poN i < D.P then fbB D E k to a (plN i) (poN i) else none) = none := by
      unfold fdC fdS at hq
      split
      · rename_i hP
        rw [if_pos hP] at hq
        (try dsimp only at hq)
        cases e : fbB D E k to a (plN i) (poN i) with
        | none => rfl
        | some b => rw [e] at hq; cases hq
      · rfl
    rw [this] at hc
    rw [fX4_firstDeed_2]
    simp (disch := omega) only [lit, lm1, nI_add, pk_mul, nm_eq, nm_eq', nm_lt, nm_lt', nm_le, nm_le', x_lt, x_le, x_eq, x_in, x_cl, x_div, x_sub, x_rem, x_min, x_max, x_and, x_or, x_xor, x_df, x_shl, bI_0, bI_1, bI_bo, lg_eq, toL_inj, ls_nI, decide_eq_false_iff_not, decide_eq_true_eq, Bool.true_eq_false, Bool.false_eq_true, bq, if_pos, if_neg, if_true, if_false, lq, Nat.reduceAdd, Nat.reduceMul, Nat.reduceSub, Nat.reduceDiv, Nat.reduceMod]
    exact hc
  · subst hT
    have hc := c_first11 hD c l ms hk ht hd hi (fX4_firstDeed_2 (nI k) (nI a) f)
    cases hw
    have : ∃ b, (if poN i < D.P then fbB D E k to a (plN i) (poN i) else none) = some b ∧ v = dn k (plN i) (poN i) b := by
      unfold fdC fdS at hq
      split
      · rename_i hP
        rw [if_pos hP] at hq
        (try dsimp only at hq)
        cases e : fbB D E k to a (plN i) (poN i) with
        | none => rw [e] at hq; cases hq
        | some b => rw [e] at hq; cases hq; exact ⟨b, rfl, rfl⟩
      · rename_i hP
        rw [if_neg hP] at hq; cases hq
    obtain ⟨b, b1, b2⟩ := this
    rw [b1] at hc
    rw [fX4_firstDeed_2, b2]
    simp (disch := omega) only [lit, lm1, nI_add, pk_mul, nm_eq, nm_eq', nm_lt, nm_lt', nm_le, nm_le', x_lt, x_le, x_eq, x_in, x_cl, x_div, x_sub, x_rem, x_min, x_max, x_and, x_or, x_xor, x_df, x_shl, bI_0, bI_1, bI_bo, lg_eq, toL_inj, ls_nI, decide_eq_false_iff_not, decide_eq_true_eq, Bool.true_eq_false, Bool.false_eq_true, bq, if_pos, if_neg, if_true, if_false, lq, Nat.reduceAdd, Nat.reduceMul, Nat.reduceSub, Nat.reduceDiv, Nat.reduceMod]
    exact hc
/-! the reference's -/
theorem m_near31 (hD : D.WF) (hE : E.WF D) (m : mF D E S E.h) {k to a p q n : Nat} (su : stU S (dst D E k to) 1000) (hk : k < D.C) (ht : to < D.K) (hd : dst D E k to a = some (n + 1)) (hp : p < D.P) (hq : q < D.P) (k2 k17 : Int32 → cpS → Option (Int32 × cpS)) : ∃ T, Kp kH S T ∧ fX12_nearerBy_31 (nI k) (nI a) (nI p) (nI q) k2 k17 cpFu (nI 0) S = match fbB D E k to a p q with
    | none => k17 (nI (q + 1)) T
    | some b => some (nI (dn k p q b), T) := by
  have k6 := hD.k6
  have p8 := hD.p8
  have c4 := hD.c4
  have r9 := hD.r9
  have ha := (dst_lt hD ht hd).1
  have hn := (dst_in hd).1
  refine ff_lp (F := fun f b (T : cpS) => fX12_nearerBy_31 (nI k) (nI a) (nI p) (nI q) k2 k17 f b T) D.K (fun b => bro D E k a b E.h p q && nr D E k to a b) (fun _ T => Kp kH S T) (fun o r => ∃ T, Kp kH S T ∧ r = match o with
    | none => k17 (nI (q + 1)) T
    | some b => some (nI (dn k p q b), T)) (by omega) (fun f b T hb hT hp' => ?_) (fun f b T hb hT hp' => ?_) (fun f T hT => ⟨T, hT, ?_⟩) (i0 := 0) (a := S) (Nat.zero_le _) Kp.rf
  · have mT := m.H hD hT
    have ea : T.1 160 a = nI (n + 1) := by rw [hT.i (by unfold kH; omega), su.1 a (by omega), hd]; rfl
    have eb0 : T.1 160 b = dF (dst D E k to b) := by rw [hT.i (by unfold kH; omega), su.1 b (by omega)]
    by_cases e : dst D E k to b = some n
    · have eb : T.1 160 b = nI n := by rw [eb0, e]; rfl
      obtain ⟨U, u1, u2⟩ := m_roadFor hD hE mT hp hq hk ha hb
      have hbf : bro D E k a b E.h p q = false := by
        cases hbr : bro D E k a b E.h p q
        · rfl
        · rw [hbr, nr_s hd, decide_eq_true e] at hp'; cases hp'
      have hv : (if (E.fd p).testBit q then nM else oI (rdT D p q k a b E.h)) = nM := by
        unfold bro at hbf
        cases hf : (E.fd p).testBit q
        · rw [hf] at hbf
          cases hr : rdT D p q k a b E.h with
          | none => rfl
          | some r => rw [hr] at hbf; cases hbf
        · rfl
      rw [hv] at u1
      refine ⟨U, ?_, hT.tr u2⟩
      rw [fX12_nearerBy_31]
      simp (disch := omega) only [lit, lm1, nI_add, pk_mul, nm_eq, nm_eq', nm_lt, nm_lt', nm_le, nm_le', x_lt, x_le, x_eq, x_in, x_cl, x_div, x_sub, x_rem, x_min, x_max, x_and, x_or, x_xor, x_df, x_shl, bI_0, bI_1, bI_bo, lg_eq, toL_inj, ls_nI, decide_eq_false_iff_not, decide_eq_true_eq, Bool.true_eq_false, Bool.false_eq_true, bq, if_pos, if_neg, if_true, if_false, lq, Nat.reduceAdd, Nat.reduceMul, Nat.reduceSub, Nat.reduceDiv, Nat.reduceMod, mT.1.K, ea, eb, u1, Nat.add_sub_cancel, eq_self]
    · have hne : (T.1 160 b = nI n) = False := by
        rw [eb0]
        cases hb2 : dst D E k to b with
        | none =>
          show (nI 268435456 = nI n) = False
          rw [x_eq (by decide) (by omega)]
          exact eq_false (by omega)
        | some m' =>
          have := (dst_in hb2).1
          show (nI m' = nI n) = False
          rw [x_eq (by omega) (by omega)]
          exact eq_false (fun q => e (by rw [hb2, q]))
      refine ⟨T, ?_, hT⟩
      rw [fX12_nearerBy_31]
      simp (disch := omega) only [lit, lm1, nI_add, pk_mul, nm_eq, nm_eq', nm_lt, nm_lt', nm_le, nm_le', x_lt, x_le, x_eq, x_in, x_cl, x_div, x_sub, x_rem, x_min, x_max, x_and, x_or, x_xor, x_df, x_shl, bI_0, bI_1, bI_bo, lg_eq, toL_inj, ls_nI, decide_eq_false_iff_not, decide_eq_true_eq, Bool.true_eq_false, Bool.false_eq_true, bq, if_pos, if_neg, if_true, if_false, lq, Nat.reduceAdd, Nat.reduceMul, Nat.reduceSub, Nat.reduceDiv, Nat.reduceMod, mT.1.K, ea, Nat.add_sub_cancel, hne]
  · have mT := m.H hD hT
    (try dsimp only at hp')
    rw [Bool.and_eq_true, nr_s hd, decide_eq_true_eq] at hp'
    obtain ⟨h1, h2⟩ := hp'
    have ea : T.1 160 a = nI (n + 1) := by rw [hT.i (by unfold kH; omega), su.1 a (by omega), hd]; rfl
    have eb : T.1 160 b = nI n := by rw [hT.i (by unfold kH; omega), su.1 b (by omega), h2]; rfl
    obtain ⟨U, u1, u2⟩ := m_roadFor hD hE mT hp hq hk ha hb
    obtain ⟨-, hf, rr, hr, hrR⟩ := wyF_0 (wy_bro.mpr h1)
    have hv : (if (E.fd p).testBit q then nM else oI (rdT D p q k a b E.h)) = nI rr := by rw [hf, hr]; rfl
    rw [hv] at u1
    refine ⟨U, hT.tr u2, ?_⟩
    rw [fX12_nearerBy_31]
    unfold fX12_deedOf
    simp (disch := omega) only [lit, lm1, nI_add, pk_mul, nm_eq, nm_eq', nm_lt, nm_lt', nm_le, nm_le', x_lt, x_le, x_eq, x_in, x_cl, x_div, x_sub, x_rem, x_min, x_max, x_and, x_or, x_xor, x_df, x_shl, bI_0, bI_1, bI_bo, lg_eq, toL_inj, ls_nI, decide_eq_false_iff_not, decide_eq_true_eq, Bool.true_eq_false, Bool.false_eq_true, bq, if_pos, if_neg, if_true, if_false, lq, Nat.reduceAdd, Nat.reduceMul, Nat.reduceSub, Nat.reduceDiv, Nat.reduceMod, mT.1.K, ea, eb, u1, Nat.add_sub_cancel, eq_self]
    rfl
  · have mT := m.H hD hT
    rw [fX12_nearerBy_31]
    simp (disch := omega) only [lit, lm1, nI_add, pk_mul, nm_eq, nm_eq', nm_lt, nm_lt', nm_le, nm_le', x_lt, x_le, x_eq, x_in, x_cl, x_div, x_sub, x_rem, x_min, x_max, x_and, x_or, x_xor, x_df, x_shl, bI_0, bI_1, bI_bo, lg_eq, toL_inj, ls_nI, decide_eq_false_iff_not, decide_eq_true_eq, Bool.true_eq_false, Bool.false_eq_true, bq, if_pos, if_neg, if_true, if_false, lq, Nat.reduceAdd, Nat.reduceMul, Nat.reduceSub, Nat.reduceDiv, Nat.reduceMod, mT.1.K]
theorem m_near17 (hD : D.WF) (hE : E.WF D) (m : mF D E S E.h) {k to a p n : Nat} (su : stU S (dst D E k to) 1000) (hk : k < D.C) (ht : to < D.K) (hd : dst D E k to a = some (n + 1)) (hp : p < D.P) (k2 : Int32 → cpS → Option (Int32 × cpS)) : ∃ T, Kp kH S T ∧ fX12_nearerBy_17 (nI k) (nI a) (nI p) k2 cpFu (nI (p + 1)) S = match up (fun q s => fdS D E k to a p q s) (D.P - (p + 1)) (p + 1) none with
    | none => k2 (nI (p + 1)) T
    | some v => some (nI v, T) := by
  have p8 := hD.p8
  refine up_lpE (F := fun f q (T : cpS) => fX12_nearerBy_17 (nI k) (nI a) (nI p) k2 f q T) D.P (fun q s => fdS D E k to a p q s) (fun _ T => Kp kH S T) (fun o r => ∃ T, Kp kH S T ∧ r = match o with
    | none => k2 (nI (p + 1)) T
    | some v => some (nI v, T)) (by omega) (fun i v => rfl) (fun f q T hq hT hs => ?_) (fun f q T v hq hT hs => ?_) (fun f T hT => ⟨T, hT, ?_⟩) (i0 := p + 1) (a := S) (by omega) Kp.rf
  · have mT := m.H hD hT
    obtain ⟨U, u1, u2⟩ := m_near31 hD hE mT (q := q) ⟨fun x hx => by rw [hT.i (by unfold kH; omega)]; exact su.1 x hx, su.2⟩ hk ht hd hp hq k2 (fX12_nearerBy_17 (nI k) (nI a) (nI p) k2 f)
    have e : fbB D E k to a p q = none := by
      cases e : fbB D E k to a p q with
      | none => rfl
      | some b => unfold fdS at hs; (try dsimp only at hs); rw [e] at hs; cases hs
    rw [e] at u2
    refine ⟨U, ?_, hT.tr u1⟩
    rw [fX12_nearerBy_17]
    simp (disch := omega) only [lit, lm1, nI_add, pk_mul, nm_eq, nm_eq', nm_lt, nm_lt', nm_le, nm_le', x_lt, x_le, x_eq, x_in, x_cl, x_div, x_sub, x_rem, x_min, x_max, x_and, x_or, x_xor, x_df, x_shl, bI_0, bI_1, bI_bo, lg_eq, toL_inj, ls_nI, decide_eq_false_iff_not, decide_eq_true_eq, Bool.true_eq_false, Bool.false_eq_true, bq, if_pos, if_neg, if_true, if_false, lq, Nat.reduceAdd, Nat.reduceMul, Nat.reduceSub, Nat.reduceDiv, Nat.reduceMod, mT.1.P]
    exact u2
  · have mT := m.H hD hT
    obtain ⟨U, u1, u2⟩ := m_near31 hD hE mT (q := q) ⟨fun x hx => by rw [hT.i (by unfold kH; omega)]; exact su.1 x hx, su.2⟩ hk ht hd hp hq k2 (fX12_nearerBy_17 (nI k) (nI a) (nI p) k2 f)
    obtain ⟨b, b1, b2⟩ : ∃ b, fbB D E k to a p q = some b ∧ v = dn k p q b := by
      cases e : fbB D E k to a p q with
      | none => unfold fdS at hs; (try dsimp only at hs); rw [e] at hs; cases hs
      | some b => unfold fdS at hs; (try dsimp only at hs); rw [e] at hs; cases hs; exact ⟨b, rfl, rfl⟩
    rw [b1] at u2
    refine ⟨U, hT.tr u1, ?_⟩
    rw [fX12_nearerBy_17, b2]
    simp (disch := omega) only [lit, lm1, nI_add, pk_mul, nm_eq, nm_eq', nm_lt, nm_lt', nm_le, nm_le', x_lt, x_le, x_eq, x_in, x_cl, x_div, x_sub, x_rem, x_min, x_max, x_and, x_or, x_xor, x_df, x_shl, bI_0, bI_1, bI_bo, lg_eq, toL_inj, ls_nI, decide_eq_false_iff_not, decide_eq_true_eq, Bool.true_eq_false, Bool.false_eq_true, bq, if_pos, if_neg, if_true, if_false, lq, Nat.reduceAdd, Nat.reduceMul, Nat.reduceSub, Nat.reduceDiv, Nat.reduceMod, mT.1.P]
    exact u2
  · have mT := m.H hD hT
    rw [fX12_nearerBy_17]
    simp (disch := omega) only [lit, lm1, nI_add, pk_mul, nm_eq, nm_eq', nm_lt, nm_lt', nm_le, nm_le', x_lt, x_le, x_eq, x_in, x_cl, x_div, x_sub, x_rem, x_min, x_max, x_and, x_or, x_xor, x_df, x_shl, bI_0, bI_1, bI_bo, lg_eq, toL_inj, ls_nI, decide_eq_false_iff_not, decide_eq_true_eq, Bool.true_eq_false, Bool.false_eq_true, bq, if_pos, if_neg, if_true, if_false, lq, Nat.reduceAdd, Nat.reduceMul, Nat.reduceSub, Nat.reduceDiv, Nat.reduceMod, mT.1.P]
theorem m_nearerBy (hD : D.WF) (hE : E.WF D) (m : mF D E S E.h) {k to a n : Nat} (su : stU S (dst D E k to) 1000) (hk : k < D.C) (ht : to < D.K) (hd : dst D E k to a = some (n + 1)) : ∃ T, Kp kH S T ∧ fX12_nearerBy (nI k) (nI a) S = some (nI (fd1 D E k to a), T) := by
  have p8 := hD.p8
  obtain ⟨v, v1, v2, v3⟩ := fdD_s hD hk ht hd
  have ev : fd1 D E k to a = v := by unfold fd1; rw [v1]; rfl
  rw [ev]
  have := up_lpE (F := fun f p (T : cpS) => fX12_nearerBy_2 (nI k) (nI a) f p T) D.P (fun p s => up (fun q s => fdS D E k to a p q s) (D.P - (p + 1)) (p + 1) s) (fun _ T => Kp kH S T) (fun o r => ∀ v, o = some v → ∃ T, Kp kH S T ∧ r = some (nI v, T)) (by omega) (fun i v => up_so (fun _ _ => rfl) _ _ _) (fun f p T hp hT hs => ?_) (fun f p T v hp hT hs w hw => ?_) (fun f T hT v hv => by cases hv) (i0 := 0) (a := S) (Nat.zero_le _) Kp.rf
  · exact this v v1
  · have mT := m.H hD hT
    obtain ⟨U, u1, u2⟩ := m_near17 hD hE mT ⟨fun x hx => by rw [hT.i (by unfold kH; omega)]; exact su.1 x hx, su.2⟩ hk ht hd hp (fX12_nearerBy_2 (nI k) (nI a) f)
    (try dsimp only at hs)
    rw [hs] at u2
    refine ⟨U, ?_, hT.tr u1⟩
    rw [fX12_nearerBy_2]
    simp (disch := omega) only [lit, lm1, nI_add, pk_mul, nm_eq, nm_eq', nm_lt, nm_lt', nm_le, nm_le', x_lt, x_le, x_eq, x_in, x_cl, x_div, x_sub, x_rem, x_min, x_max, x_and, x_or, x_xor, x_df, x_shl, bI_0, bI_1, bI_bo, lg_eq, toL_inj, ls_nI, decide_eq_false_iff_not, decide_eq_true_eq, Bool.true_eq_false, Bool.false_eq_true, bq, if_pos, if_neg, if_true, if_false, lq, Nat.reduceAdd, Nat.reduceMul, Nat.reduceSub, Nat.reduceDiv, Nat.reduceMod, mT.1.P]
    exact u2
  · have mT := m.H hD hT
    obtain ⟨U, u1, u2⟩ := m_near17 hD hE mT ⟨fun x hx => by rw [hT.i (by unfold kH; omega)]; exact su.1 x hx, su.2⟩ hk ht hd hp (fX12_nearerBy_2 (nI k) (nI a) f)
    (try dsimp only at hs)
    rw [hs] at u2
    cases hw
    refine ⟨U, hT.tr u1, ?_⟩
    rw [fX12_nearerBy_2]
    simp (disch := omega) only [lit, lm1, nI_add, pk_mul, nm_eq, nm_eq', nm_lt, nm_lt', nm_le, nm_le', x_lt, x_le, x_eq, x_in, x_cl, x_div, x_sub, x_rem, x_min, x_max, x_and, x_or, x_xor, x_df, x_shl, bI_0, bI_1, bI_bo, lg_eq, toL_inj, ls_nI, decide_eq_false_iff_not, decide_eq_true_eq, Bool.true_eq_false, Bool.false_eq_true, bq, if_pos, if_neg, if_true, if_false, lq, Nat.reduceAdd, Nat.reduceMul, Nat.reduceSub, Nat.reduceDiv, Nat.reduceMod, mT.1.P]
    exact u2
/-! the chain -/
def plc (D : cpD) (E : cpE) (c to a : Nat) : Nat → Nat
  | 0 => a
  | j + 1 => fd1 D E c to (plc D E c to a j) % 10
theorem plc_s {c to a j : Nat} : plc D E c to a (j + 1) = fd1 D E c to (plc D E c to a j) % 10 := rfl
theorem fd1_s (hD : D.WF) {c to a n : Nat} (hc : c < D.C) (ht : to < D.K) (h : dst D E c to a = some (n + 1)) : fd1 D E c to a < 20000 ∧ dst D E c to (fd1 D E c to a % 10) = some n := by
  obtain ⟨v, v1, v2, v3⟩ := fdD_s hD hc ht h
  have ev : fd1 D E c to a = v := by unfold fd1; rw [v1]; rfl
  rw [ev]; exact ⟨v2, v3⟩
theorem plc_d (hD : D.WF) {c to a N : Nat} (hc : c < D.C) (ht : to < D.K) (h : dst D E c to a = some N) : ∀ j, j ≤ N → dst D E c to (plc D E c to a j) = some (N - j) := by
  intro j
  induction j with
  | zero => intro _; exact h
  | succ j ih =>
    intro hj
    have := ih (by omega)
    rw [show N - j = (N - (j + 1)) + 1 by omega] at this
    rw [plc_s]
    exact (fd1_s hD hc ht this).2
theorem c_way78 (hD : D.WF) (c : cA D E S) {k to a N i : Nat} (l : lrn D E false k S) (ms : mes D E k to S) (hk : k < D.C) (ht : to < D.K) (hd : dst D E k to a = some N) (hi : i < N) : ∀ d j f, j + d = i → d < f → fX11_way_78 (nI k) (nI i) f (nI (fd1 D E k to (plc D E k to a j))) (nI j) S = some (nI (fd1 D E k to (plc D E k to a i)), S) := by
  have hN := (dst_in hd).1
  intro d
  induction d with
  | zero =>
    intro j f h hf
    obtain ⟨f, rfl⟩ : ∃ g, f = g + 1 := ⟨f - 1, by omega⟩
    obtain rfl : j = i := by omega
    rw [fX11_way_78]
    simp (disch := omega) only [lit, lm1, nI_add, pk_mul, nm_eq, nm_eq', nm_lt, nm_lt', nm_le, nm_le', x_lt, x_le, x_eq, x_in, x_cl, x_div, x_sub, x_rem, x_min, x_max, x_and, x_or, x_xor, x_df, x_shl, bI_0, bI_1, bI_bo, lg_eq, toL_inj, ls_nI, decide_eq_false_iff_not, decide_eq_true_eq, Bool.true_eq_false, Bool.false_eq_true, bq, if_pos, if_neg, if_true, if_false, lq, Nat.reduceAdd, Nat.reduceMul, Nat.reduceSub, Nat.reduceDiv, Nat.reduceMod]
  | succ d ih =>
    intro j f h hf
    obtain ⟨f, rfl⟩ : ∃ g, f = g + 1 := ⟨f - 1, by omega⟩
    have h1 := plc_d hD hk ht hd j (by omega)
    have h2 := plc_d hD hk ht hd (j + 1) (by omega)
    rw [show N - j = (N - (j + 1)) + 1 by omega] at h1
    have h3 := (fd1_s hD hk ht h1).1
    rw [show N - (j + 1) = (N - (j + 2)) + 1 by omega, plc_s] at h2
    have := c_firstDeed hD c l ms hk ht h2
    rw [fX11_way_78]
    simp (disch := omega) only [lit, lm1, nI_add, pk_mul, nm_eq, nm_eq', nm_lt, nm_lt', nm_le, nm_le', x_lt, x_le, x_eq, x_in, x_cl, x_div, x_sub, x_rem, x_min, x_max, x_and, x_or, x_xor, x_df, x_shl, bI_0, bI_1, bI_bo, lg_eq, toL_inj, ls_nI, decide_eq_false_iff_not, decide_eq_true_eq, Bool.true_eq_false, Bool.false_eq_true, bq, if_pos, if_neg, if_true, if_false, lq, Nat.reduceAdd, Nat.reduceMul, Nat.reduceSub, Nat.reduceDiv, Nat.reduceMod, this]
    have := ih (j + 1) f (by omega) (by omega)
    rw [plc_s] at this
    exact this
theorem m_carry13 (hD : D.WF) (hE : E.WF D) {k to a N i : Nat} (hk : k < D.C) (ht : to < D.K) (hd : dst D E k to a = some N) (hi : i < 2 ^ 31) : ∀ d j f (S : cpS), j + d = N → j ≤ i → d < f → mF D E S E.h → stU S (dst D E k to) 1000 → ∃ T, Kp kH S T ∧ fX12_carryingAt_13 (nI k) (nI i) f (nI (plc D E k to a j)) (nI j) S = some (if i < N then nI (fd1 D E k to (plc D E k to a i)) else nM, T) := by
  have k6 := hD.k6
  have hN := (dst_in hd).1
  intro d
  induction d with
  | zero =>
    intro j f S h hj hf m su
    obtain ⟨f, rfl⟩ : ∃ g, f = g + 1 := ⟨f - 1, by omega⟩
    obtain rfl : j = N := by omega
    have h1 := plc_d hD hk ht hd j (Nat.le_refl _)
    rw [Nat.sub_self] at h1
    have h2 := (dst_lt hD ht h1).1
    have e : S.1 160 (plc D E k to a j) = nI 0 := by rw [su.1 _ (by omega), h1]; rfl
    rw [if_neg (by omega)]
    refine ⟨S, Kp.rf, ?_⟩
    rw [fX12_carryingAt_13]
    simp (disch := omega) only [lit, lm1, nI_add, pk_mul, nm_eq, nm_eq', nm_lt, nm_lt', nm_le, nm_le', x_lt, x_le, x_eq, x_in, x_cl, x_div, x_sub, x_rem, x_min, x_max, x_and, x_or, x_xor, x_df, x_shl, bI_0, bI_1, bI_bo, lg_eq, toL_inj, ls_nI, decide_eq_false_iff_not, decide_eq_true_eq, Bool.true_eq_false, Bool.false_eq_true, bq, if_pos, if_neg, if_true, if_false, lq, Nat.reduceAdd, Nat.reduceMul, Nat.reduceSub, Nat.reduceDiv, Nat.reduceMod, e]
  | succ d ih =>
    intro j f S h hj hf m su
    obtain ⟨f, rfl⟩ : ∃ g, f = g + 1 := ⟨f - 1, by omega⟩
    have h1 := plc_d hD hk ht hd j (by omega)
    have h2 := (dst_lt hD ht h1).1
    rw [show N - j = d + 1 by omega] at h1
    have e : S.1 160 (plc D E k to a j) = nI (d + 1) := by rw [su.1 _ (by omega), h1]; rfl
    obtain ⟨U, u1, u2⟩ := m_nearerBy hD hE m su hk ht h1
    by_cases ej : j = i
    · subst ej
      rw [if_pos (by omega)]
      refine ⟨U, u1, ?_⟩
      rw [fX12_carryingAt_13]
      simp (disch := omega) only [lit, lm1, nI_add, pk_mul, nm_eq, nm_eq', nm_lt, nm_lt', nm_le, nm_le', x_lt, x_le, x_eq, x_in, x_cl, x_div, x_sub, x_rem, x_min, x_max, x_and, x_or, x_xor, x_df, x_shl, bI_0, bI_1, bI_bo, lg_eq, toL_inj, ls_nI, decide_eq_false_iff_not, decide_eq_true_eq, Bool.true_eq_false, Bool.false_eq_true, bq, if_pos, if_neg, if_true, if_false, lq, Nat.reduceAdd, Nat.reduceMul, Nat.reduceSub, Nat.reduceDiv, Nat.reduceMod, e, u2]
    · have h3 := (fd1_s hD hk ht h1).1
      obtain ⟨T, t1, t2⟩ := ih (j + 1) f U (by omega) (by omega) (by omega) (m.H hD u1) ⟨fun x hx => by rw [u1.i (by unfold kH; omega)]; exact su.1 x hx, su.2⟩
      refine ⟨T, u1.tr t1, ?_⟩
      rw [fX12_carryingAt_13]
      simp (disch := omega) only [lit, lm1, nI_add, pk_mul, nm_eq, nm_eq', nm_lt, nm_lt', nm_le, nm_le', x_lt, x_le, x_eq, x_in, x_cl, x_div, x_sub, x_rem, x_min, x_max, x_and, x_or, x_xor, x_df, x_shl, bI_0, bI_1, bI_bo, lg_eq, toL_inj, ls_nI, decide_eq_false_iff_not, decide_eq_true_eq, Bool.true_eq_false, Bool.false_eq_true, bq, if_pos, if_neg, if_true, if_false, lq, Nat.reduceAdd, Nat.reduceMul, Nat.reduceSub, Nat.reduceDiv, Nat.reduceMod, e, u2]
      rw [plc_s] at t2
      exact t2
theorem m_carryingAt (hD : D.WF) (hE : E.WF D) {k to N i : Nat} (m : mF D E S E.h) (su : stU S (dst D E k to) 1000) (hk : k < D.C) (ht : to < D.K) (hd : dst D E k to (E.at' k) = some N) (hi : i < 2 ^ 31) : ∃ T, Kp kH S T ∧ fX12_carryingAt (nI k) (nI i) S = some (if i < N then nI (fd1 D E k to (plc D E k to (E.at' k) i)) else nM, T) := by
  have c4 := hD.c4
  have hN := (dst_in hd).1
  obtain ⟨T, t1, t2⟩ := m_carry13 hD hE hk ht hd hi N 0 cpFu S (by omega) (by omega) (by show _ < 5000; omega) m su
  refine ⟨T, t1, ?_⟩
  unfold fX12_carryingAt
  simp (disch := omega) only [lit, lm1, nI_add, pk_mul, nm_eq, nm_eq', nm_lt, nm_lt', nm_le, nm_le', x_lt, x_le, x_eq, x_in, x_cl, x_div, x_sub, x_rem, x_min, x_max, x_and, x_or, x_xor, x_df, x_shl, bI_0, bI_1, bI_bo, lg_eq, toL_inj, ls_nI, decide_eq_false_iff_not, decide_eq_true_eq, Bool.true_eq_false, Bool.false_eq_true, bq, if_pos, if_neg, if_true, if_false, lq, Nat.reduceAdd, Nat.reduceMul, Nat.reduceSub, Nat.reduceDiv, Nat.reduceMod, m.1.at']
  exact t2
theorem m_carryingN (hD : D.WF) (hE : E.WF D) {k to : Nat} {x : Int32} (m : mF D E S E.h) (su : stU S (dst D E k to) 1000) (hk : k < D.C) (hd : dst D E k to (E.at' k) = none) : fX12_carryingAt (nI k) x S = some (nM, S) := by
  have c4 := hD.c4
  have k6 := hD.k6
  have ha := hE.at' k hk
  have e : S.1 160 (E.at' k) = nI 268435456 := by rw [su.1 _ (by omega), hd]; rfl
  unfold fX12_carryingAt
  simp (disch := omega) only [lit, lm1, nI_add, pk_mul, nm_eq, nm_eq', nm_lt, nm_lt', nm_le, nm_le', x_lt, x_le, x_eq, x_in, x_cl, x_div, x_sub, x_rem, x_min, x_max, x_and, x_or, x_xor, x_df, x_shl, bI_0, bI_1, bI_bo, lg_eq, toL_inj, ls_nI, decide_eq_false_iff_not, decide_eq_true_eq, Bool.true_eq_false, Bool.false_eq_true, bq, if_pos, if_neg, if_true, if_false, lq, Nat.reduceAdd, Nat.reduceMul, Nat.reduceSub, Nat.reduceDiv, Nat.reduceMod, m.1.at']
  rw [show cpFu = 4999 + 1 from rfl, fX12_carryingAt_13]
  simp (disch := omega) only [lit, lm1, nI_add, pk_mul, nm_eq, nm_eq', nm_lt, nm_lt', nm_le, nm_le', x_lt, x_le, x_eq, x_in, x_cl, x_div, x_sub, x_rem, x_min, x_max, x_and, x_or, x_xor, x_df, x_shl, bI_0, bI_1, bI_bo, lg_eq, toL_inj, ls_nI, decide_eq_false_iff_not, decide_eq_true_eq, Bool.true_eq_false, Bool.false_eq_true, bq, if_pos, if_neg, if_true, if_false, lq, Nat.reduceAdd, Nat.reduceMul, Nat.reduceSub, Nat.reduceDiv, Nat.reduceMod, e]
end WA
theorem kH_M {k j : Nat} (h : kH k j) : kM k j := kG_M (kH_G h)
theorem q_way : cpQ_way cpRl := by
  intro x1 x2 x3 S hR
  refine q1 hR (fun D E hD hE => ?_)
  have c4 := hD.c4
  have k6 := hD.k6
  rcases arg2 D x1 x2 with ⟨k, t, hk, ht, rfl, rfl⟩ | h
  · have ha := hE.at' k hk
    rcases in_or x3 (2 ^ 31) with ⟨i, hi, rfl⟩ | h3
    · cases hd : dst D E k t (E.at' k) with
      | none =>
        refine ⟨nM, fun S c => ?_, fun S m => ?_⟩
        · obtain ⟨A, a1, a2, a3⟩ := c_learn hD hE c false hk
          have a1 : fX4_learn (nI k) (nI 0) S = some ((), A) := a1
          have cA' := c.cc (a3.le (fun _ _ => kL_C))
          obtain ⟨B, b1, b2, b3⟩ := c_measureTo hD cA' a2 ht
          have cB := cA'.cc (b3.le (fun _ _ => k122_C))
          have e := b2 (E.at' k) ha
          rw [hd] at e
          have e : B.1 122 (E.at' k) = nM := e
          refine ⟨B, ?_, (a3.le (fun _ _ => kL_C)).tr (b3.le (fun _ _ => k122_C))⟩
          unfold fX11_way
          simp (disch := omega) only [lit, lm1, nI_add, pk_mul, nm_eq, nm_eq', nm_lt, nm_lt', nm_le, nm_le', x_lt, x_le, x_eq, x_in, x_cl, x_div, x_sub, x_rem, x_min, x_max, x_and, x_or, x_xor, x_df, x_shl, bI_0, bI_1, bI_bo, lg_eq, toL_inj, ls_nI, decide_eq_false_iff_not, decide_eq_true_eq, Bool.true_eq_false, Bool.false_eq_true, bq, if_pos, if_neg, if_true, if_false, lq, Nat.reduceAdd, Nat.reduceMul, Nat.reduceSub, Nat.reduceDiv, Nat.reduceMod, c_cap1 hD c hk ht, a1, b1, cB.at', e]
        · have m0 := m.thr hD (nI 0)
          obtain ⟨T, t1, t2, t3, t4, t5⟩ := m_laysStill hD hE m0 hk ht
          have := m_carryingN (x := nI i) hD hE t4 t2 hk hd
          refine ⟨T, ?_, (kM_thr S (nI 0)).tr (t5.le (fun _ _ => kS_M))⟩
          unfold fX12_way
          simp (disch := omega) only [lit, lm1, nI_add, pk_mul, nm_eq, nm_eq', nm_lt, nm_lt', nm_le, nm_le', x_lt, x_le, x_eq, x_in, x_cl, x_div, x_sub, x_rem, x_min, x_max, x_and, x_or, x_xor, x_df, x_shl, bI_0, bI_1, bI_bo, lg_eq, toL_inj, ls_nI, decide_eq_false_iff_not, decide_eq_true_eq, Bool.true_eq_false, Bool.false_eq_true, bq, if_pos, if_neg, if_true, if_false, lq, Nat.reduceAdd, Nat.reduceMul, Nat.reduceSub, Nat.reduceDiv, Nat.reduceMod, m_noCoin1 hD m0 hk ht, t1, this]
      | some N =>
        have hN := (dst_in hd).1
        refine ⟨if i < N then nI (fd1 D E k t (plc D E k t (E.at' k) i)) else nM, fun S c => ?_, fun S m => ?_⟩
        · obtain ⟨A, a1, a2, a3⟩ := c_learn hD hE c false hk
          have a1 : fX4_learn (nI k) (nI 0) S = some ((), A) := a1
          have cA' := c.cc (a3.le (fun _ _ => kL_C))
          obtain ⟨B, b1, b2, b3⟩ := c_measureTo hD cA' a2 ht
          have cB := cA'.cc (b3.le (fun _ _ => k122_C))
          have lB := a2.kp b3 (fun q j h => by unfold k122 at h; omega)
          have e := b2 (E.at' k) ha
          rw [hd] at e
          have e : B.1 122 (E.at' k) = nI N := e
          refine ⟨B, ?_, (a3.le (fun _ _ => kL_C)).tr (b3.le (fun _ _ => k122_C))⟩
          unfold fX11_way
          by_cases hiN : i < N
          · have h0 : dst D E k t (E.at' k) = some ((N - 1) + 1) := by rw [hd, show N - 1 + 1 = N by omega]
            have f1 := c_firstDeed hD cB lB b2 hk ht h0
            have f2 := c_way78 hD cB lB b2 hk ht hd hiN i 0 cpFu (by omega) (by show _ < 5000; omega)
            simp (disch := omega) only [lit, lm1, nI_add, pk_mul, nm_eq, nm_eq', nm_lt, nm_lt', nm_le, nm_le', x_lt, x_le, x_eq, x_in, x_cl, x_div, x_sub, x_rem, x_min, x_max, x_and, x_or, x_xor, x_df, x_shl, bI_0, bI_1, bI_bo, lg_eq, toL_inj, ls_nI, decide_eq_false_iff_not, decide_eq_true_eq, Bool.true_eq_false, Bool.false_eq_true, bq, if_pos, if_neg, if_true, if_false, lq, Nat.reduceAdd, Nat.reduceMul, Nat.reduceSub, Nat.reduceDiv, Nat.reduceMod, c_cap1 hD c hk ht, a1, b1, cB.at', e, f1]
            exact f2
          · simp (disch := omega) only [lit, lm1, nI_add, pk_mul, nm_eq, nm_eq', nm_lt, nm_lt', nm_le, nm_le', x_lt, x_le, x_eq, x_in, x_cl, x_div, x_sub, x_rem, x_min, x_max, x_and, x_or, x_xor, x_df, x_shl, bI_0, bI_1, bI_bo, lg_eq, toL_inj, ls_nI, decide_eq_false_iff_not, decide_eq_true_eq, Bool.true_eq_false, Bool.false_eq_true, bq, if_pos, if_neg, if_true, if_false, lq, Nat.reduceAdd, Nat.reduceMul, Nat.reduceSub, Nat.reduceDiv, Nat.reduceMod, c_cap1 hD c hk ht, a1, b1, cB.at', e]
        · have m0 := m.thr hD (nI 0)
          obtain ⟨T, t1, t2, t3, t4, t5⟩ := m_laysStill hD hE m0 hk ht
          obtain ⟨U, u1, u2⟩ := m_carryingAt hD hE t4 t2 hk ht hd hi
          refine ⟨U, ?_, ((kM_thr S (nI 0)).tr (t5.le (fun _ _ => kS_M))).tr (u1.le (fun _ _ => kH_M))⟩
          unfold fX12_way
          simp (disch := omega) only [lit, lm1, nI_add, pk_mul, nm_eq, nm_eq', nm_lt, nm_lt', nm_le, nm_le', x_lt, x_le, x_eq, x_in, x_cl, x_div, x_sub, x_rem, x_min, x_max, x_and, x_or, x_xor, x_df, x_shl, bI_0, bI_1, bI_bo, lg_eq, toL_inj, ls_nI, decide_eq_false_iff_not, decide_eq_true_eq, Bool.true_eq_false, Bool.false_eq_true, bq, if_pos, if_neg, if_true, if_false, lq, Nat.reduceAdd, Nat.reduceMul, Nat.reduceSub, Nat.reduceDiv, Nat.reduceMod, m_noCoin1 hD m0 hk ht, t1, u2]
    · have hneg : (nI 0 ≤ x3) = False := eq_false (fun q => by
        have h1 : ¬ (0 ≤ x3.toInt ∧ x3.toInt < (2 ^ 31 : Nat)) := of_decide_eq_false h3
        have z : (nI 0).toInt = 0 := by decide
        rw [i_le, z] at q
        have := x3.toInt_lt
        exact h1 ⟨q, by omega⟩)
      refine ⟨-3, fun S c => ⟨S, ?_, Kp.rf⟩, fun S m => ⟨_, ?_, kM_thr S (nI 0)⟩⟩
      · unfold fX11_way
        simp (disch := omega) only [lit, lm1, nI_add, pk_mul, nm_eq, nm_eq', nm_lt, nm_lt', nm_le, nm_le', x_lt, x_le, x_eq, x_in, x_cl, x_div, x_sub, x_rem, x_min, x_max, x_and, x_or, x_xor, x_df, x_shl, bI_0, bI_1, bI_bo, lg_eq, toL_inj, ls_nI, decide_eq_false_iff_not, decide_eq_true_eq, Bool.true_eq_false, Bool.false_eq_true, bq, if_pos, if_neg, if_true, if_false, lq, Nat.reduceAdd, Nat.reduceMul, Nat.reduceSub, Nat.reduceDiv, Nat.reduceMod, c_cap1 hD c hk ht, hneg]
      · unfold fX12_way
        simp (disch := omega) only [lit, lm1, nI_add, pk_mul, nm_eq, nm_eq', nm_lt, nm_lt', nm_le, nm_le', x_lt, x_le, x_eq, x_in, x_cl, x_div, x_sub, x_rem, x_min, x_max, x_and, x_or, x_xor, x_df, x_shl, bI_0, bI_1, bI_bo, lg_eq, toL_inj, ls_nI, decide_eq_false_iff_not, decide_eq_true_eq, Bool.true_eq_false, Bool.false_eq_true, bq, if_pos, if_neg, if_true, if_false, lq, Nat.reduceAdd, Nat.reduceMul, Nat.reduceSub, Nat.reduceDiv, Nat.reduceMod, m_noCoin1 hD (m.thr hD (nI 0)) hk ht, hneg]
  · refine ⟨-2, fun S c => ⟨S, ?_, Kp.rf⟩, fun S m => ⟨_, ?_, kM_thr S (nI 0)⟩⟩
    · unfold fX11_way
      simp (disch := omega) only [lit, lm1, nI_add, pk_mul, nm_eq, nm_eq', nm_lt, nm_lt', nm_le, nm_le', x_lt, x_le, x_eq, x_in, x_cl, x_div, x_sub, x_rem, x_min, x_max, x_and, x_or, x_xor, x_df, x_shl, bI_0, bI_1, bI_bo, lg_eq, toL_inj, ls_nI, decide_eq_false_iff_not, decide_eq_true_eq, Bool.true_eq_false, Bool.false_eq_true, bq, if_pos, if_neg, if_true, if_false, lq, Nat.reduceAdd, Nat.reduceMul, Nat.reduceSub, Nat.reduceDiv, Nat.reduceMod, c_coinAndPlace hD c, h]
    · have hno : fX12_noCoin x1 x2 (cpI S 150 0 (nI 0)) = some (-2, cpI S 150 0 (nI 0)) := by rw [m_noCoin hD (m.thr hD (nI 0)), h]; rfl
      unfold fX12_way
      simp (disch := omega) only [lit, lm1, nI_add, pk_mul, nm_eq, nm_eq', nm_lt, nm_lt', nm_le, nm_le', x_lt, x_le, x_eq, x_in, x_cl, x_div, x_sub, x_rem, x_min, x_max, x_and, x_or, x_xor, x_df, x_shl, bI_0, bI_1, bI_bo, lg_eq, toL_inj, ls_nI, decide_eq_false_iff_not, decide_eq_true_eq, Bool.true_eq_false, Bool.false_eq_true, bq, if_pos, if_neg, if_true, if_false, lq, Nat.reduceAdd, Nat.reduceMul, Nat.reduceSub, Nat.reduceDiv, Nat.reduceMod, hno]
      rfl
