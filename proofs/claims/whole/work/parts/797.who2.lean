/-! who can have carried: the reference -/
def wst (D : cpD) (E : cpE) (c : Nat) (v : Nat → Int64) (n j a p q b : Nat) (z : Nat × Nat) : Nat × Nat := if fg D E c v n j a p q b then (z.1 ||| (2 ^ p ||| 2 ^ q), z.2 ||| 2 ^ b) else z
def wsd (D : cpD) (E : cpE) (c : Nat) (v : Nat → Int64) (n j a d : Nat) (z : Nat × Nat) : Nat × Nat := wst D E c v n j a (d / 1000 % 10) (d / 100 % 10) (d % 10) z
def ra (D : cpD) (E : cpE) (c : Nat) (v : Nat → Int64) (n j s a : Nat) (z : Nat × Nat) : Nat × Nat := if s.testBit a then up (fun x z => wsd D E c v n j a ((dls D c).getD x 0) z) (dls D c).length 0 z else z
def rp (D : cpD) (E : cpE) (c : Nat) (v : Nat → Int64) (n j s : Nat) : Nat × Nat := up (fun a z => ra D E c v n j s a z) D.K 0 (0, 0)
def rs (D : cpD) (E : cpE) (c : Nat) (v : Nat → Int64) (n a : Nat) : Nat → Nat
  | 0 => 2 ^ a
  | j + 1 => (rp D E c v n j (rs D E c v n a j)).2
def zOk (D : cpD) (z : Nat × Nat) : Prop := z.1 < 2 ^ 8 ∧ z.2 < 2 ^ D.K
section WH2
variable {D : cpD} {E : cpE} {S : cpS}
theorem rs_s (c : Nat) (v : Nat → Int64) (n a j : Nat) : rs D E c v n a (j + 1) = (rp D E c v n j (rs D E c v n a j)).2 := rfl
theorem wst_ok {c n j a p q b : Nat} {v : Nat → Int64} {z : Nat × Nat} (hp : p < 8) (hq : q < 8) (hb : b < D.K) (h : zOk D z) : zOk D (wst D E c v n j a p q b z) := by
  unfold wst
  split
  · exact ⟨or_lt h.1 (or_lt (two_lt hp) (two_lt hq)), or_lt h.2 (two_lt hb)⟩
  · exact h
theorem wsd_ok (hD : D.WF) {c n j a d : Nat} {v : Nat → Int64} {z : Nat × Nat} (hc : c < D.C) (hd : dOk D c d) (h : zOk D z) : zOk D (wsd D E c v n j a d z) := by
  have c4 := hD.c4
  have k6 := hD.k6
  have p8 := hD.p8
  obtain ⟨p, q, b, hpq, hq, hb, rfl⟩ := hd
  obtain ⟨e1, e2, e3, e4, e5⟩ := dn_dec (c := c) (p := p) (q := q) (b := b) (by omega) (by omega) (by omega) (by omega)
  unfold wsd
  rw [e1, e2, e4]
  exact wst_ok (by omega) (by omega) hb h
theorem ra_eq (hD : D.WF) {c n j a : Nat} {v : Nat → Int64} (hc : c < D.C) (z : Nat × Nat) : up (fun x z => wsd D E c v n j a ((dls D c).getD x 0) z) (dls D c).length 0 z = up (fun k z => if poN k < D.P then up (fun b z => wst D E c v n j a (plN k) (poN k) b z) D.K 0 z else z) 28 0 z := by
  have c4 := hD.c4
  have k6 := hD.k6
  have p8 := hD.p8
  rw [up_list (wsd D E c v n j a), dls_fold, cls_mdl (fun p q z => up (fun b z => wst D E c v n j a p q b z) D.K 0 z) p8]
  refine up_congr (N := D.P) (fun p s hp => ?_) D.P 0 z (by omega)
  refine up_congr (N := D.P) (fun q s hq => ?_) (D.P - (p + 1)) (p + 1) s (by omega)
  refine up_congr (N := D.K) (fun b s hb => ?_) D.K 0 s (by omega)
  obtain ⟨e1, e2, e3, e4, e5⟩ := dn_dec (c := c) (p := p) (q := q) (b := b) (by omega) (by omega) (by omega) (by omega)
  unfold wsd
  rw [e1, e2, e4]
theorem ra_iff (hD : D.WF) {c n j s a : Nat} {v : Nat → Int64} (hc : c < D.C) {B : Nat × Nat → Prop} {Q : Nat → Nat → Prop} (h : ∀ k b z, B (wst D E c v n j a (plN k) (poN k) b z) ↔ B z ∨ (fg D E c v n j a (plN k) (poN k) b = true ∧ Q k b)) (z : Nat × Nat) : B (ra D E c v n j s a z) ↔ B z ∨ (s.testBit a = true ∧ ∃ k, k < 28 ∧ poN k < D.P ∧ ∃ b, b < D.K ∧ fg D E c v n j a (plN k) (poN k) b = true ∧ Q k b) := by
  unfold ra
  by_cases hs : s.testBit a = true
  · rw [if_pos hs, ra_eq hD hc]
    refine (up_iff0 (step := fun k z => if poN k < D.P then up (fun b z => wst D E c v n j a (plN k) (poN k) b z) D.K 0 z else z) (B := B) (Q := fun k => poN k < D.P ∧ ∃ b, b < D.K ∧ fg D E c v n j a (plN k) (poN k) b = true ∧ Q k b) (fun k z => ?_) 28 z).trans ?_
    · (try dsimp only)
      by_cases hP : poN k < D.P
      · rw [if_pos hP]
        refine (up_iff0 (step := fun b z => wst D E c v n j a (plN k) (poN k) b z) (B := B) (fun b z => h k b z) D.K z).trans ?_
        exact ⟨fun q => by rcases q with q | q; exact Or.inl q; exact Or.inr ⟨hP, q⟩, fun q => by rcases q with q | q; exact Or.inl q; exact Or.inr q.2⟩
      · rw [if_neg hP]
        exact ⟨fun q => Or.inl q, fun q => by rcases q with q | q; exact q; exact absurd q.1 hP⟩
    · exact ⟨fun q => by rcases q with q | q; exact Or.inl q; exact Or.inr ⟨hs, q⟩, fun q => by rcases q with q | q; exact Or.inl q; exact Or.inr q.2⟩
  · rw [if_neg hs]
    exact ⟨fun q => Or.inl q, fun q => by rcases q with q | q; exact q; exact absurd q.1 hs⟩
theorem rp_iff (hD : D.WF) {c n j s : Nat} {v : Nat → Int64} (hc : c < D.C) {B : Nat × Nat → Prop} {Q : Nat → Nat → Prop} (h0 : ¬ B (0, 0)) (h : ∀ a k b z, B (wst D E c v n j a (plN k) (poN k) b z) ↔ B z ∨ (fg D E c v n j a (plN k) (poN k) b = true ∧ Q k b)) : B (rp D E c v n j s) ↔ ∃ a, a < D.K ∧ s.testBit a = true ∧ ∃ k, k < 28 ∧ ∃ b, b < D.K ∧ ftI D E c (v j) a b k = true ∧ 0 < rwD D E c v (n - (j + 1)) (j + 1) b ∧ Q k b := by
  refine (up_iff0 (step := fun a z => ra D E c v n j s a z) (B := B) (fun a z => ra_iff hD hc (h a) z) D.K (0, 0)).trans ?_
  constructor
  · rintro (q | ⟨a, a1, a2, k, k1, k2, b, b1, b2, b3⟩)
    · exact absurd q h0
    · unfold fg at b2
      rw [Bool.and_eq_true, decide_eq_true_eq] at b2
      refine ⟨a, a1, a2, k, k1, b, b1, ?_, b2.2, b3⟩
      unfold ftI
      rw [decide_eq_true k2, b2.1]; rfl
  · rintro ⟨a, a1, a2, k, k1, b, b1, b2, b3, b4⟩
    unfold ftI at b2
    rw [Bool.and_eq_true, decide_eq_true_eq] at b2
    refine Or.inr ⟨a, a1, a2, k, k1, b2.1, b, b1, ?_, b4⟩
    unfold fg
    rw [b2.2, decide_eq_true b3]; rfl
theorem rp2_b (hD : D.WF) {c n j s y : Nat} {v : Nat → Int64} (hc : c < D.C) : (rp D E c v n j s).2.testBit y = true ↔ ∃ a, a < D.K ∧ s.testBit a = true ∧ ∃ k, k < 28 ∧ ∃ b, b < D.K ∧ ftI D E c (v j) a b k = true ∧ 0 < rwD D E c v (n - (j + 1)) (j + 1) b ∧ b = y := by
  refine rp_iff hD hc (B := fun z => z.2.testBit y = true) (Q := fun _ b => b = y) (by rw [Nat.zero_testBit]; exact Bool.false_ne_true) (fun a k b z => ?_)
  unfold wst
  cases hf : fg D E c v n j a (plN k) (poN k) b
  · exact ⟨fun q => Or.inl q, fun q => by rcases q with q | q; exact q; cases q.1⟩
  · rw [if_pos rfl]
    (try dsimp only)
    rw [Nat.testBit_or, Bool.or_eq_true, Nat.testBit_two_pow, decide_eq_true_eq]
    exact ⟨fun q => by rcases q with q | q; exact Or.inl q; exact Or.inr ⟨rfl, q⟩, fun q => by rcases q with q | q; exact Or.inl q; exact Or.inr q.2⟩
theorem rp1_b (hD : D.WF) {c n j s y : Nat} {v : Nat → Int64} (hc : c < D.C) : (rp D E c v n j s).1.testBit y = true ↔ ∃ a, a < D.K ∧ s.testBit a = true ∧ ∃ k, k < 28 ∧ ∃ b, b < D.K ∧ ftI D E c (v j) a b k = true ∧ 0 < rwD D E c v (n - (j + 1)) (j + 1) b ∧ (2 ^ plN k ||| 2 ^ poN k).testBit y = true := by
  refine rp_iff hD hc (B := fun z => z.1.testBit y = true) (Q := fun k _ => (2 ^ plN k ||| 2 ^ poN k).testBit y = true) (by rw [Nat.zero_testBit]; exact Bool.false_ne_true) (fun a k b z => ?_)
  unfold wst
  cases hf : fg D E c v n j a (plN k) (poN k) b
  · exact ⟨fun q => Or.inl q, fun q => by rcases q with q | q; exact q; cases q.1⟩
  · rw [if_pos rfl]
    (try dsimp only)
    rw [Nat.testBit_or, Bool.or_eq_true]
    exact ⟨fun q => by rcases q with q | q; exact Or.inl q; exact Or.inr ⟨rfl, q⟩, fun q => by rcases q with q | q; exact Or.inl q; exact Or.inr q.2⟩
theorem rw_pos' {c n j a b i : Nat} {v : Nat → Int64} (hj : j < n) (hb : b < D.K) (hi : i < 28) (hf : ftI D E c (v j) a b i = true) (hr : 0 < rwD D E c v (n - (j + 1)) (j + 1) b) : 0 < rwD D E c v (n - j) j a := by
  rw [show n - j = (n - (j + 1)) + 1 by omega, rwD_s]
  refine (up_iff0 (step := fun b s => up (fun i s => adI (ftI D E c (v j) a b i) (rwD D E c v (n - (j + 1)) (j + 1) b) s) 28 0 s) (B := fun s => 0 < s) (Q := fun b => ∃ i, i < 28 ∧ (ftI D E c (v j) a b i = true ∧ 0 < rwD D E c v (n - (j + 1)) (j + 1) b)) (fun b s => ?_) D.K 0).mpr (Or.inr ⟨b, hb, i, hi, hf, hr⟩)
  refine up_iff0 (step := fun i s => adI (ftI D E c (v j) a b i) (rwD D E c v (n - (j + 1)) (j + 1) b) s) (B := fun s => 0 < s) (fun i s => ?_) 28 s
  (try dsimp only)
  unfold adI
  cases ftI D E c (v j) a b i
  · exact ⟨fun q => Or.inl q, fun q => by rcases q with q | q; exact q; cases q.1⟩
  · rw [if_pos rfl]
    exact ⟨fun q => by by_cases e : 0 < s; exact Or.inl e; exact Or.inr ⟨rfl, by omega⟩, fun q => by rcases q with q | q; omega; have := q.2; omega⟩
theorem us_back {c n a0 : Nat} {v : Nat → Int64} : ∀ j a, j ≤ n → (us D E c v a0 j).testBit a = true → 0 < rwD D E c v (n - j) j a → 0 < rwD D E c v n 0 a0 := by
  intro j
  induction j with
  | zero =>
    intro a _ hs hr
    have hs : (2 ^ a0).testBit a = true := hs
    rw [Nat.testBit_two_pow, decide_eq_true_eq] at hs
    rw [hs]; exact hr
  | succ j ih =>
    intro b hj hs hr
    rw [us_s, bk_b] at hs
    obtain ⟨a, a1, a2, hb, i, hi, hf⟩ := hs
    exact ih a (by omega) a2 (rw_pos' (by omega) hb hi hf hr)
theorem rs_us (hD : D.WF) {c n a0 : Nat} {v : Nat → Int64} (hc : c < D.C) (h0 : 0 < rwD D E c v n 0 a0) : ∀ j, j ≤ n → ∀ a, (rs D E c v n a0 j).testBit a = true ↔ (us D E c v a0 j).testBit a = true ∧ 0 < rwD D E c v (n - j) j a := by
  intro j
  induction j with
  | zero =>
    intro _ a
    show (2 ^ a0).testBit a = true ↔ (2 ^ a0).testBit a = true ∧ _
    rw [Nat.testBit_two_pow, decide_eq_true_eq]
    exact ⟨fun e => ⟨e, by rw [← e]; exact h0⟩, fun e => e.1⟩
  | succ j ih =>
    intro hj y
    rw [rs_s, rp2_b hD hc, us_s, bk_b]
    constructor
    · rintro ⟨a, a1, a2, k, k1, b, b1, b2, b3, b4⟩
      subst b4
      exact ⟨⟨a, a1, ((ih (by omega) a).mp a2).1, b1, k, k1, b2⟩, b3⟩
    · rintro ⟨⟨a, a1, a2, hy, k, k1, b2⟩, hr⟩
      exact ⟨a, a1, (ih (by omega) a).mpr ⟨a2, rw_pos' (by omega) hy k1 b2 hr⟩, k, k1, y, hy, b2, hr, rfl⟩
theorem peo_b {c n j s y : Nat} {v : Nat → Int64} : (peo D E c v n j s).testBit y = true ↔ ∃ k, k < 28 ∧ hb D E c v n j k s = true ∧ (2 ^ plN k ||| 2 ^ poN k).testBit y = true := by
  unfold peo
  refine (up_iff0 (step := fun i x => orI (hb D E c v n j i s) (2 ^ plN i ||| 2 ^ poN i) x) (B := fun t => t.testBit y = true) (fun i t => orI_b) 28 0).trans ?_
  rw [Nat.zero_testBit]
  exact ⟨fun q => by rcases q with q | q; cases q; exact q, fun q => Or.inr q⟩
theorem who_eq (hD : D.WF) {c n a0 i : Nat} {v : Nat → Int64} (hc : c < D.C) (hi : i < n) (h0 : 0 < rwD D E c v n 0 a0) : (rp D E c v n i (rs D E c v n a0 i)).1 = peo D E c v n i (us D E c v a0 i) := by
  have e : ∀ y, (rp D E c v n i (rs D E c v n a0 i)).1.testBit y = true ↔ (peo D E c v n i (us D E c v a0 i)).testBit y = true := fun y => by
    rw [rp1_b hD hc, peo_b]
    constructor
    · rintro ⟨a, a1, a2, k, k1, b, b1, b2, b3, b4⟩
      exact ⟨k, k1, hb_b.mpr ⟨a, a1, ((rs_us hD hc h0 i (by omega) a).mp a2).1, b, b1, b2, b3⟩, b4⟩
    · rintro ⟨k, k1, k2, k3⟩
      obtain ⟨a, a1, a2, b, b1, b2, b3⟩ := hb_b.mp k2
      exact ⟨a, a1, (rs_us hD hc h0 i (by omega) a).mpr ⟨a2, rw_pos' hi b1 k1 b2 b3⟩, k, k1, b, b1, b2, b3, k3⟩
  exact Nat.eq_of_testBit_eq (fun y => by
    cases h1 : (rp D E c v n i (rs D E c v n a0 i)).1.testBit y
    · cases h2 : (peo D E c v n i (us D E c v a0 i)).testBit y
      · rfl
      · have := (e y).mpr h2; rw [h1] at this; cases this
    · exact ((e y).mp h1).symm)
theorem who_0 {c n a0 i : Nat} {v : Nat → Int64} (hi : i < n) (h0 : rwD D E c v n 0 a0 = 0) : peo D E c v n i (us D E c v a0 i) = 0 := by
  refine Nat.eq_of_testBit_eq (fun y => ?_)
  rw [Nat.zero_testBit]
  cases h2 : (peo D E c v n i (us D E c v a0 i)).testBit y
  · rfl
  · exfalso
    obtain ⟨k, k1, k2, k3⟩ := peo_b.mp h2
    obtain ⟨a, a1, a2, b, b1, b2, b3⟩ := hb_b.mp k2
    have := us_back (n := n) i a (by omega) a2 (rw_pos' hi b1 k1 b2 b3)
    omega
/-! on the machine -/
theorem m_who102 (hD : D.WF) (hE : E.WF D) {c n t j a s : Nat} {v : Nat → Int64} {z : Nat × Nat} (hc : c < D.C) (ht : t < 4) (hn : n ≤ 8) (w : mlw D E c n t v S) (hj : j < n) (ha : a < D.K) (hs : s < 2 ^ D.K) (hz : zOk D z) (x3 : Int32) (k73 k88 : Int32 → Int32 → Int32 → cpS → Option (Int32 × cpS)) : ∃ T, fX12_who_102 (nI t) x3 (nI s) (nI j) (nI a) k73 k88 cpFu (nI z.1) (nI z.2) (nI 0) S = k88 (nI (ra D E c v n j s a z).1) (nI (ra D E c v n j s a z).2) (nI (a + 1)) T ∧ zOk D (ra D E c v n j s a z) ∧ Kp kH S T := by
  have c4 := hD.c4
  have k6 := hD.k6
  have p8 := hD.p8
  have kk : 2 ^ D.K ≤ 2 ^ 6 := Nat.pow_le_pow_right (by decide) k6
  have hl := w.2.1.1
  unfold ra
  cases hb : s.testBit a
  · rw [if_neg (by exact Bool.false_ne_true)]
    refine ⟨S, ?_, hz, Kp.rf⟩
    rw [show cpFu = 4999 + 1 from rfl, fX12_who_102]
    by_cases h0 : (dls D c).length = 0
    · simp (disch := omega) only [lit, lm1, nI_add, pk_mul, nm_eq, nm_eq', nm_lt, nm_lt', nm_le, nm_le', x_lt, x_le, x_eq, x_in, x_cl, x_div, x_sub, x_rem, x_min, x_max, x_and, x_or, x_xor, x_df, x_shl, bI_0, bI_1, bI_bo, lg_eq, toL_inj, ls_nI, decide_eq_false_iff_not, decide_eq_true_eq, Bool.true_eq_false, Bool.false_eq_true, bq, if_pos, if_neg, if_true, if_false, lq, Nat.reduceAdd, Nat.reduceMul, Nat.reduceSub, Nat.reduceDiv, Nat.reduceMod, w.2.1.2.1, h0]
    · simp (disch := omega) only [lit, lm1, nI_add, pk_mul, nm_eq, nm_eq', nm_lt, nm_lt', nm_le, nm_le', x_lt, x_le, x_eq, x_in, x_cl, x_div, x_sub, x_rem, x_min, x_max, x_and, x_or, x_xor, x_df, x_shl, bI_0, bI_1, bI_bo, lg_eq, toL_inj, ls_nI, decide_eq_false_iff_not, decide_eq_true_eq, Bool.true_eq_false, Bool.false_eq_true, bq, if_pos, if_neg, if_true, if_false, lq, Nat.reduceAdd, Nat.reduceMul, Nat.reduceSub, Nat.reduceDiv, Nat.reduceMod, w.2.1.2.1, h0, m_isIn, hb]
  · rw [if_pos rfl]
    have := up_lpR (F := fun f x (y : Int32 × Int32 × cpS) => fX12_who_102 (nI t) x3 (nI s) (nI j) (nI a) k73 k88 f y.1 y.2.1 x y.2.2) (K := fun y => k88 y.1 y.2.1 (nI (a + 1)) y.2.2) (dls D c).length (fun x z => wsd D E c v n j a ((dls D c).getD x 0) z) (fun _ z y => y.1 = nI z.1 ∧ y.2.1 = nI z.2 ∧ zOk D z ∧ Kp kH S y.2.2) (by omega) (fun f x z y hx hI => ?_) (fun f z y hI => ?_) (i0 := 0) (s := z) (a := (nI z.1, nI z.2, S)) (Nat.zero_le _) ⟨rfl, rfl, hz, Kp.rf⟩
    · obtain ⟨⟨x, y, T⟩, t1, t2, t3, t4, t5⟩ := this
      have t2 : x = nI (up (fun x z => wsd D E c v n j a ((dls D c).getD x 0) z) (dls D c).length 0 z).1 := t2
      have t3 : y = nI (up (fun x z => wsd D E c v n j a ((dls D c).getD x 0) z) (dls D c).length 0 z).2 := t3
      rw [t2, t3] at t1
      exact ⟨T, t1, t4, t5⟩
    · obtain ⟨y1, y2, T⟩ := y
      obtain ⟨i1, i2, i3, i4⟩ := hI
      have j1 : y1 = nI z.1 := i1
      have j2 : y2 = nI z.2 := i2
      have j4 : Kp kH S T := i4
      clear i1 i2 i4
      subst j1 j2
      have wT := w.hh hD j4
      have hd := wT.2.1.2.2.2 x hx
      obtain ⟨U, u1, u2⟩ := m_canGo hD hE hc ht hn wT hj ha hd
      have e1 := wT.2.1.2.2.1 x hx
      have e2 : U.1 168 x = nI ((dls D c).getD x 0) := (wT.hh hD u2).2.1.2.2.1 x hx
      have hok := wsd_ok (E := E) (n := n) (j := j) (a := a) (v := v) hD hc hd i3
      refine ⟨(nI (wsd D E c v n j a ((dls D c).getD x 0) z).1, nI (wsd D E c v n j a ((dls D c).getD x 0) z).2, U), ?_, rfl, rfl, hok, j4.tr u2⟩
      obtain ⟨p, q, b, hpq, hq, hb', ed⟩ := hd
      obtain ⟨f1, f2, f3, f4, f5⟩ := dn_dec (c := c) (p := p) (q := q) (b := b) (by omega) (by omega) (by omega) (by omega)
      rw [ed] at e1 e2 u1 ⊢
      have m1 : 2 ^ p < 2 ^ 8 := two_lt (by omega)
      have m2 : 2 ^ q < 2 ^ 8 := two_lt (by omega)
      have m3 : 2 ^ p ||| 2 ^ q < 2 ^ 8 := or_lt m1 m2
      have m4 : 2 ^ b < 2 ^ D.K := two_lt hb'
      have z1 := i3.1
      have z2 := i3.2
      rw [fX12_who_102]
      unfold wsd wst
      unfold fgd at u1
      rw [f1, f2, f4] at u1 ⊢
      cases hf : fg D E c v n j a p q b
      · rw [hf] at u1
        simp (disch := omega) only [lit, lm1, nI_add, pk_mul, nm_eq, nm_eq', nm_lt, nm_lt', nm_le, nm_le', x_lt, x_le, x_eq, x_in, x_cl, x_div, x_sub, x_rem, x_min, x_max, x_and, x_or, x_xor, x_df, x_shl, bI_0, bI_1, bI_bo, lg_eq, toL_inj, ls_nI, decide_eq_false_iff_not, decide_eq_true_eq, Bool.true_eq_false, Bool.false_eq_true, bq, if_pos, if_neg, if_true, if_false, lq, Nat.reduceAdd, Nat.reduceMul, Nat.reduceSub, Nat.reduceDiv, Nat.reduceMod, wT.2.1.2.1, m_isIn, hb, e1, u1]
      · rw [hf] at u1
        simp (disch := omega) only [lit, lm1, nI_add, pk_mul, nm_eq, nm_eq', nm_lt, nm_lt', nm_le, nm_le', x_lt, x_le, x_eq, x_in, x_cl, x_div, x_sub, x_rem, x_min, x_max, x_and, x_or, x_xor, x_df, x_shl, bI_0, bI_1, bI_bo, lg_eq, toL_inj, ls_nI, decide_eq_false_iff_not, decide_eq_true_eq, Bool.true_eq_false, Bool.false_eq_true, bq, if_pos, if_neg, if_true, if_false, lq, Nat.reduceAdd, Nat.reduceMul, Nat.reduceSub, Nat.reduceDiv, Nat.reduceMod, wT.2.1.2.1, m_isIn, hb, e1, u1, e2, f1, f2, f4]
    · obtain ⟨y1, y2, T⟩ := y
      have wT := w.hh hD hI.2.2.2
      have hlen : T.1 150 33 = nI (dls D c).length := wT.2.1.2.1
      rw [fX12_who_102]
      simp (disch := omega) only [lit, lm1, nI_add, pk_mul, nm_eq, nm_eq', nm_lt, nm_lt', nm_le, nm_le', x_lt, x_le, x_eq, x_in, x_cl, x_div, x_sub, x_rem, x_min, x_max, x_and, x_or, x_xor, x_df, x_shl, bI_0, bI_1, bI_bo, lg_eq, toL_inj, ls_nI, decide_eq_false_iff_not, decide_eq_true_eq, Bool.true_eq_false, Bool.false_eq_true, bq, if_pos, if_neg, if_true, if_false, lq, Nat.reduceAdd, Nat.reduceMul, Nat.reduceSub, Nat.reduceDiv, Nat.reduceMod, hlen]
theorem m_who88 (hD : D.WF) (hE : E.WF D) {c n t j s : Nat} {v : Nat → Int64} (hc : c < D.C) (ht : t < 4) (hn : n ≤ 8) (w : mlw D E c n t v S) (hj : j < n) (hs : s < 2 ^ D.K) (x3 : Int32) (k73 : Int32 → Int32 → Int32 → cpS → Option (Int32 × cpS)) : ∃ T, fX12_who_88 (nI t) x3 (nI s) (nI j) k73 cpFu (nI 0) (nI 0) (nI 0) S = k73 (nI (rp D E c v n j s).2) (nI (rp D E c v n j s).1) (nI (j + 1)) T ∧ zOk D (rp D E c v n j s) ∧ Kp kH S T := by
  have k6 := hD.k6
  have := up_lpR (F := fun f a (y : Int32 × Int32 × cpS) => fX12_who_88 (nI t) x3 (nI s) (nI j) k73 f y.1 y.2.1 a y.2.2) (K := fun y => k73 y.2.1 y.1 (nI (j + 1)) y.2.2) D.K (fun a z => ra D E c v n j s a z) (fun _ z y => y.1 = nI z.1 ∧ y.2.1 = nI z.2 ∧ zOk D z ∧ Kp kH S y.2.2) (by omega) (fun f a z y ha hI => ?_) (fun f z y hI => ?_) (i0 := 0) (s := (0, 0)) (a := (nI 0, nI 0, S)) (Nat.zero_le _) ⟨rfl, rfl, ⟨by decide, Nat.two_pow_pos _⟩, Kp.rf⟩
  · obtain ⟨⟨x, y, T⟩, t1, t2, t3, t4, t5⟩ := this
    have t2 : x = nI (rp D E c v n j s).1 := t2
    have t3 : y = nI (rp D E c v n j s).2 := t3
    rw [t2, t3] at t1
    exact ⟨T, t1, t4, t5⟩
  · obtain ⟨y1, y2, T⟩ := y
    obtain ⟨i1, i2, i3, i4⟩ := hI
    have j1 : y1 = nI z.1 := i1
    have j2 : y2 = nI z.2 := i2
    have j4 : Kp kH S T := i4
    clear i1 i2 i4
    subst j1 j2
    have wT := w.hh hD j4
    obtain ⟨U, u1, u2, u3⟩ := m_who102 hD hE hc ht hn wT hj ha hs i3 x3 k73 (fX12_who_88 (nI t) x3 (nI s) (nI j) k73 f)
    refine ⟨(nI (ra D E c v n j s a z).1, nI (ra D E c v n j s a z).2, U), ?_, rfl, rfl, u2, j4.tr u3⟩
    rw [fX12_who_88]
    simp (disch := omega) only [lit, lm1, nI_add, pk_mul, nm_eq, nm_eq', nm_lt, nm_lt', nm_le, nm_le', x_lt, x_le, x_eq, x_in, x_cl, x_div, x_sub, x_rem, x_min, x_max, x_and, x_or, x_xor, x_df, x_shl, bI_0, bI_1, bI_bo, lg_eq, toL_inj, ls_nI, decide_eq_false_iff_not, decide_eq_true_eq, Bool.true_eq_false, Bool.false_eq_true, bq, if_pos, if_neg, if_true, if_false, lq, Nat.reduceAdd, Nat.reduceMul, Nat.reduceSub, Nat.reduceDiv, Nat.reduceMod, wT.1.1.K]
    exact u1
  · obtain ⟨y1, y2, T⟩ := y
    have wT := w.hh hD hI.2.2.2
    have hK : T.1 151 1 = nI D.K := wT.1.1.K
    rw [fX12_who_88]
    simp (disch := omega) only [lit, lm1, nI_add, pk_mul, nm_eq, nm_eq', nm_lt, nm_lt', nm_le, nm_le', x_lt, x_le, x_eq, x_in, x_cl, x_div, x_sub, x_rem, x_min, x_max, x_and, x_or, x_xor, x_df, x_shl, bI_0, bI_1, bI_bo, lg_eq, toL_inj, ls_nI, decide_eq_false_iff_not, decide_eq_true_eq, Bool.true_eq_false, Bool.false_eq_true, bq, if_pos, if_neg, if_true, if_false, lq, Nat.reduceAdd, Nat.reduceMul, Nat.reduceSub, Nat.reduceDiv, Nat.reduceMod, hK]
theorem m_who73 (hD : D.WF) (hE : E.WF D) {c n t i a0 : Nat} {v : Nat → Int64} (hc : c < D.C) (ht : t < 4) (hn : n ≤ 8) (hi : i < n) (ha : a0 < D.K) : ∀ d j f (S : cpS) (x6 : Int32), j + d = i → d + 1 < f → mlw D E c n t v S → rs D E c v n a0 j < 2 ^ D.K → ∃ T, fX12_who_73 (nI t) (nI i) f (nI (rs D E c v n a0 j)) x6 (nI j) S = some (nI (rp D E c v n i (rs D E c v n a0 i)).1, T) ∧ Kp kH S T := by
  intro d
  induction d with
  | zero =>
    intro j f S x6 h hf w hs
    obtain ⟨f, rfl⟩ : ∃ g, f = g + 1 + 1 := ⟨f - 2, by omega⟩
    obtain rfl : j = i := by omega
    obtain ⟨T, t1, t2, t3⟩ := m_who88 hD hE hc ht hn w hi hs (nI j) (fX12_who_73 (nI t) (nI j) (f + 1))
    refine ⟨T, ?_, t3⟩
    rw [fX12_who_73]
    simp (disch := omega) only [lit, lm1, nI_add, pk_mul, nm_eq, nm_eq', nm_lt, nm_lt', nm_le, nm_le', x_lt, x_le, x_eq, x_in, x_cl, x_div, x_sub, x_rem, x_min, x_max, x_and, x_or, x_xor, x_df, x_shl, bI_0, bI_1, bI_bo, lg_eq, toL_inj, ls_nI, decide_eq_false_iff_not, decide_eq_true_eq, Bool.true_eq_false, Bool.false_eq_true, bq, if_pos, if_neg, if_true, if_false, lq, Nat.reduceAdd, Nat.reduceMul, Nat.reduceSub, Nat.reduceDiv, Nat.reduceMod]
    rw [t1, fX12_who_73]
    simp (disch := omega) only [lit, lm1, nI_add, pk_mul, nm_eq, nm_eq', nm_lt, nm_lt', nm_le, nm_le', x_lt, x_le, x_eq, x_in, x_cl, x_div, x_sub, x_rem, x_min, x_max, x_and, x_or, x_xor, x_df, x_shl, bI_0, bI_1, bI_bo, lg_eq, toL_inj, ls_nI, decide_eq_false_iff_not, decide_eq_true_eq, Bool.true_eq_false, Bool.false_eq_true, bq, if_pos, if_neg, if_true, if_false, lq, Nat.reduceAdd, Nat.reduceMul, Nat.reduceSub, Nat.reduceDiv, Nat.reduceMod]
  | succ d ih =>
    intro j f S x6 h hf w hs
    obtain ⟨f, rfl⟩ : ∃ g, f = g + 1 := ⟨f - 1, by omega⟩
    obtain ⟨A, a1, a2, a3⟩ := m_who88 hD hE hc ht hn w (show j < n by omega) hs (nI i) (fX12_who_73 (nI t) (nI i) f)
    obtain ⟨T, t1, t2⟩ := ih (j + 1) f A (nI (rp D E c v n j (rs D E c v n a0 j)).1) (by omega) (by omega) (w.hh hD a3) a2.2
    rw [rs_s] at t1
    refine ⟨T, ?_, a3.tr t2⟩
    rw [fX12_who_73]
    simp (disch := omega) only [lit, lm1, nI_add, pk_mul, nm_eq, nm_eq', nm_lt, nm_lt', nm_le, nm_le', x_lt, x_le, x_eq, x_in, x_cl, x_div, x_sub, x_rem, x_min, x_max, x_and, x_or, x_xor, x_df, x_shl, bI_0, bI_1, bI_bo, lg_eq, toL_inj, ls_nI, decide_eq_false_iff_not, decide_eq_true_eq, Bool.true_eq_false, Bool.false_eq_true, bq, if_pos, if_neg, if_true, if_false, lq, Nat.reduceAdd, Nat.reduceMul, Nat.reduceSub, Nat.reduceDiv, Nat.reduceMod]
    exact a1.trans t1
end WH2
theorem q_who : cpQ_who cpRl := by
  intro x1 x2 x3 S hR
  have w1 := m_win 4 3 (by decide)
  rcases in_or x1 4 with ⟨t, ht, rfl⟩ | h1
  · refine qY hR ht (fun D E o hD hE hO => ?_)
    have c4 := hD.c4
    have k6 := hD.k6
    have hc : ∀ S, fX11_hasTray (nI t) S = some (nI 1, S) := fun S => by rw [e_hasTray, if_pos (cpLs_of ht (by decide))]; rfl
    rcases in_or x2 D.C with ⟨k, hk, rfl⟩ | h2
    · have ha := hE.at' k hk
      by_cases e : tc o nM (nI 9) = nI 0
      · have erc : rc o = nI 0 := Classical.byContradiction (fun q => q (by rw [← tc_rc q]; exact e))
        obtain ⟨n, v, rfl, n1, n8, hv⟩ := tc_0 e
        rcases in_or x3 (2 ^ 31) with ⟨i, hi, rfl⟩ | h3
        · have hpos : (nI 0 ≤ nI i) = True := eq_true ((nI_leI (by omega) hi).mpr (Nat.zero_le _))
          by_cases hin : i < n
          · refine ⟨nI (peo D E k v n i (us D E k v (E.at' k) i)), fun S c y => ?_, fun S m y => ?_⟩
            · have hr := c_rimCode hD c (x3 := nI i) ht hk y hO
              rw [if_pos erc, if_neg (show ¬ nI i < nI 0 from nI_pos hi), e] at hr
              unfold fX11_who
              obtain ⟨T, t1, t2, t3⟩ := c_wornLearn hD hE c hk ht n1 n8 y
              have cT := c.cc (t3.le (fun _ _ => kWo_C))
              have hf := c_peopleAt hD cT t2 n8 hin ha
              refine ⟨T, ?_, t3.le (fun _ _ => kWo_C)⟩
              simp (disch := omega) only [lit, lm1, nI_add, pk_mul, nm_eq, nm_eq', nm_lt, nm_lt', nm_le, nm_le', x_lt, x_le, x_eq, x_in, x_cl, x_div, x_sub, x_rem, x_min, x_max, x_and, x_or, x_xor, x_df, x_shl, bI_0, bI_1, bI_bo, lg_eq, toL_inj, ls_nI, decide_eq_false_iff_not, decide_eq_true_eq, Bool.true_eq_false, Bool.false_eq_true, bq, if_pos, if_neg, if_true, if_false, lq, Nat.reduceAdd, Nat.reduceMul, Nat.reduceSub, Nat.reduceDiv, Nat.reduceMod, hr, y.2.1, hin, t1, cT.at', hf]
            · have m0 := m.thr hD (nI 0)
              have y0 := y.thr (nI 0)
              obtain ⟨T, t1, t2, t3⟩ := m_laysWorn hD hE m0 hk ht n1 n8 y0
              have kT := (kM_thr S (nI 0)).tr (t3.le (fun _ _ => kWm_M))
              have hlt := rwD_lt (E := E) (c := k) (v := v) (d := n) (j := 0) (a := E.at' k) hD n8
              have h172 : (cpI S 150 0 (nI 0)).1 172 t = nI n := y0.2.1
              unfold fX12_who
              by_cases h0 : rwD D E k v n 0 (E.at' k) = 0
              · refine ⟨T, ?_, kT⟩
                rw [who_0 hin h0]
                rw [h0] at t1
                simp (disch := omega) only [lit, lm1, nI_add, pk_mul, nm_eq, nm_eq', nm_lt, nm_lt', nm_le, nm_le', x_lt, x_le, x_eq, x_in, x_cl, x_div, x_sub, x_rem, x_min, x_max, x_and, x_or, x_xor, x_df, x_shl, bI_0, bI_1, bI_bo, lg_eq, toL_inj, ls_nI, decide_eq_false_iff_not, decide_eq_true_eq, Bool.true_eq_false, Bool.false_eq_true, bq, if_pos, if_neg, if_true, if_false, lq, Nat.reduceAdd, Nat.reduceMul, Nat.reduceSub, Nat.reduceDiv, Nat.reduceMod, m_noWorn hD m0 ht hk y0 hO, e, t1, hpos, h172]
                rw [if_pos (show lN 0 = 0 from rfl)]
              · have hz : (lN (rwD D E k v n 0 (E.at' k)) = (0 : Int64)) = False := eq_false (by rw [l_0 hlt]; exact h0)
                obtain ⟨U, u1, u2⟩ := m_who73 hD hE hk ht n8 hin ha i 0 cpFu T (nI 0) (by omega) (by show _ < 5000; omega) t2 (two_lt ha)
                rw [who_eq hD hk hin (by omega)] at u1
                refine ⟨U, ?_, kT.tr (u2.le (fun _ _ => kH_M))⟩
                simp (disch := omega) only [lit, lm1, nI_add, pk_mul, nm_eq, nm_eq', nm_lt, nm_lt', nm_le, nm_le', x_lt, x_le, x_eq, x_in, x_cl, x_div, x_sub, x_rem, x_min, x_max, x_and, x_or, x_xor, x_df, x_shl, bI_0, bI_1, bI_bo, lg_eq, toL_inj, ls_nI, decide_eq_false_iff_not, decide_eq_true_eq, Bool.true_eq_false, Bool.false_eq_true, bq, if_pos, if_neg, if_true, if_false, lq, Nat.reduceAdd, Nat.reduceMul, Nat.reduceSub, Nat.reduceDiv, Nat.reduceMod, m_noWorn hD m0 ht hk y0 hO, e, t1, hpos, hz, h172, t2.1.1.at']
                exact u1
          · refine ⟨-7, fun S c y => ⟨S, ?_, Kp.rf⟩, fun S m y => ⟨_, ?_, kM_thr S (nI 0)⟩⟩
            · have hr := c_rimCode hD c (x3 := nI i) ht hk y hO
              rw [if_pos erc, if_neg (show ¬ nI i < nI 0 from nI_pos hi), e] at hr
              unfold fX11_who
              simp (disch := omega) only [lit, lm1, nI_add, pk_mul, nm_eq, nm_eq', nm_lt, nm_lt', nm_le, nm_le', x_lt, x_le, x_eq, x_in, x_cl, x_div, x_sub, x_rem, x_min, x_max, x_and, x_or, x_xor, x_df, x_shl, bI_0, bI_1, bI_bo, lg_eq, toL_inj, ls_nI, decide_eq_false_iff_not, decide_eq_true_eq, Bool.true_eq_false, Bool.false_eq_true, bq, if_pos, if_neg, if_true, if_false, lq, Nat.reduceAdd, Nat.reduceMul, Nat.reduceSub, Nat.reduceDiv, Nat.reduceMod, hr, y.2.1, hin]
            · have y0 := y.thr (nI 0)
              have h172 : (cpI S 150 0 (nI 0)).1 172 t = nI n := y0.2.1
              unfold fX12_who
              simp (disch := omega) only [lit, lm1, nI_add, pk_mul, nm_eq, nm_eq', nm_lt, nm_lt', nm_le, nm_le', x_lt, x_le, x_eq, x_in, x_cl, x_div, x_sub, x_rem, x_min, x_max, x_and, x_or, x_xor, x_df, x_shl, bI_0, bI_1, bI_bo, lg_eq, toL_inj, ls_nI, decide_eq_false_iff_not, decide_eq_true_eq, Bool.true_eq_false, Bool.false_eq_true, bq, if_pos, if_neg, if_true, if_false, lq, Nat.reduceAdd, Nat.reduceMul, Nat.reduceSub, Nat.reduceDiv, Nat.reduceMod, m_noWorn hD (m.thr hD (nI 0)) ht hk y0 hO, e, hpos, h172, hin]
        · have hneg : (nI 0 ≤ x3) = False := eq_false (fun q => by
            have h1 : ¬ (0 ≤ x3.toInt ∧ x3.toInt < (2 ^ 31 : Nat)) := of_decide_eq_false h3
            have z : (nI 0).toInt = 0 := by decide
            rw [i_le, z] at q
            have := x3.toInt_lt
            exact h1 ⟨q, by omega⟩)
          have hlt : x3 < nI 0 := by rw [i_lt]; have := of_eq_false hneg; rw [i_le] at this; omega
          refine ⟨-3, fun S c y => ⟨S, ?_, Kp.rf⟩, fun S m y => ⟨_, ?_, kM_thr S (nI 0)⟩⟩
          · have hr := c_rimCode hD c (x3 := x3) ht hk y hO
            rw [if_pos erc, if_pos hlt] at hr
            unfold fX11_who
            simp (disch := omega) only [lit, lm1, nI_add, pk_mul, nm_eq, nm_eq', nm_lt, nm_lt', nm_le, nm_le', x_lt, x_le, x_eq, x_in, x_cl, x_div, x_sub, x_rem, x_min, x_max, x_and, x_or, x_xor, x_df, x_shl, bI_0, bI_1, bI_bo, lg_eq, toL_inj, ls_nI, decide_eq_false_iff_not, decide_eq_true_eq, Bool.true_eq_false, Bool.false_eq_true, bq, if_pos, if_neg, if_true, if_false, lq, Nat.reduceAdd, Nat.reduceMul, Nat.reduceSub, Nat.reduceDiv, Nat.reduceMod, hr]
            rfl
          · unfold fX12_who
            simp (disch := omega) only [lit, lm1, nI_add, pk_mul, nm_eq, nm_eq', nm_lt, nm_lt', nm_le, nm_le', x_lt, x_le, x_eq, x_in, x_cl, x_div, x_sub, x_rem, x_min, x_max, x_and, x_or, x_xor, x_df, x_shl, bI_0, bI_1, bI_bo, lg_eq, toL_inj, ls_nI, decide_eq_false_iff_not, decide_eq_true_eq, Bool.true_eq_false, Bool.false_eq_true, bq, if_pos, if_neg, if_true, if_false, lq, Nat.reduceAdd, Nat.reduceMul, Nat.reduceSub, Nat.reduceDiv, Nat.reduceMod, m_noWorn hD (m.thr hD (nI 0)) ht hk (y.thr (nI 0)) hO, e, hneg]
      · refine ⟨tc o nM (nI 9), fun S c y => ⟨S, ?_, Kp.rf⟩, fun S m y => ⟨_, ?_, kM_thr S (nI 0)⟩⟩
        · have hr := c_rimCode hD c (x3 := x3) ht hk y hO
          have hcode : (if rc o = nI 0 then (if x3 < nI 0 then -3 else tc o nM (nI 9)) else rc o) = tc o nM (nI 9) := by
            by_cases e' : rc o = nI 0
            · rw [if_pos e']
              split
              · cases o with
                | none => exact absurd (show (-6 : Int32) = nI 0 from e') (by decide)
                | some w =>
                  obtain ⟨n, v⟩ := w
                  have hb : ¬ (n < 1 ∨ 8 < n) := fun q => by rw [rc_s, if_pos q] at e'; exact absurd e' (by decide)
                  rw [tc_s, if_neg hb] at e ⊢
                  split
                  · rename_i q; rw [if_pos q] at e; exact absurd rfl e
                  · rfl
              · rfl
            · rw [if_neg e', tc_rc e']
          rw [hcode] at hr
          unfold fX11_who
          simp (disch := omega) only [lit, lm1, nI_add, pk_mul, nm_eq, nm_eq', nm_lt, nm_lt', nm_le, nm_le', x_lt, x_le, x_eq, x_in, x_cl, x_div, x_sub, x_rem, x_min, x_max, x_and, x_or, x_xor, x_df, x_shl, bI_0, bI_1, bI_bo, lg_eq, toL_inj, ls_nI, decide_eq_false_iff_not, decide_eq_true_eq, Bool.true_eq_false, Bool.false_eq_true, bq, if_pos, if_neg, if_true, if_false, lq, Nat.reduceAdd, Nat.reduceMul, Nat.reduceSub, Nat.reduceDiv, Nat.reduceMod, hr, tc_ne e]
        · unfold fX12_who
          simp (disch := omega) only [lit, lm1, nI_add, pk_mul, nm_eq, nm_eq', nm_lt, nm_lt', nm_le, nm_le', x_lt, x_le, x_eq, x_in, x_cl, x_div, x_sub, x_rem, x_min, x_max, x_and, x_or, x_xor, x_df, x_shl, bI_0, bI_1, bI_bo, lg_eq, toL_inj, ls_nI, decide_eq_false_iff_not, decide_eq_true_eq, Bool.true_eq_false, Bool.false_eq_true, bq, if_pos, if_neg, if_true, if_false, lq, Nat.reduceAdd, Nat.reduceMul, Nat.reduceSub, Nat.reduceDiv, Nat.reduceMod, m_noWorn hD (m.thr hD (nI 0)) ht hk (y.thr (nI 0)) hO, tc_ne e]
    · refine ⟨-2, fun S c y => ⟨S, ?_, Kp.rf⟩, fun S m y => ⟨_, ?_, kM_thr S (nI 0)⟩⟩
      · unfold fX11_who fX11_rimCode
        simp (disch := omega) only [lit, lm1, nI_add, pk_mul, nm_eq, nm_eq', nm_lt, nm_lt', nm_le, nm_le', x_lt, x_le, x_eq, x_in, x_cl, x_div, x_sub, x_rem, x_min, x_max, x_and, x_or, x_xor, x_df, x_shl, bI_0, bI_1, bI_bo, lg_eq, toL_inj, ls_nI, decide_eq_false_iff_not, decide_eq_true_eq, Bool.true_eq_false, Bool.false_eq_true, bq, if_pos, if_neg, if_true, if_false, lq, Nat.reduceAdd, Nat.reduceMul, Nat.reduceSub, Nat.reduceDiv, Nat.reduceMod, hc, c.hasCoin hD, h2]
        rfl
      · unfold fX12_who fX12_noWorn
        simp (disch := omega) only [lit, lm1, nI_add, pk_mul, nm_eq, nm_eq', nm_lt, nm_lt', nm_le, nm_le', x_lt, x_le, x_eq, x_in, x_cl, x_div, x_sub, x_rem, x_min, x_max, x_and, x_or, x_xor, x_df, x_shl, bI_0, bI_1, bI_bo, lg_eq, toL_inj, ls_nI, decide_eq_false_iff_not, decide_eq_true_eq, Bool.true_eq_false, Bool.false_eq_true, bq, if_pos, if_neg, if_true, if_false, lq, Nat.reduceAdd, Nat.reduceMul, Nat.reduceSub, Nat.reduceDiv, Nat.reduceMod, w1, (m.thr hD (nI 0)).isCoin hD, h2]
        rfl
  · refine q1 hR (fun D E hD hE => ⟨-2, fun S c => ⟨S, ?_, Kp.rf⟩, fun S m => ⟨_, ?_, kM_thr S (nI 0)⟩⟩)
    · have hc : fX11_hasTray x1 S = some (nI 0, S) := by rw [e_hasTray, h1]; rfl
      unfold fX11_who fX11_rimCode
      simp (disch := omega) only [lit, lm1, nI_add, pk_mul, nm_eq, nm_eq', nm_lt, nm_lt', nm_le, nm_le', x_lt, x_le, x_eq, x_in, x_cl, x_div, x_sub, x_rem, x_min, x_max, x_and, x_or, x_xor, x_df, x_shl, bI_0, bI_1, bI_bo, lg_eq, toL_inj, ls_nI, decide_eq_false_iff_not, decide_eq_true_eq, Bool.true_eq_false, Bool.false_eq_true, bq, if_pos, if_neg, if_true, if_false, lq, Nat.reduceAdd, Nat.reduceMul, Nat.reduceSub, Nat.reduceDiv, Nat.reduceMod, hc]
      rfl
    · unfold fX12_who fX12_noWorn
      simp (disch := omega) only [lit, lm1, nI_add, pk_mul, nm_eq, nm_eq', nm_lt, nm_lt', nm_le, nm_le', x_lt, x_le, x_eq, x_in, x_cl, x_div, x_sub, x_rem, x_min, x_max, x_and, x_or, x_xor, x_df, x_shl, bI_0, bI_1, bI_bo, lg_eq, toL_inj, ls_nI, decide_eq_false_iff_not, decide_eq_true_eq, Bool.true_eq_false, Bool.false_eq_true, bq, if_pos, if_neg, if_true, if_false, lq, Nat.reduceAdd, Nat.reduceMul, Nat.reduceSub, Nat.reduceDiv, Nat.reduceMod, w1, h1]
      rfl
