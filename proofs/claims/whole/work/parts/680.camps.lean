/-! peace -/
def pcS (D : cpD) (E : cpE) (p : Nat) (a : Nat × Nat) : Nat × Nat := if a.2.testBit p then a else (a.1 + 1, a.2 ||| hrd D E p 8)
theorem tel_sub (D : cpD) (E : cpE) {s q : Nat} (h : s.testBit q = true) : (tel D E s).testBit q = true := by
  unfold tel
  refine up_inv _ D.P (fun _ a => a.testBit q = true) (fun i a hi h => ?_) D.P 0 s (by omega) h
  (try dsimp only)
  split
  · rw [Nat.testBit_or, h]; rfl
  · exact h
theorem hrd_self (D : cpD) (E : cpE) (p n : Nat) : (hrd D E p n).testBit p = true := by
  induction n with
  | zero => show (2 ^ p).testBit p = true; rw [Nat.testBit_two_pow]; simp
  | succ n ih => rw [hrd_s]; exact tel_sub D E ih
theorem df_or (a b c : Nat) : cpDf (cpDf a b) c = cpDf a (b ||| c) := by
  apply Nat.eq_of_testBit_eq
  intro i
  rw [df_bit, df_bit, df_bit, Nat.testBit_or]
  cases a.testBit i <;> cases b.testBit i <;> cases c.testBit i <;> rfl
section PE
variable {D : cpD} {E : cpE} {S : cpS}
theorem m_leastOf {x p : Nat} (hx : x < 2 ^ 31) (hp : p < 30) (h1 : x.testBit p = true) (h2 : ∀ q, q < p → x.testBit q = false) (S : cpS) : fX12_leastOf (nI x) S = some (nI p, S) := by
  unfold fX12_leastOf
  simp only [lit]
  have e := (ff_some (p := fun q => x.testBit q) (p + 1) 0 p).mpr ⟨by omega, by omega, h1, fun j _ hj => h2 j hj⟩
  have := ff_lp (F := fun f i (T : cpS) => fX12_leastOf_2 (nI x) f i T) (p + 1) (fun q => x.testBit q) (fun _ T => T = S) (fun o r => ∀ j, o = some j → r = some (nI j, S)) (by omega) (fun f i T hi hT hp' => ⟨S, ?_, rfl⟩) (fun f i T hi hT hp' j hj => ?_) (fun f T hT j hj => by cases hj) (i0 := 0) (a := S) (Nat.zero_le _) rfl
  · exact this p e
  · subst hT
    (try dsimp only)
    rw [fX12_leastOf_2]
    simp (disch := omega) only [lit, lm1, nI_add, pk_mul, nm_eq, nm_eq', nm_lt, nm_lt', nm_le, nm_le', x_lt, x_le, x_eq, x_in, x_cl, x_div, x_sub, x_rem, x_min, x_max, x_and, x_or, x_xor, x_df, x_shl, bI_0, bI_1, bI_bo, lg_eq, toL_inj, ls_nI, decide_eq_false_iff_not, decide_eq_true_eq, Bool.true_eq_false, Bool.false_eq_true, bq, if_pos, if_neg, if_true, if_false, lq, Nat.reduceAdd, Nat.reduceMul, Nat.reduceSub, Nat.reduceDiv, Nat.reduceMod, m_isIn, hp']
  · subst hT
    cases hj
    (try dsimp only)
    rw [fX12_leastOf_2]
    simp (disch := omega) only [lit, lm1, nI_add, pk_mul, nm_eq, nm_eq', nm_lt, nm_lt', nm_le, nm_le', x_lt, x_le, x_eq, x_in, x_cl, x_div, x_sub, x_rem, x_min, x_max, x_and, x_or, x_xor, x_df, x_shl, bI_0, bI_1, bI_bo, lg_eq, toL_inj, ls_nI, decide_eq_false_iff_not, decide_eq_true_eq, Bool.true_eq_false, Bool.false_eq_true, bq, if_pos, if_neg, if_true, if_false, lq, Nat.reduceAdd, Nat.reduceMul, Nat.reduceSub, Nat.reduceDiv, Nat.reduceMod, m_isIn, hp']
theorem c_peace (hD : D.WF) (c : cA D E S) : fX1_quarrelsToMakeUp S = some (nI ((up (pcS D E) D.P 0 (0, 0)).1 - 1), S) := by
  have p8 := hD.p8
  have p2 := p2_256 hD
  unfold fX1_quarrelsToMakeUp
  simp only [lit]
  refine up_lp (F := fun n i (a : Int32 × Int32) => fX1_quarrelsToMakeUp_6 n a.1 a.2 i S) (K := fun a => some (nI (a.1 - 1), S)) D.P (pcS D E) (fun i a => a.1 ≤ i ∧ a.2 < 2 ^ D.P) (fun a => (nI a.1, nI a.2)) (by omega) (fun n i s hi ok => ⟨?_, ?_⟩) (fun n s ok => ?_) (Nat.zero_le _) (s := (0, 0)) ⟨Nat.le_refl _, Nat.two_pow_pos _⟩
  · obtain ⟨o1, o2⟩ := ok
    (try dsimp only)
    rw [fX1_quarrelsToMakeUp_6]
    unfold pcS
    cases hb : s.2.testBit i
    · simp (disch := omega) only [lit, lm1, nI_add, pk_mul, nm_eq, nm_eq', nm_lt, nm_lt', nm_le, nm_le', x_lt, x_le, x_eq, x_in, x_cl, x_div, x_sub, x_rem, x_min, x_max, x_and, x_or, x_xor, x_df, x_shl, bI_0, bI_1, bI_bo, lg_eq, toL_inj, ls_nI, decide_eq_false_iff_not, decide_eq_true_eq, Bool.true_eq_false, Bool.false_eq_true, bq, if_pos, if_neg, if_true, if_false, lq, Nat.reduceAdd, Nat.reduceMul, Nat.reduceSub, Nat.reduceDiv, Nat.reduceMod, c.P, e_isIn, hb, c_heard hD c hi (Nat.le_refl 8)]
    · simp (disch := omega) only [lit, lm1, nI_add, pk_mul, nm_eq, nm_eq', nm_lt, nm_lt', nm_le, nm_le', x_lt, x_le, x_eq, x_in, x_cl, x_div, x_sub, x_rem, x_min, x_max, x_and, x_or, x_xor, x_df, x_shl, bI_0, bI_1, bI_bo, lg_eq, toL_inj, ls_nI, decide_eq_false_iff_not, decide_eq_true_eq, Bool.true_eq_false, Bool.false_eq_true, bq, if_pos, if_neg, if_true, if_false, lq, Nat.reduceAdd, Nat.reduceMul, Nat.reduceSub, Nat.reduceDiv, Nat.reduceMod, c.P, e_isIn, hb]
  · obtain ⟨o1, o2⟩ := ok
    unfold pcS
    split
    · exact ⟨by omega, o2⟩
    · exact ⟨by (try dsimp only); omega, or_lt o2 (hrd_lt D E hi)⟩
  · obtain ⟨o1, o2⟩ := ok
    (try dsimp only)
    rw [fX1_quarrelsToMakeUp_6]
    by_cases h : s.1 = 0
    · simp (disch := omega) only [lit, lm1, nI_add, pk_mul, nm_eq, nm_eq', nm_lt, nm_lt', nm_le, nm_le', x_lt, x_le, x_eq, x_in, x_cl, x_div, x_sub, x_rem, x_min, x_max, x_and, x_or, x_xor, x_df, x_shl, bI_0, bI_1, bI_bo, lg_eq, toL_inj, ls_nI, decide_eq_false_iff_not, decide_eq_true_eq, Bool.true_eq_false, Bool.false_eq_true, bq, if_pos, if_neg, if_true, if_false, lq, Nat.reduceAdd, Nat.reduceMul, Nat.reduceSub, Nat.reduceDiv, Nat.reduceMod, c.P, h]
      rfl
    · simp (disch := omega) only [lit, lm1, nI_add, pk_mul, nm_eq, nm_eq', nm_lt, nm_lt', nm_le, nm_le', x_lt, x_le, x_eq, x_in, x_cl, x_div, x_sub, x_rem, x_min, x_max, x_and, x_or, x_xor, x_df, x_shl, bI_0, bI_1, bI_bo, lg_eq, toL_inj, ls_nI, decide_eq_false_iff_not, decide_eq_true_eq, Bool.true_eq_false, Bool.false_eq_true, bq, if_pos, if_neg, if_true, if_false, lq, Nat.reduceAdd, Nat.reduceMul, Nat.reduceSub, Nat.reduceDiv, Nat.reduceMod, c.P, show max 0 (s.1 - 1) = s.1 - 1 by omega]
theorem m_peace26 (hD : D.WF) (m : mA D E S) {p left g : Nat} (hp : p < D.P) (hl : left < 2 ^ 31) (k : Int32 → Int32 → cpS → Option (Int32 × cpS)) : fX12_peace_26 (nI left) (nI g) k cpFu (nI (2 ^ p)) (nI 0) S = k (nI (cpDf left (hrd D E p 8))) (nI (g + 1)) S := by
  unfold hrd
  refine up_lp (F := fun f i (x : Int32) => fX12_peace_26 (nI left) (nI g) k f x i S) (K := fun s => k (nI (cpDf left s)) (nI (g + 1)) S) 8 (fun _ a => tel D E a) (fun _ a => a < 2 ^ D.P) nI (by omega) (fun f i s hi ok => ⟨?_, tel_lt D E ok⟩) (fun f s ok => ?_) (Nat.zero_le _) (two_lt hp)
  · (try dsimp only)
    rw [fX12_peace_26]
    simp (disch := omega) only [lit, lm1, nI_add, pk_mul, nm_eq, nm_eq', nm_lt, nm_lt', nm_le, nm_le', x_lt, x_le, x_eq, x_in, x_cl, x_div, x_sub, x_rem, x_min, x_max, x_and, x_or, x_xor, x_df, x_shl, bI_0, bI_1, bI_bo, lg_eq, toL_inj, ls_nI, decide_eq_false_iff_not, decide_eq_true_eq, Bool.true_eq_false, Bool.false_eq_true, bq, if_pos, if_neg, if_true, if_false, lq, Nat.reduceAdd, Nat.reduceMul, Nat.reduceSub, Nat.reduceDiv, Nat.reduceMod, m_heardTo hD m ok]
  · (try dsimp only)
    rw [fX12_peace_26]
    simp (disch := omega) only [lit, lm1, nI_add, pk_mul, nm_eq, nm_eq', nm_lt, nm_lt', nm_le, nm_le', x_lt, x_le, x_eq, x_in, x_cl, x_div, x_sub, x_rem, x_min, x_max, x_and, x_or, x_xor, x_df, x_shl, bI_0, bI_1, bI_bo, lg_eq, toL_inj, ls_nI, decide_eq_false_iff_not, decide_eq_true_eq, Bool.true_eq_false, Bool.false_eq_true, bq, if_pos, if_neg, if_true, if_false, lq, Nat.reduceAdd, Nat.reduceMul, Nat.reduceSub, Nat.reduceDiv, Nat.reduceMod]
theorem m_peace12 (hD : D.WF) (m : mA D E S) : ∀ d p g s f, p + d = D.P → d < f → g ≤ p → (∀ q, q < p → s.testBit q = true) → s < 2 ^ D.P → fX12_peace_12 f (nI (cpDf D.ev s)) (nI g) S = some (nI ((up (pcS D E) d p (g, s)).1 - 1), S) := by
  have p8 := hD.p8
  have p2 := p2_256 hD
  intro d
  induction d with
  | zero =>
    intro p g s f h hf hg hs hb
    obtain ⟨f, rfl⟩ : ∃ g, f = g + 1 := ⟨f - 1, by omega⟩
    have e0 : cpDf D.ev s = 0 := by
      apply Nat.eq_of_testBit_eq
      intro i
      rw [df_bit, ev_bit, Nat.zero_testBit]
      by_cases hi : i < D.P
      · rw [hs i (by omega)]; simp
      · rw [decide_eq_false hi]; rfl
    rw [e0, fX12_peace_12]
    show _ = some (nI (g - 1), S)
    by_cases h0 : g = 0
    · simp (disch := omega) only [lit, lm1, nI_add, pk_mul, nm_eq, nm_eq', nm_lt, nm_lt', nm_le, nm_le', x_lt, x_le, x_eq, x_in, x_cl, x_div, x_sub, x_rem, x_min, x_max, x_and, x_or, x_xor, x_df, x_shl, bI_0, bI_1, bI_bo, lg_eq, toL_inj, ls_nI, decide_eq_false_iff_not, decide_eq_true_eq, Bool.true_eq_false, Bool.false_eq_true, bq, if_pos, if_neg, if_true, if_false, lq, Nat.reduceAdd, Nat.reduceMul, Nat.reduceSub, Nat.reduceDiv, Nat.reduceMod, h0]
    · simp (disch := omega) only [lit, lm1, nI_add, pk_mul, nm_eq, nm_eq', nm_lt, nm_lt', nm_le, nm_le', x_lt, x_le, x_eq, x_in, x_cl, x_div, x_sub, x_rem, x_min, x_max, x_and, x_or, x_xor, x_df, x_shl, bI_0, bI_1, bI_bo, lg_eq, toL_inj, ls_nI, decide_eq_false_iff_not, decide_eq_true_eq, Bool.true_eq_false, Bool.false_eq_true, bq, if_pos, if_neg, if_true, if_false, lq, Nat.reduceAdd, Nat.reduceMul, Nat.reduceSub, Nat.reduceDiv, Nat.reduceMod, h0]
  | succ d ih =>
    intro p g s f h hf hg hs hb
    rw [up]
    by_cases hp : s.testBit p = true
    · have e : pcS D E p (g, s) = (g, s) := by unfold pcS; rw [if_pos hp]
      rw [e]
      refine ih (p + 1) g s f (by omega) (by omega) (by omega) (fun q hq => ?_) hb
      by_cases e : q = p
      · rw [e]; exact hp
      · exact hs q (by omega)
    · have hp' : s.testBit p = false := by simpa using hp
      have e : pcS D E p (g, s) = (g + 1, s ||| hrd D E p 8) := by unfold pcS; rw [if_neg hp]
      rw [e]
      obtain ⟨f, rfl⟩ : ∃ g, f = g + 1 := ⟨f - 1, by omega⟩
      have b1 : (cpDf D.ev s).testBit p = true := by rw [df_bit, ev_bit, hp', decide_eq_true (show p < D.P by omega)]; rfl
      have b2 : ∀ q, q < p → (cpDf D.ev s).testBit q = false := fun q hq => by rw [df_bit, hs q hq]; simp
      have b3 : cpDf D.ev s < 2 ^ D.P := df_lt (ev_lt2 D)
      have b4 : cpDf D.ev s ≠ 0 := fun e => by rw [e, Nat.zero_testBit] at b1; cases b1
      have := ih (p + 1) (g + 1) (s ||| hrd D E p 8) f (by omega) (by omega) (by omega) (fun q hq => ?_) (or_lt hb (hrd_lt D E (by omega)))
      · rw [← this, fX12_peace_12, ← df_or]
        simp (disch := omega) only [lit, lm1, nI_add, pk_mul, nm_eq, nm_eq', nm_lt, nm_lt', nm_le, nm_le', x_lt, x_le, x_eq, x_in, x_cl, x_div, x_sub, x_rem, x_min, x_max, x_and, x_or, x_xor, x_df, x_shl, bI_0, bI_1, bI_bo, lg_eq, toL_inj, ls_nI, decide_eq_false_iff_not, decide_eq_true_eq, Bool.true_eq_false, Bool.false_eq_true, bq, if_pos, if_neg, if_true, if_false, lq, Nat.reduceAdd, Nat.reduceMul, Nat.reduceSub, Nat.reduceDiv, Nat.reduceMod, b4, m_leastOf (show cpDf D.ev s < 2 ^ 31 by omega) (show p < 30 by omega) b1 b2, m_peace26 hD m (show p < D.P by omega)]
      · rw [Nat.testBit_or]
        by_cases e : q = p
        · rw [e, hrd_self]; simp
        · rw [hs q (by omega)]; rfl
end PE
theorem q_peace : cpQ_peace cpRl := by
  intro S hR
  refine q0 hR (fun D E hD hE => ?_)
  have p8 := hD.p8
  refine ⟨nI ((up (pcS D E) D.P 0 (0, 0)).1 - 1), fun S c => ?_, fun S m => ?_⟩
  · unfold fX11_peace
    simp (disch := omega) only [lit, lm1, nI_add, pk_mul, nm_eq, nm_eq', nm_lt, nm_lt', nm_le, nm_le', x_lt, x_le, x_eq, x_in, x_cl, x_div, x_sub, x_rem, x_min, x_max, x_and, x_or, x_xor, x_df, x_shl, bI_0, bI_1, bI_bo, lg_eq, toL_inj, ls_nI, decide_eq_false_iff_not, decide_eq_true_eq, Bool.true_eq_false, Bool.false_eq_true, bq, if_pos, if_neg, if_true, if_false, lq, Nat.reduceAdd, Nat.reduceMul, Nat.reduceSub, Nat.reduceDiv, Nat.reduceMod, c_peace hD c]
  · have e : cpDf D.ev 0 = D.ev := by
      apply Nat.eq_of_testBit_eq
      intro i
      rw [df_bit, Nat.zero_testBit]; simp
    have := m_peace12 hD m D.P 0 0 0 cpFu (by omega) (by show D.P < 5000; omega) (Nat.le_refl _) (fun q hq => absurd hq (by omega)) (Nat.two_pow_pos _)
    rw [e] at this
    unfold fX12_peace
    simp (disch := omega) only [lit, lm1, nI_add, pk_mul, nm_eq, nm_eq', nm_lt, nm_lt', nm_le, nm_le', x_lt, x_le, x_eq, x_in, x_cl, x_div, x_sub, x_rem, x_min, x_max, x_and, x_or, x_xor, x_df, x_shl, bI_0, bI_1, bI_bo, lg_eq, toL_inj, ls_nI, decide_eq_false_iff_not, decide_eq_true_eq, Bool.true_eq_false, Bool.false_eq_true, bq, if_pos, if_neg, if_true, if_false, lq, Nat.reduceAdd, Nat.reduceMul, Nat.reduceSub, Nat.reduceDiv, Nat.reduceMod, m_every hD m, this]
/-! sums; camps -/
def sm (f : Nat → Nat) : Nat → Nat
  | 0 => 0
  | n + 1 => sm f n + f n
theorem sm_congr {f g : Nat → Nat} : ∀ {n : Nat}, (∀ i, i < n → f i = g i) → sm f n = sm g n
  | 0, _ => rfl
  | n + 1, h => by rw [sm, sm, sm_congr (fun i hi => h i (by omega)), h n (by omega)]
theorem sm_add (f g : Nat → Nat) : ∀ n, sm (fun i => f i + g i) n = sm f n + sm g n
  | 0 => rfl
  | n + 1 => by rw [sm, sm, sm, sm_add f g n]; omega
theorem sm_mono (f : Nat → Nat) {m : Nat} : ∀ {n : Nat}, m ≤ n → sm f m ≤ sm f n
  | 0, h => by rw [show m = 0 by omega]; exact Nat.le_refl _
  | n + 1, h => by
    by_cases e : m = n + 1
    · rw [e]; exact Nat.le_refl _
    · have := sm_mono f (m := m) (n := n) (by omega); rw [sm]; omega
theorem sm_le (f : Nat → Nat) (k : Nat) : ∀ {n : Nat}, (∀ i, i < n → f i ≤ k) → sm f n ≤ n * k
  | 0, _ => Nat.zero_le _
  | n + 1, h => by have := sm_le f k (n := n) (fun i hi => h i (by omega)); have := h n (by omega); rw [sm, Nat.succ_mul]; omega
theorem up_sm (f : Nat → Nat) : ∀ (d i s : Nat), up (fun i s => s + f i) d i s = s + (sm f (i + d) - sm f i) := by
  intro d
  induction d with
  | zero => intro i s; show s = _; rw [Nat.add_zero, Nat.sub_self, Nat.add_zero]
  | succ d ih =>
    intro i s
    rw [up, ih (i + 1) (s + f i), show i + 1 + d = i + (d + 1) by omega]
    have h1 : sm f (i + 1) = sm f i + f i := rfl
    have h2 := sm_mono f (show i + 1 ≤ i + (d + 1) by omega)
    omega
theorem cnt_sm (x : Nat) : cnt x = sm (fun i => (x.testBit i).toNat) 8 := by
  unfold cnt
  rw [up_sm, Nat.zero_add]
  show sm _ 8 - 0 = _
  rw [Nat.sub_zero]
  refine sm_congr (fun i _ => ?_)
  rw [Nat.testBit_eq_decide_div_mod_eq]
  have := Nat.mod_lt (x / 2 ^ i) (show 0 < 2 by decide)
  by_cases h : x / 2 ^ i % 2 = 1
  · rw [h]; rfl
  · rw [decide_eq_false h]; show _ = 0; omega
theorem cnt_smP {x P : Nat} (hP : P ≤ 8) (hx : x < 2 ^ P) : cnt x = sm (fun i => (x.testBit i).toNat) P := by
  rw [cnt_sm]
  have : ∀ k, k ≤ 8 - P → sm (fun i => (x.testBit i).toNat) (P + k) = sm (fun i => (x.testBit i).toNat) P := by
    intro k
    induction k with
    | zero => intro _; rfl
    | succ k ih =>
      intro hk
      show sm _ (P + k) + (x.testBit (P + k)).toNat = _
      rw [ih (by omega), bit_ge hx (by omega)]; rfl
  have e := this (8 - P) (Nat.le_refl _)
  rwa [show P + (8 - P) = 8 by omega] at e
theorem sm_sym {M : Nat → Nat → Nat} {P : Nat} (hs : ∀ p q, p < P → q < P → M p q = M q p) (hz : ∀ p, p < P → M p p = 0) : ∀ n, n ≤ P → sm (fun p => sm (M p) n) n = 2 * sm (fun p => sm (M p) n - sm (M p) (p + 1)) n := by
  intro n
  induction n with
  | zero => intro _; rfl
  | succ n ih =>
    intro hn
    have a1 : sm (fun p => sm (M p) (n + 1)) (n + 1) = sm (fun p => sm (M p) n + M p n) n + sm (M n) (n + 1) := rfl
    have a2 : sm (M n) (n + 1) = sm (M n) n + M n n := rfl
    have a3 : sm (M n) n = sm (fun p => M p n) n := sm_congr (fun i hi => hs n i (by omega) (by omega))
    have a4 : sm (fun p => sm (M p) n + M p n) n = sm (fun p => sm (M p) n) n + sm (fun p => M p n) n := sm_add _ _ n
    have b1 : sm (fun p => sm (M p) (n + 1) - sm (M p) (p + 1)) (n + 1) = sm (fun p => sm (M p) (n + 1) - sm (M p) (p + 1)) n + (sm (M n) (n + 1) - sm (M n) (n + 1)) := rfl
    have b2 : sm (fun p => sm (M p) (n + 1) - sm (M p) (p + 1)) n = sm (fun p => (sm (M p) n - sm (M p) (p + 1)) + M p n) n := sm_congr (fun p hp => by
      show sm (M p) n + M p n - _ = _
      have := sm_mono (M p) (show p + 1 ≤ n by omega)
      omega)
    have b3 : sm (fun p => (sm (M p) n - sm (M p) (p + 1)) + M p n) n = sm (fun p => sm (M p) n - sm (M p) (p + 1)) n + sm (fun p => M p n) n := sm_add _ _ n
    have := ih (by omega)
    have := hz n (by omega)
    omega
/-- two of whom it must change -/
def cmM (E : cpE) (s p q : Nat) : Nat := ((E.fd p).testBit q ^^ (s.testBit p ^^ s.testBit q)).toNat
def cmC (D : cpD) (E : cpE) (s : Nat) : Nat := sm (fun p => sm (cmM E s p) D.P - sm (cmM E s p) (p + 1)) D.P
section CM
variable {D : cpD} {E : cpE} {S : cpS}
theorem bn_le (b : Bool) : b.toNat ≤ 1 := by cases b <;> decide
theorem cmC_le (hD : D.WF) (s : Nat) : cmC D E s ≤ 64 := by
  have p8 := hD.p8
  have h1 : ∀ p, sm (cmM E s p) D.P ≤ D.P * 1 := fun p => sm_le _ 1 (fun i _ => bn_le _)
  have h2 := sm_le (fun p => sm (cmM E s p) D.P - sm (cmM E s p) (p + 1)) 8 (n := D.P) (fun p _ => by have := h1 p; (try dsimp only); omega)
  unfold cmC
  have : D.P * 8 ≤ 64 := by omega
  omega
def oth (D : cpD) (s p : Nat) : Nat := if s.testBit p then cpDf D.ev s else s
theorem oth_lt (D : cpD) {s : Nat} (p : Nat) (h : s < 2 ^ D.P) : oth D s p < 2 ^ D.P := by
  unfold oth
  split
  · exact df_lt (ev_lt2 D)
  · exact h
theorem c_changesFor (hD : D.WF) (hE : E.WF D) (c : cA D E S) {s : Nat} (hs : s < 2 ^ D.P) : fX1_changesFor (nI s) S = some (nI (cmC D E s), S) := by
  have p8 := hD.p8
  have p2 := p2_256 hD
  have hx : ∀ p, p < D.P → E.fd p ^^^ oth D s p < 2 ^ D.P := fun p hp => Nat.xor_lt_two_pow (hE.fd p (by omega)) (oth_lt D p hs)
  have e : sm (fun p => cnt (E.fd p ^^^ oth D s p)) D.P / 2 = cmC D E s := by
    have e1 : sm (fun p => cnt (E.fd p ^^^ oth D s p)) D.P = sm (fun p => sm (cmM E s p) D.P) D.P := by
      refine sm_congr (fun p hp => ?_)
      rw [cnt_smP p8 (hx p hp)]
      refine sm_congr (fun q hq => ?_)
      unfold cmM oth
      rw [Nat.testBit_xor]
      cases hb : s.testBit p
      · simp
      · rw [if_pos rfl, df_bit, ev_bit, decide_eq_true hq]; simp
    rw [e1, sm_sym (M := cmM E s) (P := D.P) (fun p q hp hq => ?_) (fun p hp => ?_) D.P (Nat.le_refl _), Nat.mul_div_cancel_left _ (by decide)]
    · rfl
    · unfold cmM
      rw [hE.sy p q (by omega) (by omega)]
      cases (E.fd q).testBit p <;> cases s.testBit p <;> cases s.testBit q <;> rfl
    · unfold cmM
      rw [hE.ir p (by omega)]
      cases s.testBit p <;> rfl
  have e2 : up (fun p a => a + cnt (E.fd p ^^^ oth D s p)) D.P 0 0 = sm (fun p => cnt (E.fd p ^^^ oth D s p)) D.P := by
    rw [up_sm, Nat.zero_add, Nat.zero_add]; exact Nat.sub_zero _
  rw [← e, ← e2]
  unfold fX1_changesFor
  simp only [lit]
  refine up_lp (F := fun n i (x : Int32) => fX1_changesFor_4 (nI s) n x i S) (K := fun a => some (nI (a / 2), S)) D.P (fun p a => a + cnt (E.fd p ^^^ oth D s p)) (fun i a => a ≤ 8 * i) nI (by omega) (fun n i a hi ok => ⟨?_, ?_⟩) (fun n a ok => ?_) (Nat.zero_le _) (by omega)
  · (try dsimp only)
    have h1 : E.fd i ^^^ oth D s i < 256 := Nat.lt_of_lt_of_le (hx i hi) p2
    rw [fX1_changesFor_4]
    unfold fX1_changesFor_35
    cases hb : s.testBit i
    · have h2 : oth D s i = s := by unfold oth; rw [hb]; rfl
      rw [h2] at h1 ⊢
      simp (disch := omega) only [lit, lm1, nI_add, pk_mul, nm_eq, nm_eq', nm_lt, nm_lt', nm_le, nm_le', x_lt, x_le, x_eq, x_in, x_cl, x_div, x_sub, x_rem, x_min, x_max, x_and, x_or, x_xor, x_df, x_shl, bI_0, bI_1, bI_bo, lg_eq, toL_inj, ls_nI, decide_eq_false_iff_not, decide_eq_true_eq, Bool.true_eq_false, Bool.false_eq_true, bq, if_pos, if_neg, if_true, if_false, lq, Nat.reduceAdd, Nat.reduceMul, Nat.reduceSub, Nat.reduceDiv, Nat.reduceMod, c.P, e_isIn, hb, c.fd, c_bc h1]
    · have h2 : oth D s i = cpDf D.ev s := by unfold oth; rw [hb]; rfl
      rw [h2] at h1 ⊢
      simp (disch := omega) only [lit, lm1, nI_add, pk_mul, nm_eq, nm_eq', nm_lt, nm_lt', nm_le, nm_le', x_lt, x_le, x_eq, x_in, x_cl, x_div, x_sub, x_rem, x_min, x_max, x_and, x_or, x_xor, x_df, x_shl, bI_0, bI_1, bI_bo, lg_eq, toL_inj, ls_nI, decide_eq_false_iff_not, decide_eq_true_eq, Bool.true_eq_false, Bool.false_eq_true, bq, if_pos, if_neg, if_true, if_false, lq, Nat.reduceAdd, Nat.reduceMul, Nat.reduceSub, Nat.reduceDiv, Nat.reduceMod, c.P, e_isIn, hb, c.fd, c_every hD c, c_bc h1]
  · have := cnt_le (E.fd i ^^^ oth D s i); (try dsimp only); omega
  · (try dsimp only)
    rw [fX1_changesFor_4]
    simp (disch := omega) only [lit, lm1, nI_add, pk_mul, nm_eq, nm_eq', nm_lt, nm_lt', nm_le, nm_le', x_lt, x_le, x_eq, x_in, x_cl, x_div, x_sub, x_rem, x_min, x_max, x_and, x_or, x_xor, x_df, x_shl, bI_0, bI_1, bI_bo, lg_eq, toL_inj, ls_nI, decide_eq_false_iff_not, decide_eq_true_eq, Bool.true_eq_false, Bool.false_eq_true, bq, if_pos, if_neg, if_true, if_false, lq, Nat.reduceAdd, Nat.reduceMul, Nat.reduceSub, Nat.reduceDiv, Nat.reduceMod, c.P]
theorem m_cost19 (hD : D.WF) (hE : E.WF D) (m : mA D E S) {s p a : Nat} (hs : s < 2 ^ D.P) (hp : p < D.P) (k : Int32 → Int32 → cpS → Option (Int32 × cpS)) : fX12_campCost_19 (nI s) (nI p) k cpFu (nI a) (nI (p + 1)) S = k (nI (a + (sm (cmM E s p) D.P - sm (cmM E s p) (p + 1)))) (nI (p + 1)) S := by
  have p8 := hD.p8
  have p2 := p2_256 hD
  have e := up_sm (cmM E s p) (D.P - (p + 1)) (p + 1) a
  rw [show p + 1 + (D.P - (p + 1)) = D.P by omega] at e
  rw [← e]
  refine up_lp (F := fun n i (x : Int32) => fX12_campCost_19 (nI s) (nI p) k n x i S) (K := fun a => k (nI a) (nI (p + 1)) S) D.P (fun q a => a + cmM E s p q) (fun _ _ => True) nI (by omega) (fun n i a hi ok => ⟨?_, trivial⟩) (fun n a ok => ?_) (by omega) trivial
  · (try dsimp only)
    rw [fX12_campCost_19]
    unfold fX12_campCost_59 cmM
    simp (disch := omega) only [lit, lm1, nI_add, pk_mul, nm_eq, nm_eq', nm_lt, nm_lt', nm_le, nm_le', x_lt, x_le, x_eq, x_in, x_cl, x_div, x_sub, x_rem, x_min, x_max, x_and, x_or, x_xor, x_df, x_shl, bI_0, bI_1, bI_bo, lg_eq, toL_inj, ls_nI, decide_eq_false_iff_not, decide_eq_true_eq, Bool.true_eq_false, Bool.false_eq_true, bq, if_pos, if_neg, if_true, if_false, lq, Nat.reduceAdd, Nat.reduceMul, Nat.reduceSub, Nat.reduceDiv, Nat.reduceMod, m.P, m.quarrelled hD hE (show p < 8 by omega) (show i < 8 by omega), m_isIn]
    cases (E.fd p).testBit i <;> cases s.testBit p <;> cases s.testBit i <;> rfl
  · (try dsimp only)
    rw [fX12_campCost_19]
    simp (disch := omega) only [lit, lm1, nI_add, pk_mul, nm_eq, nm_eq', nm_lt, nm_lt', nm_le, nm_le', x_lt, x_le, x_eq, x_in, x_cl, x_div, x_sub, x_rem, x_min, x_max, x_and, x_or, x_xor, x_df, x_shl, bI_0, bI_1, bI_bo, lg_eq, toL_inj, ls_nI, decide_eq_false_iff_not, decide_eq_true_eq, Bool.true_eq_false, Bool.false_eq_true, bq, if_pos, if_neg, if_true, if_false, lq, Nat.reduceAdd, Nat.reduceMul, Nat.reduceSub, Nat.reduceDiv, Nat.reduceMod, m.P]
theorem m_campCost (hD : D.WF) (hE : E.WF D) (m : mA D E S) {s : Nat} (hs : s < 2 ^ D.P) : fX12_campCost (nI s) S = some (nI (cmC D E s), S) := by
  have p8 := hD.p8
  have e2 : up (fun p a => a + (sm (cmM E s p) D.P - sm (cmM E s p) (p + 1))) D.P 0 0 = cmC D E s := by
    rw [up_sm, Nat.zero_add, Nat.zero_add]; exact Nat.sub_zero _
  rw [← e2]
  unfold fX12_campCost
  simp only [lit]
  refine up_lp (F := fun n i (x : Int32) => fX12_campCost_4 (nI s) n x i S) (K := fun a => some (nI a, S)) D.P (fun p a => a + (sm (cmM E s p) D.P - sm (cmM E s p) (p + 1))) (fun i a => True) nI (by omega) (fun n i a hi ok => ⟨?_, trivial⟩) (fun n a ok => ?_) (Nat.zero_le _) trivial
  · (try dsimp only)
    rw [fX12_campCost_4]
    simp (disch := omega) only [lit, lm1, nI_add, pk_mul, nm_eq, nm_eq', nm_lt, nm_lt', nm_le, nm_le', x_lt, x_le, x_eq, x_in, x_cl, x_div, x_sub, x_rem, x_min, x_max, x_and, x_or, x_xor, x_df, x_shl, bI_0, bI_1, bI_bo, lg_eq, toL_inj, ls_nI, decide_eq_false_iff_not, decide_eq_true_eq, Bool.true_eq_false, Bool.false_eq_true, bq, if_pos, if_neg, if_true, if_false, lq, Nat.reduceAdd, Nat.reduceMul, Nat.reduceSub, Nat.reduceDiv, Nat.reduceMod, m.P, m_cost19 hD hE m hs hi]
  · (try dsimp only)
    rw [fX12_campCost_4]
    simp (disch := omega) only [lit, lm1, nI_add, pk_mul, nm_eq, nm_eq', nm_lt, nm_lt', nm_le, nm_le', x_lt, x_le, x_eq, x_in, x_cl, x_div, x_sub, x_rem, x_min, x_max, x_and, x_or, x_xor, x_df, x_shl, bI_0, bI_1, bI_bo, lg_eq, toL_inj, ls_nI, decide_eq_false_iff_not, decide_eq_true_eq, Bool.true_eq_false, Bool.false_eq_true, bq, if_pos, if_neg, if_true, if_false, lq, Nat.reduceAdd, Nat.reduceMul, Nat.reduceSub, Nat.reduceDiv, Nat.reduceMod, m.P]
def cmS (D : cpD) (E : cpE) (i b : Nat) : Nat := if cmC D E (2 * i + 1) < cmC D E b then 2 * i + 1 else b
theorem c_camp9 (hD : D.WF) (hE : E.WF D) (c : cA D E S) {N : Nat} (hN : 2 ^ D.P = 2 * N) (h0 : 0 < N) : fX1_bestCamp_9 cpFu (nI 1) (nI 1) S = some (nI (up (cmS D E) N 0 1), S) := by
  have p2 := p2_256 hD
  have e1 := ev_1 D
  have e9 : (nI 1 : Int32) = nI 2 * nI 0 + nI 1 := by rw [pk_mul, nI_add]
  have eN : N - 0 = N := Nat.sub_zero N
  have key : (fun (n : Nat) (i x : Int32) => fX1_bestCamp_9 n x (nI 2 * i + nI 1) S) cpFu (nI 0) (nI 1) = (fun a => some (nI a, S)) (up (cmS D E) (N - 0) 0 1) := ?_
  · rw [eN] at key; dsimp only at key; rw [← e9] at key; exact key
  refine up_lp (F := fun n i (x : Int32) => fX1_bestCamp_9 n x (nI 2 * i + nI 1) S) (K := fun a => some (nI a, S)) N (cmS D E) (fun i a => a < 2 ^ D.P) nI (by omega) (fun n i a hi ok => ⟨?_, ?_⟩) (fun n a ok => ?_) (Nat.zero_le _) (s := 1) (by omega)
  · (try dsimp only)
    rw [pk_mul, nI_add, pk_mul, nI_add, fX1_bestCamp_9]
    have b1 := cmC_le (E := E) hD (2 * i + 1)
    have b2 := cmC_le (E := E) hD a
    unfold cmS
    by_cases h : cmC D E (2 * i + 1) < cmC D E a
    · simp (disch := omega) only [lit, lm1, nI_add, pk_mul, nm_eq, nm_eq', nm_lt, nm_lt', nm_le, nm_le', x_lt, x_le, x_eq, x_in, x_cl, x_div, x_sub, x_rem, x_min, x_max, x_and, x_or, x_xor, x_df, x_shl, bI_0, bI_1, bI_bo, lg_eq, toL_inj, ls_nI, decide_eq_false_iff_not, decide_eq_true_eq, Bool.true_eq_false, Bool.false_eq_true, bq, if_pos, if_neg, if_true, if_false, lq, Nat.reduceAdd, Nat.reduceMul, Nat.reduceSub, Nat.reduceDiv, Nat.reduceMod, c_every hD c, c_changesFor hD hE c (show 2 * i + 1 < 2 ^ D.P by omega), c_changesFor hD hE c ok, h, show 2 * i + 1 + 2 = 2 * (i + 1) + 1 by omega]
    · simp (disch := omega) only [lit, lm1, nI_add, pk_mul, nm_eq, nm_eq', nm_lt, nm_lt', nm_le, nm_le', x_lt, x_le, x_eq, x_in, x_cl, x_div, x_sub, x_rem, x_min, x_max, x_and, x_or, x_xor, x_df, x_shl, bI_0, bI_1, bI_bo, lg_eq, toL_inj, ls_nI, decide_eq_false_iff_not, decide_eq_true_eq, Bool.true_eq_false, Bool.false_eq_true, bq, if_pos, if_neg, if_true, if_false, lq, Nat.reduceAdd, Nat.reduceMul, Nat.reduceSub, Nat.reduceDiv, Nat.reduceMod, c_every hD c, c_changesFor hD hE c (show 2 * i + 1 < 2 ^ D.P by omega), c_changesFor hD hE c ok, h, show 2 * i + 1 + 2 = 2 * (i + 1) + 1 by omega]
  · unfold cmS
    split
    · omega
    · exact ok
  · (try dsimp only)
    rw [pk_mul, nI_add, fX1_bestCamp_9]
    simp (disch := omega) only [lit, lm1, nI_add, pk_mul, nm_eq, nm_eq', nm_lt, nm_lt', nm_le, nm_le', x_lt, x_le, x_eq, x_in, x_cl, x_div, x_sub, x_rem, x_min, x_max, x_and, x_or, x_xor, x_df, x_shl, bI_0, bI_1, bI_bo, lg_eq, toL_inj, ls_nI, decide_eq_false_iff_not, decide_eq_true_eq, Bool.true_eq_false, Bool.false_eq_true, bq, if_pos, if_neg, if_true, if_false, lq, Nat.reduceAdd, Nat.reduceMul, Nat.reduceSub, Nat.reduceDiv, Nat.reduceMod, c_every hD c]
theorem m_camp33 (hD : D.WF) (hE : E.WF D) (m : mA D E S) {N k : Nat} (hN : 2 ^ D.P = 2 * N) (h0 : 0 < N) (hk : k < 2) : fX12_camps_33 (nI k) cpFu (nI 1) (nI 3) S = some (if k = 0 then nI (cmC D E (up (cmS D E) N 0 1)) else nI (up (cmS D E) N 0 1), S) := by
  have p2 := p2_256 hD
  have e1 := ev_1 D
  have e0 : up (cmS D E) N 0 1 = up (cmS D E) (N - 1) 1 1 := by
    obtain ⟨M, rfl⟩ : ∃ M, N = M + 1 := ⟨N - 1, by omega⟩
    rw [up]
    have : cmS D E 0 1 = 1 := by unfold cmS; rw [if_neg (Nat.lt_irrefl _)]
    rw [this]; rfl
  rw [e0]
  refine up_lp (F := fun n i (x : Int32) => fX12_camps_33 (nI k) n x (nI 2 * i + nI 1) S) (K := fun a => some (if k = 0 then nI (cmC D E a) else nI a, S)) N (cmS D E) (fun i a => a < 2 ^ D.P) nI (by omega) (fun n i a hi ok => ⟨?_, ?_⟩) (fun n a ok => ?_) (i0 := 1) (by omega) (s := 1) (by omega)
  · (try dsimp only)
    rw [pk_mul, nI_add, pk_mul, nI_add, fX12_camps_33]
    have b1 := cmC_le (E := E) hD (2 * i + 1)
    have b2 := cmC_le (E := E) hD a
    unfold cmS
    by_cases h : cmC D E (2 * i + 1) < cmC D E a
    · simp (disch := omega) only [lit, lm1, nI_add, pk_mul, nm_eq, nm_eq', nm_lt, nm_lt', nm_le, nm_le', x_lt, x_le, x_eq, x_in, x_cl, x_div, x_sub, x_rem, x_min, x_max, x_and, x_or, x_xor, x_df, x_shl, bI_0, bI_1, bI_bo, lg_eq, toL_inj, ls_nI, decide_eq_false_iff_not, decide_eq_true_eq, Bool.true_eq_false, Bool.false_eq_true, bq, if_pos, if_neg, if_true, if_false, lq, Nat.reduceAdd, Nat.reduceMul, Nat.reduceSub, Nat.reduceDiv, Nat.reduceMod, m_every hD m, m_campCost hD hE m (show 2 * i + 1 < 2 ^ D.P by omega), m_campCost hD hE m ok, h, show 2 * i + 1 + 2 = 2 * (i + 1) + 1 by omega]
    · simp (disch := omega) only [lit, lm1, nI_add, pk_mul, nm_eq, nm_eq', nm_lt, nm_lt', nm_le, nm_le', x_lt, x_le, x_eq, x_in, x_cl, x_div, x_sub, x_rem, x_min, x_max, x_and, x_or, x_xor, x_df, x_shl, bI_0, bI_1, bI_bo, lg_eq, toL_inj, ls_nI, decide_eq_false_iff_not, decide_eq_true_eq, Bool.true_eq_false, Bool.false_eq_true, bq, if_pos, if_neg, if_true, if_false, lq, Nat.reduceAdd, Nat.reduceMul, Nat.reduceSub, Nat.reduceDiv, Nat.reduceMod, m_every hD m, m_campCost hD hE m (show 2 * i + 1 < 2 ^ D.P by omega), m_campCost hD hE m ok, h, show 2 * i + 1 + 2 = 2 * (i + 1) + 1 by omega]
  · unfold cmS
    split
    · omega
    · exact ok
  · (try dsimp only)
    rw [pk_mul, nI_add, fX12_camps_33]
    rcases (show k = 0 ∨ k = 1 by omega) with rfl | rfl
    · simp (disch := omega) only [lit, lm1, nI_add, pk_mul, nm_eq, nm_eq', nm_lt, nm_lt', nm_le, nm_le', x_lt, x_le, x_eq, x_in, x_cl, x_div, x_sub, x_rem, x_min, x_max, x_and, x_or, x_xor, x_df, x_shl, bI_0, bI_1, bI_bo, lg_eq, toL_inj, ls_nI, decide_eq_false_iff_not, decide_eq_true_eq, Bool.true_eq_false, Bool.false_eq_true, bq, if_pos, if_neg, if_true, if_false, lq, Nat.reduceAdd, Nat.reduceMul, Nat.reduceSub, Nat.reduceDiv, Nat.reduceMod, m_every hD m, m_campCost hD hE m ok]
    · simp (disch := omega) only [lit, lm1, nI_add, pk_mul, nm_eq, nm_eq', nm_lt, nm_lt', nm_le, nm_le', x_lt, x_le, x_eq, x_in, x_cl, x_div, x_sub, x_rem, x_min, x_max, x_and, x_or, x_xor, x_df, x_shl, bI_0, bI_1, bI_bo, lg_eq, toL_inj, ls_nI, decide_eq_false_iff_not, decide_eq_true_eq, Bool.true_eq_false, Bool.false_eq_true, bq, if_pos, if_neg, if_true, if_false, lq, Nat.reduceAdd, Nat.reduceMul, Nat.reduceSub, Nat.reduceDiv, Nat.reduceMod, m_every hD m]
end CM
theorem q_camps : cpQ_camps cpRl := by
  intro x1 S hR
  refine q0 hR (fun D E hD hE => ?_)
  have p8 := hD.p8
  have p2 := p2_256 hD
  have e1 := ev_1 D
  have w1 := m_win 2 1 (by decide)
  rcases in_or x1 2 with ⟨k, hk, rfl⟩ | h1
  · have e2 : ∀ S, fX11_camps (nI k) S = fX11_camps_12 (nI k) S := fun S => by
      unfold fX11_camps
      rcases (show k = 0 ∨ k = 1 by omega) with rfl | rfl
      · simp (disch := omega) only [lit, lm1, nI_add, pk_mul, nm_eq, nm_eq', nm_lt, nm_lt', nm_le, nm_le', x_lt, x_le, x_eq, x_in, x_cl, x_div, x_sub, x_rem, x_min, x_max, x_and, x_or, x_xor, x_df, x_shl, bI_0, bI_1, bI_bo, lg_eq, toL_inj, ls_nI, decide_eq_false_iff_not, decide_eq_true_eq, Bool.true_eq_false, Bool.false_eq_true, bq, if_pos, if_neg, if_true, if_false, lq, Nat.reduceAdd, Nat.reduceMul, Nat.reduceSub, Nat.reduceDiv, Nat.reduceMod]
      · simp (disch := omega) only [lit, lm1, nI_add, pk_mul, nm_eq, nm_eq', nm_lt, nm_lt', nm_le, nm_le', x_lt, x_le, x_eq, x_in, x_cl, x_div, x_sub, x_rem, x_min, x_max, x_and, x_or, x_xor, x_df, x_shl, bI_0, bI_1, bI_bo, lg_eq, toL_inj, ls_nI, decide_eq_false_iff_not, decide_eq_true_eq, Bool.true_eq_false, Bool.false_eq_true, bq, if_pos, if_neg, if_true, if_false, lq, Nat.reduceAdd, Nat.reduceMul, Nat.reduceSub, Nat.reduceDiv, Nat.reduceMod]
    by_cases h0 : D.P = 0
    · have e3 : D.ev = 0 := by rw [h0] at e1; simpa using e1
      have e4 : cmC D E 0 = 0 := by unfold cmC; rw [h0]; rfl
      refine ⟨nI 0, fun S c => ?_, fun S m => ?_⟩
      · have hb : fX1_bestCamp S = some (nI 0, S) := by
          unfold fX1_bestCamp
          simp (disch := omega) only [lit, lm1, nI_add, pk_mul, nm_eq, nm_eq', nm_lt, nm_lt', nm_le, nm_le', x_lt, x_le, x_eq, x_in, x_cl, x_div, x_sub, x_rem, x_min, x_max, x_and, x_or, x_xor, x_df, x_shl, bI_0, bI_1, bI_bo, lg_eq, toL_inj, ls_nI, decide_eq_false_iff_not, decide_eq_true_eq, Bool.true_eq_false, Bool.false_eq_true, bq, if_pos, if_neg, if_true, if_false, lq, Nat.reduceAdd, Nat.reduceMul, Nat.reduceSub, Nat.reduceDiv, Nat.reduceMod, c_every hD c, e3]
          show fX1_bestCamp_9 (4999 + 1) (nI 0) (nI 1) S = _
          rw [fX1_bestCamp_9]
          simp (disch := omega) only [lit, lm1, nI_add, pk_mul, nm_eq, nm_eq', nm_lt, nm_lt', nm_le, nm_le', x_lt, x_le, x_eq, x_in, x_cl, x_div, x_sub, x_rem, x_min, x_max, x_and, x_or, x_xor, x_df, x_shl, bI_0, bI_1, bI_bo, lg_eq, toL_inj, ls_nI, decide_eq_false_iff_not, decide_eq_true_eq, Bool.true_eq_false, Bool.false_eq_true, bq, if_pos, if_neg, if_true, if_false, lq, Nat.reduceAdd, Nat.reduceMul, Nat.reduceSub, Nat.reduceDiv, Nat.reduceMod, c_every hD c, e3]
        have hch := c_changesFor hD hE c (s := 0) (Nat.two_pow_pos _)
        rw [e4] at hch
        rw [e2]
        unfold fX11_camps_12
        rcases (show k = 0 ∨ k = 1 by omega) with rfl | rfl
        · simp (disch := omega) only [lit, lm1, nI_add, pk_mul, nm_eq, nm_eq', nm_lt, nm_lt', nm_le, nm_le', x_lt, x_le, x_eq, x_in, x_cl, x_div, x_sub, x_rem, x_min, x_max, x_and, x_or, x_xor, x_df, x_shl, bI_0, bI_1, bI_bo, lg_eq, toL_inj, ls_nI, decide_eq_false_iff_not, decide_eq_true_eq, Bool.true_eq_false, Bool.false_eq_true, bq, if_pos, if_neg, if_true, if_false, lq, Nat.reduceAdd, Nat.reduceMul, Nat.reduceSub, Nat.reduceDiv, Nat.reduceMod, hb, hch]
        · simp (disch := omega) only [lit, lm1, nI_add, pk_mul, nm_eq, nm_eq', nm_lt, nm_lt', nm_le, nm_le', x_lt, x_le, x_eq, x_in, x_cl, x_div, x_sub, x_rem, x_min, x_max, x_and, x_or, x_xor, x_df, x_shl, bI_0, bI_1, bI_bo, lg_eq, toL_inj, ls_nI, decide_eq_false_iff_not, decide_eq_true_eq, Bool.true_eq_false, Bool.false_eq_true, bq, if_pos, if_neg, if_true, if_false, lq, Nat.reduceAdd, Nat.reduceMul, Nat.reduceSub, Nat.reduceDiv, Nat.reduceMod, hb]
      · unfold fX12_camps
        simp (disch := omega) only [lit, lm1, nI_add, pk_mul, nm_eq, nm_eq', nm_lt, nm_lt', nm_le, nm_le', x_lt, x_le, x_eq, x_in, x_cl, x_div, x_sub, x_rem, x_min, x_max, x_and, x_or, x_xor, x_df, x_shl, bI_0, bI_1, bI_bo, lg_eq, toL_inj, ls_nI, decide_eq_false_iff_not, decide_eq_true_eq, Bool.true_eq_false, Bool.false_eq_true, bq, if_pos, if_neg, if_true, if_false, lq, Nat.reduceAdd, Nat.reduceMul, Nat.reduceSub, Nat.reduceDiv, Nat.reduceMod, w1, m.P, h0]
    · have hN : 2 ^ D.P = 2 * 2 ^ (D.P - 1) := by rw [← Nat.pow_succ', Nat.succ_eq_add_one, show D.P - 1 + 1 = D.P by omega]
      have h2 := Nat.two_pow_pos (D.P - 1)
      have hlt : up (cmS D E) (2 ^ (D.P - 1)) 0 1 < 2 ^ D.P := up_inv (cmS D E) (2 ^ (D.P - 1)) (fun _ a => a < 2 ^ D.P) (fun i a hi ok => by unfold cmS; split; omega; exact ok) _ 0 1 (by omega) (by omega)
      refine ⟨if k = 0 then nI (cmC D E (up (cmS D E) (2 ^ (D.P - 1)) 0 1)) else nI (up (cmS D E) (2 ^ (D.P - 1)) 0 1), fun S c => ?_, fun S m => ?_⟩
      · have hb : fX1_bestCamp S = some (nI (up (cmS D E) (2 ^ (D.P - 1)) 0 1), S) := by
          unfold fX1_bestCamp
          simp (disch := omega) only [lit, lm1, nI_add, pk_mul, nm_eq, nm_eq', nm_lt, nm_lt', nm_le, nm_le', x_lt, x_le, x_eq, x_in, x_cl, x_div, x_sub, x_rem, x_min, x_max, x_and, x_or, x_xor, x_df, x_shl, bI_0, bI_1, bI_bo, lg_eq, toL_inj, ls_nI, decide_eq_false_iff_not, decide_eq_true_eq, Bool.true_eq_false, Bool.false_eq_true, bq, if_pos, if_neg, if_true, if_false, lq, Nat.reduceAdd, Nat.reduceMul, Nat.reduceSub, Nat.reduceDiv, Nat.reduceMod, c_every hD c, Nat.and_one_is_mod, show D.ev % 2 = 1 by omega]
          exact c_camp9 hD hE c hN h2
        rw [e2]
        unfold fX11_camps_12
        rcases (show k = 0 ∨ k = 1 by omega) with rfl | rfl
        · simp (disch := omega) only [lit, lm1, nI_add, pk_mul, nm_eq, nm_eq', nm_lt, nm_lt', nm_le, nm_le', x_lt, x_le, x_eq, x_in, x_cl, x_div, x_sub, x_rem, x_min, x_max, x_and, x_or, x_xor, x_df, x_shl, bI_0, bI_1, bI_bo, lg_eq, toL_inj, ls_nI, decide_eq_false_iff_not, decide_eq_true_eq, Bool.true_eq_false, Bool.false_eq_true, bq, if_pos, if_neg, if_true, if_false, lq, Nat.reduceAdd, Nat.reduceMul, Nat.reduceSub, Nat.reduceDiv, Nat.reduceMod, hb, c_changesFor hD hE c hlt]
        · simp (disch := omega) only [lit, lm1, nI_add, pk_mul, nm_eq, nm_eq', nm_lt, nm_lt', nm_le, nm_le', x_lt, x_le, x_eq, x_in, x_cl, x_div, x_sub, x_rem, x_min, x_max, x_and, x_or, x_xor, x_df, x_shl, bI_0, bI_1, bI_bo, lg_eq, toL_inj, ls_nI, decide_eq_false_iff_not, decide_eq_true_eq, Bool.true_eq_false, Bool.false_eq_true, bq, if_pos, if_neg, if_true, if_false, lq, Nat.reduceAdd, Nat.reduceMul, Nat.reduceSub, Nat.reduceDiv, Nat.reduceMod, hb]
      · unfold fX12_camps
        simp (disch := omega) only [lit, lm1, nI_add, pk_mul, nm_eq, nm_eq', nm_lt, nm_lt', nm_le, nm_le', x_lt, x_le, x_eq, x_in, x_cl, x_div, x_sub, x_rem, x_min, x_max, x_and, x_or, x_xor, x_df, x_shl, bI_0, bI_1, bI_bo, lg_eq, toL_inj, ls_nI, decide_eq_false_iff_not, decide_eq_true_eq, Bool.true_eq_false, Bool.false_eq_true, bq, if_pos, if_neg, if_true, if_false, lq, Nat.reduceAdd, Nat.reduceMul, Nat.reduceSub, Nat.reduceDiv, Nat.reduceMod, w1, m.P, h0, m_camp33 hD hE m hN h2 hk]
  · refine ⟨-2, fun S c => ?_, fun S m => ?_⟩
    · unfold fX11_camps
      simp (disch := omega) only [lit, lm1, nI_add, pk_mul, nm_eq, nm_eq', nm_lt, nm_lt', nm_le, nm_le', x_lt, x_le, x_eq, x_in, x_cl, x_div, x_sub, x_rem, x_min, x_max, x_and, x_or, x_xor, x_df, x_shl, bI_0, bI_1, bI_bo, lg_eq, toL_inj, ls_nI, decide_eq_false_iff_not, decide_eq_true_eq, Bool.true_eq_false, Bool.false_eq_true, bq, if_pos, if_neg, if_true, if_false, lq, Nat.reduceAdd, Nat.reduceMul, Nat.reduceSub, Nat.reduceDiv, Nat.reduceMod, arg_ne 0 h1 (by decide) (by decide), arg_ne 1 h1 (by decide) (by decide)]
    · unfold fX12_camps
      simp (disch := omega) only [lit, lm1, nI_add, pk_mul, nm_eq, nm_eq', nm_lt, nm_lt', nm_le, nm_le', x_lt, x_le, x_eq, x_in, x_cl, x_div, x_sub, x_rem, x_min, x_max, x_and, x_or, x_xor, x_df, x_shl, bI_0, bI_1, bI_bo, lg_eq, toL_inj, ls_nI, decide_eq_false_iff_not, decide_eq_true_eq, Bool.true_eq_false, Bool.false_eq_true, bq, if_pos, if_neg, if_true, if_false, lq, Nat.reduceAdd, Nat.reduceMul, Nat.reduceSub, Nat.reduceDiv, Nat.reduceMod, w1, h1]
