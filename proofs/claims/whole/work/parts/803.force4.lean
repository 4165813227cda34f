/-! the reference's forcing; forces, best -/
def oB (x : Option Nat) (B : Nat) : Prop := ∀ n, x = some n → n ≤ B
theorem dF_lt {x y : Option Nat} {B : Nat} (hB : B < 100000) (hx : oB x B) (hy : oB y B) : (dF x < dF y) = (ol x y = true) := by
  cases x with
  | none =>
    cases y with
    | none =>
      show (nI 268435456 < nI 268435456) = _
      rw [x_lt (by decide) (by decide)]
      exact propext ⟨fun h => absurd h (by omega), fun h => (by cases h)⟩
    | some m =>
      have := hy m rfl
      show (nI 268435456 < nI m) = _
      rw [x_lt (by decide) (by omega)]
      exact propext ⟨fun h => absurd h (by omega), fun h => (by cases h)⟩
  | some n =>
    have := hx n rfl
    cases y with
    | none =>
      show (nI n < nI 268435456) = _
      rw [x_lt (by omega) (by decide)]
      exact propext ⟨fun h => rfl, fun h => by omega⟩
    | some m =>
      have := hy m rfl
      show (nI n < nI m) = (decide (n < m) = true)
      rw [x_lt (by omega) (by omega), decide_eq_true_eq]
theorem dF_le {x y : Option Nat} {B : Nat} (hB : B < 100000) (hx : oB x B) (hy : oB y B) : (dF y ≤ dF x) = (ol x y = false) := by
  have h := dF_lt hB hx hy
  have e : (dF y ≤ dF x) = ¬ (dF x < dF y) := propext (by rw [i_le, i_lt]; omega)
  rw [e, h]
  cases ol x y
  · exact propext ⟨fun _ => rfl, fun _ h => (by cases h)⟩
  · exact propext ⟨fun h => absurd rfl h, fun h => (by cases h)⟩
def ftU (S : cpS) (z : fzT) (B : Nat) : Prop := (∀ x, x < 6 → S.1 160 x = dF (z.1 x)) ∧ (∀ x, x < 6 → S.1 161 x = dF (z.2.1 x)) ∧ (∀ x, oB (z.1 x) B) ∧ ∀ x, oB (z.2.1 x) B
def kFm (q _ : Nat) : Prop := q = 160 ∨ q = 161
theorem kFm_M {k j : Nat} (h : kFm k j) : kM k j := by
  rcases h with rfl | rfl <;> exact ⟨scr_c (by decide) (by decide) (by decide) j, by decide⟩
section F4
variable {D : cpD} {E : cpE} {S : cpS}
theorem m_canBe (hD : D.WF) {c a b : Nat} (br : brs D E c S) (ha : a < D.K) (hb : b < D.K) : fX12_canBe (nI a) (nI b) S = some (bI (cb D E c a b), S) := by
  have k6 := hD.k6
  have hle := brX_le (D := D) (E := E) hD.p8 c a b
  have hbr := br a b (by omega) (by omega)
  unfold fX12_canBe cb
  by_cases e : a = b
  · rw [decide_eq_true e]
    simp (disch := omega) only [lit, lm1, nI_add, pk_mul, nm_eq, nm_eq', nm_lt, nm_lt', nm_le, nm_le', x_lt, x_le, x_eq, x_in, x_cl, x_div, x_sub, x_rem, x_min, x_max, x_and, x_or, x_xor, x_df, x_shl, bI_0, bI_1, bI_bo, lg_eq, toL_inj, ls_nI, decide_eq_false_iff_not, decide_eq_true_eq, Bool.true_eq_false, Bool.false_eq_true, bq, if_pos, if_neg, if_true, if_false, lq, Nat.reduceAdd, Nat.reduceMul, Nat.reduceSub, Nat.reduceDiv, Nat.reduceMod, e]
    rfl
  · rw [decide_eq_false e]
    by_cases q : brX D E c a b = 0
    · have : go D E c a b = false := by
        cases hg : go D E c a b
        · rfl
        · exact absurd q (go_brX ha hb hg)
      rw [this]
      simp (disch := omega) only [lit, lm1, nI_add, pk_mul, nm_eq, nm_eq', nm_lt, nm_lt', nm_le, nm_le', x_lt, x_le, x_eq, x_in, x_cl, x_div, x_sub, x_rem, x_min, x_max, x_and, x_or, x_xor, x_df, x_shl, bI_0, bI_1, bI_bo, lg_eq, toL_inj, ls_nI, decide_eq_false_iff_not, decide_eq_true_eq, Bool.true_eq_false, Bool.false_eq_true, bq, if_pos, if_neg, if_true, if_false, lq, Nat.reduceAdd, Nat.reduceMul, Nat.reduceSub, Nat.reduceDiv, Nat.reduceMod, e, hbr, q]
      rfl
    · rw [(brX_go q).2.2]
      simp (disch := omega) only [lit, lm1, nI_add, pk_mul, nm_eq, nm_eq', nm_lt, nm_lt', nm_le, nm_le', x_lt, x_le, x_eq, x_in, x_cl, x_div, x_sub, x_rem, x_min, x_max, x_and, x_or, x_xor, x_df, x_shl, bI_0, bI_1, bI_bo, lg_eq, toL_inj, ls_nI, decide_eq_false_iff_not, decide_eq_true_eq, Bool.true_eq_false, Bool.false_eq_true, bq, if_pos, if_neg, if_true, if_false, lq, Nat.reduceAdd, Nat.reduceMul, Nat.reduceSub, Nat.reduceDiv, Nat.reduceMod, e, hbr, q]
      rfl
theorem m_otherAt (hD : D.WF) (m : mA D E S) {c a B : Nat} {z : fzT} (br : brs D E c S) (ha : a < D.K) (hB : B < 9000) (f : ftU S z B) : fX12_otherAt (nI a) S = some (dF (oa D E c z.1 a), S) ∧ oB (oa D E c z.1 a) (B + 1) := by
  have k6 := hD.k6
  have no : ∀ d i, up (oaS D E c z.1 a) d i none = none := by
    intro d
    induction d with
    | zero => intro i; rfl
    | succ d ih =>
      intro i
      rw [up]
      have : oaS D E c z.1 a i none = none := by
        unfold oaS
        split
        · cases z.1 i <;> rfl
        · rfl
      rw [this, ih]
  have : ∀ d i f m', i + d = D.K → d < f → m' ≤ B + 1 → fX12_otherAt_4 (nI a) f (nI m') (nI i) S = some (dF (up (oaS D E c z.1 a) d i (some m')), S) ∧ oB (up (oaS D E c z.1 a) d i (some m')) (B + 1) := by
    intro d
    induction d with
    | zero =>
      intro i f m' h hf hm
      obtain ⟨f, rfl⟩ : ∃ g, f = g + 1 := ⟨f - 1, by omega⟩
      refine ⟨?_, fun n hn => by cases hn; exact hm⟩
      rw [fX12_otherAt_4]
      simp (disch := omega) only [lit, lm1, nI_add, pk_mul, nm_eq, nm_eq', nm_lt, nm_lt', nm_le, nm_le', x_lt, x_le, x_eq, x_in, x_cl, x_div, x_sub, x_rem, x_min, x_max, x_and, x_or, x_xor, x_df, x_shl, bI_0, bI_1, bI_bo, lg_eq, toL_inj, ls_nI, decide_eq_false_iff_not, decide_eq_true_eq, Bool.true_eq_false, Bool.false_eq_true, bq, if_pos, if_neg, if_true, if_false, lq, Nat.reduceAdd, Nat.reduceMul, Nat.reduceSub, Nat.reduceDiv, Nat.reduceMod, m.K]
      rfl
    | succ d ih =>
      intro i g m' h hf hm
      obtain ⟨g, rfl⟩ : ∃ k, g = k + 1 := ⟨g - 1, by omega⟩
      have hb := m_canBe hD br ha (show i < D.K by omega)
      rw [up, fX12_otherAt_4]
      unfold oaS
      cases hc : cb D E c a i
      · rw [hc] at hb
        rw [if_neg Bool.false_ne_true]
        have := ih (i + 1) g m' (by omega) (by omega) hm
        refine ⟨?_, this.2⟩
        simp (disch := omega) only [lit, lm1, nI_add, pk_mul, nm_eq, nm_eq', nm_lt, nm_lt', nm_le, nm_le', x_lt, x_le, x_eq, x_in, x_cl, x_div, x_sub, x_rem, x_min, x_max, x_and, x_or, x_xor, x_df, x_shl, bI_0, bI_1, bI_bo, lg_eq, toL_inj, ls_nI, decide_eq_false_iff_not, decide_eq_true_eq, Bool.true_eq_false, Bool.false_eq_true, bq, if_pos, if_neg, if_true, if_false, lq, Nat.reduceAdd, Nat.reduceMul, Nat.reduceSub, Nat.reduceDiv, Nat.reduceMod, m.K, hb]
        exact this.1
      · rw [hc] at hb
        rw [if_pos rfl]
        have f0 := f.1 i (by omega)
        cases hu : z.1 i with
        | none =>
          rw [hu] at f0
          have f0 : S.1 160 i = nI 268435456 := f0
          (try dsimp only)
          have no' := no d (i + 1)
          unfold oaS at no'
          rw [no']
          refine ⟨?_, fun n hn => by cases hn⟩
          simp (disch := omega) only [lit, lm1, nI_add, pk_mul, nm_eq, nm_eq', nm_lt, nm_lt', nm_le, nm_le', x_lt, x_le, x_eq, x_in, x_cl, x_div, x_sub, x_rem, x_min, x_max, x_and, x_or, x_xor, x_df, x_shl, bI_0, bI_1, bI_bo, lg_eq, toL_inj, ls_nI, decide_eq_false_iff_not, decide_eq_true_eq, Bool.true_eq_false, Bool.false_eq_true, bq, if_pos, if_neg, if_true, if_false, lq, Nat.reduceAdd, Nat.reduceMul, Nat.reduceSub, Nat.reduceDiv, Nat.reduceMod, m.K, hb, f0]
          rfl
        | some n =>
          have hn := f.2.2.1 i n hu
          rw [hu] at f0
          have f0 : S.1 160 i = nI n := f0
          (try dsimp only)
          by_cases hle : n + 1 ≤ m'
          · rw [if_pos hle]
            have := ih (i + 1) g m' (by omega) (by omega) hm
            refine ⟨?_, this.2⟩
            simp (disch := omega) only [lit, lm1, nI_add, pk_mul, nm_eq, nm_eq', nm_lt, nm_lt', nm_le, nm_le', x_lt, x_le, x_eq, x_in, x_cl, x_div, x_sub, x_rem, x_min, x_max, x_and, x_or, x_xor, x_df, x_shl, bI_0, bI_1, bI_bo, lg_eq, toL_inj, ls_nI, decide_eq_false_iff_not, decide_eq_true_eq, Bool.true_eq_false, Bool.false_eq_true, bq, if_pos, if_neg, if_true, if_false, lq, Nat.reduceAdd, Nat.reduceMul, Nat.reduceSub, Nat.reduceDiv, Nat.reduceMod, m.K, hb, f0, hle]
            exact this.1
          · rw [if_neg hle]
            have := ih (i + 1) g (n + 1) (by omega) (by omega) (by omega)
            refine ⟨?_, this.2⟩
            simp (disch := omega) only [lit, lm1, nI_add, pk_mul, nm_eq, nm_eq', nm_lt, nm_lt', nm_le, nm_le', x_lt, x_le, x_eq, x_in, x_cl, x_div, x_sub, x_rem, x_min, x_max, x_and, x_or, x_xor, x_df, x_shl, bI_0, bI_1, bI_bo, lg_eq, toL_inj, ls_nI, decide_eq_false_iff_not, decide_eq_true_eq, Bool.true_eq_false, Bool.false_eq_true, bq, if_pos, if_neg, if_true, if_false, lq, Nat.reduceAdd, Nat.reduceMul, Nat.reduceSub, Nat.reduceDiv, Nat.reduceMod, m.K, hb, f0, hle]
            exact this.1
  exact this D.K 0 cpFu 0 (by omega) (by show _ < 5000; omega) (by omega)
theorem m_f92 (hD : D.WF) (m : mA D E S) {c a B : Nat} {z : fzT} (br : brs D E c S) (ha : a < D.K) (hB : B < 9000) (f : ftU S z B) (x1 x2 x3 : Int32) (k51 : Int32 → cpS → Option (Int32 × cpS)) (k60 : Int32 → Int32 → cpS → Option (Int32 × cpS)) : ∃ g, fX12_laysForce_92 x1 x2 x3 (nI a) k51 k60 cpFu (dF (z.1 a)) (nI 0) S = fX12_laysForce_92 x1 x2 x3 (nI a) k51 k60 (g + 1) (dF (mn D E c z.2.1 a (z.1 a))) (nI D.K) S ∧ oB (mn D E c z.2.1 a (z.1 a)) (B + 1) := by
  have k6 := hD.k6
  have : ∀ d i h x, i + d = D.K → d < h → oB x (B + 1) → ∃ g, fX12_laysForce_92 x1 x2 x3 (nI a) k51 k60 h (dF x) (nI i) S = fX12_laysForce_92 x1 x2 x3 (nI a) k51 k60 (g + 1) (dF (up (mnS D E c z.2.1 a) d i x)) (nI D.K) S ∧ oB (up (mnS D E c z.2.1 a) d i x) (B + 1) := by
    intro d
    induction d with
    | zero =>
      intro i h x hi hh hx
      obtain ⟨h, rfl⟩ : ∃ k, h = k + 1 := ⟨h - 1, by omega⟩
      obtain rfl : i = D.K := by omega
      exact ⟨h, rfl, hx⟩
    | succ d ih =>
      intro i h x hi hh hx
      obtain ⟨h, rfl⟩ : ∃ k, h = k + 1 := ⟨h - 1, by omega⟩
      have hb := m_canBe hD br ha (show i < D.K by omega)
      have go : fX12_laysForce_92 x1 x2 x3 (nI a) k51 k60 (h + 1) (dF x) (nI i) S = fX12_laysForce_92 x1 x2 x3 (nI a) k51 k60 h (dF (mnS D E c z.2.1 a i x)) (nI (i + 1)) S ∧ oB (mnS D E c z.2.1 a i x) (B + 1) := by
        rw [fX12_laysForce_92]
        unfold mnS
        cases hc : cb D E c a i
        · rw [hc] at hb
          rw [if_neg Bool.false_ne_true]
          refine ⟨?_, hx⟩
          simp (disch := omega) only [lit, lm1, nI_add, pk_mul, nm_eq, nm_eq', nm_lt, nm_lt', nm_le, nm_le', x_lt, x_le, x_eq, x_in, x_cl, x_div, x_sub, x_rem, x_min, x_max, x_and, x_or, x_xor, x_df, x_shl, bI_0, bI_1, bI_bo, lg_eq, toL_inj, ls_nI, decide_eq_false_iff_not, decide_eq_true_eq, Bool.true_eq_false, Bool.false_eq_true, bq, if_pos, if_neg, if_true, if_false, lq, Nat.reduceAdd, Nat.reduceMul, Nat.reduceSub, Nat.reduceDiv, Nat.reduceMod, m.K, hb]
        · rw [hc] at hb
          rw [if_pos rfl]
          have f0 := f.2.1 i (by omega)
          cases hu : z.2.1 i with
          | none =>
            rw [hu] at f0
            have f0 : S.1 161 i = nI 268435456 := f0
            refine ⟨?_, hx⟩
            simp (disch := omega) only [lit, lm1, nI_add, pk_mul, nm_eq, nm_eq', nm_lt, nm_lt', nm_le, nm_le', x_lt, x_le, x_eq, x_in, x_cl, x_div, x_sub, x_rem, x_min, x_max, x_and, x_or, x_xor, x_df, x_shl, bI_0, bI_1, bI_bo, lg_eq, toL_inj, ls_nI, decide_eq_false_iff_not, decide_eq_true_eq, Bool.true_eq_false, Bool.false_eq_true, bq, if_pos, if_neg, if_true, if_false, lq, Nat.reduceAdd, Nat.reduceMul, Nat.reduceSub, Nat.reduceDiv, Nat.reduceMod, m.K, hb, f0]
          | some n =>
            have hn := f.2.2.2 i n hu
            rw [hu] at f0
            have f0 : S.1 161 i = nI n := f0
            (try dsimp only)
            have hle := dF_le (x := some (n + 1)) (y := x) (B := B + 1) (by omega) (fun k hk => by cases hk; omega) hx
            have hle : (dF x ≤ nI (n + 1)) = (ol (some (n + 1)) x = false) := hle
            cases ho : ol (some (n + 1)) x
            · rw [if_neg Bool.false_ne_true]
              refine ⟨?_, hx⟩
              simp (disch := omega) only [lit, lm1, nI_add, pk_mul, nm_eq, nm_eq', nm_lt, nm_lt', nm_le, nm_le', x_lt, x_le, x_eq, x_in, x_cl, x_div, x_sub, x_rem, x_min, x_max, x_and, x_or, x_xor, x_df, x_shl, bI_0, bI_1, bI_bo, lg_eq, toL_inj, ls_nI, decide_eq_false_iff_not, decide_eq_true_eq, Bool.true_eq_false, Bool.false_eq_true, bq, if_pos, if_neg, if_true, if_false, lq, Nat.reduceAdd, Nat.reduceMul, Nat.reduceSub, Nat.reduceDiv, Nat.reduceMod, m.K, hb, f0, hle, ho, eq_self]
            · rw [if_pos rfl]
              refine ⟨?_, fun k hk => by cases hk; omega⟩
              simp (disch := omega) only [lit, lm1, nI_add, pk_mul, nm_eq, nm_eq', nm_lt, nm_lt', nm_le, nm_le', x_lt, x_le, x_eq, x_in, x_cl, x_div, x_sub, x_rem, x_min, x_max, x_and, x_or, x_xor, x_df, x_shl, bI_0, bI_1, bI_bo, lg_eq, toL_inj, ls_nI, decide_eq_false_iff_not, decide_eq_true_eq, Bool.true_eq_false, Bool.false_eq_true, bq, if_pos, if_neg, if_true, if_false, lq, Nat.reduceAdd, Nat.reduceMul, Nat.reduceSub, Nat.reduceDiv, Nat.reduceMod, m.K, hb, f0, hle, ho]
              rfl
      obtain ⟨g, g1, g2⟩ := ih (i + 1) h (mnS D E c z.2.1 a i x) (by omega) (by omega) go.2
      exact ⟨g, by rw [go.1, up]; exact g1, by rw [up]; exact g2⟩
  exact this D.K 0 cpFu (z.1 a) (by omega) (by show _ < 5000; omega) (fun n hn => by have := f.2.2.1 a n hn; omega)
theorem bI_or (x y : Bool) : bI x ||| bI y = bI (x || y) := by cases x <;> cases y <;> decide
theorem m_fstep (hD : D.WF) (m : mA D E S) {c to a B : Nat} {z : fzT} (br : brs D E c S) (ha : a < D.K) (hne : a ≠ to) (hB : B < 9000) (f : ftU S z B) (x1 x2 : Int32) (k51 : Int32 → cpS → Option (Int32 × cpS)) (k60 : Int32 → Int32 → cpS → Option (Int32 × cpS)) : ∃ T, fX12_laysForce_92 x1 x2 (bI z.2.2) (nI a) k51 k60 cpFu (dF (z.1 a)) (nI 0) S = k60 (bI (fs D E c to a z).2.2) (nI (a + 1)) T ∧ ftU T (fs D E c to a z) (B + 1) ∧ Kp kFm S T := by
  have k6 := hD.k6
  obtain ⟨g, g1, g2⟩ := m_f92 hD m br ha hB f x1 x2 (bI z.2.2) k51 k60
  obtain ⟨o1, o2⟩ := m_otherAt hD m br ha hB f
  have u0 := f.1 a (by omega)
  have w0 := f.2.1 a (by omega)
  have hub : oB (z.1 a) (B + 1) := fun n hn => by have := f.2.2.1 a n hn; omega
  have hwb : oB (z.2.1 a) (B + 1) := fun n hn => by have := f.2.2.2 a n hn; omega
  have c1 := dF_lt (B := B + 1) (by omega) g2 hub
  have c2 := dF_le (B := B + 1) (by omega) o2 hwb
  have efl : (fs D E c to a z).2.2 = (z.2.2 || (ol (mn D E c z.2.1 a (z.1 a)) (z.1 a) || ol (oa D E c z.1 a) (z.2.1 a))) := by unfold fs; rw [if_neg hne]
  -- what is stored
  have st : ∀ s : Bool, s = (ol (mn D E c z.2.1 a (z.1 a)) (z.1 a) || ol (oa D E c z.1 a) (z.2.1 a)) → ∃ T, fX12_laysForce_196 x1 x2 (nI a) (dF (mn D E c z.2.1 a (z.1 a))) (dF (oa D E c z.1 a)) (bI s) (bI z.2.2) k51 k60 S = k60 (bI (fs D E c to a z).2.2) (nI (a + 1)) T ∧ ftU T (fs D E c to a z) (B + 1) ∧ Kp kFm S T := fun s hs => by
    refine ⟨cpI (cpI S 160 a (dF (mn D E c z.2.1 a (z.1 a)))) 161 a (dF (if ol (oa D E c z.1 a) (z.2.1 a) then oa D E c z.1 a else z.2.1 a)), ?_, ⟨fun x hx => ?_, fun x hx => ?_, fun x n hn => ?_, fun x n hn => ?_⟩, (Kp.rf.I (by exact Or.inl rfl)).I (by exact Or.inr rfl)⟩
    · have w1 : (cpI S 160 a (dF (mn D E c z.2.1 a (z.1 a)))).1 161 a = dF (z.2.1 a) := by rw [sIr (by decide)]; exact w0
      unfold fX12_laysForce_196
      rw [efl, ← hs]
      cases ho : ol (oa D E c z.1 a) (z.2.1 a)
      · rw [if_neg Bool.false_ne_true]
        simp (disch := omega) only [lit, lm1, nI_add, pk_mul, nm_eq, nm_eq', nm_lt, nm_lt', nm_le, nm_le', x_lt, x_le, x_eq, x_in, x_cl, x_div, x_sub, x_rem, x_min, x_max, x_and, x_or, x_xor, x_df, x_shl, bI_0, bI_1, bI_bo, lg_eq, toL_inj, ls_nI, decide_eq_false_iff_not, decide_eq_true_eq, Bool.true_eq_false, Bool.false_eq_true, bq, if_pos, if_neg, if_true, if_false, lq, Nat.reduceAdd, Nat.reduceMul, Nat.reduceSub, Nat.reduceDiv, Nat.reduceMod, bI_or, w1, c2, ho, eq_self]
      · rw [if_pos rfl]
        simp (disch := omega) only [lit, lm1, nI_add, pk_mul, nm_eq, nm_eq', nm_lt, nm_lt', nm_le, nm_le', x_lt, x_le, x_eq, x_in, x_cl, x_div, x_sub, x_rem, x_min, x_max, x_and, x_or, x_xor, x_df, x_shl, bI_0, bI_1, bI_bo, lg_eq, toL_inj, ls_nI, decide_eq_false_iff_not, decide_eq_true_eq, Bool.true_eq_false, Bool.false_eq_true, bq, if_pos, if_neg, if_true, if_false, lq, Nat.reduceAdd, Nat.reduceMul, Nat.reduceSub, Nat.reduceDiv, Nat.reduceMod, bI_or, w1, c2, ho]
    · rw [sIr (by decide), fs_1 hne]
      by_cases e : x = a
      · rw [if_pos e, e, sI1]
      · rw [if_neg e, sIn (Or.inr e)]; exact f.1 x hx
    · rw [fs_2 hne]
      by_cases e : x = a
      · rw [if_pos e, e, sI1]
      · rw [if_neg e, sIn (Or.inr e), sIr (by decide)]; exact f.2.1 x hx
    · rw [fs_1 hne] at hn
      split at hn
      · exact g2 n hn
      · have := f.2.2.1 x n hn; omega
    · rw [fs_2 hne] at hn
      split at hn
      · rcases wsrc hn with hn | hn
        · exact o2 n hn
        · have := f.2.2.2 a n hn; omega
      · have := f.2.2.2 x n hn; omega
  rw [g1, fX12_laysForce_92]
  cases h1 : ol (mn D E c z.2.1 a (z.1 a)) (z.1 a)
  · cases h2 : ol (oa D E c z.1 a) (z.2.1 a)
    · have := st false (by rw [h1, h2]; rfl)
      have b0 : bI false = nI 0 := rfl
      rw [b0] at this
      simp (disch := omega) only [lit, lm1, nI_add, pk_mul, nm_eq, nm_eq', nm_lt, nm_lt', nm_le, nm_le', x_lt, x_le, x_eq, x_in, x_cl, x_div, x_sub, x_rem, x_min, x_max, x_and, x_or, x_xor, x_df, x_shl, bI_0, bI_1, bI_bo, lg_eq, toL_inj, ls_nI, decide_eq_false_iff_not, decide_eq_true_eq, Bool.true_eq_false, Bool.false_eq_true, bq, if_pos, if_neg, if_true, if_false, lq, Nat.reduceAdd, Nat.reduceMul, Nat.reduceSub, Nat.reduceDiv, Nat.reduceMod, m.K, o1, u0, c1, h1, w0, c2, h2, eq_self]
      exact this
    · have := st true (by rw [h1, h2]; rfl)
      have b0 : bI true = nI 1 := rfl
      rw [b0] at this
      simp (disch := omega) only [lit, lm1, nI_add, pk_mul, nm_eq, nm_eq', nm_lt, nm_lt', nm_le, nm_le', x_lt, x_le, x_eq, x_in, x_cl, x_div, x_sub, x_rem, x_min, x_max, x_and, x_or, x_xor, x_df, x_shl, bI_0, bI_1, bI_bo, lg_eq, toL_inj, ls_nI, decide_eq_false_iff_not, decide_eq_true_eq, Bool.true_eq_false, Bool.false_eq_true, bq, if_pos, if_neg, if_true, if_false, lq, Nat.reduceAdd, Nat.reduceMul, Nat.reduceSub, Nat.reduceDiv, Nat.reduceMod, m.K, o1, u0, c1, h1, w0, c2, h2]
      exact this
  · have := st true (by rw [h1]; rfl)
    have b0 : bI true = nI 1 := rfl
    rw [b0] at this
    simp (disch := omega) only [lit, lm1, nI_add, pk_mul, nm_eq, nm_eq', nm_lt, nm_lt', nm_le, nm_le', x_lt, x_le, x_eq, x_in, x_cl, x_div, x_sub, x_rem, x_min, x_max, x_and, x_or, x_xor, x_df, x_shl, bI_0, bI_1, bI_bo, lg_eq, toL_inj, ls_nI, decide_eq_false_iff_not, decide_eq_true_eq, Bool.true_eq_false, Bool.false_eq_true, bq, if_pos, if_neg, if_true, if_false, lq, Nat.reduceAdd, Nat.reduceMul, Nat.reduceSub, Nat.reduceDiv, Nat.reduceMod, m.K, o1, u0, c1, h1]
    exact this
theorem m_f60 (hD : D.WF) (m : mA D E S) {c to B : Nat} {z : fzT} (br : brs D E c S) (ht : to < D.K) (hB : B < 8000) (f : ftU S z B) (x1 : Int32) (k51 : Int32 → cpS → Option (Int32 × cpS)) : ∃ T, fX12_laysForce_60 x1 (nI to) k51 cpFu (bI z.2.2) (nI 0) S = k51 (bI (fP D E c to z).2.2) T ∧ ftU T (fP D E c to z) (B + 6) ∧ Kp kFm S T := by
  have k6 := hD.k6
  have := up_lpR (F := fun n a (t : Int32 × cpS) => fX12_laysForce_60 x1 (nI to) k51 n t.1 a t.2) (K := fun t => k51 t.1 t.2) D.K (fs D E c to) (fun i z t => t.1 = bI z.2.2 ∧ ftU t.2 z (B + i) ∧ Kp kFm S t.2) (by omega) (fun n i z t hi hI => ?_) (fun n z t hI => ?_) (i0 := 0) (s := z) (a := (bI z.2.2, S)) (Nat.zero_le _) ⟨rfl, f, Kp.rf⟩
  · obtain ⟨⟨x, T⟩, t1, t2, t3, t4⟩ := this
    have t2 : x = bI (fP D E c to z).2.2 := t2
    rw [t2] at t1
    exact ⟨T, t1, ⟨t3.1, t3.2.1, fun x n hn => by have := t3.2.2.1 x n hn; omega, fun x n hn => by have := t3.2.2.2 x n hn; omega⟩, t4⟩
  · obtain ⟨x, T⟩ := t
    obtain ⟨i1, i2, i3⟩ := hI
    have j1 : x = bI z.2.2 := i1
    have j2 : ftU T z (B + i) := i2
    have j3 : Kp kFm S T := i3
    clear i1 i2 i3
    subst j1
    have mT := m.mm hD (j3.le (fun _ _ => kFm_M))
    have bT := br.kp j3 (fun q j h => by unfold kFm at h; omega)
    by_cases e : i = to
    · have ez : fs D E c to i z = z := by unfold fs; rw [if_pos e]
      rw [ez]
      refine ⟨(bI z.2.2, T), ?_, rfl, ⟨j2.1, j2.2.1, fun x n hn => by have := j2.2.2.1 x n hn; omega, fun x n hn => by have := j2.2.2.2 x n hn; omega⟩, j3⟩
      rw [fX12_laysForce_60]
      simp (disch := omega) only [lit, lm1, nI_add, pk_mul, nm_eq, nm_eq', nm_lt, nm_lt', nm_le, nm_le', x_lt, x_le, x_eq, x_in, x_cl, x_div, x_sub, x_rem, x_min, x_max, x_and, x_or, x_xor, x_df, x_shl, bI_0, bI_1, bI_bo, lg_eq, toL_inj, ls_nI, decide_eq_false_iff_not, decide_eq_true_eq, Bool.true_eq_false, Bool.false_eq_true, bq, if_pos, if_neg, if_true, if_false, lq, Nat.reduceAdd, Nat.reduceMul, Nat.reduceSub, Nat.reduceDiv, Nat.reduceMod, mT.K, e]
    · obtain ⟨U, u1, u2, u3⟩ := m_fstep hD mT bT hi e (by omega) j2 x1 (nI to) k51 (fX12_laysForce_60 x1 (nI to) k51 n)
      refine ⟨(bI (fs D E c to i z).2.2, U), ?_, rfl, u2, j3.tr u3⟩
      rw [fX12_laysForce_60]
      simp (disch := omega) only [lit, lm1, nI_add, pk_mul, nm_eq, nm_eq', nm_lt, nm_lt', nm_le, nm_le', x_lt, x_le, x_eq, x_in, x_cl, x_div, x_sub, x_rem, x_min, x_max, x_and, x_or, x_xor, x_df, x_shl, bI_0, bI_1, bI_bo, lg_eq, toL_inj, ls_nI, decide_eq_false_iff_not, decide_eq_true_eq, Bool.true_eq_false, Bool.false_eq_true, bq, if_pos, if_neg, if_true, if_false, lq, Nat.reduceAdd, Nat.reduceMul, Nat.reduceSub, Nat.reduceDiv, Nat.reduceMod, mT.K, e, j2.1 i (by omega)]
      exact u1
  · have mT := m.mm hD (hI.2.2.le (fun _ _ => kFm_M))
    rw [fX12_laysForce_60]
    simp (disch := omega) only [lit, lm1, nI_add, pk_mul, nm_eq, nm_eq', nm_lt, nm_lt', nm_le, nm_le', x_lt, x_le, x_eq, x_in, x_cl, x_div, x_sub, x_rem, x_min, x_max, x_and, x_or, x_xor, x_df, x_shl, bI_0, bI_1, bI_bo, lg_eq, toL_inj, ls_nI, decide_eq_false_iff_not, decide_eq_true_eq, Bool.true_eq_false, Bool.false_eq_true, bq, if_pos, if_neg, if_true, if_false, lq, Nat.reduceAdd, Nat.reduceMul, Nat.reduceSub, Nat.reduceDiv, Nat.reduceMod, mT.K]
theorem m_f51 (hD : D.WF) (hE : E.WF D) {c to : Nat} (hc : c < D.C) (ht : to < D.K) : ∀ d p f (z : fzT) (S : cpS), p + d = 12 → d + 2 < f → z.2.2 = false → mA D E S → brs D E c S → fIn D E c to p z → ftU S z (6 * p) → ∃ T, fX12_laysForce_51 (nI c) (nI to) f (nI 1) S = some (dF (Dm D E c to (E.at' c)), T) ∧ ftU T (Dm D E c to, Do D E c to, false) 1000 ∧ Kp kFm S T := by
  have c4 := hD.c4
  have k6 := hD.k6
  have ha := hE.at' c hc
  have fin : ∀ (f p : Nat) (z : fzT) (S T : cpS), p ≤ 12 → mA D E T → fIn D E c to p z → (fP D E c to z).2.2 = false → ftU T (fP D E c to z) (6 * p + 6) → Kp kFm S T → ∃ T', fX12_laysForce_51 (nI c) (nI to) (f + 1) (nI 0) T = some (dF (Dm D E c to (E.at' c)), T') ∧ ftU T' (Dm D E c to, Do D E c to, false) 1000 ∧ Kp kFm S T' := by
    intro f p z S T hp mT hr hf hs kT
    have e1 := fP_no hf
    have e2 := fIn_eq (fIn_all hD ht hr e1 12) (by omega)
    rw [e1] at hs
    have hs1 : ∀ x, x < 6 → T.1 160 x = dF (Dm D E c to x) := fun x hx => by rw [hs.1 x hx, e2.1]
    refine ⟨T, ?_, ⟨hs1, fun x hx => by rw [hs.2.1 x hx, e2.2], fun x n hn => ?_, fun x n hn => ?_⟩, kT⟩
    · rw [fX12_laysForce_51]
      simp (disch := omega) only [lit, lm1, nI_add, pk_mul, nm_eq, nm_eq', nm_lt, nm_lt', nm_le, nm_le', x_lt, x_le, x_eq, x_in, x_cl, x_div, x_sub, x_rem, x_min, x_max, x_and, x_or, x_xor, x_df, x_shl, bI_0, bI_1, bI_bo, lg_eq, toL_inj, ls_nI, decide_eq_false_iff_not, decide_eq_true_eq, Bool.true_eq_false, Bool.false_eq_true, bq, if_pos, if_neg, if_true, if_false, lq, Nat.reduceAdd, Nat.reduceMul, Nat.reduceSub, Nat.reduceDiv, Nat.reduceMod, mT.at', hs1 (E.at' c) (by omega)]
    · have := (Dm_in hn).1; omega
    · have := (Do_in hn).1; omega
  intro d
  induction d with
  | zero =>
    intro p f z S h hf hfl m br hr hs
    obtain rfl : p = 12 := by omega
    obtain ⟨f, rfl⟩ : ∃ g, f = g + 1 + 1 := ⟨f - 2, by omega⟩
    have zl : bI z.2.2 = nI 0 := by rw [hfl]; rfl
    obtain ⟨T, t1, t2, t3⟩ := m_f60 hD m br ht (by omega) hs (nI c) (fX12_laysForce_51 (nI c) (nI to) (f + 1))
    have hid := ex_no hD ht hr (by omega) hfl
    have hf2 : (fP D E c to z).2.2 = false := by rw [hid]; exact hfl
    obtain ⟨T', z1, z2, z3⟩ := fin f 12 z S T (by omega) (m.mm hD (t3.le (fun _ _ => kFm_M))) hr hf2 t2 t3
    rw [hf2, zl] at t1
    refine ⟨T', ?_, z2, z3⟩
    rw [fX12_laysForce_51]
    simp (disch := omega) only [lit, lm1, nI_add, pk_mul, nm_eq, nm_eq', nm_lt, nm_lt', nm_le, nm_le', x_lt, x_le, x_eq, x_in, x_cl, x_div, x_sub, x_rem, x_min, x_max, x_and, x_or, x_xor, x_df, x_shl, bI_0, bI_1, bI_bo, lg_eq, toL_inj, ls_nI, decide_eq_false_iff_not, decide_eq_true_eq, Bool.true_eq_false, Bool.false_eq_true, bq, if_pos, if_neg, if_true, if_false, lq, Nat.reduceAdd, Nat.reduceMul, Nat.reduceSub, Nat.reduceDiv, Nat.reduceMod]
    exact t1.trans z1
  | succ d ih =>
    intro p f z S h hf hfl m br hr hs
    obtain ⟨f, rfl⟩ : ∃ g, f = g + 1 + 1 := ⟨f - 2, by omega⟩
    have zl : bI z.2.2 = nI 0 := by rw [hfl]; rfl
    obtain ⟨T, t1, t2, t3⟩ := m_f60 hD m br ht (by omega) hs (nI c) (fX12_laysForce_51 (nI c) (nI to) (f + 1))
    have mT := m.mm hD (t3.le (fun _ _ => kFm_M))
    cases hf2 : (fP D E c to z).2.2
    · obtain ⟨T', z1, z2, z3⟩ := fin f p z S T (by omega) mT hr hf2 t2 t3
      rw [hf2, zl] at t1
      refine ⟨T', ?_, z2, z3⟩
      rw [fX12_laysForce_51]
      simp (disch := omega) only [lit, lm1, nI_add, pk_mul, nm_eq, nm_eq', nm_lt, nm_lt', nm_le, nm_le', x_lt, x_le, x_eq, x_in, x_cl, x_div, x_sub, x_rem, x_min, x_max, x_and, x_or, x_xor, x_df, x_shl, bI_0, bI_1, bI_bo, lg_eq, toL_inj, ls_nI, decide_eq_false_iff_not, decide_eq_true_eq, Bool.true_eq_false, Bool.false_eq_true, bq, if_pos, if_neg, if_true, if_false, lq, Nat.reduceAdd, Nat.reduceMul, Nat.reduceSub, Nat.reduceDiv, Nat.reduceMod]
      exact t1.trans z1
    · have ok := fP_ok hD ht hr
      obtain ⟨T', z1, z2, z3⟩ := ih (p + 1) (f + 1) ((fP D E c to z).1, (fP D E c to z).2.1, false) T (by omega) (by omega) rfl mT (br.kp t3 (fun q j h => by unfold kFm at h; omega)) ok ⟨t2.1, t2.2.1, fun x n hn => by have := t2.2.2.1 x n hn; omega, fun x n hn => by have := t2.2.2.2 x n hn; omega⟩
      rw [hf2, zl] at t1
      refine ⟨T', ?_, z2, t3.tr z3⟩
      rw [fX12_laysForce_51]
      simp (disch := omega) only [lit, lm1, nI_add, pk_mul, nm_eq, nm_eq', nm_lt, nm_lt', nm_le, nm_le', x_lt, x_le, x_eq, x_in, x_cl, x_div, x_sub, x_rem, x_min, x_max, x_and, x_or, x_xor, x_df, x_shl, bI_0, bI_1, bI_bo, lg_eq, toL_inj, ls_nI, decide_eq_false_iff_not, decide_eq_true_eq, Bool.true_eq_false, Bool.false_eq_true, bq, if_pos, if_neg, if_true, if_false, lq, Nat.reduceAdd, Nat.reduceMul, Nat.reduceSub, Nat.reduceDiv, Nat.reduceMod]
      exact t1.trans z1
def kFq (q j : Nat) : Prop := kFm q j ∨ kBG q j
theorem kFq_M {k j : Nat} (h : kFq k j) : kM k j := by
  rcases h with h | h
  · exact kFm_M h
  · exact kBG_M h
theorem m_laysForce (hD : D.WF) (hE : E.WF D) (m : mA D E S) {c to : Nat} (hc : c < D.C) (ht : to < D.K) : ∃ T, fX12_laysForce (nI c) (nI to) S = some (dF (Dm D E c to (E.at' c)), T) ∧ ftU T (Dm D E c to, Do D E c to, false) 1000 ∧ brs D E c T ∧ Kp kFq S T := by
  have k6 := hD.k6
  obtain ⟨A, a1, a2, a3, a4⟩ := m_laysBears hD hE m hc
  obtain ⟨B, b1, b2, b2', b3⟩ : ∃ B, fX12_laysForce_7 (nI c) (nI to) cpFu (nI 0) A = fX12_laysForce_51 (nI c) (nI to) cpFu (nI 1) B ∧ (∀ x, x < 6 → B.1 160 x = dF (if x = to then some 0 else none)) ∧ (∀ x, x < 6 → B.1 161 x = dF (if x = to then some 0 else none)) ∧ Kp kFm A B := by
    refine up_lpR (F := fun n i (T : cpS) => fX12_laysForce_7 (nI c) (nI to) n i T) (K := fun T => fX12_laysForce_51 (nI c) (nI to) cpFu (nI 1) T) 6 (fun _ (s : Unit) => s) (fun i _ T => (∀ x, x < i → T.1 160 x = dF (if x = to then some 0 else none)) ∧ (∀ x, x < i → T.1 161 x = dF (if x = to then some 0 else none)) ∧ Kp kFm A T) (by decide) (fun n i s T hi hI => ?_) (fun n s T hI => ?_) (i0 := 0) (s := ()) (a := A) (Nat.zero_le _) ⟨fun x hx => absurd hx (by omega), fun x hx => absurd hx (by omega), Kp.rf⟩
    · obtain ⟨i1, i1', i2⟩ := hI
      refine ⟨cpI (cpI T 160 i (dF (if i = to then some 0 else none))) 161 i (dF (if i = to then some 0 else none)), ?_, fun x hx => ?_, fun x hx => ?_, (i2.I (by exact Or.inl rfl)).I (by exact Or.inr rfl)⟩
      · rw [fX12_laysForce_7]
        unfold fX12_laysForce_30
        by_cases e : i = to
        · subst e
          simp (disch := omega) only [lit, lm1, nI_add, pk_mul, nm_eq, nm_eq', nm_lt, nm_lt', nm_le, nm_le', x_lt, x_le, x_eq, x_in, x_cl, x_div, x_sub, x_rem, x_min, x_max, x_and, x_or, x_xor, x_df, x_shl, bI_0, bI_1, bI_bo, lg_eq, toL_inj, ls_nI, decide_eq_false_iff_not, decide_eq_true_eq, Bool.true_eq_false, Bool.false_eq_true, bq, if_pos, if_neg, if_true, if_false, lq, Nat.reduceAdd, Nat.reduceMul, Nat.reduceSub, Nat.reduceDiv, Nat.reduceMod, dF, sI1, eq_self]
        · simp (disch := omega) only [lit, lm1, nI_add, pk_mul, nm_eq, nm_eq', nm_lt, nm_lt', nm_le, nm_le', x_lt, x_le, x_eq, x_in, x_cl, x_div, x_sub, x_rem, x_min, x_max, x_and, x_or, x_xor, x_df, x_shl, bI_0, bI_1, bI_bo, lg_eq, toL_inj, ls_nI, decide_eq_false_iff_not, decide_eq_true_eq, Bool.true_eq_false, Bool.false_eq_true, bq, if_pos, if_neg, if_true, if_false, lq, Nat.reduceAdd, Nat.reduceMul, Nat.reduceSub, Nat.reduceDiv, Nat.reduceMod, e, dF, sI1]
      · rw [sIr (by decide)]
        by_cases e : x = i
        · rw [e, sI1]
        · rw [sIn (Or.inr e)]; exact i1 x (by omega)
      · by_cases e : x = i
        · rw [e, sI1]
        · rw [sIn (Or.inr e), sIr (by decide)]; exact i1' x (by omega)
    · rw [fX12_laysForce_7]
      simp (disch := omega) only [lit, lm1, nI_add, pk_mul, nm_eq, nm_eq', nm_lt, nm_lt', nm_le, nm_le', x_lt, x_le, x_eq, x_in, x_cl, x_div, x_sub, x_rem, x_min, x_max, x_and, x_or, x_xor, x_df, x_shl, bI_0, bI_1, bI_bo, lg_eq, toL_inj, ls_nI, decide_eq_false_iff_not, decide_eq_true_eq, Bool.true_eq_false, Bool.false_eq_true, bq, if_pos, if_neg, if_true, if_false, lq, Nat.reduceAdd, Nat.reduceMul, Nat.reduceSub, Nat.reduceDiv, Nat.reduceMod]
  have mB : mA D E B := a3.1.mm hD (b3.le (fun _ _ => kFm_M))
  have h0 : ∀ x n, (if x = to then some 0 else none) = some n → x = to ∧ n = 0 := fun x n h => by
    split at h
    · rename_i e; cases h; exact ⟨e, rfl⟩
    · cases h
  obtain ⟨T, t1, t2, t3⟩ := m_f51 hD hE hc ht 12 0 cpFu (fun x => if x = to then some 0 else none, fun x => if x = to then some 0 else none, false) B rfl (by decide) rfl mB (a2.kp b3 (fun q j h => by unfold kFm at h; omega)) ⟨fun a n h => ⟨0, Nat.zero_le _, Dm_0.mpr (h0 a n h).1⟩, fun a n h => ⟨0, Nat.zero_le _, Do_0.mpr (h0 a n h).1⟩, fun a n h hn => by rw [show n = 0 by omega] at h ⊢; exact if_pos (Dm_0.mp h), fun a n h hn => by rw [show n = 0 by omega] at h ⊢; exact if_pos (Do_0.mp h)⟩ ⟨b2, b2', fun x n h => by have := (h0 x n h).2; omega, fun x n h => by have := (h0 x n h).2; omega⟩
  have kAT := b3.tr t3
  refine ⟨T, ?_, t2, a2.kp kAT (fun q j h => by unfold kFm at h; omega), (a4.le (fun _ _ h => Or.inr h)).tr (kAT.le (fun _ _ h => Or.inl h))⟩
  unfold fX12_laysForce
  simp (disch := omega) only [lit, lm1, nI_add, pk_mul, nm_eq, nm_eq', nm_lt, nm_lt', nm_le, nm_le', x_lt, x_le, x_eq, x_in, x_cl, x_div, x_sub, x_rem, x_min, x_max, x_and, x_or, x_xor, x_df, x_shl, bI_0, bI_1, bI_bo, lg_eq, toL_inj, ls_nI, decide_eq_false_iff_not, decide_eq_true_eq, Bool.true_eq_false, Bool.false_eq_true, bq, if_pos, if_neg, if_true, if_false, lq, Nat.reduceAdd, Nat.reduceMul, Nat.reduceSub, Nat.reduceDiv, Nat.reduceMod, a1]
  exact b1.trans t1
end F4
theorem q_forces : cpQ_forces cpRl := by
  intro x1 x2 S hR
  refine q1 hR (fun D E hD hE => ?_)
  have c4 := hD.c4
  have k6 := hD.k6
  rcases arg2 D x1 x2 with ⟨k, t, hk, ht, rfl, rfl⟩ | h
  · have ha := hE.at' k hk
    refine ⟨oI (Dm D E k t (E.at' k)), fun S c => ?_, fun S m => ?_⟩
    · obtain ⟨A, a1, a2, a3⟩ := c_learn hD hE c false hk
      have a1 : fX4_learn (nI k) (nI 0) S = some ((), A) := a1
      have cA' := c.cc (a3.le (fun _ _ => kL_C))
      obtain ⟨B, b1, b2, b3, b4⟩ := c_forcedWithin hD cA' a2 ht ha
      refine ⟨B, ?_, (a3.le (fun _ _ => kL_C)).tr (b4.le (fun _ _ => kFo_C))⟩
      unfold fX11_forces
      simp (disch := omega) only [lit, lm1, nI_add, pk_mul, nm_eq, nm_eq', nm_lt, nm_lt', nm_le, nm_le', x_lt, x_le, x_eq, x_in, x_cl, x_div, x_sub, x_rem, x_min, x_max, x_and, x_or, x_xor, x_df, x_shl, bI_0, bI_1, bI_bo, lg_eq, toL_inj, ls_nI, decide_eq_false_iff_not, decide_eq_true_eq, Bool.true_eq_false, Bool.false_eq_true, bq, if_pos, if_neg, if_true, if_false, lq, Nat.reduceAdd, Nat.reduceMul, Nat.reduceSub, Nat.reduceDiv, Nat.reduceMod, c_cap1 hD c hk ht, a1, cA'.at', b1]
    · have m0 := m.thr hD (nI 0)
      obtain ⟨T, t1, t2, t3, t4⟩ := m_laysForce hD hE m0 hk ht
      refine ⟨T, ?_, (kM_thr S (nI 0)).tr (t4.le (fun _ _ => kFq_M))⟩
      unfold fX12_forces fX12_toldFar
      cases hd : Dm D E k t (E.at' k) with
      | none =>
        rw [hd] at t1
        simp (disch := omega) only [lit, lm1, nI_add, pk_mul, nm_eq, nm_eq', nm_lt, nm_lt', nm_le, nm_le', x_lt, x_le, x_eq, x_in, x_cl, x_div, x_sub, x_rem, x_min, x_max, x_and, x_or, x_xor, x_df, x_shl, bI_0, bI_1, bI_bo, lg_eq, toL_inj, ls_nI, decide_eq_false_iff_not, decide_eq_true_eq, Bool.true_eq_false, Bool.false_eq_true, bq, if_pos, if_neg, if_true, if_false, lq, Nat.reduceAdd, Nat.reduceMul, Nat.reduceSub, Nat.reduceDiv, Nat.reduceMod, m_noCoin1 hD m0 hk ht, t1, dF, eq_self]
        rfl
      | some n =>
        have := (Dm_in hd).1
        rw [hd] at t1
        simp (disch := omega) only [lit, lm1, nI_add, pk_mul, nm_eq, nm_eq', nm_lt, nm_lt', nm_le, nm_le', x_lt, x_le, x_eq, x_in, x_cl, x_div, x_sub, x_rem, x_min, x_max, x_and, x_or, x_xor, x_df, x_shl, bI_0, bI_1, bI_bo, lg_eq, toL_inj, ls_nI, decide_eq_false_iff_not, decide_eq_true_eq, Bool.true_eq_false, Bool.false_eq_true, bq, if_pos, if_neg, if_true, if_false, lq, Nat.reduceAdd, Nat.reduceMul, Nat.reduceSub, Nat.reduceDiv, Nat.reduceMod, m_noCoin1 hD m0 hk ht, t1, dF]
        rfl
  · refine ⟨-2, fun S c => ⟨S, ?_, Kp.rf⟩, fun S m => ⟨_, ?_, kM_thr S (nI 0)⟩⟩
    · unfold fX11_forces
      simp (disch := omega) only [lit, lm1, nI_add, pk_mul, nm_eq, nm_eq', nm_lt, nm_lt', nm_le, nm_le', x_lt, x_le, x_eq, x_in, x_cl, x_div, x_sub, x_rem, x_min, x_max, x_and, x_or, x_xor, x_df, x_shl, bI_0, bI_1, bI_bo, lg_eq, toL_inj, ls_nI, decide_eq_false_iff_not, decide_eq_true_eq, Bool.true_eq_false, Bool.false_eq_true, bq, if_pos, if_neg, if_true, if_false, lq, Nat.reduceAdd, Nat.reduceMul, Nat.reduceSub, Nat.reduceDiv, Nat.reduceMod, c_coinAndPlace hD c, h]
    · have hno : fX12_noCoin x1 x2 (cpI S 150 0 (nI 0)) = some (-2, cpI S 150 0 (nI 0)) := by rw [m_noCoin hD (m.thr hD (nI 0)), h]; rfl
      unfold fX12_forces
      simp (disch := omega) only [lit, lm1, nI_add, pk_mul, nm_eq, nm_eq', nm_lt, nm_lt', nm_le, nm_le', x_lt, x_le, x_eq, x_in, x_cl, x_div, x_sub, x_rem, x_min, x_max, x_and, x_or, x_xor, x_df, x_shl, bI_0, bI_1, bI_bo, lg_eq, toL_inj, ls_nI, decide_eq_false_iff_not, decide_eq_true_eq, Bool.true_eq_false, Bool.false_eq_true, bq, if_pos, if_neg, if_true, if_false, lq, Nat.reduceAdd, Nat.reduceMul, Nat.reduceSub, Nat.reduceDiv, Nat.reduceMod, hno]
      rfl
