/-! laws: or, and, times, plus and minus -/
def LKq (t : Nat → Nat) (L w n gc gm : Nat) (b : Bool) : Prop := ∀ (d m s : Nat) (l : List Nat) (S M : cpS), d ≤ 6 → 8 * (6 - d) + 8 ≤ n + gc → 8 * (6 - d) + 8 ≤ m + gc → Ls t L s w l S M → Ot t L s w l b (8 * (6 - d) + 8 - gc) S M (fX7_rec n gc (nI d) S) (fX12_rec m gm (nI d) M)
section CH
variable {t : Nat → Nat} {L w n : Nat}
/-- over the sign, then one, then its operation -/
theorem ls_step {gc gm : Nat} {b : Bool} (h : LKq t L w n gc gm b) {d m s : Nat} {l : List Nat} {S M : cpS} (hd : d ≤ 6) (hn : 8 * (6 - d) + 8 ≤ n + gc) (hm : 8 * (6 - d) + 8 ≤ m + gc) (hl : Ls t L s w l S M) (hk : kyE t L s ≠ 26) {op : Nat} (ho : op < 2010) :
    ∃ S1 M1, fX7_advance S = some ((), S1) ∧ fX12_next M = some ((), M1) ∧
      ((∃ s' k S2 M2 S3 M3, fX7_rec n gc (nI d) S1 = some (nI 1, S2) ∧ fX12_rec m gm (nI d) M1 = some ((), M2) ∧ fX3_append 26 (nI op) S2 = some ((), S3) ∧ fX12_codes (nI (cpOp op)) M2 = some ((), M3) ∧ Ls t L s' w (l ++ (k ++ [op])) S3 M3 ∧ s < s' ∧ (k ++ [op]).length + s ≤ s' ∧ Sg b (8 * (6 - d) + 8 - gc) k ∧ Kp kLc S S3 ∧ Kp kLm M M3) ∨
       (∃ S2 M2, fX7_rec n gc (nI d) S1 = some (nI 0, S2) ∧ fX12_rec m gm (nI d) M1 = some ((), M2) ∧ Fp S2 M2 ∧ Kp kLc S S2 ∧ Kp kLm M M2)) := by
  obtain ⟨s1, S1, M1, a1, a2, a3, a4, a5, a6⟩ := hl.rp.adv hk
  obtain ⟨s2, b1, b2, b3, b4⟩ := hl.go ⟨s1, a3, a4, k115.le a5, k150.le a6⟩
  refine ⟨S1, M1, a1, a2, ?_⟩
  have bg := hl.bg
  rcases h d m s2 l S1 M1 hd hn hm b1 with ⟨s', k, S2, M2, c1, c2, c3, c4, c5, c6, c7, c8⟩ | ⟨S2, M2, c1, c2, c3, c4, c5⟩
  · have el : (k ++ [op]).length = k.length + 1 := by rw [List.length_append]; rfl
    obtain ⟨S3, M3, e1, e2, e3, e4, e5⟩ := c3.app ho (by rw [List.length_append]; omega)
    exact Or.inl ⟨s', k, S2, M2, S3, M3, c1, c2, e1, e2, by rw [← List.append_assoc]; exact e3, by omega, by omega, c6, (b3.tr c7).tr e4, (b4.tr c8).tr e5⟩
  · exact Or.inr ⟨S2, M2, c1, c2, c3, b3.tr c4, b4.tr c5⟩
/-- one, then a chain behind it -/
theorem ls_chain {b : Bool} {H s : Nat} {l : List Nat} {S M : cpS} {rc0 : Option (Int32 × cpS)} {rm0 : Option (Unit × cpS)} {rc : Option (Int32 × cpS)} {rm : Option (Unit × cpS)}
    (Fc : Nat → Int32 → cpS → Option (Int32 × cpS)) (Gm : Nat → cpS → Option (Unit × cpS)) {H' : Nat} (hH : H' ≤ H) (h0 : Ot t L s w l b H' S M rc0 rm0)
    (e1 : ∀ S1, rc0 = some (nI 1, S1) → rc = Fc cpFu (nI 0) S1) (e2 : ∀ S1, rc0 = some (nI 0, S1) → rc = some (nI 0, S1)) (e3 : ∀ M1, rm0 = some ((), M1) → rm = Gm cpFu M1) (e4 : ∀ M1, Fm M1 → Gm cpFu M1 = some ((), M1))
    (h9 : ∀ n S, Fc (n + 1) (nI 900) S = some (nI 1, S))
    (hs : ∀ n m x s l S M, x < 900 → Ls t L s w l S M →
      (Fc (n + 1) (nI x) S = some (nI 1, S) ∧ Gm (m + 2) M = some ((), M)) ∨
      (∃ s' k S' M', Fc (n + 1) (nI x) S = Fc n (nI (x + 1)) S' ∧ Gm (m + 2) M = Gm (m + 1) M' ∧ Ls t L s' w (l ++ k) S' M' ∧ s < s' ∧ k.length + s ≤ s' ∧ Sh b H k ∧ Kp kLc S S' ∧ Kp kLm M M') ∨
      (∃ S' M', s < L ∧ Fc (n + 1) (nI x) S = some (nI 0, S') ∧ Gm (m + 2) M = some ((), M') ∧ Fp S' M' ∧ Kp kLc S S' ∧ Kp kLm M M')) : Ot t L s w l b H S M rc rm := by
  rcases h0 with ⟨s1, k1, S1, M1, c1, c2, c3, c4, c5, c6, c7, c8⟩ | ⟨S1, M1, c1, c2, c3, c4, c5⟩
  · have l9 := c3.rp.ct.1
    rcases ls_loop Fc Gm h9 hs 900 cpFu cpFu 0 s1 (l ++ k1) S1 M1 (by omega) (by decide) (by decide) (by omega) (by omega) c3 with ⟨s2, k2, S2, M2, y1, y2, y3, y4, y5, y6, y7, y8⟩ | ⟨S2, M2, y1, y2, y3, y4, y5⟩
    · refine Or.inl ⟨s2, k1 ++ k2, S2, M2, (e1 _ c1).trans y1, (e3 _ c2).trans y2, by rw [← List.append_assoc]; exact y3, by omega, by rw [List.length_append]; omega, fun st hst => snd_app _ (c6 st (by omega)) (y6 st hst), c7.tr y7, c8.tr y8⟩
    · exact Or.inr ⟨S2, M2, (e1 _ c1).trans y1, (e3 _ c2).trans y2, y3, c7.tr y4, c8.tr y5⟩
  · exact Or.inr ⟨S1, M1, e2 _ c1, (e3 _ c2).trans (e4 _ c3.fm), c3, c4, c5⟩
theorem ky_L {s : Nat} (hs : s ≤ L) (h : kyE t L s ≠ 26) : s < L := by
  by_cases e : s < L
  · exact e
  · have eL : s = L := by omega
    subst eL
    refine absurd ?_ h
    unfold kyE
    rw [lte_L.1, lte_L.2.1, if_neg (Nat.lt_irrefl _), if_neg (Nat.lt_irrefl _), if_neg (Nat.lt_irrefl _)]
theorem eats_y {M M1 : cpS} {x : Int32} (h : fX12_is x M = some (nI 1, M)) (g : fX12_next M = some ((), M1)) : fX12_eats x M = some (nI 1, M1) := by unfold fX12_eats; simp (disch := omega) only [lit, lm1, nI_add, pk_mul, nm_eq, nm_eq', nm_lt, nm_lt', nm_le, nm_le', x_lt, x_le, x_eq, x_in, x_cl, x_div, x_sub, x_rem, x_min, x_max, x_and, x_or, x_xor, x_df, x_shl, bI_0, bI_1, bI_bo, lg_eq, toL_inj, ls_nI, decide_eq_false_iff_not, decide_eq_true_eq, Bool.true_eq_false, Bool.false_eq_true, bq, if_pos, if_neg, if_true, if_false, lq, Nat.reduceAdd, Nat.reduceMul, Nat.reduceSub, Nat.reduceDiv, Nat.reduceMod, h, g]
theorem eats_n {M : cpS} {x : Int32} (h : fX12_is x M = some (nI 0, M)) : fX12_eats x M = some (nI 0, M) := by unfold fX12_eats; simp (disch := omega) only [lit, lm1, nI_add, pk_mul, nm_eq, nm_eq', nm_lt, nm_lt', nm_le, nm_le', x_lt, x_le, x_eq, x_in, x_cl, x_div, x_sub, x_rem, x_min, x_max, x_and, x_or, x_xor, x_df, x_shl, bI_0, bI_1, bI_bo, lg_eq, toL_inj, ls_nI, decide_eq_false_iff_not, decide_eq_true_eq, Bool.true_eq_false, Bool.false_eq_true, bq, if_pos, if_neg, if_true, if_false, lq, Nat.reduceAdd, Nat.reduceMul, Nat.reduceSub, Nat.reduceDiv, Nat.reduceMod, h]
theorem lk_truth (h : LKq t L w n 1 1 true) : LKq t L w (n + 1) 0 0 true := by
  intro d m s l S M hd hn hm hl
  obtain ⟨m, rfl⟩ : ∃ k, m = k + 1 := ⟨m - 1, by omega⟩
  rw [r7_0, rm_0]
  refine ls_chain (fX7_readTruth_12 (fX7_rec n) (nI d)) (fX12_readTruth_5 (fX12_rec m) (nI d)) (Nat.sub_le_sub_left (Nat.zero_le 1) _) (h d m s l S M hd (by omega) (by omega) hl) (fun S1 e => by unfold fX7_readTruth; simp (disch := omega) only [lit, lm1, nI_add, pk_mul, nm_eq, nm_eq', nm_lt, nm_lt', nm_le, nm_le', x_lt, x_le, x_eq, x_in, x_cl, x_div, x_sub, x_rem, x_min, x_max, x_and, x_or, x_xor, x_df, x_shl, bI_0, bI_1, bI_bo, lg_eq, toL_inj, ls_nI, decide_eq_false_iff_not, decide_eq_true_eq, Bool.true_eq_false, Bool.false_eq_true, bq, if_pos, if_neg, if_true, if_false, lq, Nat.reduceAdd, Nat.reduceMul, Nat.reduceSub, Nat.reduceDiv, Nat.reduceMod, e]) (fun S1 e => by unfold fX7_readTruth; simp (disch := omega) only [lit, lm1, nI_add, pk_mul, nm_eq, nm_eq', nm_lt, nm_lt', nm_le, nm_le', x_lt, x_le, x_eq, x_in, x_cl, x_div, x_sub, x_rem, x_min, x_max, x_and, x_or, x_xor, x_df, x_shl, bI_0, bI_1, bI_bo, lg_eq, toL_inj, ls_nI, decide_eq_false_iff_not, decide_eq_true_eq, Bool.true_eq_false, Bool.false_eq_true, bq, if_pos, if_neg, if_true, if_false, lq, Nat.reduceAdd, Nat.reduceMul, Nat.reduceSub, Nat.reduceDiv, Nat.reduceMod, e]) (fun M1 e => by unfold fX12_readTruth; simp (disch := omega) only [lit, lm1, nI_add, pk_mul, nm_eq, nm_eq', nm_lt, nm_lt', nm_le, nm_le', x_lt, x_le, x_eq, x_in, x_cl, x_div, x_sub, x_rem, x_min, x_max, x_and, x_or, x_xor, x_df, x_shl, bI_0, bI_1, bI_bo, lg_eq, toL_inj, ls_nI, decide_eq_false_iff_not, decide_eq_true_eq, Bool.true_eq_false, Bool.false_eq_true, bq, if_pos, if_neg, if_true, if_false, lq, Nat.reduceAdd, Nat.reduceMul, Nat.reduceSub, Nat.reduceDiv, Nat.reduceMod, e]) (fun M1 f => f_l0 f _ _ 4999) (fun n S => by rw [fX7_readTruth_12]; simp (disch := omega) only [lit, lm1, nI_add, pk_mul, nm_eq, nm_eq', nm_lt, nm_lt', nm_le, nm_le', x_lt, x_le, x_eq, x_in, x_cl, x_div, x_sub, x_rem, x_min, x_max, x_and, x_or, x_xor, x_df, x_shl, bI_0, bI_1, bI_bo, lg_eq, toL_inj, ls_nI, decide_eq_false_iff_not, decide_eq_true_eq, Bool.true_eq_false, Bool.false_eq_true, bq, if_pos, if_neg, if_true, if_false, lq, Nat.reduceAdd, Nat.reduceMul, Nat.reduceSub, Nat.reduceDiv, Nat.reduceMod]) ?_
  intro n' m' x s l S M hx hl
  have i1 := hl.rp.isW (k := 22) (by decide) (by decide)
  have i2 := hl.rp.mis (w := 21) (by decide)
  have ek : kWd 22 = 21 := rfl
  rw [ek] at i1
  by_cases e : kyE t L s = 21
  · rw [decide_eq_true e] at i1 i2
    have i1 : fX7_isWord 22 S = some (nI 1, S) := i1
    have i2 : fX12_is (nI 21) M = some (nI 1, M) := i2
    have hL := ky_L (t := t) hl.rp.sl (by omega)
    obtain ⟨S1, M1, a1, a2, ⟨s', k, S2, M2, S3, M3, b1, b2, b3, b4, b5, b6, b7, b8, b9, b10⟩ | ⟨S2, M2, b1, b2, b3, b4, b5⟩⟩ := ls_step h hd (by omega) (m := m) (by omega) hl (by omega) (op := 2007) (by decide)
    · have b4 : fX12_codes (nI 3008) M2 = some ((), M3) := b4
      refine Or.inr (Or.inl ⟨s', _, S3, M3, ?_, ?_, b5, b6, b7, fun st hst => ?_, b9, b10⟩)
      · rw [fX7_readTruth_12]; simp (disch := omega) only [lit, lm1, nI_add, pk_mul, nm_eq, nm_eq', nm_lt, nm_lt', nm_le, nm_le', x_lt, x_le, x_eq, x_in, x_cl, x_div, x_sub, x_rem, x_min, x_max, x_and, x_or, x_xor, x_df, x_shl, bI_0, bI_1, bI_bo, lg_eq, toL_inj, ls_nI, decide_eq_false_iff_not, decide_eq_true_eq, Bool.true_eq_false, Bool.false_eq_true, bq, if_pos, if_neg, if_true, if_false, lq, Nat.reduceAdd, Nat.reduceMul, Nat.reduceSub, Nat.reduceDiv, Nat.reduceMod, i1, a1, b1, b3]
      · rw [fX12_readTruth_5]; simp (disch := omega) only [lit, lm1, nI_add, pk_mul, nm_eq, nm_eq', nm_lt, nm_lt', nm_le, nm_le', x_lt, x_le, x_eq, x_in, x_cl, x_div, x_sub, x_rem, x_min, x_max, x_and, x_or, x_xor, x_df, x_shl, bI_0, bI_1, bI_bo, lg_eq, toL_inj, ls_nI, decide_eq_false_iff_not, decide_eq_true_eq, Bool.true_eq_false, Bool.false_eq_true, bq, if_pos, if_neg, if_true, if_false, lq, Nat.reduceAdd, Nat.reduceMul, Nat.reduceSub, Nat.reduceDiv, Nat.reduceMod, eats_y i2 a2, b2, b4]
      · exact snd_app _ (b8 _ (by show st.length + 1 + _ < 90; omega)) (snd_one (by show st.length + 1 + 1 < 90; omega) rfl)
    · refine Or.inr (Or.inr ⟨S2, M2, hL, ?_, ?_, b3, b4, b5⟩)
      · rw [fX7_readTruth_12]; simp (disch := omega) only [lit, lm1, nI_add, pk_mul, nm_eq, nm_eq', nm_lt, nm_lt', nm_le, nm_le', x_lt, x_le, x_eq, x_in, x_cl, x_div, x_sub, x_rem, x_min, x_max, x_and, x_or, x_xor, x_df, x_shl, bI_0, bI_1, bI_bo, lg_eq, toL_inj, ls_nI, decide_eq_false_iff_not, decide_eq_true_eq, Bool.true_eq_false, Bool.false_eq_true, bq, if_pos, if_neg, if_true, if_false, lq, Nat.reduceAdd, Nat.reduceMul, Nat.reduceSub, Nat.reduceDiv, Nat.reduceMod, i1, a1, b1]
      · rw [fX12_readTruth_5]; simp (disch := omega) only [lit, lm1, nI_add, pk_mul, nm_eq, nm_eq', nm_lt, nm_lt', nm_le, nm_le', x_lt, x_le, x_eq, x_in, x_cl, x_div, x_sub, x_rem, x_min, x_max, x_and, x_or, x_xor, x_df, x_shl, bI_0, bI_1, bI_bo, lg_eq, toL_inj, ls_nI, decide_eq_false_iff_not, decide_eq_true_eq, Bool.true_eq_false, Bool.false_eq_true, bq, if_pos, if_neg, if_true, if_false, lq, Nat.reduceAdd, Nat.reduceMul, Nat.reduceSub, Nat.reduceDiv, Nat.reduceMod, eats_y i2 a2, b2, f_codes b3.fm, f_l0 b3.fm]
  · rw [decide_eq_false e] at i1 i2
    have i1 : fX7_isWord 22 S = some (nI 0, S) := i1
    have i2 : fX12_is (nI 21) M = some (nI 0, M) := i2
    refine Or.inl ⟨?_, ?_⟩
    · rw [fX7_readTruth_12]; simp (disch := omega) only [lit, lm1, nI_add, pk_mul, nm_eq, nm_eq', nm_lt, nm_lt', nm_le, nm_le', x_lt, x_le, x_eq, x_in, x_cl, x_div, x_sub, x_rem, x_min, x_max, x_and, x_or, x_xor, x_df, x_shl, bI_0, bI_1, bI_bo, lg_eq, toL_inj, ls_nI, decide_eq_false_iff_not, decide_eq_true_eq, Bool.true_eq_false, Bool.false_eq_true, bq, if_pos, if_neg, if_true, if_false, lq, Nat.reduceAdd, Nat.reduceMul, Nat.reduceSub, Nat.reduceDiv, Nat.reduceMod, i1]
    · rw [fX12_readTruth_5]; simp (disch := omega) only [lit, lm1, nI_add, pk_mul, nm_eq, nm_eq', nm_lt, nm_lt', nm_le, nm_le', x_lt, x_le, x_eq, x_in, x_cl, x_div, x_sub, x_rem, x_min, x_max, x_and, x_or, x_xor, x_df, x_shl, bI_0, bI_1, bI_bo, lg_eq, toL_inj, ls_nI, decide_eq_false_iff_not, decide_eq_true_eq, Bool.true_eq_false, Bool.false_eq_true, bq, if_pos, if_neg, if_true, if_false, lq, Nat.reduceAdd, Nat.reduceMul, Nat.reduceSub, Nat.reduceDiv, Nat.reduceMod, eats_n i2]
theorem lk_both (h : LKq t L w n 2 2 true) : LKq t L w (n + 1) 1 1 true := by
  intro d m s l S M hd hn hm hl
  obtain ⟨m, rfl⟩ : ∃ k, m = k + 1 := ⟨m - 1, by omega⟩
  rw [r7_1, rm_1]
  refine ls_chain (fX7_readBoth_12 (fX7_rec n) (nI d)) (fX12_readBoth_5 (fX12_rec m) (nI d)) (Nat.sub_le_sub_left (by decide : 1 ≤ 2) _) (h d m s l S M hd (by omega) (by omega) hl) (fun S1 e => by unfold fX7_readBoth; simp (disch := omega) only [lit, lm1, nI_add, pk_mul, nm_eq, nm_eq', nm_lt, nm_lt', nm_le, nm_le', x_lt, x_le, x_eq, x_in, x_cl, x_div, x_sub, x_rem, x_min, x_max, x_and, x_or, x_xor, x_df, x_shl, bI_0, bI_1, bI_bo, lg_eq, toL_inj, ls_nI, decide_eq_false_iff_not, decide_eq_true_eq, Bool.true_eq_false, Bool.false_eq_true, bq, if_pos, if_neg, if_true, if_false, lq, Nat.reduceAdd, Nat.reduceMul, Nat.reduceSub, Nat.reduceDiv, Nat.reduceMod, e]) (fun S1 e => by unfold fX7_readBoth; simp (disch := omega) only [lit, lm1, nI_add, pk_mul, nm_eq, nm_eq', nm_lt, nm_lt', nm_le, nm_le', x_lt, x_le, x_eq, x_in, x_cl, x_div, x_sub, x_rem, x_min, x_max, x_and, x_or, x_xor, x_df, x_shl, bI_0, bI_1, bI_bo, lg_eq, toL_inj, ls_nI, decide_eq_false_iff_not, decide_eq_true_eq, Bool.true_eq_false, Bool.false_eq_true, bq, if_pos, if_neg, if_true, if_false, lq, Nat.reduceAdd, Nat.reduceMul, Nat.reduceSub, Nat.reduceDiv, Nat.reduceMod, e]) (fun M1 e => by unfold fX12_readBoth; simp (disch := omega) only [lit, lm1, nI_add, pk_mul, nm_eq, nm_eq', nm_lt, nm_lt', nm_le, nm_le', x_lt, x_le, x_eq, x_in, x_cl, x_div, x_sub, x_rem, x_min, x_max, x_and, x_or, x_xor, x_df, x_shl, bI_0, bI_1, bI_bo, lg_eq, toL_inj, ls_nI, decide_eq_false_iff_not, decide_eq_true_eq, Bool.true_eq_false, Bool.false_eq_true, bq, if_pos, if_neg, if_true, if_false, lq, Nat.reduceAdd, Nat.reduceMul, Nat.reduceSub, Nat.reduceDiv, Nat.reduceMod, e]) (fun M1 f => f_l1 f _ _ 4999) (fun n S => by rw [fX7_readBoth_12]; simp (disch := omega) only [lit, lm1, nI_add, pk_mul, nm_eq, nm_eq', nm_lt, nm_lt', nm_le, nm_le', x_lt, x_le, x_eq, x_in, x_cl, x_div, x_sub, x_rem, x_min, x_max, x_and, x_or, x_xor, x_df, x_shl, bI_0, bI_1, bI_bo, lg_eq, toL_inj, ls_nI, decide_eq_false_iff_not, decide_eq_true_eq, Bool.true_eq_false, Bool.false_eq_true, bq, if_pos, if_neg, if_true, if_false, lq, Nat.reduceAdd, Nat.reduceMul, Nat.reduceSub, Nat.reduceDiv, Nat.reduceMod]) ?_
  intro n' m' x s l S M hx hl
  have i1 := hl.rp.isW (k := 21) (by decide) (by decide)
  have i2 := hl.rp.mis (w := 20) (by decide)
  have ek : kWd 21 = 20 := rfl
  rw [ek] at i1
  by_cases e : kyE t L s = 20
  · rw [decide_eq_true e] at i1 i2
    have i1 : fX7_isWord 21 S = some (nI 1, S) := i1
    have i2 : fX12_is (nI 20) M = some (nI 1, M) := i2
    have hL := ky_L (t := t) hl.rp.sl (by omega)
    obtain ⟨S1, M1, a1, a2, ⟨s', k, S2, M2, S3, M3, b1, b2, b3, b4, b5, b6, b7, b8, b9, b10⟩ | ⟨S2, M2, b1, b2, b3, b4, b5⟩⟩ := ls_step h hd (by omega) (m := m) (by omega) hl (by omega) (op := 2006) (by decide)
    · have b4 : fX12_codes (nI 3007) M2 = some ((), M3) := b4
      refine Or.inr (Or.inl ⟨s', _, S3, M3, ?_, ?_, b5, b6, b7, fun st hst => ?_, b9, b10⟩)
      · rw [fX7_readBoth_12]; simp (disch := omega) only [lit, lm1, nI_add, pk_mul, nm_eq, nm_eq', nm_lt, nm_lt', nm_le, nm_le', x_lt, x_le, x_eq, x_in, x_cl, x_div, x_sub, x_rem, x_min, x_max, x_and, x_or, x_xor, x_df, x_shl, bI_0, bI_1, bI_bo, lg_eq, toL_inj, ls_nI, decide_eq_false_iff_not, decide_eq_true_eq, Bool.true_eq_false, Bool.false_eq_true, bq, if_pos, if_neg, if_true, if_false, lq, Nat.reduceAdd, Nat.reduceMul, Nat.reduceSub, Nat.reduceDiv, Nat.reduceMod, i1, a1, b1, b3]
      · rw [fX12_readBoth_5]; simp (disch := omega) only [lit, lm1, nI_add, pk_mul, nm_eq, nm_eq', nm_lt, nm_lt', nm_le, nm_le', x_lt, x_le, x_eq, x_in, x_cl, x_div, x_sub, x_rem, x_min, x_max, x_and, x_or, x_xor, x_df, x_shl, bI_0, bI_1, bI_bo, lg_eq, toL_inj, ls_nI, decide_eq_false_iff_not, decide_eq_true_eq, Bool.true_eq_false, Bool.false_eq_true, bq, if_pos, if_neg, if_true, if_false, lq, Nat.reduceAdd, Nat.reduceMul, Nat.reduceSub, Nat.reduceDiv, Nat.reduceMod, eats_y i2 a2, b2, b4]
      · exact snd_app _ (b8 _ (by show st.length + 1 + _ < 90; omega)) (snd_one (by show st.length + 1 + 1 < 90; omega) rfl)
    · refine Or.inr (Or.inr ⟨S2, M2, hL, ?_, ?_, b3, b4, b5⟩)
      · rw [fX7_readBoth_12]; simp (disch := omega) only [lit, lm1, nI_add, pk_mul, nm_eq, nm_eq', nm_lt, nm_lt', nm_le, nm_le', x_lt, x_le, x_eq, x_in, x_cl, x_div, x_sub, x_rem, x_min, x_max, x_and, x_or, x_xor, x_df, x_shl, bI_0, bI_1, bI_bo, lg_eq, toL_inj, ls_nI, decide_eq_false_iff_not, decide_eq_true_eq, Bool.true_eq_false, Bool.false_eq_true, bq, if_pos, if_neg, if_true, if_false, lq, Nat.reduceAdd, Nat.reduceMul, Nat.reduceSub, Nat.reduceDiv, Nat.reduceMod, i1, a1, b1]
      · rw [fX12_readBoth_5]; simp (disch := omega) only [lit, lm1, nI_add, pk_mul, nm_eq, nm_eq', nm_lt, nm_lt', nm_le, nm_le', x_lt, x_le, x_eq, x_in, x_cl, x_div, x_sub, x_rem, x_min, x_max, x_and, x_or, x_xor, x_df, x_shl, bI_0, bI_1, bI_bo, lg_eq, toL_inj, ls_nI, decide_eq_false_iff_not, decide_eq_true_eq, Bool.true_eq_false, Bool.false_eq_true, bq, if_pos, if_neg, if_true, if_false, lq, Nat.reduceAdd, Nat.reduceMul, Nat.reduceSub, Nat.reduceDiv, Nat.reduceMod, eats_y i2 a2, b2, f_codes b3.fm, f_l1 b3.fm]
  · rw [decide_eq_false e] at i1 i2
    have i1 : fX7_isWord 21 S = some (nI 0, S) := i1
    have i2 : fX12_is (nI 20) M = some (nI 0, M) := i2
    refine Or.inl ⟨?_, ?_⟩
    · rw [fX7_readBoth_12]; simp (disch := omega) only [lit, lm1, nI_add, pk_mul, nm_eq, nm_eq', nm_lt, nm_lt', nm_le, nm_le', x_lt, x_le, x_eq, x_in, x_cl, x_div, x_sub, x_rem, x_min, x_max, x_and, x_or, x_xor, x_df, x_shl, bI_0, bI_1, bI_bo, lg_eq, toL_inj, ls_nI, decide_eq_false_iff_not, decide_eq_true_eq, Bool.true_eq_false, Bool.false_eq_true, bq, if_pos, if_neg, if_true, if_false, lq, Nat.reduceAdd, Nat.reduceMul, Nat.reduceSub, Nat.reduceDiv, Nat.reduceMod, i1]
    · rw [fX12_readBoth_5]; simp (disch := omega) only [lit, lm1, nI_add, pk_mul, nm_eq, nm_eq', nm_lt, nm_lt', nm_le, nm_le', x_lt, x_le, x_eq, x_in, x_cl, x_div, x_sub, x_rem, x_min, x_max, x_and, x_or, x_xor, x_df, x_shl, bI_0, bI_1, bI_bo, lg_eq, toL_inj, ls_nI, decide_eq_false_iff_not, decide_eq_true_eq, Bool.true_eq_false, Bool.false_eq_true, bq, if_pos, if_neg, if_true, if_false, lq, Nat.reduceAdd, Nat.reduceMul, Nat.reduceSub, Nat.reduceDiv, Nat.reduceMod, eats_n i2]
theorem lk_term (h : LKq t L w n 6 5 false) : LKq t L w (n + 1) 5 4 false := by
  intro d m s l S M hd hn hm hl
  obtain ⟨m, rfl⟩ : ∃ k, m = k + 1 := ⟨m - 1, by omega⟩
  rw [r7_5, rm_4]
  refine ls_chain (fX7_readTerm_12 (fX7_rec n) (nI d)) (fX12_readTerm_5 (fX12_rec m) (nI d)) (Nat.sub_le_sub_left (by decide : 5 ≤ 6) _) (h d m s l S M hd (by omega) (by omega) hl) (fun S1 e => by unfold fX7_readTerm; simp (disch := omega) only [lit, lm1, nI_add, pk_mul, nm_eq, nm_eq', nm_lt, nm_lt', nm_le, nm_le', x_lt, x_le, x_eq, x_in, x_cl, x_div, x_sub, x_rem, x_min, x_max, x_and, x_or, x_xor, x_df, x_shl, bI_0, bI_1, bI_bo, lg_eq, toL_inj, ls_nI, decide_eq_false_iff_not, decide_eq_true_eq, Bool.true_eq_false, Bool.false_eq_true, bq, if_pos, if_neg, if_true, if_false, lq, Nat.reduceAdd, Nat.reduceMul, Nat.reduceSub, Nat.reduceDiv, Nat.reduceMod, e]) (fun S1 e => by unfold fX7_readTerm; simp (disch := omega) only [lit, lm1, nI_add, pk_mul, nm_eq, nm_eq', nm_lt, nm_lt', nm_le, nm_le', x_lt, x_le, x_eq, x_in, x_cl, x_div, x_sub, x_rem, x_min, x_max, x_and, x_or, x_xor, x_df, x_shl, bI_0, bI_1, bI_bo, lg_eq, toL_inj, ls_nI, decide_eq_false_iff_not, decide_eq_true_eq, Bool.true_eq_false, Bool.false_eq_true, bq, if_pos, if_neg, if_true, if_false, lq, Nat.reduceAdd, Nat.reduceMul, Nat.reduceSub, Nat.reduceDiv, Nat.reduceMod, e]) (fun M1 e => by unfold fX12_readTerm; simp (disch := omega) only [lit, lm1, nI_add, pk_mul, nm_eq, nm_eq', nm_lt, nm_lt', nm_le, nm_le', x_lt, x_le, x_eq, x_in, x_cl, x_div, x_sub, x_rem, x_min, x_max, x_and, x_or, x_xor, x_df, x_shl, bI_0, bI_1, bI_bo, lg_eq, toL_inj, ls_nI, decide_eq_false_iff_not, decide_eq_true_eq, Bool.true_eq_false, Bool.false_eq_true, bq, if_pos, if_neg, if_true, if_false, lq, Nat.reduceAdd, Nat.reduceMul, Nat.reduceSub, Nat.reduceDiv, Nat.reduceMod, e]) (fun M1 f => f_l4 f _ _ 4999) (fun n S => by rw [fX7_readTerm_12]; simp (disch := omega) only [lit, lm1, nI_add, pk_mul, nm_eq, nm_eq', nm_lt, nm_lt', nm_le, nm_le', x_lt, x_le, x_eq, x_in, x_cl, x_div, x_sub, x_rem, x_min, x_max, x_and, x_or, x_xor, x_df, x_shl, bI_0, bI_1, bI_bo, lg_eq, toL_inj, ls_nI, decide_eq_false_iff_not, decide_eq_true_eq, Bool.true_eq_false, Bool.false_eq_true, bq, if_pos, if_neg, if_true, if_false, lq, Nat.reduceAdd, Nat.reduceMul, Nat.reduceSub, Nat.reduceDiv, Nat.reduceMod]) ?_
  intro n' m' x s l S M hx hl
  have i1 := hl.rp.isS (i := 4) (by decide)
  have i2 := hl.rp.mis (w := 34) (by decide)
  by_cases e : kyE t L s = 34
  · rw [decide_eq_true e] at i1 i2
    have i1 : fX7_isSign (nI 42) S = some (nI 1, S) := i1
    have i2 : fX12_is (nI 34) M = some (nI 1, M) := i2
    have hL := ky_L (t := t) hl.rp.sl (by omega)
    obtain ⟨S1, M1, a1, a2, ⟨s', k, S2, M2, S3, M3, b1, b2, b3, b4, b5, b6, b7, b8, b9, b10⟩ | ⟨S2, M2, b1, b2, b3, b4, b5⟩⟩ := ls_step h hd (by omega) (m := m) (by omega) hl (by omega) (op := 2002) (by decide)
    · have b4 : fX12_codes (nI 3002) M2 = some ((), M3) := b4
      refine Or.inr (Or.inl ⟨s', _, S3, M3, ?_, ?_, b5, b6, b7, fun st hst => ?_, b9, b10⟩)
      · rw [fX7_readTerm_12]; simp (disch := omega) only [lit, lm1, nI_add, pk_mul, nm_eq, nm_eq', nm_lt, nm_lt', nm_le, nm_le', x_lt, x_le, x_eq, x_in, x_cl, x_div, x_sub, x_rem, x_min, x_max, x_and, x_or, x_xor, x_df, x_shl, bI_0, bI_1, bI_bo, lg_eq, toL_inj, ls_nI, decide_eq_false_iff_not, decide_eq_true_eq, Bool.true_eq_false, Bool.false_eq_true, bq, if_pos, if_neg, if_true, if_false, lq, Nat.reduceAdd, Nat.reduceMul, Nat.reduceSub, Nat.reduceDiv, Nat.reduceMod, i1, a1, b1, b3]
      · rw [fX12_readTerm_5]; simp (disch := omega) only [lit, lm1, nI_add, pk_mul, nm_eq, nm_eq', nm_lt, nm_lt', nm_le, nm_le', x_lt, x_le, x_eq, x_in, x_cl, x_div, x_sub, x_rem, x_min, x_max, x_and, x_or, x_xor, x_df, x_shl, bI_0, bI_1, bI_bo, lg_eq, toL_inj, ls_nI, decide_eq_false_iff_not, decide_eq_true_eq, Bool.true_eq_false, Bool.false_eq_true, bq, if_pos, if_neg, if_true, if_false, lq, Nat.reduceAdd, Nat.reduceMul, Nat.reduceSub, Nat.reduceDiv, Nat.reduceMod, eats_y i2 a2, b2, b4]
      · exact snd_app _ (b8 _ (by show st.length + 1 + _ < 90; omega)) (snd_one (by show st.length + 1 + 1 < 90; omega) rfl)
    · refine Or.inr (Or.inr ⟨S2, M2, hL, ?_, ?_, b3, b4, b5⟩)
      · rw [fX7_readTerm_12]; simp (disch := omega) only [lit, lm1, nI_add, pk_mul, nm_eq, nm_eq', nm_lt, nm_lt', nm_le, nm_le', x_lt, x_le, x_eq, x_in, x_cl, x_div, x_sub, x_rem, x_min, x_max, x_and, x_or, x_xor, x_df, x_shl, bI_0, bI_1, bI_bo, lg_eq, toL_inj, ls_nI, decide_eq_false_iff_not, decide_eq_true_eq, Bool.true_eq_false, Bool.false_eq_true, bq, if_pos, if_neg, if_true, if_false, lq, Nat.reduceAdd, Nat.reduceMul, Nat.reduceSub, Nat.reduceDiv, Nat.reduceMod, i1, a1, b1]
      · rw [fX12_readTerm_5]; simp (disch := omega) only [lit, lm1, nI_add, pk_mul, nm_eq, nm_eq', nm_lt, nm_lt', nm_le, nm_le', x_lt, x_le, x_eq, x_in, x_cl, x_div, x_sub, x_rem, x_min, x_max, x_and, x_or, x_xor, x_df, x_shl, bI_0, bI_1, bI_bo, lg_eq, toL_inj, ls_nI, decide_eq_false_iff_not, decide_eq_true_eq, Bool.true_eq_false, Bool.false_eq_true, bq, if_pos, if_neg, if_true, if_false, lq, Nat.reduceAdd, Nat.reduceMul, Nat.reduceSub, Nat.reduceDiv, Nat.reduceMod, eats_y i2 a2, b2, f_codes b3.fm, f_l4 b3.fm]
  · rw [decide_eq_false (by omega)] at i1 i2
    have i1 : fX7_isSign (nI 42) S = some (nI 0, S) := i1
    have i2 : fX12_is (nI 34) M = some (nI 0, M) := i2
    refine Or.inl ⟨?_, ?_⟩
    · rw [fX7_readTerm_12]; simp (disch := omega) only [lit, lm1, nI_add, pk_mul, nm_eq, nm_eq', nm_lt, nm_lt', nm_le, nm_le', x_lt, x_le, x_eq, x_in, x_cl, x_div, x_sub, x_rem, x_min, x_max, x_and, x_or, x_xor, x_df, x_shl, bI_0, bI_1, bI_bo, lg_eq, toL_inj, ls_nI, decide_eq_false_iff_not, decide_eq_true_eq, Bool.true_eq_false, Bool.false_eq_true, bq, if_pos, if_neg, if_true, if_false, lq, Nat.reduceAdd, Nat.reduceMul, Nat.reduceSub, Nat.reduceDiv, Nat.reduceMod, i1]
    · rw [fX12_readTerm_5]; simp (disch := omega) only [lit, lm1, nI_add, pk_mul, nm_eq, nm_eq', nm_lt, nm_lt', nm_le, nm_le', x_lt, x_le, x_eq, x_in, x_cl, x_div, x_sub, x_rem, x_min, x_max, x_and, x_or, x_xor, x_df, x_shl, bI_0, bI_1, bI_bo, lg_eq, toL_inj, ls_nI, decide_eq_false_iff_not, decide_eq_true_eq, Bool.true_eq_false, Bool.false_eq_true, bq, if_pos, if_neg, if_true, if_false, lq, Nat.reduceAdd, Nat.reduceMul, Nat.reduceSub, Nat.reduceDiv, Nat.reduceMod, eats_n i2]
theorem lk_sum (h : LKq t L w n 5 4 false) : LKq t L w (n + 1) 4 3 false := by
  intro d m s l S M hd hn hm hl
  obtain ⟨m, rfl⟩ : ∃ k, m = k + 1 := ⟨m - 1, by omega⟩
  rw [r7_4, rm_3]
  refine ls_chain (fX7_readSum_12 (fX7_rec n) (nI d)) (fX12_readSum_5 (fX12_rec m) (nI d)) (Nat.sub_le_sub_left (by decide : 4 ≤ 5) _) (h d m s l S M hd (by omega) (by omega) hl) (fun S1 e => by unfold fX7_readSum; simp (disch := omega) only [lit, lm1, nI_add, pk_mul, nm_eq, nm_eq', nm_lt, nm_lt', nm_le, nm_le', x_lt, x_le, x_eq, x_in, x_cl, x_div, x_sub, x_rem, x_min, x_max, x_and, x_or, x_xor, x_df, x_shl, bI_0, bI_1, bI_bo, lg_eq, toL_inj, ls_nI, decide_eq_false_iff_not, decide_eq_true_eq, Bool.true_eq_false, Bool.false_eq_true, bq, if_pos, if_neg, if_true, if_false, lq, Nat.reduceAdd, Nat.reduceMul, Nat.reduceSub, Nat.reduceDiv, Nat.reduceMod, e]) (fun S1 e => by unfold fX7_readSum; simp (disch := omega) only [lit, lm1, nI_add, pk_mul, nm_eq, nm_eq', nm_lt, nm_lt', nm_le, nm_le', x_lt, x_le, x_eq, x_in, x_cl, x_div, x_sub, x_rem, x_min, x_max, x_and, x_or, x_xor, x_df, x_shl, bI_0, bI_1, bI_bo, lg_eq, toL_inj, ls_nI, decide_eq_false_iff_not, decide_eq_true_eq, Bool.true_eq_false, Bool.false_eq_true, bq, if_pos, if_neg, if_true, if_false, lq, Nat.reduceAdd, Nat.reduceMul, Nat.reduceSub, Nat.reduceDiv, Nat.reduceMod, e]) (fun M1 e => by unfold fX12_readSum; simp (disch := omega) only [lit, lm1, nI_add, pk_mul, nm_eq, nm_eq', nm_lt, nm_lt', nm_le, nm_le', x_lt, x_le, x_eq, x_in, x_cl, x_div, x_sub, x_rem, x_min, x_max, x_and, x_or, x_xor, x_df, x_shl, bI_0, bI_1, bI_bo, lg_eq, toL_inj, ls_nI, decide_eq_false_iff_not, decide_eq_true_eq, Bool.true_eq_false, Bool.false_eq_true, bq, if_pos, if_neg, if_true, if_false, lq, Nat.reduceAdd, Nat.reduceMul, Nat.reduceSub, Nat.reduceDiv, Nat.reduceMod, e]) (fun M1 f => f_l3 f _ _ 4999) (fun n S => by rw [fX7_readSum_12]; simp (disch := omega) only [lit, lm1, nI_add, pk_mul, nm_eq, nm_eq', nm_lt, nm_lt', nm_le, nm_le', x_lt, x_le, x_eq, x_in, x_cl, x_div, x_sub, x_rem, x_min, x_max, x_and, x_or, x_xor, x_df, x_shl, bI_0, bI_1, bI_bo, lg_eq, toL_inj, ls_nI, decide_eq_false_iff_not, decide_eq_true_eq, Bool.true_eq_false, Bool.false_eq_true, bq, if_pos, if_neg, if_true, if_false, lq, Nat.reduceAdd, Nat.reduceMul, Nat.reduceSub, Nat.reduceDiv, Nat.reduceMod]) ?_
  intro n' m' x s l S M hx hl
  have i1 := hl.rp.isS (i := 2) (by decide)
  have i2 := hl.rp.mis (w := 32) (by decide)
  have j1 := hl.rp.isS (i := 3) (by decide)
  have j2 := hl.rp.mis (w := 33) (by decide)
  have m9 := hl.rp.m9
  have step : ∀ op, op = 2000 ∨ op = 2001 → kyE t L s ≠ 26 → (∀ S1 M1, fX7_advance S = some ((), S1) → fX12_next M = some ((), M1) →
      (fX7_readSum_12 (fX7_rec n) (nI d) (n' + 1) (nI x) S = fX7_readSum_55 (fX7_rec n) (nI d) (nI x) (nI op) (fX7_readSum_12 (fX7_rec n) (nI d) n') S ∧ fX12_readSum_5 (fX12_rec m) (nI d) (m' + 2) M = fX12_readSum_41 (fX12_rec m) (nI d) (nI (cpOp op)) (fX12_readSum_5 (fX12_rec m) (nI d) (m' + 1)) M)) →
      (∃ s' k S' M', fX7_readSum_12 (fX7_rec n) (nI d) (n' + 1) (nI x) S = fX7_readSum_12 (fX7_rec n) (nI d) n' (nI (x + 1)) S' ∧ fX12_readSum_5 (fX12_rec m) (nI d) (m' + 2) M = fX12_readSum_5 (fX12_rec m) (nI d) (m' + 1) M' ∧ Ls t L s' w (l ++ k) S' M' ∧ s < s' ∧ k.length + s ≤ s' ∧ Sh false (8 * (6 - d) + 8 - 4) k ∧ Kp kLc S S' ∧ Kp kLm M M') ∨
      (∃ S' M', s < L ∧ fX7_readSum_12 (fX7_rec n) (nI d) (n' + 1) (nI x) S = some (nI 0, S') ∧ fX12_readSum_5 (fX12_rec m) (nI d) (m' + 2) M = some ((), M') ∧ Fp S' M' ∧ Kp kLc S S' ∧ Kp kLm M M') := by
    intro op ho hk hq
    have hL := ky_L (t := t) hl.rp.sl hk
    obtain ⟨S1, M1, a1, a2, ⟨s', k, S2, M2, S3, M3, b1, b2, b3, b4, b5, b6, b7, b8, b9, b10⟩ | ⟨S2, M2, b1, b2, b3, b4, b5⟩⟩ := ls_step h hd (by omega) (m := m) (by omega) hl hk (op := op) (by omega)
    · obtain ⟨q1, q2⟩ := hq S1 M1 a1 a2
      refine Or.inl ⟨s', _, S3, M3, q1.trans ?_, q2.trans ?_, b5, b6, b7, fun st hst => ?_, b9, b10⟩
      · unfold fX7_readSum_55; simp (disch := omega) only [lit, lm1, nI_add, pk_mul, nm_eq, nm_eq', nm_lt, nm_lt', nm_le, nm_le', x_lt, x_le, x_eq, x_in, x_cl, x_div, x_sub, x_rem, x_min, x_max, x_and, x_or, x_xor, x_df, x_shl, bI_0, bI_1, bI_bo, lg_eq, toL_inj, ls_nI, decide_eq_false_iff_not, decide_eq_true_eq, Bool.true_eq_false, Bool.false_eq_true, bq, if_pos, if_neg, if_true, if_false, lq, Nat.reduceAdd, Nat.reduceMul, Nat.reduceSub, Nat.reduceDiv, Nat.reduceMod, a1, b1, b3]
      · unfold fX12_readSum_41; simp (disch := omega) only [lit, lm1, nI_add, pk_mul, nm_eq, nm_eq', nm_lt, nm_lt', nm_le, nm_le', x_lt, x_le, x_eq, x_in, x_cl, x_div, x_sub, x_rem, x_min, x_max, x_and, x_or, x_xor, x_df, x_shl, bI_0, bI_1, bI_bo, lg_eq, toL_inj, ls_nI, decide_eq_false_iff_not, decide_eq_true_eq, Bool.true_eq_false, Bool.false_eq_true, bq, if_pos, if_neg, if_true, if_false, lq, Nat.reduceAdd, Nat.reduceMul, Nat.reduceSub, Nat.reduceDiv, Nat.reduceMod, a2, b2, b4]
      · refine snd_app _ (b8 _ (by show st.length + 1 + _ < 90; omega)) (snd_one (by show st.length + 1 + 1 < 90; omega) ?_)
        rcases ho with ho | ho <;> subst ho <;> rfl
    · obtain ⟨q1, q2⟩ := hq S1 M1 a1 a2
      refine Or.inr ⟨S2, M2, hL, q1.trans ?_, q2.trans ?_, b3, b4, b5⟩
      · unfold fX7_readSum_55; simp (disch := omega) only [lit, lm1, nI_add, pk_mul, nm_eq, nm_eq', nm_lt, nm_lt', nm_le, nm_le', x_lt, x_le, x_eq, x_in, x_cl, x_div, x_sub, x_rem, x_min, x_max, x_and, x_or, x_xor, x_df, x_shl, bI_0, bI_1, bI_bo, lg_eq, toL_inj, ls_nI, decide_eq_false_iff_not, decide_eq_true_eq, Bool.true_eq_false, Bool.false_eq_true, bq, if_pos, if_neg, if_true, if_false, lq, Nat.reduceAdd, Nat.reduceMul, Nat.reduceSub, Nat.reduceDiv, Nat.reduceMod, a1, b1]
      · unfold fX12_readSum_41; simp (disch := omega) only [lit, lm1, nI_add, pk_mul, nm_eq, nm_eq', nm_lt, nm_lt', nm_le, nm_le', x_lt, x_le, x_eq, x_in, x_cl, x_div, x_sub, x_rem, x_min, x_max, x_and, x_or, x_xor, x_df, x_shl, bI_0, bI_1, bI_bo, lg_eq, toL_inj, ls_nI, decide_eq_false_iff_not, decide_eq_true_eq, Bool.true_eq_false, Bool.false_eq_true, bq, if_pos, if_neg, if_true, if_false, lq, Nat.reduceAdd, Nat.reduceMul, Nat.reduceSub, Nat.reduceDiv, Nat.reduceMod, a2, b2, f_codes b3.fm, f_l3 b3.fm]
  by_cases e : kyE t L s = 32
  · rw [decide_eq_true e] at i1 i2
    have i1 : fX7_isSign (nI 43) S = some (nI 1, S) := i1
    have i2 : fX12_is (nI 32) M = some (nI 1, M) := i2
    rw [e] at m9
    right
    refine step 2000 (Or.inl rfl) (by omega) (fun S1 M1 a1 a2 => ⟨?_, ?_⟩)
    · rw [fX7_readSum_12]; unfold fX7_readSum_37; simp (disch := omega) only [lit, lm1, nI_add, pk_mul, nm_eq, nm_eq', nm_lt, nm_lt', nm_le, nm_le', x_lt, x_le, x_eq, x_in, x_cl, x_div, x_sub, x_rem, x_min, x_max, x_and, x_or, x_xor, x_df, x_shl, bI_0, bI_1, bI_bo, lg_eq, toL_inj, ls_nI, decide_eq_false_iff_not, decide_eq_true_eq, Bool.true_eq_false, Bool.false_eq_true, bq, if_pos, if_neg, if_true, if_false, lq, Nat.reduceAdd, Nat.reduceMul, Nat.reduceSub, Nat.reduceDiv, Nat.reduceMod, i1]
    · rw [fX12_readSum_5]; unfold fX12_readSum_23; simp (disch := omega) only [lit, lm1, nI_add, pk_mul, nm_eq, nm_eq', nm_lt, nm_lt', nm_le, nm_le', x_lt, x_le, x_eq, x_in, x_cl, x_div, x_sub, x_rem, x_min, x_max, x_and, x_or, x_xor, x_df, x_shl, bI_0, bI_1, bI_bo, lg_eq, toL_inj, ls_nI, decide_eq_false_iff_not, decide_eq_true_eq, Bool.true_eq_false, Bool.false_eq_true, bq, if_pos, if_neg, if_true, if_false, lq, Nat.reduceAdd, Nat.reduceMul, Nat.reduceSub, Nat.reduceDiv, Nat.reduceMod, i2, m9]; rfl
  · rw [decide_eq_false (by omega)] at i1 i2
    have i1 : fX7_isSign (nI 43) S = some (nI 0, S) := i1
    have i2 : fX12_is (nI 32) M = some (nI 0, M) := i2
    by_cases e3 : kyE t L s = 33
    · rw [decide_eq_true e3] at j1 j2
      have j1 : fX7_isSign (nI 45) S = some (nI 1, S) := j1
      have j2 : fX12_is (nI 33) M = some (nI 1, M) := j2
      rw [e3] at m9
      right
      refine step 2001 (Or.inr rfl) (by omega) (fun S1 M1 a1 a2 => ⟨?_, ?_⟩)
      · rw [fX7_readSum_12]; unfold fX7_readSum_37; simp (disch := omega) only [lit, lm1, nI_add, pk_mul, nm_eq, nm_eq', nm_lt, nm_lt', nm_le, nm_le', x_lt, x_le, x_eq, x_in, x_cl, x_div, x_sub, x_rem, x_min, x_max, x_and, x_or, x_xor, x_df, x_shl, bI_0, bI_1, bI_bo, lg_eq, toL_inj, ls_nI, decide_eq_false_iff_not, decide_eq_true_eq, Bool.true_eq_false, Bool.false_eq_true, bq, if_pos, if_neg, if_true, if_false, lq, Nat.reduceAdd, Nat.reduceMul, Nat.reduceSub, Nat.reduceDiv, Nat.reduceMod, i1, j1]
      · rw [fX12_readSum_5]; unfold fX12_readSum_23; simp (disch := omega) only [lit, lm1, nI_add, pk_mul, nm_eq, nm_eq', nm_lt, nm_lt', nm_le, nm_le', x_lt, x_le, x_eq, x_in, x_cl, x_div, x_sub, x_rem, x_min, x_max, x_and, x_or, x_xor, x_df, x_shl, bI_0, bI_1, bI_bo, lg_eq, toL_inj, ls_nI, decide_eq_false_iff_not, decide_eq_true_eq, Bool.true_eq_false, Bool.false_eq_true, bq, if_pos, if_neg, if_true, if_false, lq, Nat.reduceAdd, Nat.reduceMul, Nat.reduceSub, Nat.reduceDiv, Nat.reduceMod, i2, j2, m9]; rfl
    · rw [decide_eq_false (by omega)] at j1 j2
      have j1 : fX7_isSign (nI 45) S = some (nI 0, S) := j1
      have j2 : fX12_is (nI 33) M = some (nI 0, M) := j2
      refine Or.inl ⟨?_, ?_⟩
      · rw [fX7_readSum_12]; simp (disch := omega) only [lit, lm1, nI_add, pk_mul, nm_eq, nm_eq', nm_lt, nm_lt', nm_le, nm_le', x_lt, x_le, x_eq, x_in, x_cl, x_div, x_sub, x_rem, x_min, x_max, x_and, x_or, x_xor, x_df, x_shl, bI_0, bI_1, bI_bo, lg_eq, toL_inj, ls_nI, decide_eq_false_iff_not, decide_eq_true_eq, Bool.true_eq_false, Bool.false_eq_true, bq, if_pos, if_neg, if_true, if_false, lq, Nat.reduceAdd, Nat.reduceMul, Nat.reduceSub, Nat.reduceDiv, Nat.reduceMod, i1, j1]
      · rw [fX12_readSum_5]; simp (disch := omega) only [lit, lm1, nI_add, pk_mul, nm_eq, nm_eq', nm_lt, nm_lt', nm_le, nm_le', x_lt, x_le, x_eq, x_in, x_cl, x_div, x_sub, x_rem, x_min, x_max, x_and, x_or, x_xor, x_df, x_shl, bI_0, bI_1, bI_bo, lg_eq, toL_inj, ls_nI, decide_eq_false_iff_not, decide_eq_true_eq, Bool.true_eq_false, Bool.false_eq_true, bq, if_pos, if_neg, if_true, if_false, lq, Nat.reduceAdd, Nat.reduceMul, Nat.reduceSub, Nat.reduceDiv, Nat.reduceMod, i2, j2]
end CH
