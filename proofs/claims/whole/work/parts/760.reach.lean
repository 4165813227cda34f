/-! where a coin can go; in how many ways -/
def go (D : cpD) (E : cpE) (c a b : Nat) : Bool := decide (0 < brN D E c a b E.h)
def nxS (D : cpD) (E : cpE) (c a b s : Nat) : Nat := if go D E c a b then s ||| 2 ^ b else s
def nxt (D : cpD) (E : cpE) (c a : Nat) : Nat := up (nxS D E c a) D.K 0 0
section RE
variable {D : cpD} {E : cpE} {S : cpS}
theorem nxt_lt (c a : Nat) : nxt D E c a < 2 ^ D.K := by
  refine up_inv (nxS D E c a) D.K (fun _ s => s < 2 ^ D.K) (fun i s hi h => ?_) D.K 0 0 (by omega) (Nat.two_pow_pos _)
  unfold nxS
  split
  · exact or_lt h (two_lt hi)
  · exact h
theorem nxt_bit (c a b : Nat) : (nxt D E c a).testBit b = (decide (b < D.K) && go D E c a b) := by
  have : ∀ n, (up (nxS D E c a) n 0 0).testBit b = (decide (b < n) && go D E c a b) := by
    intro n
    induction n with
    | zero => show (0 : Nat).testBit b = _; simp
    | succ n ih =>
      rw [up_last, Nat.zero_add]
      unfold nxS at ih ⊢
      by_cases e : b = n
      · subst e
        cases hg : go D E c a b
        · rw [hg] at ih; rw [if_neg (by simp)]; rw [ih]; simp
        · rw [if_pos rfl, Nat.testBit_or, Nat.testBit_two_pow]; simp
      · cases hg : go D E c a n
        · rw [if_neg (by simp), ih]
          congr 1
          exact decide_eq_decide.mpr (by omega)
        · rw [if_pos rfl, Nat.testBit_or, Nat.testBit_two_pow, ih, decide_eq_false (Ne.symm e), Bool.or_false]
          congr 1
          exact decide_eq_decide.mpr (by omega)
  exact this D.K
theorem c_canGo (hD : D.WF) {r : Bool} {k a b : Nat} (l : lrn D E r k S) (ha : a < D.K) (hb : b < D.K) : fX4_canGo (nI a) (nI b) S = some (bI (go D E k a b), S) := by
  have k6 := hD.k6
  have hle := brN_le E hD.p8 k a b E.h
  unfold fX4_canGo go
  by_cases h : 0 < brN D E k a b E.h
  · simp (disch := omega) only [lit, lm1, nI_add, pk_mul, nm_eq, nm_eq', nm_lt, nm_lt', nm_le, nm_le', x_lt, x_le, x_eq, x_in, x_cl, x_div, x_sub, x_rem, x_min, x_max, x_and, x_or, x_xor, x_df, x_shl, bI_0, bI_1, bI_bo, lg_eq, toL_inj, ls_nI, decide_eq_false_iff_not, decide_eq_true_eq, Bool.true_eq_false, Bool.false_eq_true, bq, if_pos, if_neg, if_true, if_false, lq, Nat.reduceAdd, Nat.reduceMul, Nat.reduceSub, Nat.reduceDiv, Nat.reduceMod, l.1 a b ha hb, decide_eq_true h]
    rfl
  · simp (disch := omega) only [lit, lm1, nI_add, pk_mul, nm_eq, nm_eq', nm_lt, nm_lt', nm_le, nm_le', x_lt, x_le, x_eq, x_in, x_cl, x_div, x_sub, x_rem, x_min, x_max, x_and, x_or, x_xor, x_df, x_shl, bI_0, bI_1, bI_bo, lg_eq, toL_inj, ls_nI, decide_eq_false_iff_not, decide_eq_true_eq, Bool.true_eq_false, Bool.false_eq_true, bq, if_pos, if_neg, if_true, if_false, lq, Nat.reduceAdd, Nat.reduceMul, Nat.reduceSub, Nat.reduceDiv, Nat.reduceMod, l.1 a b ha hb, decide_eq_false h]
    rfl
theorem c_nextTo (hD : D.WF) (c : cA D E S) {r : Bool} {k a : Nat} (l : lrn D E r k S) (ha : a < D.K) : fX4_placesNextTo (nI a) S = some (nI (nxt D E k a), S) := by
  have k6 := hD.k6
  unfold fX4_placesNextTo nxt
  simp only [lit]
  refine up_lp (F := fun n i (x : Int32) => fX4_placesNextTo_4 (nI a) n x i S) (K := fun s => some (nI s, S)) D.K (nxS D E k a) (fun _ _ => True) nI (by omega) (fun n i s hi ok => ⟨?_, trivial⟩) (fun n s ok => ?_) (Nat.zero_le _) trivial
  · rw [fX4_placesNextTo_4]
    unfold fX4_places nxS
    cases hg : go D E k a i
    · simp (disch := omega) only [lit, lm1, nI_add, pk_mul, nm_eq, nm_eq', nm_lt, nm_lt', nm_le, nm_le', x_lt, x_le, x_eq, x_in, x_cl, x_div, x_sub, x_rem, x_min, x_max, x_and, x_or, x_xor, x_df, x_shl, bI_0, bI_1, bI_bo, lg_eq, toL_inj, ls_nI, decide_eq_false_iff_not, decide_eq_true_eq, Bool.true_eq_false, Bool.false_eq_true, bq, if_pos, if_neg, if_true, if_false, lq, Nat.reduceAdd, Nat.reduceMul, Nat.reduceSub, Nat.reduceDiv, Nat.reduceMod, c.K, c_canGo hD l ha hi, hg]
    · simp (disch := omega) only [lit, lm1, nI_add, pk_mul, nm_eq, nm_eq', nm_lt, nm_lt', nm_le, nm_le', x_lt, x_le, x_eq, x_in, x_cl, x_div, x_sub, x_rem, x_min, x_max, x_and, x_or, x_xor, x_df, x_shl, bI_0, bI_1, bI_bo, lg_eq, toL_inj, ls_nI, decide_eq_false_iff_not, decide_eq_true_eq, Bool.true_eq_false, Bool.false_eq_true, bq, if_pos, if_neg, if_true, if_false, lq, Nat.reduceAdd, Nat.reduceMul, Nat.reduceSub, Nat.reduceDiv, Nat.reduceMod, c.K, c_canGo hD l ha hi, hg]
  · rw [fX4_placesNextTo_4]
    unfold fX4_places
    simp (disch := omega) only [lit, lm1, nI_add, pk_mul, nm_eq, nm_eq', nm_lt, nm_lt', nm_le, nm_le', x_lt, x_le, x_eq, x_in, x_cl, x_div, x_sub, x_rem, x_min, x_max, x_and, x_or, x_xor, x_df, x_shl, bI_0, bI_1, bI_bo, lg_eq, toL_inj, ls_nI, decide_eq_false_iff_not, decide_eq_true_eq, Bool.true_eq_false, Bool.false_eq_true, bq, if_pos, if_neg, if_true, if_false, lq, Nat.reduceAdd, Nat.reduceMul, Nat.reduceSub, Nat.reduceDiv, Nat.reduceMod, c.K]
/-! reach -/
def rcS (D : cpD) (E : cpE) (c k s : Nat) : Nat := if s.testBit k then s ||| nxt D E c k else s
def rcR (D : cpD) (E : cpE) (c s : Nat) : Nat := up (rcS D E c) D.K 0 s
theorem rcS_lt {c k s : Nat} (h : s < 2 ^ D.K) : rcS D E c k s < 2 ^ D.K := by
  unfold rcS
  split
  · exact or_lt h (nxt_lt _ _)
  · exact h
theorem rcR_lt {c s : Nat} (h : s < 2 ^ D.K) : rcR D E c s < 2 ^ D.K := up_inv (rcS D E c) D.K (fun _ s => s < 2 ^ D.K) (fun i s hi h => rcS_lt h) D.K 0 s (by omega) h
theorem rcR_sub (c s : Nat) : sub s (rcR D E c s) := fun i h => up_inv (rcS D E c) D.K (fun _ s => s.testBit i = true) (fun r s hr h => by
  unfold rcS
  split
  · rw [Nat.testBit_or, h]; rfl
  · exact h) D.K 0 s (by omega) h
theorem it_shift {σ : Type} (f : σ → σ) : ∀ d i j s, up (fun _ s => f s) d i s = up (fun _ s => f s) d j s := by
  intro d
  induction d with
  | zero => intro i j s; rfl
  | succ d ih => intro i j s; exact ih (i + 1) (j + 1) _
theorem c_reached17 (hD : D.WF) (c : cA D E S) {r : Bool} {k s : Nat} (l : lrn D E r k S) (hs : s < 2 ^ D.K) (x3 : Int32) (kk : Int32 → Int32 → cpS → Option (Int32 × cpS)) : fX4_reachedFrom_17 x3 kk cpFu (nI s) (nI 0) S = kk (nI (rcR D E k s)) (x3 + 1) S := by
  have k6 := hD.k6
  have k64 : 2 ^ D.K ≤ 64 := pow_le (n := 6) k6
  refine up_lp (F := fun n i (x : Int32) => fX4_reachedFrom_17 x3 kk n x i S) (K := fun a => kk (nI a) (x3 + 1) S) D.K (rcS D E k) (fun _ a => a < 2 ^ D.K) nI (by omega) (fun n i a hi ok => ⟨?_, rcS_lt ok⟩) (fun n a ok => ?_) (Nat.zero_le _) hs
  · rw [fX4_reachedFrom_17]
    unfold fX4_places rcS
    cases hb : a.testBit i
    · simp (disch := omega) only [lit, lm1, nI_add, pk_mul, nm_eq, nm_eq', nm_lt, nm_lt', nm_le, nm_le', x_lt, x_le, x_eq, x_in, x_cl, x_div, x_sub, x_rem, x_min, x_max, x_and, x_or, x_xor, x_df, x_shl, bI_0, bI_1, bI_bo, lg_eq, toL_inj, ls_nI, decide_eq_false_iff_not, decide_eq_true_eq, Bool.true_eq_false, Bool.false_eq_true, bq, if_pos, if_neg, if_true, if_false, lq, Nat.reduceAdd, Nat.reduceMul, Nat.reduceSub, Nat.reduceDiv, Nat.reduceMod, c.K, e_isIn, hb]
    · simp (disch := omega) only [lit, lm1, nI_add, pk_mul, nm_eq, nm_eq', nm_lt, nm_lt', nm_le, nm_le', x_lt, x_le, x_eq, x_in, x_cl, x_div, x_sub, x_rem, x_min, x_max, x_and, x_or, x_xor, x_df, x_shl, bI_0, bI_1, bI_bo, lg_eq, toL_inj, ls_nI, decide_eq_false_iff_not, decide_eq_true_eq, Bool.true_eq_false, Bool.false_eq_true, bq, if_pos, if_neg, if_true, if_false, lq, Nat.reduceAdd, Nat.reduceMul, Nat.reduceSub, Nat.reduceDiv, Nat.reduceMod, c.K, e_isIn, hb, c_nextTo hD c l hi]
  · rw [fX4_reachedFrom_17]
    unfold fX4_places
    simp (disch := omega) only [lit, lm1, nI_add, pk_mul, nm_eq, nm_eq', nm_lt, nm_lt', nm_le, nm_le', x_lt, x_le, x_eq, x_in, x_cl, x_div, x_sub, x_rem, x_min, x_max, x_and, x_or, x_xor, x_df, x_shl, bI_0, bI_1, bI_bo, lg_eq, toL_inj, ls_nI, decide_eq_false_iff_not, decide_eq_true_eq, Bool.true_eq_false, Bool.false_eq_true, bq, if_pos, if_neg, if_true, if_false, lq, Nat.reduceAdd, Nat.reduceMul, Nat.reduceSub, Nat.reduceDiv, Nat.reduceMod, c.K]
theorem c_reached (hD : D.WF) (c : cA D E S) {r : Bool} {k a : Nat} (l : lrn D E r k S) (ha : a < D.K) : fX4_reachedFrom (nI a) S = some (nI (it (rcR D E k) (D.K - 1) (2 ^ a)), S) := by
  have k6 := hD.k6
  have e : it (rcR D E k) (D.K - 1) (2 ^ a) = up (fun _ s => rcR D E k s) (D.K - 1) 1 (2 ^ a) := it_shift _ _ _ _ _
  rw [e]
  unfold fX4_reachedFrom
  simp (disch := omega) only [lit, lm1, nI_add, pk_mul, nm_eq, nm_eq', nm_lt, nm_lt', nm_le, nm_le', x_lt, x_le, x_eq, x_in, x_cl, x_div, x_sub, x_rem, x_min, x_max, x_and, x_or, x_xor, x_df, x_shl, bI_0, bI_1, bI_bo, lg_eq, toL_inj, ls_nI, decide_eq_false_iff_not, decide_eq_true_eq, Bool.true_eq_false, Bool.false_eq_true, bq, if_pos, if_neg, if_true, if_false, lq, Nat.reduceAdd, Nat.reduceMul, Nat.reduceSub, Nat.reduceDiv, Nat.reduceMod]
  refine up_lp (F := fun n i (x : Int32) => fX4_reachedFrom_6 n x i S) (K := fun a => some (nI a, S)) D.K (fun _ s => rcR D E k s) (fun _ a => a < 2 ^ D.K) nI (by omega) (fun n i s hi ok => ⟨?_, rcR_lt ok⟩) (fun n a ok => ?_) hD.k1 (two_lt ha)
  · rw [fX4_reachedFrom_6]
    unfold fX4_places
    simp (disch := omega) only [lit, lm1, nI_add, pk_mul, nm_eq, nm_eq', nm_lt, nm_lt', nm_le, nm_le', x_lt, x_le, x_eq, x_in, x_cl, x_div, x_sub, x_rem, x_min, x_max, x_and, x_or, x_xor, x_df, x_shl, bI_0, bI_1, bI_bo, lg_eq, toL_inj, ls_nI, decide_eq_false_iff_not, decide_eq_true_eq, Bool.true_eq_false, Bool.false_eq_true, bq, if_pos, if_neg, if_true, if_false, lq, Nat.reduceAdd, Nat.reduceMul, Nat.reduceSub, Nat.reduceDiv, Nat.reduceMod, c.K, c_reached17 hD c l ok]
  · rw [fX4_reachedFrom_6]
    unfold fX4_places
    simp (disch := omega) only [lit, lm1, nI_add, pk_mul, nm_eq, nm_eq', nm_lt, nm_lt', nm_le, nm_le', x_lt, x_le, x_eq, x_in, x_cl, x_div, x_sub, x_rem, x_min, x_max, x_and, x_or, x_xor, x_df, x_shl, bI_0, bI_1, bI_bo, lg_eq, toL_inj, ls_nI, decide_eq_false_iff_not, decide_eq_true_eq, Bool.true_eq_false, Bool.false_eq_true, bq, if_pos, if_neg, if_true, if_false, lq, Nat.reduceAdd, Nat.reduceMul, Nat.reduceSub, Nat.reduceDiv, Nat.reduceMod, c.K]
def rmS (D : cpD) (E : cpE) (c a b s : Nat) : Nat := if s.testBit a && decide (0 < brX D E c a b) then s ||| 2 ^ b else s
theorem rm_rc (hD : D.WF) {c a s : Nat} (ha : a < D.K) : up (rmS D E c a) 6 0 s = rcS D E c a s := by
  unfold rcS
  cases hb : s.testBit a
  · rw [if_neg (by simp)]
    exact up_inv (rmS D E c a) 6 (fun _ t => t = s) (fun i t hi h => by unfold rmS; rw [h, hb]; rfl) 6 0 s (by omega) rfl
  · rw [if_pos rfl]
    have e : nxt D E c a = up (fun b t => if decide (0 < brX D E c a b) then t ||| 2 ^ b else t) 6 0 0 := by
      rw [up_tail hD.k6 (fun i t h1 h2 => by
        have : brX D E c a i = 0 := if_neg (fun q => by omega)
        rw [this]; rfl) 0]
      refine up_congr (N := D.K) (fun i t hi => ?_) D.K 0 0 (by omega)
      unfold nxS go
      have : brX D E c a i = brN D E c a i E.h := if_pos ⟨ha, hi⟩
      rw [this]
    rw [e]
    have : ∀ n, up (rmS D E c a) n 0 s = s ||| up (fun b t => if decide (0 < brX D E c a b) then t ||| 2 ^ b else t) n 0 0 := by
      intro n
      induction n with
      | zero => show s = s ||| 0; rw [Nat.or_zero]
      | succ n ih =>
        rw [up_last, up_last, ih, Nat.zero_add]
        unfold rmS
        rw [Nat.testBit_or, hb, Bool.true_or, Bool.true_and]
        cases decide (0 < brX D E c a n)
        · rfl
        · rw [if_pos rfl, if_pos rfl, Nat.or_assoc]
    exact this 6
theorem rmS_lt (hD : D.WF) {c a b s : Nat} (h : s < 2 ^ D.K) : rmS D E c a b s < 2 ^ D.K := by
  unfold rmS
  split
  · rename_i e
    refine or_lt h (two_lt ?_)
    rw [Bool.and_eq_true, decide_eq_true_eq] at e
    by_cases q : a < D.K ∧ b < D.K
    · exact q.2
    · have : brX D E c a b = 0 := if_neg q
      omega
  · exact h
theorem m_reach55 (hD : D.WF) {k a s : Nat} (br : brs D E k S) (ha : a < 6) (hs : s < 2 ^ D.K) (x3 : Int32) (k1 k2 : Int32 → Int32 → cpS → Option (Int32 × cpS)) : fX12_reach_55 x3 (nI a) k1 k2 cpFu (nI s) (nI 0) S = k2 (nI (if a < D.K then rcS D E k a s else s)) (nI (a + 1)) S := by
  have k6 := hD.k6
  have k64 : 2 ^ D.K ≤ 64 := pow_le (n := 6) k6
  have e : (if a < D.K then rcS D E k a s else s) = up (rmS D E k a) 6 0 s := by
    by_cases h : a < D.K
    · rw [if_pos h, rm_rc hD h]
    · rw [if_neg h]
      exact (up_inv (rmS D E k a) 6 (fun _ t => t = s) (fun i t hi h' => by unfold rmS; rw [h', bit_ge hs (by omega)]; rfl) 6 0 s (by omega) rfl).symm
  rw [e]
  refine up_lp (F := fun n i (x : Int32) => fX12_reach_55 x3 (nI a) k1 k2 n x i S) (K := fun t => k2 (nI t) (nI (a + 1)) S) 6 (rmS D E k a) (fun _ t => t < 2 ^ D.K) nI (by decide) (fun n i t hi ok => ⟨?_, rmS_lt hD ok⟩) (fun n t ok => ?_) (Nat.zero_le _) hs
  · have hle := brX_le (D := D) (E := E) hD.p8 k a i
    rw [fX12_reach_55]
    unfold rmS
    cases hb : t.testBit a
    · simp (disch := omega) only [lit, lm1, nI_add, pk_mul, nm_eq, nm_eq', nm_lt, nm_lt', nm_le, nm_le', x_lt, x_le, x_eq, x_in, x_cl, x_div, x_sub, x_rem, x_min, x_max, x_and, x_or, x_xor, x_df, x_shl, bI_0, bI_1, bI_bo, lg_eq, toL_inj, ls_nI, decide_eq_false_iff_not, decide_eq_true_eq, Bool.true_eq_false, Bool.false_eq_true, bq, if_pos, if_neg, if_true, if_false, lq, Nat.reduceAdd, Nat.reduceMul, Nat.reduceSub, Nat.reduceDiv, Nat.reduceMod, m_isIn, hb, or_0, Bool.false_and]
    · by_cases h : 0 < brX D E k a i
      · simp (disch := omega) only [lit, lm1, nI_add, pk_mul, nm_eq, nm_eq', nm_lt, nm_lt', nm_le, nm_le', x_lt, x_le, x_eq, x_in, x_cl, x_div, x_sub, x_rem, x_min, x_max, x_and, x_or, x_xor, x_df, x_shl, bI_0, bI_1, bI_bo, lg_eq, toL_inj, ls_nI, decide_eq_false_iff_not, decide_eq_true_eq, Bool.true_eq_false, Bool.false_eq_true, bq, if_pos, if_neg, if_true, if_false, lq, Nat.reduceAdd, Nat.reduceMul, Nat.reduceSub, Nat.reduceDiv, Nat.reduceMod, m_isIn, hb, br a i ha hi, Bool.true_and, decide_eq_true h]
      · simp (disch := omega) only [lit, lm1, nI_add, pk_mul, nm_eq, nm_eq', nm_lt, nm_lt', nm_le, nm_le', x_lt, x_le, x_eq, x_in, x_cl, x_div, x_sub, x_rem, x_min, x_max, x_and, x_or, x_xor, x_df, x_shl, bI_0, bI_1, bI_bo, lg_eq, toL_inj, ls_nI, decide_eq_false_iff_not, decide_eq_true_eq, Bool.true_eq_false, Bool.false_eq_true, bq, if_pos, if_neg, if_true, if_false, lq, Nat.reduceAdd, Nat.reduceMul, Nat.reduceSub, Nat.reduceDiv, Nat.reduceMod, m_isIn, hb, br a i ha hi, Bool.true_and, decide_eq_false h, or_0]
  · rw [fX12_reach_55]
    simp (disch := omega) only [lit, lm1, nI_add, pk_mul, nm_eq, nm_eq', nm_lt, nm_lt', nm_le, nm_le', x_lt, x_le, x_eq, x_in, x_cl, x_div, x_sub, x_rem, x_min, x_max, x_and, x_or, x_xor, x_df, x_shl, bI_0, bI_1, bI_bo, lg_eq, toL_inj, ls_nI, decide_eq_false_iff_not, decide_eq_true_eq, Bool.true_eq_false, Bool.false_eq_true, bq, if_pos, if_neg, if_true, if_false, lq, Nat.reduceAdd, Nat.reduceMul, Nat.reduceSub, Nat.reduceDiv, Nat.reduceMod]
theorem m_reach45 (hD : D.WF) {k s : Nat} (br : brs D E k S) (hs : s < 2 ^ D.K) (x3 : Int32) (k1 : Int32 → Int32 → cpS → Option (Int32 × cpS)) : fX12_reach_45 x3 k1 cpFu (nI s) (nI 0) S = k1 (nI (rcR D E k s)) (x3 + 1) S := by
  have e : rcR D E k s = up (fun a s => if a < D.K then rcS D E k a s else s) 6 0 s := by
    rw [up_tail hD.k6 (fun i t h1 h2 => by rw [if_neg (by omega)]) s]
    exact up_congr (N := D.K) (fun i t hi => by rw [if_pos hi]) D.K 0 s (by omega)
  rw [e]
  refine up_lp (F := fun n i (x : Int32) => fX12_reach_45 x3 k1 n x i S) (K := fun t => k1 (nI t) (x3 + 1) S) 6 (fun a s => if a < D.K then rcS D E k a s else s) (fun _ t => t < 2 ^ D.K) nI (by decide) (fun n i t hi ok => ⟨?_, ?_⟩) (fun n t ok => ?_) (Nat.zero_le _) hs
  · rw [fX12_reach_45]
    simp (disch := omega) only [lit, lm1, nI_add, pk_mul, nm_eq, nm_eq', nm_lt, nm_lt', nm_le, nm_le', x_lt, x_le, x_eq, x_in, x_cl, x_div, x_sub, x_rem, x_min, x_max, x_and, x_or, x_xor, x_df, x_shl, bI_0, bI_1, bI_bo, lg_eq, toL_inj, ls_nI, decide_eq_false_iff_not, decide_eq_true_eq, Bool.true_eq_false, Bool.false_eq_true, bq, if_pos, if_neg, if_true, if_false, lq, Nat.reduceAdd, Nat.reduceMul, Nat.reduceSub, Nat.reduceDiv, Nat.reduceMod, m_reach55 hD br hi ok]
  · (try dsimp only)
    split
    · exact rcS_lt ok
    · exact ok
  · rw [fX12_reach_45]
    simp (disch := omega) only [lit, lm1, nI_add, pk_mul, nm_eq, nm_eq', nm_lt, nm_lt', nm_le, nm_le', x_lt, x_le, x_eq, x_in, x_cl, x_div, x_sub, x_rem, x_min, x_max, x_and, x_or, x_xor, x_df, x_shl, bI_0, bI_1, bI_bo, lg_eq, toL_inj, ls_nI, decide_eq_false_iff_not, decide_eq_true_eq, Bool.true_eq_false, Bool.false_eq_true, bq, if_pos, if_neg, if_true, if_false, lq, Nat.reduceAdd, Nat.reduceMul, Nat.reduceSub, Nat.reduceDiv, Nat.reduceMod]
theorem m_reach36 (hD : D.WF) {k a : Nat} (br : brs D E k S) (ha : a < D.K) : fX12_reach_36 cpFu (nI (2 ^ a)) (nI 0) S = some (nI (it (rcR D E k) (D.K - 1) (2 ^ a)), S) := by
  have k6 := hD.k6
  have h0 : 1 ≤ cnt (2 ^ a) := by
    have : ∀ a, a < 6 → 1 ≤ cnt (2 ^ a) := by decide +kernel
    exact this a (by omega)
  rw [← it_stab (f := rcR D E k) (K := D.K) (by omega) (fun s hs => ⟨rcR_lt hs, rcR_sub k s⟩) (two_lt ha) h0 hD.k1 6 (by omega)]
  unfold it
  refine up_lp (F := fun n i (x : Int32) => fX12_reach_36 n x i S) (K := fun t => some (nI t, S)) 6 (fun _ s => rcR D E k s) (fun _ t => t < 2 ^ D.K) nI (by decide) (fun n i t hi ok => ⟨?_, rcR_lt ok⟩) (fun n t ok => ?_) (Nat.zero_le _) (two_lt ha)
  · rw [fX12_reach_36]
    simp (disch := omega) only [lit, lm1, nI_add, pk_mul, nm_eq, nm_eq', nm_lt, nm_lt', nm_le, nm_le', x_lt, x_le, x_eq, x_in, x_cl, x_div, x_sub, x_rem, x_min, x_max, x_and, x_or, x_xor, x_df, x_shl, bI_0, bI_1, bI_bo, lg_eq, toL_inj, ls_nI, decide_eq_false_iff_not, decide_eq_true_eq, Bool.true_eq_false, Bool.false_eq_true, bq, if_pos, if_neg, if_true, if_false, lq, Nat.reduceAdd, Nat.reduceMul, Nat.reduceSub, Nat.reduceDiv, Nat.reduceMod, m_reach45 hD br ok]
  · rw [fX12_reach_36]
    simp (disch := omega) only [lit, lm1, nI_add, pk_mul, nm_eq, nm_eq', nm_lt, nm_lt', nm_le, nm_le', x_lt, x_le, x_eq, x_in, x_cl, x_div, x_sub, x_rem, x_min, x_max, x_and, x_or, x_xor, x_df, x_shl, bI_0, bI_1, bI_bo, lg_eq, toL_inj, ls_nI, decide_eq_false_iff_not, decide_eq_true_eq, Bool.true_eq_false, Bool.false_eq_true, bq, if_pos, if_neg, if_true, if_false, lq, Nat.reduceAdd, Nat.reduceMul, Nat.reduceSub, Nat.reduceDiv, Nat.reduceMod]
end RE
theorem q_reach : cpQ_reach cpRl := by
  intro x1 S hR
  refine q1 hR (fun D E hD hE => ?_)
  have c4 := hD.c4
  have k6 := hD.k6
  rcases in_or x1 D.C with ⟨k, hk, rfl⟩ | h
  · have ha := hE.at' k hk
    refine ⟨nI (it (rcR D E k) (D.K - 1) (2 ^ (E.at' k))), fun S c => ?_, fun S m => ?_⟩
    · obtain ⟨A, a1, a2, a3⟩ := c_learn hD hE c false hk
      have a1 : fX4_learn (nI k) (nI 0) S = some ((), A) := a1
      have cA' := c.cc (a3.le (fun _ _ => kL_C))
      refine ⟨A, ?_, a3.le (fun _ _ => kL_C)⟩
      unfold fX11_reach
      simp (disch := omega) only [lit, lm1, nI_add, pk_mul, nm_eq, nm_eq', nm_lt, nm_lt', nm_le, nm_le', x_lt, x_le, x_eq, x_in, x_cl, x_div, x_sub, x_rem, x_min, x_max, x_and, x_or, x_xor, x_df, x_shl, bI_0, bI_1, bI_bo, lg_eq, toL_inj, ls_nI, decide_eq_false_iff_not, decide_eq_true_eq, Bool.true_eq_false, Bool.false_eq_true, bq, if_pos, if_neg, if_true, if_false, lq, Nat.reduceAdd, Nat.reduceMul, Nat.reduceSub, Nat.reduceDiv, Nat.reduceMod, c.hasCoin hD, a1, cA'.at', c_reached hD cA' a2 ha]
    · have m0 := m.thr hD (nI 0)
      obtain ⟨A, a1, a2, a3, a4⟩ := m_laysBears hD hE m0 hk
      refine ⟨A, ?_, (kM_thr S (nI 0)).tr (a4.le (fun _ _ => kBG_M))⟩
      unfold fX12_reach
      simp (disch := omega) only [lit, lm1, nI_add, pk_mul, nm_eq, nm_eq', nm_lt, nm_lt', nm_le, nm_le', x_lt, x_le, x_eq, x_in, x_cl, x_div, x_sub, x_rem, x_min, x_max, x_and, x_or, x_xor, x_df, x_shl, bI_0, bI_1, bI_bo, lg_eq, toL_inj, ls_nI, decide_eq_false_iff_not, decide_eq_true_eq, Bool.true_eq_false, Bool.false_eq_true, bq, if_pos, if_neg, if_true, if_false, lq, Nat.reduceAdd, Nat.reduceMul, Nat.reduceSub, Nat.reduceDiv, Nat.reduceMod, m0.isCoin hD, a1, a3.1.at', m_reach36 hD a2 ha]
  · refine ⟨-2, fun S c => ⟨S, ?_, Kp.rf⟩, fun S m => ⟨_, ?_, kM_thr S (nI 0)⟩⟩
    · unfold fX11_reach
      simp (disch := omega) only [lit, lm1, nI_add, pk_mul, nm_eq, nm_eq', nm_lt, nm_lt', nm_le, nm_le', x_lt, x_le, x_eq, x_in, x_cl, x_div, x_sub, x_rem, x_min, x_max, x_and, x_or, x_xor, x_df, x_shl, bI_0, bI_1, bI_bo, lg_eq, toL_inj, ls_nI, decide_eq_false_iff_not, decide_eq_true_eq, Bool.true_eq_false, Bool.false_eq_true, bq, if_pos, if_neg, if_true, if_false, lq, Nat.reduceAdd, Nat.reduceMul, Nat.reduceSub, Nat.reduceDiv, Nat.reduceMod, c.hasCoin hD, h]
    · unfold fX12_reach
      simp (disch := omega) only [lit, lm1, nI_add, pk_mul, nm_eq, nm_eq', nm_lt, nm_lt', nm_le, nm_le', x_lt, x_le, x_eq, x_in, x_cl, x_div, x_sub, x_rem, x_min, x_max, x_and, x_or, x_xor, x_df, x_shl, bI_0, bI_1, bI_bo, lg_eq, toL_inj, ls_nI, decide_eq_false_iff_not, decide_eq_true_eq, Bool.true_eq_false, Bool.false_eq_true, bq, if_pos, if_neg, if_true, if_false, lq, Nat.reduceAdd, Nat.reduceMul, Nat.reduceSub, Nat.reduceDiv, Nat.reduceMod, (m.thr hD (nI 0)).isCoin hD, h]
/-! rows -/
def rwS (D : cpD) (E : cpE) (c : Nat) (f : Nat → Int64) (b : Nat) : Nat → Int64 → Int64 := fun a s => s + f a * Int32.toInt64 (nI (brN D E c a b E.h))
def rwX (D : cpD) (E : cpE) (c : Nat) (f : Nat → Int64) : Nat → Int64 := fun b => up (rwS D E c f b) D.K 0 0
def rw0 (fm : Nat) : Nat → Int64 := fun b => if b = fm then 1 else 0
def rwN (D : cpD) (E : cpE) (c fm n : Nat) : Nat → Int64 := it (rwX D E c) n (rw0 fm)
section RW
variable {D : cpD} {E : cpE} {S : cpS}
def kW (q _ : Nat) : Prop := q = 123 ∨ q = 124
theorem kW_C {k j : Nat} (h : kW k j) : kC k j := by
  rcases h with rfl | rfl <;> exact ⟨scr_c (by decide) (by decide) (by decide) j, by decide⟩
theorem lrn.kp {r : Bool} {k : Nat} {T : cpS} (l : lrn D E r k S) {f : Nat → Nat → Prop} (g : Kp f S T) (hf : ∀ q j, f q j → q ≠ 120 ∧ q ≠ 121) : lrn D E r k T :=
  ⟨fun a b ha hb => by rw [g.i (fun q => (hf _ _ q).2 rfl)]; exact l.1 a b ha hb, fun a b k ha hb hk => by rw [g.i (fun q => (hf _ _ q).1 rfl)]; exact l.2 a b k ha hb hk⟩
theorem brs.kp {k : Nat} {T : cpS} (l : brs D E k S) {f : Nat → Nat → Prop} (g : Kp f S T) (hf : ∀ q j, f q j → q ≠ 159) : brs D E k T :=
  fun a b ha hb => by rw [g.i (fun q => hf _ _ q rfl)]; exact l a b ha hb
theorem c_rows35 (hD : D.WF) (c : cA D E S) {r : Bool} {k : Nat} {f : Nat → Int64} (l : lrn D E r k S) (x2 x3 x4 : Int32) (kk : Int32 → cpS → Option (Int64 × cpS)) (h1 : ∀ b, b < D.K → S.2 123 b = f b) (h2 : ∀ b, b < D.K → S.2 124 b = 0) : ∃ T, fX4_rowsOf_35 x2 x3 x4 kk cpFu (nI 0) S = kk (x4 + 1) T ∧ (∀ b, b < D.K → T.2 123 b = rwX D E k f b) ∧ Kp kW S T := by
  have k6 := hD.k6
  have := up_lpR (F := fun n a (T : cpS) => fX4_rowsOf_35 x2 x3 x4 kk n a T) (K := fun T => kk (x4 + 1) (cpRL T 123 (va_cpy (T.2 124) (T.2 123) 0 0 6))) D.K (fun _ (s : Unit) => s) (fun a _ T => (∀ b, b < D.K → T.2 123 b = f b) ∧ (∀ b, b < D.K → T.2 124 b = up (rwS D E k f b) a 0 0) ∧ Kp kW S T) (by omega) (fun n a s T ha hI => ?_) (fun n s T hI => ?_) (i0 := 0) (s := ()) (a := S) (Nat.zero_le _) ⟨h1, h2, Kp.rf⟩
  · obtain ⟨T, t1, t2, t3, t4⟩ := this
    refine ⟨_, t1, fun b hb => ?_, fun q j hq => ?_⟩
    · show (if 123 = 123 then va_cpy (T.2 124) (T.2 123) 0 0 6 else T.2 123) b = _
      rw [if_pos rfl, pk_cpy_in (by omega) (by omega), Nat.zero_add, Nat.sub_zero]
      exact t3 b hb
    · refine ⟨(t4 q j hq).1, ?_⟩
      show (if q = 123 then _ else T.2 q) j = _
      rw [if_neg (fun e => hq (Or.inl e))]
      exact (t4 q j hq).2
  · obtain ⟨i1, i2, i3⟩ := hI
    have inner : ∃ U, fX4_rowsOf_47 x2 x3 x4 (nI a) kk (fX4_rowsOf_35 x2 x3 x4 kk n) cpFu (nI 0) T = fX4_rowsOf_35 x2 x3 x4 kk n (nI (a + 1)) U ∧ (∀ b, b < D.K → U.2 123 b = f b) ∧ (∀ b, b < D.K → U.2 124 b = if b < D.K then up (rwS D E k f b) (a + 1) 0 0 else up (rwS D E k f b) a 0 0) ∧ Kp kW S U := by
      refine up_lpR (F := fun n b (T : cpS) => fX4_rowsOf_47 x2 x3 x4 (nI a) kk _ n b T) (K := fun U => fX4_rowsOf_35 x2 x3 x4 kk n (nI (a + 1)) U) D.K (fun _ (s : Unit) => s) (fun j _ U => (∀ b, b < D.K → U.2 123 b = f b) ∧ (∀ b, b < D.K → U.2 124 b = if b < j then up (rwS D E k f b) (a + 1) 0 0 else up (rwS D E k f b) a 0 0) ∧ Kp kW S U) (by omega) (fun n' b s U hb hJ => ?_) (fun n' s U hJ => ?_) (i0 := 0) (s := ()) (a := T) (Nat.zero_le _) ⟨i1, fun b hb => by rw [if_neg (by omega)]; exact i2 b hb, i3⟩
      · obtain ⟨j1, j2, j3⟩ := hJ
        have cU : cA D E U := c.cc (j3.le (fun _ _ => kW_C))
        have lU := l.kp j3 (fun q j h => by unfold kW at h; omega)
        have e1 : U.2 124 b = up (rwS D E k f b) a 0 0 := by rw [j2 b hb, if_neg (by omega)]
        refine ⟨cpL U 124 b (up (rwS D E k f b) (a + 1) 0 0), ?_, fun x hx => by rw [sLr (by decide)]; exact j1 x hx, fun x hx => ?_, j3.L (by exact Or.inr rfl)⟩
        · rw [fX4_rowsOf_47, up_last, Nat.zero_add]
          unfold fX4_places
          simp (disch := omega) only [lit, lm1, nI_add, pk_mul, nm_eq, nm_eq', nm_lt, nm_lt', nm_le, nm_le', x_lt, x_le, x_eq, x_in, x_cl, x_div, x_sub, x_rem, x_min, x_max, x_and, x_or, x_xor, x_df, x_shl, bI_0, bI_1, bI_bo, lg_eq, toL_inj, ls_nI, decide_eq_false_iff_not, decide_eq_true_eq, Bool.true_eq_false, Bool.false_eq_true, bq, if_pos, if_neg, if_true, if_false, lq, Nat.reduceAdd, Nat.reduceMul, Nat.reduceSub, Nat.reduceDiv, Nat.reduceMod, cU.K, lU.1 a b ha hb, e1, j1 a ha]
          rfl
        · by_cases e : x = b
          · rw [e, sL1, if_pos (by omega)]
          · rw [sLn (Or.inr e), j2 x hx]
            by_cases q : x < b
            · rw [if_pos q, if_pos (by omega)]
            · rw [if_neg q, if_neg (by omega)]
      · have cU : cA D E U := c.cc (hJ.2.2.le (fun _ _ => kW_C))
        rw [fX4_rowsOf_47]
        unfold fX4_places
        simp (disch := omega) only [lit, lm1, nI_add, pk_mul, nm_eq, nm_eq', nm_lt, nm_lt', nm_le, nm_le', x_lt, x_le, x_eq, x_in, x_cl, x_div, x_sub, x_rem, x_min, x_max, x_and, x_or, x_xor, x_df, x_shl, bI_0, bI_1, bI_bo, lg_eq, toL_inj, ls_nI, decide_eq_false_iff_not, decide_eq_true_eq, Bool.true_eq_false, Bool.false_eq_true, bq, if_pos, if_neg, if_true, if_false, lq, Nat.reduceAdd, Nat.reduceMul, Nat.reduceSub, Nat.reduceDiv, Nat.reduceMod, cU.K]
    obtain ⟨U, u1, u2, u3, u4⟩ := inner
    have cT : cA D E T := c.cc (i3.le (fun _ _ => kW_C))
    refine ⟨U, ?_, u2, fun b hb => by rw [u3 b hb, if_pos hb], u4⟩
    rw [fX4_rowsOf_35]
    unfold fX4_places
    simp (disch := omega) only [lit, lm1, nI_add, pk_mul, nm_eq, nm_eq', nm_lt, nm_lt', nm_le, nm_le', x_lt, x_le, x_eq, x_in, x_cl, x_div, x_sub, x_rem, x_min, x_max, x_and, x_or, x_xor, x_df, x_shl, bI_0, bI_1, bI_bo, lg_eq, toL_inj, ls_nI, decide_eq_false_iff_not, decide_eq_true_eq, Bool.true_eq_false, Bool.false_eq_true, bq, if_pos, if_neg, if_true, if_false, lq, Nat.reduceAdd, Nat.reduceMul, Nat.reduceSub, Nat.reduceDiv, Nat.reduceMod, cT.K]
    exact u1
  · have cT : cA D E T := c.cc (hI.2.2.le (fun _ _ => kW_C))
    have hcp : (cpCp (nI 6) 6 6 = true) = True := eq_true (by decide)
    rw [fX4_rowsOf_35]
    unfold fX4_places
    simp (disch := omega) only [lit, lm1, nI_add, pk_mul, nm_eq, nm_eq', nm_lt, nm_lt', nm_le, nm_le', x_lt, x_le, x_eq, x_in, x_cl, x_div, x_sub, x_rem, x_min, x_max, x_and, x_or, x_xor, x_df, x_shl, bI_0, bI_1, bI_bo, lg_eq, toL_inj, ls_nI, decide_eq_false_iff_not, decide_eq_true_eq, Bool.true_eq_false, Bool.false_eq_true, bq, if_pos, if_neg, if_true, if_false, lq, Nat.reduceAdd, Nat.reduceMul, Nat.reduceSub, Nat.reduceDiv, Nat.reduceMod, cT.K, hcp]
theorem c_rowsOf (hD : D.WF) (c : cA D E S) {r : Bool} {k fm to n : Nat} (l : lrn D E r k S) (hf : fm < D.K) (ht : to < D.K) (hn : n ≤ 8) : ∃ T, fX4_rowsOf (nI fm) (nI to) (nI n) S = some (rwN D E k fm n to, T) ∧ Kp kW S T := by
  have k6 := hD.k6
  obtain ⟨A, a1, a2⟩ := e_fill 123 6 0 (by decide) S
  have kA : Kp kW S (cpL A 123 fm 1) := fun q j hq => by
    have hq1 : q ≠ 123 := fun e => hq (Or.inl e)
    refine ⟨?_, ?_⟩
    · show A.1 q j = S.1 q j; rw [a2.1]
    · rw [sLr hq1, a2.2.1 q hq1]
  have := up_lpR (F := fun f i (T : cpS) => fX4_rowsOf_18 (nI to) (nI n) f i T) (K := fun T => some (T.2 123 to, T)) n (fun _ f => rwX D E k f) (fun i f T => (∀ b, b < D.K → T.2 123 b = f b) ∧ Kp kW S T) (by omega) (fun f i s T hi hI => ?_) (fun f s T hI => ?_) (i0 := 0) (s := rw0 fm) (a := cpL A 123 fm 1) (Nat.zero_le _) ⟨fun b hb => ?_, kA⟩
  · obtain ⟨T, t1, t2, t3⟩ := this
    refine ⟨T, ?_, t3⟩
    unfold fX4_rowsOf
    rw [a1]
    simp (disch := omega) only [lit, lm1, nI_add, pk_mul, nm_eq, nm_eq', nm_lt, nm_lt', nm_le, nm_le', x_lt, x_le, x_eq, x_in, x_cl, x_div, x_sub, x_rem, x_min, x_max, x_and, x_or, x_xor, x_df, x_shl, bI_0, bI_1, bI_bo, lg_eq, toL_inj, ls_nI, decide_eq_false_iff_not, decide_eq_true_eq, Bool.true_eq_false, Bool.false_eq_true, bq, if_pos, if_neg, if_true, if_false, lq, Nat.reduceAdd, Nat.reduceMul, Nat.reduceSub, Nat.reduceDiv, Nat.reduceMod]
    rw [show rwN D E k fm n to = T.2 123 to from (t2 to ht).symm]
    exact t1
  · obtain ⟨i1, i2⟩ := hI
    obtain ⟨U, u1, u2⟩ := e_fill 124 6 0 (by decide) T
    have kU : Kp kW T U := fun q j hq => by
      have hq1 : q ≠ 124 := fun e => hq (Or.inr e)
      exact ⟨by rw [u2.1], by rw [u2.2.1 q hq1]⟩
    have kSU := i2.tr kU
    obtain ⟨V, v1, v2, v3⟩ := c_rows35 hD (c.cc (kSU.le (fun _ _ => kW_C))) (l.kp kSU (fun q j h => by unfold kW at h; omega)) (nI to) (nI n) (nI i) (fX4_rowsOf_18 (nI to) (nI n) f) (f := s) (fun b hb => by rw [u2.2.1 123 (by decide)]; exact i1 b hb) (fun b hb => u2.2.2.1 b (by omega) (by omega))
    refine ⟨V, ?_, v2, kSU.tr v3⟩
    rw [fX4_rowsOf_18]
    simp (disch := omega) only [lit, lm1, nI_add, pk_mul, nm_eq, nm_eq', nm_lt, nm_lt', nm_le, nm_le', x_lt, x_le, x_eq, x_in, x_cl, x_div, x_sub, x_rem, x_min, x_max, x_and, x_or, x_xor, x_df, x_shl, bI_0, bI_1, bI_bo, lg_eq, toL_inj, ls_nI, decide_eq_false_iff_not, decide_eq_true_eq, Bool.true_eq_false, Bool.false_eq_true, bq, if_pos, if_neg, if_true, if_false, lq, Nat.reduceAdd, Nat.reduceMul, Nat.reduceSub, Nat.reduceDiv, Nat.reduceMod, litL] 
    rw [show (lN 0 : Int64) = 0 from rfl, u1, bq, v1]
    simp (disch := omega) only [lit, lm1, nI_add, pk_mul, nm_eq, nm_eq', nm_lt, nm_lt', nm_le, nm_le', x_lt, x_le, x_eq, x_in, x_cl, x_div, x_sub, x_rem, x_min, x_max, x_and, x_or, x_xor, x_df, x_shl, bI_0, bI_1, bI_bo, lg_eq, toL_inj, ls_nI, decide_eq_false_iff_not, decide_eq_true_eq, Bool.true_eq_false, Bool.false_eq_true, bq, if_pos, if_neg, if_true, if_false, lq, Nat.reduceAdd, Nat.reduceMul, Nat.reduceSub, Nat.reduceDiv, Nat.reduceMod]
  · rw [fX4_rowsOf_18]
    simp (disch := omega) only [lit, lm1, nI_add, pk_mul, nm_eq, nm_eq', nm_lt, nm_lt', nm_le, nm_le', x_lt, x_le, x_eq, x_in, x_cl, x_div, x_sub, x_rem, x_min, x_max, x_and, x_or, x_xor, x_df, x_shl, bI_0, bI_1, bI_bo, lg_eq, toL_inj, ls_nI, decide_eq_false_iff_not, decide_eq_true_eq, Bool.true_eq_false, Bool.false_eq_true, bq, if_pos, if_neg, if_true, if_false, lq, Nat.reduceAdd, Nat.reduceMul, Nat.reduceSub, Nat.reduceDiv, Nat.reduceMod]
  · unfold rw0
    by_cases e : b = fm
    · rw [if_pos e, e, sL1]
    · rw [if_neg e, sLn (Or.inr e)]; exact a2.2.2.1 b (by omega) (by omega)
def kR (q _ : Nat) : Prop := q = 162 ∨ q = 163
theorem kR_M {k j : Nat} (h : kR k j) : kM k j := by
  rcases h with rfl | rfl <;> exact ⟨scr_c (by decide) (by decide) (by decide) j, by decide⟩
theorem m_rows111 (hD : D.WF) {k b : Nat} {f : Nat → Int64} (br : brs D E k S) (x2 x3 x4 : Int32) (k1 k2 : Int32 → cpS → Option (Int64 × cpS)) (hb : b < 6) (h1 : ∀ a, a < D.K → S.2 162 a = f a) (h0 : S.2 163 b = 0) : ∃ T, fX12_rows_111 x2 x3 x4 (nI b) k1 k2 cpFu (nI 0) S = k2 (nI (b + 1)) T ∧ (b < D.K → T.2 163 b = rwX D E k f b) ∧ Kp (fun q j => q = 163 ∧ j = b) S T := by
  have k6 := hD.k6
  have e : b < D.K → rwX D E k f b = up (fun a s => if a < D.K then rwS D E k f b a s else s) 6 0 0 := fun _ => by
    unfold rwX
    rw [up_tail k6 (fun i t p1 p2 => by rw [if_neg (by omega)]) 0]
    exact up_congr (N := D.K) (fun i t hi => by rw [if_pos hi]) D.K 0 0 (by omega)
  have := up_lpR (F := fun n a (T : cpS) => fX12_rows_111 x2 x3 x4 (nI b) k1 k2 n a T) (K := fun T => k2 (nI (b + 1)) T) 6 (fun a s => if a < D.K then rwS D E k f b a s else s) (fun a s T => (b < D.K → T.2 163 b = s) ∧ Kp (fun q j => q = 163 ∧ j = b) S T) (by decide) (fun n a s T ha hI => ?_) (fun n s T hI => ?_) (i0 := 0) (s := 0) (a := S) (Nat.zero_le _) ⟨fun _ => h0, Kp.rf⟩
  · obtain ⟨T, t1, t2, t3⟩ := this
    exact ⟨T, t1, fun q => by rw [t2 q, e q], t3⟩
  · obtain ⟨i1, i2⟩ := hI
    have bT : T.1 159 (6 * a + b) = nI (brX D E k a b) := by rw [i2.i (by omega)]; exact br a b ha hb
    refine ⟨cpL T 163 b (T.2 163 b + T.2 162 a * Int32.toInt64 (nI (brX D E k a b))), ?_, fun q => ?_, i2.L (by exact ⟨rfl, rfl⟩)⟩
    · rw [fX12_rows_111]
      simp (disch := omega) only [lit, lm1, nI_add, pk_mul, nm_eq, nm_eq', nm_lt, nm_lt', nm_le, nm_le', x_lt, x_le, x_eq, x_in, x_cl, x_div, x_sub, x_rem, x_min, x_max, x_and, x_or, x_xor, x_df, x_shl, bI_0, bI_1, bI_bo, lg_eq, toL_inj, ls_nI, decide_eq_false_iff_not, decide_eq_true_eq, Bool.true_eq_false, Bool.false_eq_true, bq, if_pos, if_neg, if_true, if_false, lq, Nat.reduceAdd, Nat.reduceMul, Nat.reduceSub, Nat.reduceDiv, Nat.reduceMod, bT]
    · rw [sL1, i1 q]
      by_cases h : a < D.K
      · rw [if_pos h, i2.l (by omega), h1 a h]
        have : brX D E k a b = brN D E k a b E.h := if_pos ⟨h, q⟩
        rw [this]; rfl
      · rw [if_neg h]
        have : brX D E k a b = 0 := if_neg (fun z => h z.1)
        rw [this, show Int32.toInt64 (nI 0) = 0 from by decide, Int64.mul_zero, Int64.add_zero]
  · rw [fX12_rows_111]
    simp (disch := omega) only [lit, lm1, nI_add, pk_mul, nm_eq, nm_eq', nm_lt, nm_lt', nm_le, nm_le', x_lt, x_le, x_eq, x_in, x_cl, x_div, x_sub, x_rem, x_min, x_max, x_and, x_or, x_xor, x_df, x_shl, bI_0, bI_1, bI_bo, lg_eq, toL_inj, ls_nI, decide_eq_false_iff_not, decide_eq_true_eq, Bool.true_eq_false, Bool.false_eq_true, bq, if_pos, if_neg, if_true, if_false, lq, Nat.reduceAdd, Nat.reduceMul, Nat.reduceSub, Nat.reduceDiv, Nat.reduceMod]
theorem m_rows93 (hD : D.WF) {k : Nat} {f : Nat → Int64} (br : brs D E k S) (x2 x3 x4 : Int32) (k1 : Int32 → cpS → Option (Int64 × cpS)) (h1 : ∀ a, a < D.K → S.2 162 a = f a) : ∃ T, fX12_rows_93 x2 x3 x4 k1 cpFu (nI 0) S = k1 (x4 + 1) T ∧ (∀ b, b < D.K → T.2 162 b = rwX D E k f b) ∧ Kp kR S T := by
  have k6 := hD.k6
  obtain ⟨A, a1, a2, a3⟩ : ∃ A, fX12_rows_93 x2 x3 x4 k1 cpFu (nI 0) S = fX12_rows_165 x2 x3 x4 k1 cpFu (nI 0) A ∧ (∀ b, b < 6 → b < D.K → A.2 163 b = rwX D E k f b) ∧ Kp (fun q _ => q = 163) S A := by
    refine up_lpR (F := fun n b (T : cpS) => fX12_rows_93 x2 x3 x4 k1 n b T) (K := fun T => fX12_rows_165 x2 x3 x4 k1 cpFu (nI 0) T) 6 (fun _ (s : Unit) => s) (fun j _ T => (∀ b, b < j → b < D.K → T.2 163 b = rwX D E k f b) ∧ Kp (fun q _ => q = 163) S T) (by decide) (fun n b s T hb hI => ?_) (fun n s T hI => ?_) (i0 := 0) (s := ()) (a := S) (Nat.zero_le _) ⟨fun b hb => absurd hb (by omega), Kp.rf⟩
    · obtain ⟨i1, i2⟩ := hI
      have i3 : Kp (fun q _ => q = 163) S (cpL T 163 b 0) := i2.L (by exact rfl)
      obtain ⟨U, u1, u2, u3⟩ := m_rows111 hD (br.kp i3 (fun q j h => by omega)) x2 x3 x4 k1 (fX12_rows_93 x2 x3 x4 k1 n) hb (f := f) (fun a ha => by rw [i3.l (by omega)]; exact h1 a ha) sL1
      refine ⟨U, ?_, fun x hx hk => ?_, i3.tr (u3.le (fun q j h => h.1))⟩
      · rw [fX12_rows_93]
        simp (disch := omega) only [lit, lm1, nI_add, pk_mul, nm_eq, nm_eq', nm_lt, nm_lt', nm_le, nm_le', x_lt, x_le, x_eq, x_in, x_cl, x_div, x_sub, x_rem, x_min, x_max, x_and, x_or, x_xor, x_df, x_shl, bI_0, bI_1, bI_bo, lg_eq, toL_inj, ls_nI, decide_eq_false_iff_not, decide_eq_true_eq, Bool.true_eq_false, Bool.false_eq_true, bq, if_pos, if_neg, if_true, if_false, lq, Nat.reduceAdd, Nat.reduceMul, Nat.reduceSub, Nat.reduceDiv, Nat.reduceMod]
        exact u1
      · by_cases e : x = b
        · rw [e] at hk ⊢; exact u2 hk
        · rw [u3.l (by omega), sLn (Or.inr e)]; exact i1 x (by omega) hk
    · rw [fX12_rows_93]
      simp (disch := omega) only [lit, lm1, nI_add, pk_mul, nm_eq, nm_eq', nm_lt, nm_lt', nm_le, nm_le', x_lt, x_le, x_eq, x_in, x_cl, x_div, x_sub, x_rem, x_min, x_max, x_and, x_or, x_xor, x_df, x_shl, bI_0, bI_1, bI_bo, lg_eq, toL_inj, ls_nI, decide_eq_false_iff_not, decide_eq_true_eq, Bool.true_eq_false, Bool.false_eq_true, bq, if_pos, if_neg, if_true, if_false, lq, Nat.reduceAdd, Nat.reduceMul, Nat.reduceSub, Nat.reduceDiv, Nat.reduceMod]
  obtain ⟨B, b1, b2, b3⟩ : ∃ B, fX12_rows_165 x2 x3 x4 k1 cpFu (nI 0) A = k1 (x4 + 1) B ∧ (∀ b, b < 6 → B.2 162 b = A.2 163 b) ∧ Kp kR A B := by
    have := up_lpR (F := fun n b (T : cpS) => fX12_rows_165 x2 x3 x4 k1 n b T) (K := fun T => k1 (x4 + 1) T) 6 (fun _ (s : Unit) => s) (fun j _ T => (∀ b, b < j → T.2 162 b = A.2 163 b) ∧ Kp (fun q _ => q = 162) A T) (by decide) (fun n b s T hb hI => ?_) (fun n s T hI => ?_) (i0 := 0) (s := ()) (a := A) (Nat.zero_le _) ⟨fun b hb => absurd hb (by omega), Kp.rf⟩
    · obtain ⟨B, b1, b2, b3⟩ := this
      exact ⟨B, b1, b2, b3.le (fun q j h => Or.inl h)⟩
    · obtain ⟨i1, i2⟩ := hI
      refine ⟨cpL T 162 b (T.2 163 b), ?_, fun x hx => ?_, i2.L (by exact rfl)⟩
      · rw [fX12_rows_165]
        simp (disch := omega) only [lit, lm1, nI_add, pk_mul, nm_eq, nm_eq', nm_lt, nm_lt', nm_le, nm_le', x_lt, x_le, x_eq, x_in, x_cl, x_div, x_sub, x_rem, x_min, x_max, x_and, x_or, x_xor, x_df, x_shl, bI_0, bI_1, bI_bo, lg_eq, toL_inj, ls_nI, decide_eq_false_iff_not, decide_eq_true_eq, Bool.true_eq_false, Bool.false_eq_true, bq, if_pos, if_neg, if_true, if_false, lq, Nat.reduceAdd, Nat.reduceMul, Nat.reduceSub, Nat.reduceDiv, Nat.reduceMod]
      · by_cases e : x = b
        · rw [e, sL1, i2.l (by omega)]
        · rw [sLn (Or.inr e)]; exact i1 x (by omega)
    · rw [fX12_rows_165]
      simp (disch := omega) only [lit, lm1, nI_add, pk_mul, nm_eq, nm_eq', nm_lt, nm_lt', nm_le, nm_le', x_lt, x_le, x_eq, x_in, x_cl, x_div, x_sub, x_rem, x_min, x_max, x_and, x_or, x_xor, x_df, x_shl, bI_0, bI_1, bI_bo, lg_eq, toL_inj, ls_nI, decide_eq_false_iff_not, decide_eq_true_eq, Bool.true_eq_false, Bool.false_eq_true, bq, if_pos, if_neg, if_true, if_false, lq, Nat.reduceAdd, Nat.reduceMul, Nat.reduceSub, Nat.reduceDiv, Nat.reduceMod]
  exact ⟨B, a1.trans b1, fun b hb => by rw [b2 b (by omega)]; exact a2 b (by omega) hb, (a3.le (fun q j h => Or.inr h)).tr b3⟩
theorem m_rows42 (hD : D.WF) (hE : E.WF D) (m : mA D E S) {k to n : Nat} (br : brs D E k S) (hk : k < D.C) (ht : to < D.K) (hn : n ≤ 8) : ∃ T, fX12_rows_42 (nI k) (nI to) (nI n) cpFu (nI 0) S = some (rwN D E k (E.at' k) n to, T) ∧ Kp kR S T := by
  have k6 := hD.k6
  have c4 := hD.c4
  obtain ⟨A, a1, a2, a3⟩ : ∃ A, fX12_rows_42 (nI k) (nI to) (nI n) cpFu (nI 0) S = fX12_rows_84 (nI to) (nI n) cpFu (nI 0) A ∧ (∀ b, b < 6 → A.2 162 b = rw0 (E.at' k) b) ∧ Kp kR S A := by
    have := up_lpR (F := fun f b (T : cpS) => fX12_rows_42 (nI k) (nI to) (nI n) f b T) (K := fun T => fX12_rows_84 (nI to) (nI n) cpFu (nI 0) T) 6 (fun _ (s : Unit) => s) (fun j _ T => (∀ b, b < j → T.2 162 b = rw0 (E.at' k) b) ∧ Kp (fun q _ => q = 162) S T) (by decide) (fun f b s T hb hI => ?_) (fun f s T hI => ?_) (i0 := 0) (s := ()) (a := S) (Nat.zero_le _) ⟨fun b hb => absurd hb (by omega), Kp.rf⟩
    · obtain ⟨B, b1, b2, b3⟩ := this
      exact ⟨B, b1, b2, b3.le (fun q j h => Or.inl h)⟩
    · obtain ⟨i1, i2⟩ := hI
      have mT := m.kp hD i2 (fun q j h => by omega)
      refine ⟨cpL T 162 b (rw0 (E.at' k) b), ?_, fun x hx => ?_, i2.L (by exact rfl)⟩
      · have ha : E.at' k < D.K := hE.at' k hk
        rw [fX12_rows_42]
        unfold rw0
        by_cases e : b = E.at' k
        · simp (disch := omega) only [lit, lm1, nI_add, pk_mul, nm_eq, nm_eq', nm_lt, nm_lt', nm_le, nm_le', x_lt, x_le, x_eq, x_in, x_cl, x_div, x_sub, x_rem, x_min, x_max, x_and, x_or, x_xor, x_df, x_shl, bI_0, bI_1, bI_bo, lg_eq, toL_inj, ls_nI, decide_eq_false_iff_not, decide_eq_true_eq, Bool.true_eq_false, Bool.false_eq_true, bq, if_pos, if_neg, if_true, if_false, lq, Nat.reduceAdd, Nat.reduceMul, Nat.reduceSub, Nat.reduceDiv, Nat.reduceMod, mT.at', e]
        · simp (disch := omega) only [lit, lm1, nI_add, pk_mul, nm_eq, nm_eq', nm_lt, nm_lt', nm_le, nm_le', x_lt, x_le, x_eq, x_in, x_cl, x_div, x_sub, x_rem, x_min, x_max, x_and, x_or, x_xor, x_df, x_shl, bI_0, bI_1, bI_bo, lg_eq, toL_inj, ls_nI, decide_eq_false_iff_not, decide_eq_true_eq, Bool.true_eq_false, Bool.false_eq_true, bq, if_pos, if_neg, if_true, if_false, lq, Nat.reduceAdd, Nat.reduceMul, Nat.reduceSub, Nat.reduceDiv, Nat.reduceMod, mT.at', e]
      · by_cases e : x = b
        · rw [e, sL1]
        · rw [sLn (Or.inr e)]; exact i1 x (by omega)
    · rw [fX12_rows_42]
      simp (disch := omega) only [lit, lm1, nI_add, pk_mul, nm_eq, nm_eq', nm_lt, nm_lt', nm_le, nm_le', x_lt, x_le, x_eq, x_in, x_cl, x_div, x_sub, x_rem, x_min, x_max, x_and, x_or, x_xor, x_df, x_shl, bI_0, bI_1, bI_bo, lg_eq, toL_inj, ls_nI, decide_eq_false_iff_not, decide_eq_true_eq, Bool.true_eq_false, Bool.false_eq_true, bq, if_pos, if_neg, if_true, if_false, lq, Nat.reduceAdd, Nat.reduceMul, Nat.reduceSub, Nat.reduceDiv, Nat.reduceMod]
  have := up_lpR (F := fun f i (T : cpS) => fX12_rows_84 (nI to) (nI n) f i T) (K := fun T => some (T.2 162 to, T)) n (fun _ f => rwX D E k f) (fun i f T => (∀ b, b < D.K → T.2 162 b = f b) ∧ Kp kR S T) (by omega) (fun f i s T hi hI => ?_) (fun f s T hI => ?_) (i0 := 0) (s := rw0 (E.at' k)) (a := A) (Nat.zero_le _) ⟨fun b hb => a2 b (by omega), a3⟩
  · obtain ⟨T, t1, t2, t3⟩ := this
    refine ⟨T, a1.trans ?_, t3⟩
    rw [show rwN D E k (E.at' k) n to = T.2 162 to from (t2 to ht).symm]
    exact t1
  · obtain ⟨i1, i2⟩ := hI
    obtain ⟨U, u1, u2, u3⟩ := m_rows93 hD (br.kp i2 (fun q j h => by unfold kR at h; omega)) (nI to) (nI n) (nI i) (fX12_rows_84 (nI to) (nI n) f) i1
    refine ⟨U, ?_, u2, i2.tr u3⟩
    rw [fX12_rows_84]
    simp (disch := omega) only [lit, lm1, nI_add, pk_mul, nm_eq, nm_eq', nm_lt, nm_lt', nm_le, nm_le', x_lt, x_le, x_eq, x_in, x_cl, x_div, x_sub, x_rem, x_min, x_max, x_and, x_or, x_xor, x_df, x_shl, bI_0, bI_1, bI_bo, lg_eq, toL_inj, ls_nI, decide_eq_false_iff_not, decide_eq_true_eq, Bool.true_eq_false, Bool.false_eq_true, bq, if_pos, if_neg, if_true, if_false, lq, Nat.reduceAdd, Nat.reduceMul, Nat.reduceSub, Nat.reduceDiv, Nat.reduceMod, u1]
  · rw [fX12_rows_84]
    simp (disch := omega) only [lit, lm1, nI_add, pk_mul, nm_eq, nm_eq', nm_lt, nm_lt', nm_le, nm_le', x_lt, x_le, x_eq, x_in, x_cl, x_div, x_sub, x_rem, x_min, x_max, x_and, x_or, x_xor, x_df, x_shl, bI_0, bI_1, bI_bo, lg_eq, toL_inj, ls_nI, decide_eq_false_iff_not, decide_eq_true_eq, Bool.true_eq_false, Bool.false_eq_true, bq, if_pos, if_neg, if_true, if_false, lq, Nat.reduceAdd, Nat.reduceMul, Nat.reduceSub, Nat.reduceDiv, Nat.reduceMod]
end RW
theorem q_rows : cpQ_rows cpRl := by
  intro x1 x2 x3 S hR
  refine q1 hR (fun D E hD hE => ?_)
  have c4 := hD.c4
  have k6 := hD.k6
  have w1 := m_win 9 8 (by decide)
  rcases arg2 D x1 x2 with ⟨k, t, hk, ht, rfl, rfl⟩ | h
  · have ha := hE.at' k hk
    rcases in_or x3 9 with ⟨n, hn, rfl⟩ | h3
    · refine ⟨rwN D E k (E.at' k) n t, fun S c => ?_, fun S m => ?_⟩
      · obtain ⟨A, a1, a2, a3⟩ := c_learn hD hE c false hk
        have a1 : fX4_learn (nI k) (nI 0) S = some ((), A) := a1
        have cA' := c.cc (a3.le (fun _ _ => kL_C))
        obtain ⟨T, t1, t2⟩ := c_rowsOf hD cA' a2 ha ht (show n ≤ 8 by omega)
        refine ⟨T, ?_, (a3.le (fun _ _ => kL_C)).tr (t2.le (fun _ _ => kW_C))⟩
        unfold fX11_rows
        simp (disch := omega) only [lit, lm1, nI_add, pk_mul, nm_eq, nm_eq', nm_lt, nm_lt', nm_le, nm_le', x_lt, x_le, x_eq, x_in, x_cl, x_div, x_sub, x_rem, x_min, x_max, x_and, x_or, x_xor, x_df, x_shl, bI_0, bI_1, bI_bo, lg_eq, toL_inj, ls_nI, decide_eq_false_iff_not, decide_eq_true_eq, Bool.true_eq_false, Bool.false_eq_true, bq, if_pos, if_neg, if_true, if_false, lq, Nat.reduceAdd, Nat.reduceMul, Nat.reduceSub, Nat.reduceDiv, Nat.reduceMod, c_cap1 hD c hk ht, a1, cA'.at', t1]
      · have m0 := m.thr hD (nI 0)
        obtain ⟨A, a1, a2, a3, a4⟩ := m_laysBears hD hE m0 hk
        obtain ⟨T, t1, t2⟩ := m_rows42 hD hE a3.1 a2 hk ht (show n ≤ 8 by omega)
        refine ⟨T, ?_, ((kM_thr S (nI 0)).tr (a4.le (fun _ _ => kBG_M))).tr (t2.le (fun _ _ => kR_M))⟩
        unfold fX12_rows
        simp (disch := omega) only [lit, lm1, nI_add, pk_mul, nm_eq, nm_eq', nm_lt, nm_lt', nm_le, nm_le', x_lt, x_le, x_eq, x_in, x_cl, x_div, x_sub, x_rem, x_min, x_max, x_and, x_or, x_xor, x_df, x_shl, bI_0, bI_1, bI_bo, lg_eq, toL_inj, ls_nI, decide_eq_false_iff_not, decide_eq_true_eq, Bool.true_eq_false, Bool.false_eq_true, bq, if_pos, if_neg, if_true, if_false, lq, Nat.reduceAdd, Nat.reduceMul, Nat.reduceSub, Nat.reduceDiv, Nat.reduceMod, m_noCoin1 hD m0 hk ht, w1, a1]
        exact t1
    · refine ⟨-3, fun S c => ⟨S, ?_, Kp.rf⟩, fun S m => ⟨_, ?_, kM_thr S (nI 0)⟩⟩
      · unfold fX11_rows
        rcases arg_out 9 8 rfl (by decide) h3 with h | ⟨h, h', -⟩
        · simp (disch := omega) only [lit, lm1, nI_add, pk_mul, nm_eq, nm_eq', nm_lt, nm_lt', nm_le, nm_le', x_lt, x_le, x_eq, x_in, x_cl, x_div, x_sub, x_rem, x_min, x_max, x_and, x_or, x_xor, x_df, x_shl, bI_0, bI_1, bI_bo, lg_eq, toL_inj, ls_nI, decide_eq_false_iff_not, decide_eq_true_eq, Bool.true_eq_false, Bool.false_eq_true, bq, if_pos, if_neg, if_true, if_false, lq, Nat.reduceAdd, Nat.reduceMul, Nat.reduceSub, Nat.reduceDiv, Nat.reduceMod, c_cap1 hD c hk ht, h]
        · simp (disch := omega) only [lit, lm1, nI_add, pk_mul, nm_eq, nm_eq', nm_lt, nm_lt', nm_le, nm_le', x_lt, x_le, x_eq, x_in, x_cl, x_div, x_sub, x_rem, x_min, x_max, x_and, x_or, x_xor, x_df, x_shl, bI_0, bI_1, bI_bo, lg_eq, toL_inj, ls_nI, decide_eq_false_iff_not, decide_eq_true_eq, Bool.true_eq_false, Bool.false_eq_true, bq, if_pos, if_neg, if_true, if_false, lq, Nat.reduceAdd, Nat.reduceMul, Nat.reduceSub, Nat.reduceDiv, Nat.reduceMod, c_cap1 hD c hk ht, h, h']
      · unfold fX12_rows
        simp (disch := omega) only [lit, lm1, nI_add, pk_mul, nm_eq, nm_eq', nm_lt, nm_lt', nm_le, nm_le', x_lt, x_le, x_eq, x_in, x_cl, x_div, x_sub, x_rem, x_min, x_max, x_and, x_or, x_xor, x_df, x_shl, bI_0, bI_1, bI_bo, lg_eq, toL_inj, ls_nI, decide_eq_false_iff_not, decide_eq_true_eq, Bool.true_eq_false, Bool.false_eq_true, bq, if_pos, if_neg, if_true, if_false, lq, Nat.reduceAdd, Nat.reduceMul, Nat.reduceSub, Nat.reduceDiv, Nat.reduceMod, m_noCoin1 hD (m.thr hD (nI 0)) hk ht, w1, h3]
  · refine ⟨-2, fun S c => ⟨S, ?_, Kp.rf⟩, fun S m => ⟨_, ?_, kM_thr S (nI 0)⟩⟩
    · unfold fX11_rows
      simp (disch := omega) only [lit, lm1, nI_add, pk_mul, nm_eq, nm_eq', nm_lt, nm_lt', nm_le, nm_le', x_lt, x_le, x_eq, x_in, x_cl, x_div, x_sub, x_rem, x_min, x_max, x_and, x_or, x_xor, x_df, x_shl, bI_0, bI_1, bI_bo, lg_eq, toL_inj, ls_nI, decide_eq_false_iff_not, decide_eq_true_eq, Bool.true_eq_false, Bool.false_eq_true, bq, if_pos, if_neg, if_true, if_false, lq, Nat.reduceAdd, Nat.reduceMul, Nat.reduceSub, Nat.reduceDiv, Nat.reduceMod, c_coinAndPlace hD c, h]
    · have hno : fX12_noCoin x1 x2 (cpI S 150 0 (nI 0)) = some (-2, cpI S 150 0 (nI 0)) := by rw [m_noCoin hD (m.thr hD (nI 0)), h]; rfl
      unfold fX12_rows
      simp (disch := omega) only [lit, lm1, nI_add, pk_mul, nm_eq, nm_eq', nm_lt, nm_lt', nm_le, nm_le', x_lt, x_le, x_eq, x_in, x_cl, x_div, x_sub, x_rem, x_min, x_max, x_and, x_or, x_xor, x_df, x_shl, bI_0, bI_1, bI_bo, lg_eq, toL_inj, ls_nI, decide_eq_false_iff_not, decide_eq_true_eq, Bool.true_eq_false, Bool.false_eq_true, bq, if_pos, if_neg, if_true, if_false, lq, Nat.reduceAdd, Nat.reduceMul, Nat.reduceSub, Nat.reduceDiv, Nat.reduceMod, hno]
      rfl
