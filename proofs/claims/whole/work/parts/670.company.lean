/-! people together -/
def cpD.ev (D : cpD) : Nat := 2 ^ D.P - 1
theorem ev_1 (D : cpD) : D.ev + 1 = 2 ^ D.P := by unfold cpD.ev; have := Nat.one_le_two_pow (n := D.P); omega
theorem p2_256 {D : cpD} (hD : D.WF) : 2 ^ D.P ≤ 256 := pow_le (n := 8) hD.p8
theorem ev_bit (D : cpD) (i : Nat) : D.ev.testBit i = decide (i < D.P) := Nat.testBit_two_pow_sub_one D.P i
theorem two_lt {p n : Nat} (h : p < n) : 2 ^ p < 2 ^ n := Nat.pow_lt_pow_right (by decide) h
theorem df_lt {a b n : Nat} (h : a < 2 ^ n) : cpDf a b < 2 ^ n := Nat.xor_lt_two_pow h (Nat.lt_of_le_of_lt Nat.and_le_left h)
theorem or_lt {a b n : Nat} (h : a < 2 ^ n) (g : b < 2 ^ n) : a ||| b < 2 ^ n := Nat.or_lt_two_pow h g
section CO
variable {D : cpD} {E : cpE} {S : cpS}
theorem c_every (hD : D.WF) (c : cA D E S) : fX1_everybody S = some (nI D.ev, S) := by
  have p8 := hD.p8
  have := ev_1 D
  unfold fX1_everybody
  rw [c.P]
  simp (disch := omega) only [lit, lm1, nI_add, pk_mul, nm_eq, nm_eq', nm_lt, nm_lt', nm_le, nm_le', x_lt, x_le, x_eq, x_in, x_cl, x_div, x_sub, x_rem, x_min, x_max, x_and, x_or, x_xor, x_df, x_shl, bI_0, bI_1, bI_bo, lg_eq, toL_inj, ls_nI, decide_eq_false_iff_not, decide_eq_true_eq, Bool.true_eq_false, Bool.false_eq_true, bq, if_pos, if_neg, if_true, if_false, lq, Nat.reduceAdd, Nat.reduceMul, Nat.reduceSub, Nat.reduceDiv, Nat.reduceMod]
  rw [← this]; rfl
theorem m_every (hD : D.WF) (m : mA D E S) : fX12_everybody S = some (nI D.ev, S) := by
  have p8 := hD.p8
  have := ev_1 D
  unfold fX12_everybody
  rw [m.P]
  simp (disch := omega) only [lit, lm1, nI_add, pk_mul, nm_eq, nm_eq', nm_lt, nm_lt', nm_le, nm_le', x_lt, x_le, x_eq, x_in, x_cl, x_div, x_sub, x_rem, x_min, x_max, x_and, x_or, x_xor, x_df, x_shl, bI_0, bI_1, bI_bo, lg_eq, toL_inj, ls_nI, decide_eq_false_iff_not, decide_eq_true_eq, Bool.true_eq_false, Bool.false_eq_true, bq, if_pos, if_neg, if_true, if_false, lq, Nat.reduceAdd, Nat.reduceMul, Nat.reduceSub, Nat.reduceDiv, Nat.reduceMod]
  rw [← this]; rfl
theorem c_friends (hD : D.WF) (c : cA D E S) {p : Nat} (hp : p < 8) : fX1_friendsOf (nI p) S = some (nI (cpDf (cpDf D.ev (E.fd p)) (2 ^ p)), S) := by
  unfold fX1_friendsOf
  simp (disch := omega) only [lit, lm1, nI_add, pk_mul, nm_eq, nm_eq', nm_lt, nm_lt', nm_le, nm_le', x_lt, x_le, x_eq, x_in, x_cl, x_div, x_sub, x_rem, x_min, x_max, x_and, x_or, x_xor, x_df, x_shl, bI_0, bI_1, bI_bo, lg_eq, toL_inj, ls_nI, decide_eq_false_iff_not, decide_eq_true_eq, Bool.true_eq_false, Bool.false_eq_true, bq, if_pos, if_neg, if_true, if_false, lq, Nat.reduceAdd, Nat.reduceMul, Nat.reduceSub, Nat.reduceDiv, Nat.reduceMod, c_every hD c, c.fd]
theorem fr_set (D : cpD) {s : Nat} (f b : Nat) (h : s < 2 ^ D.P) : cpDf (cpDf D.ev f) b &&& s = cpDf (cpDf s f) b := by
  apply Nat.eq_of_testBit_eq
  intro i
  rw [Nat.testBit_and, df_bit, df_bit, df_bit, df_bit, ev_bit]
  by_cases hi : i < D.P
  · rw [decide_eq_true hi]
    cases s.testBit i <;> cases f.testBit i <;> cases b.testBit i <;> rfl
  · rw [decide_eq_false hi, bit_ge h (by omega)]
    cases f.testBit i <;> cases b.testBit i <;> rfl
/-! lifting -/
def lif (D : cpD) (E : cpE) (t set : Nat) : Nat := up (fun p a => if cnt (cpDf (cpDf set (E.fd p)) (2 ^ p)) < t then a else a ||| 2 ^ p) D.P 0 0
theorem lif_lt (D : cpD) (E : cpE) (t set : Nat) : lif D E t set < 2 ^ D.P := by
  unfold lif
  refine up_inv _ D.P (fun _ a => a < 2 ^ D.P) (fun i a hi h => ?_) D.P 0 0 (by omega) (Nat.two_pow_pos _)
  (try dsimp only)
  split
  · exact h
  · exact or_lt h (two_lt hi)
theorem c_liftNext (hD : D.WF) (c : cA D E S) {set t : Nat} (hs : set < 2 ^ D.P) (ht : t ≤ 8) : fX1_liftNext (nI set) (nI t) S = some (nI (lif D E t set), S) := by
  have p8 := hD.p8
  have p2 := p2_256 hD
  unfold fX1_liftNext lif
  simp only [lit]
  refine up_lp (F := fun n i (x : Int32) => fX1_liftNext_5 (nI set) (nI t) n x i S) (K := fun s => some (nI s, S)) D.P (fun p a => if cnt (cpDf (cpDf set (E.fd p)) (2 ^ p)) < t then a else a ||| 2 ^ p) (fun _ _ => True) nI (by omega) (fun n i s hi ok => ⟨?_, trivial⟩) (fun n s ok => ?_) (Nat.zero_le _) trivial
  · (try dsimp only)
    have h1 : cpDf (cpDf set (E.fd i)) (2 ^ i) < 256 := Nat.lt_of_lt_of_le (df_lt (df_lt hs)) p2
    have h2 := cnt_le (cpDf (cpDf set (E.fd i)) (2 ^ i))
    rw [fX1_liftNext_5]
    simp (disch := omega) only [lit, lm1, nI_add, pk_mul, nm_eq, nm_eq', nm_lt, nm_lt', nm_le, nm_le', x_lt, x_le, x_eq, x_in, x_cl, x_div, x_sub, x_rem, x_min, x_max, x_and, x_or, x_xor, x_df, x_shl, bI_0, bI_1, bI_bo, lg_eq, toL_inj, ls_nI, decide_eq_false_iff_not, decide_eq_true_eq, Bool.true_eq_false, Bool.false_eq_true, bq, if_pos, if_neg, if_true, if_false, lq, Nat.reduceAdd, Nat.reduceMul, Nat.reduceSub, Nat.reduceDiv, Nat.reduceMod, c.P, c_friends hD c (show i < 8 by omega), fr_set D _ _ hs, c_bc h1]
    by_cases h3 : cnt (cpDf (cpDf set (E.fd i)) (2 ^ i)) < t
    · rw [if_pos h3, if_pos h3]
    · rw [if_neg h3, if_neg h3]
  · (try dsimp only)
    rw [fX1_liftNext_5]
    simp (disch := omega) only [lit, lm1, nI_add, pk_mul, nm_eq, nm_eq', nm_lt, nm_lt', nm_le, nm_le', x_lt, x_le, x_eq, x_in, x_cl, x_div, x_sub, x_rem, x_min, x_max, x_and, x_or, x_xor, x_df, x_shl, bI_0, bI_1, bI_bo, lg_eq, toL_inj, ls_nI, decide_eq_false_iff_not, decide_eq_true_eq, Bool.true_eq_false, Bool.false_eq_true, bq, if_pos, if_neg, if_true, if_false, lq, Nat.reduceAdd, Nat.reduceMul, Nat.reduceSub, Nat.reduceDiv, Nat.reduceMod, c.P]
theorem or_0 (a : Nat) : a ||| 0 = a := Nat.or_zero a
theorem m_liftsTo (hD : D.WF) (m : mA D E S) {set t : Nat} (hs : set < 2 ^ D.P) (ht : t ≤ 8) : fX12_liftsTo (nI set) (nI t) S = some (nI (lif D E t set), S) := by
  have p8 := hD.p8
  have p2 := p2_256 hD
  unfold fX12_liftsTo lif
  simp only [lit]
  refine up_lp (F := fun n i (x : Int32) => fX12_liftsTo_5 (nI set) (nI t) n x i S) (K := fun s => some (nI s, S)) D.P (fun p a => if cnt (cpDf (cpDf set (E.fd p)) (2 ^ p)) < t then a else a ||| 2 ^ p) (fun _ _ => True) nI (by omega) (fun n i s hi ok => ⟨?_, trivial⟩) (fun n s ok => ?_) (Nat.zero_le _) trivial
  · (try dsimp only)
    have h1 : cpDf (cpDf set (E.fd i)) (2 ^ i) < 256 := Nat.lt_of_lt_of_le (df_lt (df_lt hs)) p2
    have h2 := cnt_le (cpDf (cpDf set (E.fd i)) (2 ^ i))
    rw [fX12_liftsTo_5]
    simp (disch := omega) only [lit, lm1, nI_add, pk_mul, nm_eq, nm_eq', nm_lt, nm_lt', nm_le, nm_le', x_lt, x_le, x_eq, x_in, x_cl, x_div, x_sub, x_rem, x_min, x_max, x_and, x_or, x_xor, x_df, x_shl, bI_0, bI_1, bI_bo, lg_eq, toL_inj, ls_nI, decide_eq_false_iff_not, decide_eq_true_eq, Bool.true_eq_false, Bool.false_eq_true, bq, if_pos, if_neg, if_true, if_false, lq, Nat.reduceAdd, Nat.reduceMul, Nat.reduceSub, Nat.reduceDiv, Nat.reduceMod, m.P, m.fd, m_bits h1, or_0]
    by_cases h3 : cnt (cpDf (cpDf set (E.fd i)) (2 ^ i)) < t
    · rw [if_pos h3, if_pos h3]
    · rw [if_neg h3, if_neg h3]
  · (try dsimp only)
    rw [fX12_liftsTo_5]
    simp (disch := omega) only [lit, lm1, nI_add, pk_mul, nm_eq, nm_eq', nm_lt, nm_lt', nm_le, nm_le', x_lt, x_le, x_eq, x_in, x_cl, x_div, x_sub, x_rem, x_min, x_max, x_and, x_or, x_xor, x_df, x_shl, bI_0, bI_1, bI_bo, lg_eq, toL_inj, ls_nI, decide_eq_false_iff_not, decide_eq_true_eq, Bool.true_eq_false, Bool.false_eq_true, bq, if_pos, if_neg, if_true, if_false, lq, Nat.reduceAdd, Nat.reduceMul, Nat.reduceSub, Nat.reduceDiv, Nat.reduceMod, m.P]
theorem c_lifting (hD : D.WF) (c : cA D E S) {set t k : Nat} (hs : set < 2 ^ D.P) (ht : t ≤ 8) (hk : k ≤ 999) : fX11_lifting_48 (nI t) (nI k) cpFu (nI set) (nI 0) S = some (nI (up (fun _ a => lif D E t a) k 0 set), S) := by
  refine up_lp (F := fun n i (x : Int32) => fX11_lifting_48 (nI t) (nI k) n x i S) (K := fun s => some (nI s, S)) k (fun _ a => lif D E t a) (fun _ a => a < 2 ^ D.P) nI (by omega) (fun n i s hi ok => ⟨?_, lif_lt D E t s⟩) (fun n s ok => ?_) (Nat.zero_le _) hs
  · (try dsimp only)
    rw [fX11_lifting_48]
    simp (disch := omega) only [lit, lm1, nI_add, pk_mul, nm_eq, nm_eq', nm_lt, nm_lt', nm_le, nm_le', x_lt, x_le, x_eq, x_in, x_cl, x_div, x_sub, x_rem, x_min, x_max, x_and, x_or, x_xor, x_df, x_shl, bI_0, bI_1, bI_bo, lg_eq, toL_inj, ls_nI, decide_eq_false_iff_not, decide_eq_true_eq, Bool.true_eq_false, Bool.false_eq_true, bq, if_pos, if_neg, if_true, if_false, lq, Nat.reduceAdd, Nat.reduceMul, Nat.reduceSub, Nat.reduceDiv, Nat.reduceMod, c_liftNext hD c ok ht]
  · (try dsimp only)
    rw [fX11_lifting_48]
    simp (disch := omega) only [lit, lm1, nI_add, pk_mul, nm_eq, nm_eq', nm_lt, nm_lt', nm_le, nm_le', x_lt, x_le, x_eq, x_in, x_cl, x_div, x_sub, x_rem, x_min, x_max, x_and, x_or, x_xor, x_df, x_shl, bI_0, bI_1, bI_bo, lg_eq, toL_inj, ls_nI, decide_eq_false_iff_not, decide_eq_true_eq, Bool.true_eq_false, Bool.false_eq_true, bq, if_pos, if_neg, if_true, if_false, lq, Nat.reduceAdd, Nat.reduceMul, Nat.reduceSub, Nat.reduceDiv, Nat.reduceMod]
theorem m_lifting (hD : D.WF) (m : mA D E S) {set t k : Nat} (hs : set < 2 ^ D.P) (ht : t ≤ 8) (hk : k ≤ 999) : fX12_lifting_55 (nI t) (nI k) cpFu (nI set) (nI 0) S = some (nI (up (fun _ a => lif D E t a) k 0 set), S) := by
  refine up_lp (F := fun n i (x : Int32) => fX12_lifting_55 (nI t) (nI k) n x i S) (K := fun s => some (nI s, S)) k (fun _ a => lif D E t a) (fun _ a => a < 2 ^ D.P) nI (by omega) (fun n i s hi ok => ⟨?_, lif_lt D E t s⟩) (fun n s ok => ?_) (Nat.zero_le _) hs
  · (try dsimp only)
    rw [fX12_lifting_55]
    simp (disch := omega) only [lit, lm1, nI_add, pk_mul, nm_eq, nm_eq', nm_lt, nm_lt', nm_le, nm_le', x_lt, x_le, x_eq, x_in, x_cl, x_div, x_sub, x_rem, x_min, x_max, x_and, x_or, x_xor, x_df, x_shl, bI_0, bI_1, bI_bo, lg_eq, toL_inj, ls_nI, decide_eq_false_iff_not, decide_eq_true_eq, Bool.true_eq_false, Bool.false_eq_true, bq, if_pos, if_neg, if_true, if_false, lq, Nat.reduceAdd, Nat.reduceMul, Nat.reduceSub, Nat.reduceDiv, Nat.reduceMod, m_liftsTo hD m ok ht]
  · (try dsimp only)
    rw [fX12_lifting_55]
    simp (disch := omega) only [lit, lm1, nI_add, pk_mul, nm_eq, nm_eq', nm_lt, nm_lt', nm_le, nm_le', x_lt, x_le, x_eq, x_in, x_cl, x_div, x_sub, x_rem, x_min, x_max, x_and, x_or, x_xor, x_df, x_shl, bI_0, bI_1, bI_bo, lg_eq, toL_inj, ls_nI, decide_eq_false_iff_not, decide_eq_true_eq, Bool.true_eq_false, Bool.false_eq_true, bq, if_pos, if_neg, if_true, if_false, lq, Nat.reduceAdd, Nat.reduceMul, Nat.reduceSub, Nat.reduceDiv, Nat.reduceMod]
end CO
theorem q_lifting : cpQ_lifting cpRl := by
  intro x1 x2 x3 S hR
  refine q0 hR (fun D E hD hE => ?_)
  have p2 := p2_256 hD
  have e1 := ev_1 D
  have hw : (Int32.toInt64 (nI D.ev)).toInt = ((2 ^ D.P : Nat) : Int) - 1 := by rw [i2l_toInt, nI_toInt (by omega)]; omega
  have w1 := m_win (2 ^ D.P) (Int32.toInt64 (nI D.ev)) hw
  have w2 := m_win 9 8 (by decide)
  have w3 := m_win 1000 999 (by decide)
  rcases in_or x1 (2 ^ D.P) with ⟨s, hs, rfl⟩ | h1
  · rcases in_or x2 9 with ⟨t, ht, rfl⟩ | h2
    · rcases in_or x3 1000 with ⟨k, hk, rfl⟩ | h3
      · refine ⟨nI (up (fun _ a => lif D E t a) k 0 s), fun S c => ?_, fun S m => ?_⟩
        · unfold fX11_lifting
          simp (disch := omega) only [lit, lm1, nI_add, pk_mul, nm_eq, nm_eq', nm_lt, nm_lt', nm_le, nm_le', x_lt, x_le, x_eq, x_in, x_cl, x_div, x_sub, x_rem, x_min, x_max, x_and, x_or, x_xor, x_df, x_shl, bI_0, bI_1, bI_bo, lg_eq, toL_inj, ls_nI, decide_eq_false_iff_not, decide_eq_true_eq, Bool.true_eq_false, Bool.false_eq_true, bq, if_pos, if_neg, if_true, if_false, lq, Nat.reduceAdd, Nat.reduceMul, Nat.reduceSub, Nat.reduceDiv, Nat.reduceMod, c_every hD c, c_lifting hD c hs (show t ≤ 8 by omega) (show k ≤ 999 by omega)]
        · unfold fX12_lifting
          simp (disch := omega) only [lit, lm1, nI_add, pk_mul, nm_eq, nm_eq', nm_lt, nm_lt', nm_le, nm_le', x_lt, x_le, x_eq, x_in, x_cl, x_div, x_sub, x_rem, x_min, x_max, x_and, x_or, x_xor, x_df, x_shl, bI_0, bI_1, bI_bo, lg_eq, toL_inj, ls_nI, decide_eq_false_iff_not, decide_eq_true_eq, Bool.true_eq_false, Bool.false_eq_true, bq, if_pos, if_neg, if_true, if_false, lq, Nat.reduceAdd, Nat.reduceMul, Nat.reduceSub, Nat.reduceDiv, Nat.reduceMod, m_every hD m, w1, w2, w3, m_lifting hD m hs (show t ≤ 8 by omega) (show k ≤ 999 by omega)]
      · refine ⟨-3, fun S c => ?_, fun S m => ?_⟩
        · unfold fX11_lifting
          rcases arg_out 1000 999 rfl (by decide) h3 with h | ⟨h, h', -⟩
          · simp (disch := omega) only [lit, lm1, nI_add, pk_mul, nm_eq, nm_eq', nm_lt, nm_lt', nm_le, nm_le', x_lt, x_le, x_eq, x_in, x_cl, x_div, x_sub, x_rem, x_min, x_max, x_and, x_or, x_xor, x_df, x_shl, bI_0, bI_1, bI_bo, lg_eq, toL_inj, ls_nI, decide_eq_false_iff_not, decide_eq_true_eq, Bool.true_eq_false, Bool.false_eq_true, bq, if_pos, if_neg, if_true, if_false, lq, Nat.reduceAdd, Nat.reduceMul, Nat.reduceSub, Nat.reduceDiv, Nat.reduceMod, c_every hD c, h]
          · simp (disch := omega) only [lit, lm1, nI_add, pk_mul, nm_eq, nm_eq', nm_lt, nm_lt', nm_le, nm_le', x_lt, x_le, x_eq, x_in, x_cl, x_div, x_sub, x_rem, x_min, x_max, x_and, x_or, x_xor, x_df, x_shl, bI_0, bI_1, bI_bo, lg_eq, toL_inj, ls_nI, decide_eq_false_iff_not, decide_eq_true_eq, Bool.true_eq_false, Bool.false_eq_true, bq, if_pos, if_neg, if_true, if_false, lq, Nat.reduceAdd, Nat.reduceMul, Nat.reduceSub, Nat.reduceDiv, Nat.reduceMod, c_every hD c, h, h']
        · unfold fX12_lifting
          simp (disch := omega) only [lit, lm1, nI_add, pk_mul, nm_eq, nm_eq', nm_lt, nm_lt', nm_le, nm_le', x_lt, x_le, x_eq, x_in, x_cl, x_div, x_sub, x_rem, x_min, x_max, x_and, x_or, x_xor, x_df, x_shl, bI_0, bI_1, bI_bo, lg_eq, toL_inj, ls_nI, decide_eq_false_iff_not, decide_eq_true_eq, Bool.true_eq_false, Bool.false_eq_true, bq, if_pos, if_neg, if_true, if_false, lq, Nat.reduceAdd, Nat.reduceMul, Nat.reduceSub, Nat.reduceDiv, Nat.reduceMod, m_every hD m, w1, w2, w3, h3]
    · refine ⟨-3, fun S c => ?_, fun S m => ?_⟩
      · unfold fX11_lifting
        rcases arg_out 9 8 rfl (by decide) h2 with h | ⟨h, -, h', -⟩
        · simp (disch := omega) only [lit, lm1, nI_add, pk_mul, nm_eq, nm_eq', nm_lt, nm_lt', nm_le, nm_le', x_lt, x_le, x_eq, x_in, x_cl, x_div, x_sub, x_rem, x_min, x_max, x_and, x_or, x_xor, x_df, x_shl, bI_0, bI_1, bI_bo, lg_eq, toL_inj, ls_nI, decide_eq_false_iff_not, decide_eq_true_eq, Bool.true_eq_false, Bool.false_eq_true, bq, if_pos, if_neg, if_true, if_false, lq, Nat.reduceAdd, Nat.reduceMul, Nat.reduceSub, Nat.reduceDiv, Nat.reduceMod, c_every hD c, h]
        · simp (disch := omega) only [lit, lm1, nI_add, pk_mul, nm_eq, nm_eq', nm_lt, nm_lt', nm_le, nm_le', x_lt, x_le, x_eq, x_in, x_cl, x_div, x_sub, x_rem, x_min, x_max, x_and, x_or, x_xor, x_df, x_shl, bI_0, bI_1, bI_bo, lg_eq, toL_inj, ls_nI, decide_eq_false_iff_not, decide_eq_true_eq, Bool.true_eq_false, Bool.false_eq_true, bq, if_pos, if_neg, if_true, if_false, lq, Nat.reduceAdd, Nat.reduceMul, Nat.reduceSub, Nat.reduceDiv, Nat.reduceMod, c_every hD c, h, h']
      · unfold fX12_lifting
        simp (disch := omega) only [lit, lm1, nI_add, pk_mul, nm_eq, nm_eq', nm_lt, nm_lt', nm_le, nm_le', x_lt, x_le, x_eq, x_in, x_cl, x_div, x_sub, x_rem, x_min, x_max, x_and, x_or, x_xor, x_df, x_shl, bI_0, bI_1, bI_bo, lg_eq, toL_inj, ls_nI, decide_eq_false_iff_not, decide_eq_true_eq, Bool.true_eq_false, Bool.false_eq_true, bq, if_pos, if_neg, if_true, if_false, lq, Nat.reduceAdd, Nat.reduceMul, Nat.reduceSub, Nat.reduceDiv, Nat.reduceMod, m_every hD m, w1, w2, h2]
  · refine ⟨-2, fun S c => ?_, fun S m => ?_⟩
    · unfold fX11_lifting
      rcases arg_out (2 ^ D.P) D.ev e1.symm (by omega) h1 with h | ⟨h, h', -⟩
      · simp (disch := omega) only [lit, lm1, nI_add, pk_mul, nm_eq, nm_eq', nm_lt, nm_lt', nm_le, nm_le', x_lt, x_le, x_eq, x_in, x_cl, x_div, x_sub, x_rem, x_min, x_max, x_and, x_or, x_xor, x_df, x_shl, bI_0, bI_1, bI_bo, lg_eq, toL_inj, ls_nI, decide_eq_false_iff_not, decide_eq_true_eq, Bool.true_eq_false, Bool.false_eq_true, bq, if_pos, if_neg, if_true, if_false, lq, Nat.reduceAdd, Nat.reduceMul, Nat.reduceSub, Nat.reduceDiv, Nat.reduceMod, c_every hD c, h]
      · simp (disch := omega) only [lit, lm1, nI_add, pk_mul, nm_eq, nm_eq', nm_lt, nm_lt', nm_le, nm_le', x_lt, x_le, x_eq, x_in, x_cl, x_div, x_sub, x_rem, x_min, x_max, x_and, x_or, x_xor, x_df, x_shl, bI_0, bI_1, bI_bo, lg_eq, toL_inj, ls_nI, decide_eq_false_iff_not, decide_eq_true_eq, Bool.true_eq_false, Bool.false_eq_true, bq, if_pos, if_neg, if_true, if_false, lq, Nat.reduceAdd, Nat.reduceMul, Nat.reduceSub, Nat.reduceDiv, Nat.reduceMod, c_every hD c, h, h']
    · unfold fX12_lifting
      simp (disch := omega) only [lit, lm1, nI_add, pk_mul, nm_eq, nm_eq', nm_lt, nm_lt', nm_le, nm_le', x_lt, x_le, x_eq, x_in, x_cl, x_div, x_sub, x_rem, x_min, x_max, x_and, x_or, x_xor, x_df, x_shl, bI_0, bI_1, bI_bo, lg_eq, toL_inj, ls_nI, decide_eq_false_iff_not, decide_eq_true_eq, Bool.true_eq_false, Bool.false_eq_true, bq, if_pos, if_neg, if_true, if_false, lq, Nat.reduceAdd, Nat.reduceMul, Nat.reduceSub, Nat.reduceDiv, Nat.reduceMod, m_every hD m, w1, h1]
section TA
variable {D : cpD} {E : cpE} {S : cpS}
/-! talk -/
def tel (D : cpD) (E : cpE) (set : Nat) : Nat := up (fun p a => if set.testBit p then a ||| cpDf D.ev (E.fd p) else a) D.P 0 set
theorem ev_lt2 (D : cpD) : D.ev < 2 ^ D.P := by have := ev_1 D; omega
theorem tel_lt (D : cpD) (E : cpE) {set : Nat} (h : set < 2 ^ D.P) : tel D E set < 2 ^ D.P := by
  unfold tel
  refine up_inv _ D.P (fun _ a => a < 2 ^ D.P) (fun i a hi h => ?_) D.P 0 set (by omega) h
  (try dsimp only)
  split
  · exact or_lt h (df_lt (ev_lt2 D))
  · exact h
theorem or_self_bit {a x p : Nat} (h : a.testBit p = true) : a ||| cpDf x (2 ^ p) = a ||| x := by
  apply Nat.eq_of_testBit_eq
  intro i
  rw [Nat.testBit_or, Nat.testBit_or, df_bit, Nat.testBit_two_pow]
  by_cases e : p = i
  · subst e; rw [h]; simp
  · rw [decide_eq_false e]; simp
theorem c_tellOn (hD : D.WF) (c : cA D E S) {set : Nat} (hs : set < 2 ^ D.P) : fX1_tellOn (nI set) S = some (nI (tel D E set), S) := by
  have p8 := hD.p8
  have p2 := p2_256 hD
  unfold fX1_tellOn tel
  simp only [lit]
  refine up_lp (F := fun n i (x : Int32) => fX1_tellOn_4 (nI set) n x i S) (K := fun s => some (nI s, S)) D.P (fun p a => if set.testBit p then a ||| cpDf D.ev (E.fd p) else a) (fun _ a => ∀ q, set.testBit q = true → a.testBit q = true) nI (by omega) (fun n i s hi ok => ⟨?_, fun q hq => ?_⟩) (fun n s ok => ?_) (Nat.zero_le _) (fun _ h => h)
  · (try dsimp only)
    rw [fX1_tellOn_4]
    simp (disch := omega) only [lit, lm1, nI_add, pk_mul, nm_eq, nm_eq', nm_lt, nm_lt', nm_le, nm_le', x_lt, x_le, x_eq, x_in, x_cl, x_div, x_sub, x_rem, x_min, x_max, x_and, x_or, x_xor, x_df, x_shl, bI_0, bI_1, bI_bo, lg_eq, toL_inj, ls_nI, decide_eq_false_iff_not, decide_eq_true_eq, Bool.true_eq_false, Bool.false_eq_true, bq, if_pos, if_neg, if_true, if_false, lq, Nat.reduceAdd, Nat.reduceMul, Nat.reduceSub, Nat.reduceDiv, Nat.reduceMod, c.P, e_isIn, c_friends hD c (show i < 8 by omega)]
    cases hb : set.testBit i
    · rfl
    · rw [or_self_bit (ok i hb)]; rfl
  · (try dsimp only)
    split
    · rw [Nat.testBit_or, ok q hq]; rfl
    · exact ok q hq
  · (try dsimp only)
    rw [fX1_tellOn_4]
    simp (disch := omega) only [lit, lm1, nI_add, pk_mul, nm_eq, nm_eq', nm_lt, nm_lt', nm_le, nm_le', x_lt, x_le, x_eq, x_in, x_cl, x_div, x_sub, x_rem, x_min, x_max, x_and, x_or, x_xor, x_df, x_shl, bI_0, bI_1, bI_bo, lg_eq, toL_inj, ls_nI, decide_eq_false_iff_not, decide_eq_true_eq, Bool.true_eq_false, Bool.false_eq_true, bq, if_pos, if_neg, if_true, if_false, lq, Nat.reduceAdd, Nat.reduceMul, Nat.reduceSub, Nat.reduceDiv, Nat.reduceMod, c.P]
theorem m_heardTo (hD : D.WF) (m : mA D E S) {set : Nat} (hs : set < 2 ^ D.P) : fX12_heardTo (nI set) S = some (nI (tel D E set), S) := by
  have p8 := hD.p8
  have p2 := p2_256 hD
  unfold fX12_heardTo tel
  simp only [lit]
  refine up_lp (F := fun n i (x : Int32) => fX12_heardTo_4 (nI set) n x i S) (K := fun s => some (nI s, S)) D.P (fun p a => if set.testBit p then a ||| cpDf D.ev (E.fd p) else a) (fun _ _ => True) nI (by omega) (fun n i s hi ok => ⟨?_, trivial⟩) (fun n s ok => ?_) (Nat.zero_le _) trivial
  · (try dsimp only)
    rw [fX12_heardTo_4]
    simp (disch := omega) only [lit, lm1, nI_add, pk_mul, nm_eq, nm_eq', nm_lt, nm_lt', nm_le, nm_le', x_lt, x_le, x_eq, x_in, x_cl, x_div, x_sub, x_rem, x_min, x_max, x_and, x_or, x_xor, x_df, x_shl, bI_0, bI_1, bI_bo, lg_eq, toL_inj, ls_nI, decide_eq_false_iff_not, decide_eq_true_eq, Bool.true_eq_false, Bool.false_eq_true, bq, if_pos, if_neg, if_true, if_false, lq, Nat.reduceAdd, Nat.reduceMul, Nat.reduceSub, Nat.reduceDiv, Nat.reduceMod, m.P, m_isIn, m_every hD m, m.fd, or_0]
    cases hb : set.testBit i <;> rfl
  · (try dsimp only)
    rw [fX12_heardTo_4]
    simp (disch := omega) only [lit, lm1, nI_add, pk_mul, nm_eq, nm_eq', nm_lt, nm_lt', nm_le, nm_le', x_lt, x_le, x_eq, x_in, x_cl, x_div, x_sub, x_rem, x_min, x_max, x_and, x_or, x_xor, x_df, x_shl, bI_0, bI_1, bI_bo, lg_eq, toL_inj, ls_nI, decide_eq_false_iff_not, decide_eq_true_eq, Bool.true_eq_false, Bool.false_eq_true, bq, if_pos, if_neg, if_true, if_false, lq, Nat.reduceAdd, Nat.reduceMul, Nat.reduceSub, Nat.reduceDiv, Nat.reduceMod, m.P]
def hrd (D : cpD) (E : cpE) (p n : Nat) : Nat := up (fun _ a => tel D E a) n 0 (2 ^ p)
theorem hrd_lt (D : cpD) (E : cpE) {p n : Nat} (hp : p < D.P) : hrd D E p n < 2 ^ D.P := by
  unfold hrd
  exact up_inv _ n (fun _ a => a < 2 ^ D.P) (fun i a hi h => tel_lt D E h) n 0 _ (by omega) (two_lt hp)
theorem hrd_s (D : cpD) (E : cpE) (p n : Nat) : hrd D E p (n + 1) = tel D E (hrd D E p n) := up_last _ n 0 _
theorem c_heard (hD : D.WF) (c : cA D E S) {p n : Nat} (hp : p < D.P) (hn : n ≤ 8) : fX1_heardBehind (nI p) (nI n) S = some (nI (hrd D E p n), S) := by
  have p8 := hD.p8
  unfold fX1_heardBehind hrd
  simp (disch := omega) only [lit, lm1, nI_add, pk_mul, nm_eq, nm_eq', nm_lt, nm_lt', nm_le, nm_le', x_lt, x_le, x_eq, x_in, x_cl, x_div, x_sub, x_rem, x_min, x_max, x_and, x_or, x_xor, x_df, x_shl, bI_0, bI_1, bI_bo, lg_eq, toL_inj, ls_nI, decide_eq_false_iff_not, decide_eq_true_eq, Bool.true_eq_false, Bool.false_eq_true, bq, if_pos, if_neg, if_true, if_false, lq, Nat.reduceAdd, Nat.reduceMul, Nat.reduceSub, Nat.reduceDiv, Nat.reduceMod]
  refine up_lp (F := fun f i (x : Int32) => fX1_heardBehind_7 (nI n) f x i S) (K := fun s => some (nI s, S)) n (fun _ a => tel D E a) (fun _ a => a < 2 ^ D.P) nI (by omega) (fun f i s hi ok => ⟨?_, tel_lt D E ok⟩) (fun f s ok => ?_) (Nat.zero_le _) (two_lt hp)
  · (try dsimp only)
    rw [fX1_heardBehind_7]
    simp (disch := omega) only [lit, lm1, nI_add, pk_mul, nm_eq, nm_eq', nm_lt, nm_lt', nm_le, nm_le', x_lt, x_le, x_eq, x_in, x_cl, x_div, x_sub, x_rem, x_min, x_max, x_and, x_or, x_xor, x_df, x_shl, bI_0, bI_1, bI_bo, lg_eq, toL_inj, ls_nI, decide_eq_false_iff_not, decide_eq_true_eq, Bool.true_eq_false, Bool.false_eq_true, bq, if_pos, if_neg, if_true, if_false, lq, Nat.reduceAdd, Nat.reduceMul, Nat.reduceSub, Nat.reduceDiv, Nat.reduceMod, c_tellOn hD c ok]
  · (try dsimp only)
    rw [fX1_heardBehind_7]
    simp (disch := omega) only [lit, lm1, nI_add, pk_mul, nm_eq, nm_eq', nm_lt, nm_lt', nm_le, nm_le', x_lt, x_le, x_eq, x_in, x_cl, x_div, x_sub, x_rem, x_min, x_max, x_and, x_or, x_xor, x_df, x_shl, bI_0, bI_1, bI_bo, lg_eq, toL_inj, ls_nI, decide_eq_false_iff_not, decide_eq_true_eq, Bool.true_eq_false, Bool.false_eq_true, bq, if_pos, if_neg, if_true, if_false, lq, Nat.reduceAdd, Nat.reduceMul, Nat.reduceSub, Nat.reduceDiv, Nat.reduceMod]
theorem m_talk39 (hD : D.WF) (m : mA D E S) {p n : Nat} (hp : p < D.P) (hn : n ≤ 8) : fX12_talk_39 (nI n) cpFu (nI (2 ^ p)) (nI 0) S = some (nI (hrd D E p n), S) := by
  have p8 := hD.p8
  unfold hrd
  refine up_lp (F := fun f i (x : Int32) => fX12_talk_39 (nI n) f x i S) (K := fun s => some (nI s, S)) n (fun _ a => tel D E a) (fun _ a => a < 2 ^ D.P) nI (by omega) (fun f i s hi ok => ⟨?_, tel_lt D E ok⟩) (fun f s ok => ?_) (Nat.zero_le _) (two_lt hp)
  · (try dsimp only)
    rw [fX12_talk_39]
    simp (disch := omega) only [lit, lm1, nI_add, pk_mul, nm_eq, nm_eq', nm_lt, nm_lt', nm_le, nm_le', x_lt, x_le, x_eq, x_in, x_cl, x_div, x_sub, x_rem, x_min, x_max, x_and, x_or, x_xor, x_df, x_shl, bI_0, bI_1, bI_bo, lg_eq, toL_inj, ls_nI, decide_eq_false_iff_not, decide_eq_true_eq, Bool.true_eq_false, Bool.false_eq_true, bq, if_pos, if_neg, if_true, if_false, lq, Nat.reduceAdd, Nat.reduceMul, Nat.reduceSub, Nat.reduceDiv, Nat.reduceMod, m_heardTo hD m ok]
  · (try dsimp only)
    rw [fX12_talk_39]
    simp (disch := omega) only [lit, lm1, nI_add, pk_mul, nm_eq, nm_eq', nm_lt, nm_lt', nm_le, nm_le', x_lt, x_le, x_eq, x_in, x_cl, x_div, x_sub, x_rem, x_min, x_max, x_and, x_or, x_xor, x_df, x_shl, bI_0, bI_1, bI_bo, lg_eq, toL_inj, ls_nI, decide_eq_false_iff_not, decide_eq_true_eq, Bool.true_eq_false, Bool.false_eq_true, bq, if_pos, if_neg, if_true, if_false, lq, Nat.reduceAdd, Nat.reduceMul, Nat.reduceSub, Nat.reduceDiv, Nat.reduceMod]
def oI (o : Option Nat) : Int32 := match o with
  | none => nM
  | some k => nI k
theorem c_told16 (hD : D.WF) (c : cA D E S) {p : Nat} (hp : p < D.P) : fX11_told_16 (nI p) cpFu (nI 0) S = some (oI (ff (fun n => decide (hrd D E p n = D.ev)) 9 0), S) := by
  have p2 := p2_256 hD
  have e1 := ev_1 D
  refine ff_lp (F := fun f i (T : cpS) => fX11_told_16 (nI p) f i T) 9 (fun n => decide (hrd D E p n = D.ev)) (fun _ T => T = S) (fun o r => r = some (oI o, S)) (by decide) (fun f i T hi hT hp' => ⟨S, ?_, rfl⟩) (fun f i T hi hT hp' => ?_) (fun f T hT => ?_) (i0 := 0) (a := S) (Nat.zero_le _) rfl
  · subst hT
    have h2 := hrd_lt D E (n := i) hp
    have := of_decide_eq_false hp'
    (try dsimp only)
    rw [fX11_told_16]
    simp (disch := omega) only [lit, lm1, nI_add, pk_mul, nm_eq, nm_eq', nm_lt, nm_lt', nm_le, nm_le', x_lt, x_le, x_eq, x_in, x_cl, x_div, x_sub, x_rem, x_min, x_max, x_and, x_or, x_xor, x_df, x_shl, bI_0, bI_1, bI_bo, lg_eq, toL_inj, ls_nI, decide_eq_false_iff_not, decide_eq_true_eq, Bool.true_eq_false, Bool.false_eq_true, bq, if_pos, if_neg, if_true, if_false, lq, Nat.reduceAdd, Nat.reduceMul, Nat.reduceSub, Nat.reduceDiv, Nat.reduceMod, c_heard hD c hp (show i ≤ 8 by omega), c_every hD c, this]
  · subst hT
    have h2 := hrd_lt D E (n := i) hp
    have := of_decide_eq_true hp'
    (try dsimp only)
    rw [fX11_told_16]
    simp (disch := omega) only [lit, lm1, nI_add, pk_mul, nm_eq, nm_eq', nm_lt, nm_lt', nm_le, nm_le', x_lt, x_le, x_eq, x_in, x_cl, x_div, x_sub, x_rem, x_min, x_max, x_and, x_or, x_xor, x_df, x_shl, bI_0, bI_1, bI_bo, lg_eq, toL_inj, ls_nI, decide_eq_false_iff_not, decide_eq_true_eq, Bool.true_eq_false, Bool.false_eq_true, bq, if_pos, if_neg, if_true, if_false, lq, Nat.reduceAdd, Nat.reduceMul, Nat.reduceSub, Nat.reduceDiv, Nat.reduceMod, c_heard hD c hp (show i ≤ 8 by omega), c_every hD c, this]
    rfl
  · subst hT
    (try dsimp only)
    rw [fX11_told_16]
    simp (disch := omega) only [lit, lm1, nI_add, pk_mul, nm_eq, nm_eq', nm_lt, nm_lt', nm_le, nm_le', x_lt, x_le, x_eq, x_in, x_cl, x_div, x_sub, x_rem, x_min, x_max, x_and, x_or, x_xor, x_df, x_shl, bI_0, bI_1, bI_bo, lg_eq, toL_inj, ls_nI, decide_eq_false_iff_not, decide_eq_true_eq, Bool.true_eq_false, Bool.false_eq_true, bq, if_pos, if_neg, if_true, if_false, lq, Nat.reduceAdd, Nat.reduceMul, Nat.reduceSub, Nat.reduceDiv, Nat.reduceMod]
    rfl
theorem m_told23 (hD : D.WF) (m : mA D E S) {p : Nat} (hp : p < D.P) : fX12_told_23 cpFu (nI (2 ^ p)) (nI 0) S = some (oI (ff (fun n => decide (hrd D E p n = D.ev)) 9 0), S) := by
  have p2 := p2_256 hD
  have e1 := ev_1 D
  refine ff_lp (F := fun f i (x : Int32) => fX12_told_23 f x i S) 9 (fun n => decide (hrd D E p n = D.ev)) (fun i x => x = nI (hrd D E p i)) (fun o r => r = some (oI o, S)) (by decide) (fun f i x hi hT hp' => ⟨nI (hrd D E p (i + 1)), ?_, rfl⟩) (fun f i x hi hT hp' => ?_) (fun f x hT => ?_) (i0 := 0) (a := nI (2 ^ p)) (Nat.zero_le _) rfl
  · subst hT
    have h2 := hrd_lt D E (n := i) hp
    have := of_decide_eq_false hp'
    (try dsimp only)
    rw [fX12_told_23]
    simp (disch := omega) only [lit, lm1, nI_add, pk_mul, nm_eq, nm_eq', nm_lt, nm_lt', nm_le, nm_le', x_lt, x_le, x_eq, x_in, x_cl, x_div, x_sub, x_rem, x_min, x_max, x_and, x_or, x_xor, x_df, x_shl, bI_0, bI_1, bI_bo, lg_eq, toL_inj, ls_nI, decide_eq_false_iff_not, decide_eq_true_eq, Bool.true_eq_false, Bool.false_eq_true, bq, if_pos, if_neg, if_true, if_false, lq, Nat.reduceAdd, Nat.reduceMul, Nat.reduceSub, Nat.reduceDiv, Nat.reduceMod, m_heardTo hD m h2, m_every hD m, this, hrd_s]
  · subst hT
    have h2 := hrd_lt D E (n := i) hp
    have := of_decide_eq_true hp'
    (try dsimp only)
    rw [fX12_told_23]
    simp (disch := omega) only [lit, lm1, nI_add, pk_mul, nm_eq, nm_eq', nm_lt, nm_lt', nm_le, nm_le', x_lt, x_le, x_eq, x_in, x_cl, x_div, x_sub, x_rem, x_min, x_max, x_and, x_or, x_xor, x_df, x_shl, bI_0, bI_1, bI_bo, lg_eq, toL_inj, ls_nI, decide_eq_false_iff_not, decide_eq_true_eq, Bool.true_eq_false, Bool.false_eq_true, bq, if_pos, if_neg, if_true, if_false, lq, Nat.reduceAdd, Nat.reduceMul, Nat.reduceSub, Nat.reduceDiv, Nat.reduceMod, m_every hD m, this]
    rfl
  · subst hT
    (try dsimp only)
    rw [fX12_told_23]
    simp (disch := omega) only [lit, lm1, nI_add, pk_mul, nm_eq, nm_eq', nm_lt, nm_lt', nm_le, nm_le', x_lt, x_le, x_eq, x_in, x_cl, x_div, x_sub, x_rem, x_min, x_max, x_and, x_or, x_xor, x_df, x_shl, bI_0, bI_1, bI_bo, lg_eq, toL_inj, ls_nI, decide_eq_false_iff_not, decide_eq_true_eq, Bool.true_eq_false, Bool.false_eq_true, bq, if_pos, if_neg, if_true, if_false, lq, Nat.reduceAdd, Nat.reduceMul, Nat.reduceSub, Nat.reduceDiv, Nat.reduceMod]
    rfl
end TA
theorem q_talk : cpQ_talk cpRl := by
  intro x1 x2 S hR
  refine q0 hR (fun D E hD hE => ?_)
  have p8 := hD.p8
  have w2 := m_win 9 8 (by decide)
  rcases in_or x1 D.P with ⟨p, hp, rfl⟩ | h1
  · rcases in_or x2 9 with ⟨n, hn, rfl⟩ | h2
    · refine ⟨nI (hrd D E p n), fun S c => ?_, fun S m => ?_⟩
      · unfold fX11_talk
        simp (disch := omega) only [lit, lm1, nI_add, pk_mul, nm_eq, nm_eq', nm_lt, nm_lt', nm_le, nm_le', x_lt, x_le, x_eq, x_in, x_cl, x_div, x_sub, x_rem, x_min, x_max, x_and, x_or, x_xor, x_df, x_shl, bI_0, bI_1, bI_bo, lg_eq, toL_inj, ls_nI, decide_eq_false_iff_not, decide_eq_true_eq, Bool.true_eq_false, Bool.false_eq_true, bq, if_pos, if_neg, if_true, if_false, lq, Nat.reduceAdd, Nat.reduceMul, Nat.reduceSub, Nat.reduceDiv, Nat.reduceMod, c.hasPerson hD, c_heard hD c hp (show n ≤ 8 by omega)]
      · unfold fX12_talk
        simp (disch := omega) only [lit, lm1, nI_add, pk_mul, nm_eq, nm_eq', nm_lt, nm_lt', nm_le, nm_le', x_lt, x_le, x_eq, x_in, x_cl, x_div, x_sub, x_rem, x_min, x_max, x_and, x_or, x_xor, x_df, x_shl, bI_0, bI_1, bI_bo, lg_eq, toL_inj, ls_nI, decide_eq_false_iff_not, decide_eq_true_eq, Bool.true_eq_false, Bool.false_eq_true, bq, if_pos, if_neg, if_true, if_false, lq, Nat.reduceAdd, Nat.reduceMul, Nat.reduceSub, Nat.reduceDiv, Nat.reduceMod, m.isPerson hD, w2, m_talk39 hD m hp (show n ≤ 8 by omega)]
    · refine ⟨-3, fun S c => ?_, fun S m => ?_⟩
      · unfold fX11_talk
        rcases arg_out 9 8 rfl (by decide) h2 with h | ⟨h, h', -⟩
        · simp (disch := omega) only [lit, lm1, nI_add, pk_mul, nm_eq, nm_eq', nm_lt, nm_lt', nm_le, nm_le', x_lt, x_le, x_eq, x_in, x_cl, x_div, x_sub, x_rem, x_min, x_max, x_and, x_or, x_xor, x_df, x_shl, bI_0, bI_1, bI_bo, lg_eq, toL_inj, ls_nI, decide_eq_false_iff_not, decide_eq_true_eq, Bool.true_eq_false, Bool.false_eq_true, bq, if_pos, if_neg, if_true, if_false, lq, Nat.reduceAdd, Nat.reduceMul, Nat.reduceSub, Nat.reduceDiv, Nat.reduceMod, c.hasPerson hD, h]
        · simp (disch := omega) only [lit, lm1, nI_add, pk_mul, nm_eq, nm_eq', nm_lt, nm_lt', nm_le, nm_le', x_lt, x_le, x_eq, x_in, x_cl, x_div, x_sub, x_rem, x_min, x_max, x_and, x_or, x_xor, x_df, x_shl, bI_0, bI_1, bI_bo, lg_eq, toL_inj, ls_nI, decide_eq_false_iff_not, decide_eq_true_eq, Bool.true_eq_false, Bool.false_eq_true, bq, if_pos, if_neg, if_true, if_false, lq, Nat.reduceAdd, Nat.reduceMul, Nat.reduceSub, Nat.reduceDiv, Nat.reduceMod, c.hasPerson hD, h, h']
      · unfold fX12_talk
        simp (disch := omega) only [lit, lm1, nI_add, pk_mul, nm_eq, nm_eq', nm_lt, nm_lt', nm_le, nm_le', x_lt, x_le, x_eq, x_in, x_cl, x_div, x_sub, x_rem, x_min, x_max, x_and, x_or, x_xor, x_df, x_shl, bI_0, bI_1, bI_bo, lg_eq, toL_inj, ls_nI, decide_eq_false_iff_not, decide_eq_true_eq, Bool.true_eq_false, Bool.false_eq_true, bq, if_pos, if_neg, if_true, if_false, lq, Nat.reduceAdd, Nat.reduceMul, Nat.reduceSub, Nat.reduceDiv, Nat.reduceMod, m.isPerson hD, w2, h2]
  · refine ⟨-2, fun S c => ?_, fun S m => ?_⟩
    · unfold fX11_talk
      simp (disch := omega) only [lit, lm1, nI_add, pk_mul, nm_eq, nm_eq', nm_lt, nm_lt', nm_le, nm_le', x_lt, x_le, x_eq, x_in, x_cl, x_div, x_sub, x_rem, x_min, x_max, x_and, x_or, x_xor, x_df, x_shl, bI_0, bI_1, bI_bo, lg_eq, toL_inj, ls_nI, decide_eq_false_iff_not, decide_eq_true_eq, Bool.true_eq_false, Bool.false_eq_true, bq, if_pos, if_neg, if_true, if_false, lq, Nat.reduceAdd, Nat.reduceMul, Nat.reduceSub, Nat.reduceDiv, Nat.reduceMod, c.hasPerson hD, h1]
    · unfold fX12_talk
      simp (disch := omega) only [lit, lm1, nI_add, pk_mul, nm_eq, nm_eq', nm_lt, nm_lt', nm_le, nm_le', x_lt, x_le, x_eq, x_in, x_cl, x_div, x_sub, x_rem, x_min, x_max, x_and, x_or, x_xor, x_df, x_shl, bI_0, bI_1, bI_bo, lg_eq, toL_inj, ls_nI, decide_eq_false_iff_not, decide_eq_true_eq, Bool.true_eq_false, Bool.false_eq_true, bq, if_pos, if_neg, if_true, if_false, lq, Nat.reduceAdd, Nat.reduceMul, Nat.reduceSub, Nat.reduceDiv, Nat.reduceMod, m.isPerson hD, h1]
theorem q_told : cpQ_told cpRl := by
  intro x1 S hR
  refine q0 hR (fun D E hD hE => ?_)
  have p8 := hD.p8
  rcases in_or x1 D.P with ⟨p, hp, rfl⟩ | h1
  · refine ⟨oI (ff (fun n => decide (hrd D E p n = D.ev)) 9 0), fun S c => ?_, fun S m => ?_⟩
    · unfold fX11_told
      simp (disch := omega) only [lit, lm1, nI_add, pk_mul, nm_eq, nm_eq', nm_lt, nm_lt', nm_le, nm_le', x_lt, x_le, x_eq, x_in, x_cl, x_div, x_sub, x_rem, x_min, x_max, x_and, x_or, x_xor, x_df, x_shl, bI_0, bI_1, bI_bo, lg_eq, toL_inj, ls_nI, decide_eq_false_iff_not, decide_eq_true_eq, Bool.true_eq_false, Bool.false_eq_true, bq, if_pos, if_neg, if_true, if_false, lq, Nat.reduceAdd, Nat.reduceMul, Nat.reduceSub, Nat.reduceDiv, Nat.reduceMod, c.hasPerson hD, c_told16 hD c hp]
    · unfold fX12_told
      simp (disch := omega) only [lit, lm1, nI_add, pk_mul, nm_eq, nm_eq', nm_lt, nm_lt', nm_le, nm_le', x_lt, x_le, x_eq, x_in, x_cl, x_div, x_sub, x_rem, x_min, x_max, x_and, x_or, x_xor, x_df, x_shl, bI_0, bI_1, bI_bo, lg_eq, toL_inj, ls_nI, decide_eq_false_iff_not, decide_eq_true_eq, Bool.true_eq_false, Bool.false_eq_true, bq, if_pos, if_neg, if_true, if_false, lq, Nat.reduceAdd, Nat.reduceMul, Nat.reduceSub, Nat.reduceDiv, Nat.reduceMod, m.isPerson hD, m_told23 hD m hp]
  · refine ⟨-2, fun S c => ?_, fun S m => ?_⟩
    · unfold fX11_told
      simp (disch := omega) only [lit, lm1, nI_add, pk_mul, nm_eq, nm_eq', nm_lt, nm_lt', nm_le, nm_le', x_lt, x_le, x_eq, x_in, x_cl, x_div, x_sub, x_rem, x_min, x_max, x_and, x_or, x_xor, x_df, x_shl, bI_0, bI_1, bI_bo, lg_eq, toL_inj, ls_nI, decide_eq_false_iff_not, decide_eq_true_eq, Bool.true_eq_false, Bool.false_eq_true, bq, if_pos, if_neg, if_true, if_false, lq, Nat.reduceAdd, Nat.reduceMul, Nat.reduceSub, Nat.reduceDiv, Nat.reduceMod, c.hasPerson hD, h1]
    · unfold fX12_told
      simp (disch := omega) only [lit, lm1, nI_add, pk_mul, nm_eq, nm_eq', nm_lt, nm_lt', nm_le, nm_le', x_lt, x_le, x_eq, x_in, x_cl, x_div, x_sub, x_rem, x_min, x_max, x_and, x_or, x_xor, x_df, x_shl, bI_0, bI_1, bI_bo, lg_eq, toL_inj, ls_nI, decide_eq_false_iff_not, decide_eq_true_eq, Bool.true_eq_false, Bool.false_eq_true, bq, if_pos, if_neg, if_true, if_false, lq, Nat.reduceAdd, Nat.reduceMul, Nat.reduceSub, Nat.reduceDiv, Nat.reduceMod, m.isPerson hD, h1]
