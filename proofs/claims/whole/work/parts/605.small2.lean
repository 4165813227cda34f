/-! both sides' small questions -/
theorem bI_if (b : Bool) : (if b = true then (1 : Int32) else 0) = bI b := by cases b <;> rfl
theorem m_win (n : Nat) (hi : Int64) (hh : hi.toInt = (n : Int) - 1) (x : Int32) (S : cpS) : fX12_within (Int32.toInt64 x) (0 : Int64) hi S = some (bI (cpLs' x n), S) := by rw [e_winN x n hi hh, bI_if]
section SQ
variable {D : cpD} {S : cpS} (hD : D.WF)
theorem c_hasPerson (hD : D.WF) (c : cW D S 1) (x : Int32) : fX10_hasPerson 1 x S = some (bI (cpLs' x D.P), S) := by
  rw [e_hasPerson c.P hD.p8, bI_if]
theorem c_hasCoin (hD : D.WF) (c : cW D S 1) (x : Int32) : fX10_hasCoin 1 x S = some (bI (cpLs' x D.C), S) := by
  rw [e_hasCoin c.C (by have := hD.c4; omega), bI_if]
theorem c_hasPlace (hD : D.WF) (c : cW D S 1) (x : Int32) : fX10_hasPlace 1 x S = some (bI (cpLs' x D.K), S) := by
  rw [e_hasPlace c.K (by have := hD.k6; omega), bI_if]
theorem m_isPerson (hD : D.WF) (m : mW D S 0) (x : Int32) : fX12_isPerson (Int32.toInt64 x) S = some (bI (cpLs' x D.P), S) := by
  rw [e_isPerson m.P hD.p8, bI_if]
theorem m_isCoin (hD : D.WF) (m : mW D S 0) (x : Int32) : fX12_isCoin (Int32.toInt64 x) S = some (bI (cpLs' x D.C), S) := by
  rw [e_isCoin m.C (by have := hD.c4; omega), bI_if]
theorem m_isPlace (hD : D.WF) (m : mW D S 0) (x : Int32) : fX12_isPlace (Int32.toInt64 x) S = some (bI (cpLs' x D.K), S) := by
  rw [e_isPlace m.K (by have := hD.k6; omega), bI_if]
theorem c_areTwo (hD : D.WF) (c : cW D S 1) (x y : Int32) : fX0_areTwo x y S = some (bI (cpLs' x D.P && cpLs' y D.P && decide (¬ x = y)), S) := by
  unfold fX0_areTwo
  simp (disch := omega) only [lit, lm1, nI_add, pk_mul, nm_eq, nm_eq', nm_lt, nm_lt', nm_le, nm_le', x_lt, x_le, x_eq, x_in, x_cl, x_div, x_sub, x_rem, x_min, x_max, x_and, x_or, x_xor, x_df, x_shl, bI_0, bI_1, bI_bo, lg_eq, toL_inj, ls_nI, decide_eq_false_iff_not, decide_eq_true_eq, Bool.true_eq_false, Bool.false_eq_true, bq, if_pos, if_neg, if_true, if_false, lq, Nat.reduceAdd, Nat.reduceMul, Nat.reduceSub, Nat.reduceDiv, Nat.reduceMod, c_hasPerson hD c]
  cases cpLs' x D.P <;> cases cpLs' y D.P <;> by_cases h : x = y <;> simp [h, bI]
theorem m_areTwo (hD : D.WF) (m : mW D S 0) (x y : Int32) : fX12_areTwo (Int32.toInt64 x) (Int32.toInt64 y) S = some (bI (cpLs' x D.P && cpLs' y D.P && decide (¬ x = y)), S) := by
  unfold fX12_areTwo
  simp (disch := omega) only [lit, lm1, nI_add, pk_mul, nm_eq, nm_eq', nm_lt, nm_lt', nm_le, nm_le', x_lt, x_le, x_eq, x_in, x_cl, x_div, x_sub, x_rem, x_min, x_max, x_and, x_or, x_xor, x_df, x_shl, bI_0, bI_1, bI_bo, lg_eq, toL_inj, ls_nI, decide_eq_false_iff_not, decide_eq_true_eq, Bool.true_eq_false, Bool.false_eq_true, bq, if_pos, if_neg, if_true, if_false, lq, Nat.reduceAdd, Nat.reduceMul, Nat.reduceSub, Nat.reduceDiv, Nat.reduceMod, m_isPerson hD m]
  cases cpLs' x D.P <;> cases cpLs' y D.P <;> by_cases h : x = y <;> simp [h, bI]
theorem two_t {P p q : Nat} (hP : P ≤ 8) (hp : p < P) (hq : q < P) (hn : p ≠ q) : (cpLs' (nI p) P && cpLs' (nI q) P && decide (¬ nI p = nI q)) = true := by
  rw [cpLs_of hp (by omega), cpLs_of hq (by omega), decide_eq_true (by rw [nI_eq (by omega) (by omega)]; exact hn)]; rfl
theorem c_areTwo1 (hD : D.WF) (c : cW D S 1) {p q : Nat} (hp : p < D.P) (hq : q < D.P) (hn : p ≠ q) : fX0_areTwo (nI p) (nI q) S = some (nI 1, S) := by
  rw [c_areTwo hD c, two_t hD.p8 hp hq hn]; rfl
theorem m_areTwo1 (hD : D.WF) (m : mW D S 0) {p q : Nat} (hp : p < D.P) (hq : q < D.P) (hn : p ≠ q) : fX12_areTwo (Int32.toInt64 (nI p)) (Int32.toInt64 (nI q)) S = some (nI 1, S) := by
  rw [m_areTwo hD m, two_t hD.p8 hp hq hn]; rfl
end SQ
theorem fd_lt {D : cpD} {E : cpE} (hD : D.WF) (hE : E.WF D) {p : Nat} (hp : p < 8) : E.fd p < 256 := Nat.lt_of_lt_of_le (hE.fd p hp) (pow_le (n := 8) hD.p8)
theorem c_feuding {D : cpD} {E : cpE} {S : cpS} (hD : D.WF) (hE : E.WF D) (n : cN E S 57) {p q : Nat} (hp : p < 8) (hq : q < 8) : fX5_feuding 57 (nI p) (nI q) S = some (bI ((E.fd p).testBit q), S) := by
  have := fd_lt hD hE hp
  unfold fX5_feuding
  simp (disch := omega) only [lit, lm1, nI_add, pk_mul, nm_eq, nm_eq', nm_lt, nm_lt', nm_le, nm_le', x_lt, x_le, x_eq, x_in, x_cl, x_div, x_sub, x_rem, x_min, x_max, x_and, x_or, x_xor, x_df, x_shl, bI_0, bI_1, bI_bo, lg_eq, toL_inj, ls_nI, decide_eq_false_iff_not, decide_eq_true_eq, Bool.true_eq_false, Bool.false_eq_true, bq, if_pos, if_neg, if_true, if_false, lq, Nat.reduceAdd, Nat.reduceMul, Nat.reduceSub, Nat.reduceDiv, Nat.reduceMod, n.fd p hp]
  rw [e_isIn (by omega) (by omega)]
  simp (disch := omega) only [lit, lm1, nI_add, pk_mul, nm_eq, nm_eq', nm_lt, nm_lt', nm_le, nm_le', x_lt, x_le, x_eq, x_in, x_cl, x_div, x_sub, x_rem, x_min, x_max, x_and, x_or, x_xor, x_df, x_shl, bI_0, bI_1, bI_bo, lg_eq, toL_inj, ls_nI, decide_eq_false_iff_not, decide_eq_true_eq, Bool.true_eq_false, Bool.false_eq_true, bq, if_pos, if_neg, if_true, if_false, lq, Nat.reduceAdd, Nat.reduceMul, Nat.reduceSub, Nat.reduceDiv, Nat.reduceMod]
theorem m_quarrelled {D : cpD} {E : cpE} {S : cpS} (hD : D.WF) (hE : E.WF D) (n : mN E S 62) {p q : Nat} (hp : p < 8) (hq : q < 8) : fX12_haveQuarrelled (nI p) (nI q) S = some (bI ((E.fd p).testBit q), S) := by
  have := fd_lt hD hE hp
  have e : S.1 151 (70 + p) = nI (E.fd p) := n.fd p hp
  unfold fX12_haveQuarrelled
  simp (disch := omega) only [lit, lm1, nI_add, pk_mul, nm_eq, nm_eq', nm_lt, nm_lt', nm_le, nm_le', x_lt, x_le, x_eq, x_in, x_cl, x_div, x_sub, x_rem, x_min, x_max, x_and, x_or, x_xor, x_df, x_shl, bI_0, bI_1, bI_bo, lg_eq, toL_inj, ls_nI, decide_eq_false_iff_not, decide_eq_true_eq, Bool.true_eq_false, Bool.false_eq_true, bq, if_pos, if_neg, if_true, if_false, lq, Nat.reduceAdd, Nat.reduceMul, Nat.reduceSub, Nat.reduceDiv, Nat.reduceMod, e]
  rw [m_isIn (by omega) (by omega)]
  simp (disch := omega) only [lit, lm1, nI_add, pk_mul, nm_eq, nm_eq', nm_lt, nm_lt', nm_le, nm_le', x_lt, x_le, x_eq, x_in, x_cl, x_div, x_sub, x_rem, x_min, x_max, x_and, x_or, x_xor, x_df, x_shl, bI_0, bI_1, bI_bo, lg_eq, toL_inj, ls_nI, decide_eq_false_iff_not, decide_eq_true_eq, Bool.true_eq_false, Bool.false_eq_true, bq, if_pos, if_neg, if_true, if_false, lq, Nat.reduceAdd, Nat.reduceMul, Nat.reduceSub, Nat.reduceDiv, Nat.reduceMod]
