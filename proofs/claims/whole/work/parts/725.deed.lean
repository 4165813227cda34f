/-! a told deed -/
theorem litL (n : Nat) : (OfNat.ofNat n : Int64) = lN n := Eq.trans rfl rfl
theorem lL_lt {a b : Nat} (ha : a < 2 ^ 31) (hb : b < 2 ^ 31) : (lg_cmp (lN a) (lN b) < nI 0) = (a < b) := propext ((lg_lt _ _).trans (lN_lt ha hb))
theorem lL_gt {a b : Nat} (ha : a < 2 ^ 31) (hb : b < 2 ^ 31) : (nI 0 < lg_cmp (lN a) (lN b)) = (b < a) := propext ((lg_gt _ _).trans (lN_lt hb ha))
theorem lL_le {a b : Nat} (ha : a < 2 ^ 31) (hb : b < 2 ^ 31) : (lg_cmp (lN a) (lN b) ≤ nI 0) = (a ≤ b) := propext ((lgm_le _ _).trans (by rw [lN_lt hb ha]; omega))
theorem m_winL (a b : Nat) {k : Nat} (hk : k < 2 ^ 31) (ha : a < 2 ^ 31) (hb : b < 2 ^ 31) (S : cpS) : fX12_within (lN k) (lN a) (lN b) S = some (bI (decide (a ≤ k ∧ k ≤ b)), S) := by
  rw [e_within]
  have e : (lN a ≤ lN k ∧ lN k ≤ lN b) ↔ (a ≤ k ∧ k ≤ b) := by rw [lN_le ha hk, lN_le hk hb]
  by_cases h : a ≤ k ∧ k ≤ b
  · rw [if_pos (e.mpr h), decide_eq_true h]; rfl
  · rw [if_neg (fun q => h (e.mp q)), decide_eq_false h]; rfl
def twB (P p q : Nat) : Bool := decide (p < P) && decide (q < P) && decide (p ≠ q)
def ddV (D : cpD) (p q c t : Nat) : Bool := decide (p < q) && decide (q < D.P) && decide (c < D.C) && decide (t < D.K)
def cpE.hr (E : cpE) (h : Nat) : cpE := (E.at', E.rim, E.fd, h, E.ca)
/-- why a deed can't be (0), and how it is behind it -/
def ddN (D : cpD) (E : cpE) (k : Nat) : Nat × cpE :=
  if 10 ≤ k ∧ k ≤ 19 then (0, E.hr (k - 10)) else if 100 ≤ k ∧ k ≤ 199 then (if twB D.P ((k - 100) / 10) (k % 10) then (0, E.qu ((k - 100) / 10) (k % 10)) else (1, E))
  else if 10000 ≤ k ∧ k ≤ 19999 then (if ddV D ((k - 10000) / 1000) ((k - 10000) / 100 % 10) ((k - 10000) / 10 % 10) ((k - 10000) % 10) then (if wy D E ((k - 10000) / 1000) ((k - 10000) / 100 % 10) ((k - 10000) / 10 % 10) ((k - 10000) % 10) E.h = 0 then (0, E.mv ((k - 10000) / 10 % 10) ((k - 10000) % 10) (wnI D E ((k - 10000) / 1000) ((k - 10000) / 100 % 10) ((k - 10000) / 10 % 10) ((k - 10000) % 10) E.h)) else (wy D E ((k - 10000) / 1000) ((k - 10000) / 100 % 10) ((k - 10000) / 10 % 10) ((k - 10000) % 10) E.h, E)) else (1, E)) else (1, E)
def dd (D : cpD) (E : cpE) (v : Int64) : Nat × cpE := if 0 ≤ v.toInt ∧ v.toInt < 20000 then ddN D E v.toInt.toNat else (1, E)
theorem v64 (v : Int64) : (∃ k, k < 20000 ∧ v = lN k) ∨ (v < lN 0 ∨ lN 19999 < v) := by
  by_cases h : 0 ≤ v.toInt ∧ v.toInt < 20000
  · left
    refine ⟨v.toInt.toNat, by omega, ?_⟩
    apply Int64.toInt_inj.mp
    rw [lN_toInt (by omega)]; omega
  · right
    rw [l_lt, l_lt, lN_toInt (by decide), lN_toInt (by decide)]
    omega
theorem dd_N (D : cpD) (E : cpE) {k : Nat} (h : k < 20000) : dd D E (lN k) = ddN D E k := by
  unfold dd
  rw [lN_toInt (by omega), if_pos (by omega)]; rfl
theorem dd_out (D : cpD) (E : cpE) {v : Int64} (h : v < lN 0 ∨ lN 19999 < v) : dd D E v = (1, E) := by
  unfold dd
  rw [l_lt, l_lt, lN_toInt (by decide), lN_toInt (by decide)] at h
  rw [if_neg (by omega)]
theorem cpE.WF.hr {E : cpE} {D : cpD} (hE : E.WF D) {h : Nat} (h9 : h ≤ 9) : (E.hr h).WF D := ⟨hE.at', hE.no, hE.fd, hE.sy, hE.ir, hE.fz, h9⟩
theorem tw_sp {P p q : Nat} (h : twB P p q = true) : p < P ∧ q < P ∧ p ≠ q := by
  unfold twB at h
  simp only [Bool.and_eq_true, decide_eq_true_eq] at h
  exact ⟨h.1.1, h.1.2, h.2⟩
theorem ddV_sp {D : cpD} {p q c t : Nat} (h : ddV D p q c t = true) : p < q ∧ q < D.P ∧ c < D.C ∧ t < D.K := by
  unfold ddV at h
  simp only [Bool.and_eq_true, decide_eq_true_eq] at h
  exact ⟨h.1.1.1, h.1.1.2, h.1.2, h.2⟩
theorem dd_WF {D : cpD} {E : cpE} (hD : D.WF) (hE : E.WF D) (v : Int64) : (dd D E v).2.WF D := by
  rcases v64 v with ⟨k, hk, rfl⟩ | h
  · rw [dd_N D E hk]
    unfold ddN
    split
    · exact hE.hr (by omega)
    · split
      · split
        · rename_i h
          obtain ⟨h1, h2, h3⟩ := tw_sp h
          exact hE.qu hD h1 h2 h3
        · exact hE
      · split
        · split
          · rename_i h
            obtain ⟨h1, h2, h3, h4⟩ := ddV_sp h
            split
            · exact hE.mv h3 h4
            · exact hE
          · exact hE
        · exact hE
  · rw [dd_out D E h]; exact hE
def kDc (q j : Nat) : Prop := (57 ≤ q ∧ q ≤ 60) ∨ kF q j
def kDm (q j : Nat) : Prop := (q = 151 ∧ 62 ≤ j ∧ j < 80) ∨ kG q j
section DD
variable {D : cpD} {E : cpE} {S : cpS}
theorem c_hourNow (n : cN E S 57) {h : Nat} (hh : h < 10) : ∃ T, fX0_hourNow (nI h) S = some (nI 0, T) ∧ Kp kDc S T ∧ cN (E.hr h) T 57 := by
  refine ⟨cpI S 57 3 (nI h), ?_, Kp.rf.I (by exact Or.inl ⟨by decide, by decide⟩), fun i hi => ?_, fun i hi => ?_, fun i hi => ?_, sI1, ?_⟩
  · unfold fX0_hourNow
    simp (disch := omega) only [lit, lm1, nI_add, pk_mul, nm_eq, nm_eq', nm_lt, nm_lt', nm_le, nm_le', x_lt, x_le, x_eq, x_in, x_cl, x_div, x_sub, x_rem, x_min, x_max, x_and, x_or, x_xor, x_df, x_shl, bI_0, bI_1, bI_bo, lg_eq, toL_inj, ls_nI, decide_eq_false_iff_not, decide_eq_true_eq, Bool.true_eq_false, Bool.false_eq_true, bq, if_pos, if_neg, if_true, if_false, lq, Nat.reduceAdd, Nat.reduceMul, Nat.reduceSub, Nat.reduceDiv, Nat.reduceMod]
  · rw [sIr (by omega)]; exact n.at' i hi
  · rw [sIr (by omega)]; exact n.rim i hi
  · rw [sIr (by omega)]; exact n.fd i hi
  · rw [sIn (Or.inr (by decide))]; exact n.ca
theorem ddV_N {p q c t : Nat} (hp : p < 10) (hq : q < 10) (hc : c < 10) (ht : t < 10) (h : ddV D p q c t = false) (hpq : p < q) : ((cpLs' (nI p) D.P && cpLs' (nI q) D.P && decide (¬ nI p = nI q)) && cpLs' (nI c) D.C && cpLs' (nI t) D.K) = false := by
  rw [ls_nI (by omega), ls_nI (by omega), ls_nI (by omega), ls_nI (by omega)]
  unfold ddV at h
  rw [decide_eq_true hpq, Bool.true_and] at h
  cases h1 : decide (q < D.P)
  · simp
  · rw [h1, Bool.true_and] at h
    cases h2 : decide (c < D.C)
    · simp
    · rw [h2, Bool.true_and] at h
      rw [h]; simp
theorem c_tryDeed (hD : D.WF) (hE : E.WF D) (c : cA D E S) (v : Int64) : ∃ T, fX0_tryDeed v S = some (nI (dd D E v).1, T) ∧ Kp kDc S T ∧ cN (dd D E v).2 T 57 := by
  have p8 := hD.p8
  rcases v64 v with ⟨k, hk, rfl⟩ | h
  · rw [dd_N D E hk]
    unfold ddN
    by_cases h1 : 10 ≤ k ∧ k ≤ 19
    · rw [if_pos h1]
      obtain ⟨T, t1, t2, t3⟩ := c_hourNow c.2 (h := k - 10) (by omega)
      refine ⟨T, ?_, t2, t3⟩
      unfold fX0_tryDeed
      simp (disch := omega) only [lit, lm1, nI_add, pk_mul, nm_eq, nm_eq', nm_lt, nm_lt', nm_le, nm_le', x_lt, x_le, x_eq, x_in, x_cl, x_div, x_sub, x_rem, x_min, x_max, x_and, x_or, x_xor, x_df, x_shl, bI_0, bI_1, bI_bo, lg_eq, toL_inj, ls_nI, decide_eq_false_iff_not, decide_eq_true_eq, Bool.true_eq_false, Bool.false_eq_true, bq, if_pos, if_neg, if_true, if_false, lq, Nat.reduceAdd, Nat.reduceMul, Nat.reduceSub, Nat.reduceDiv, Nat.reduceMod, litL, lL_lt, lL_gt, lL_le, lN_i, t1]
    · rw [if_neg h1]
      have e1 : fX0_tryDeed (lN k) S = fX0_tryDeed_26 (lN k) S := by
        unfold fX0_tryDeed
        by_cases q : k < 10
        · simp (disch := omega) only [lit, lm1, nI_add, pk_mul, nm_eq, nm_eq', nm_lt, nm_lt', nm_le, nm_le', x_lt, x_le, x_eq, x_in, x_cl, x_div, x_sub, x_rem, x_min, x_max, x_and, x_or, x_xor, x_df, x_shl, bI_0, bI_1, bI_bo, lg_eq, toL_inj, ls_nI, decide_eq_false_iff_not, decide_eq_true_eq, Bool.true_eq_false, Bool.false_eq_true, bq, if_pos, if_neg, if_true, if_false, lq, Nat.reduceAdd, Nat.reduceMul, Nat.reduceSub, Nat.reduceDiv, Nat.reduceMod, litL, lL_lt, lL_gt, q]
        · simp (disch := omega) only [lit, lm1, nI_add, pk_mul, nm_eq, nm_eq', nm_lt, nm_lt', nm_le, nm_le', x_lt, x_le, x_eq, x_in, x_cl, x_div, x_sub, x_rem, x_min, x_max, x_and, x_or, x_xor, x_df, x_shl, bI_0, bI_1, bI_bo, lg_eq, toL_inj, ls_nI, decide_eq_false_iff_not, decide_eq_true_eq, Bool.true_eq_false, Bool.false_eq_true, bq, if_pos, if_neg, if_true, if_false, lq, Nat.reduceAdd, Nat.reduceMul, Nat.reduceSub, Nat.reduceDiv, Nat.reduceMod, litL, lL_lt, lL_gt, q]
      by_cases h2 : 100 ≤ k ∧ k ≤ 199
      · rw [if_pos h2]
        cases ht : twB D.P ((k - 100) / 10) (k % 10)
        · refine ⟨S, ?_, Kp.rf, c.2⟩
          have hf : (cpLs' (nI ((k - 100) / 10)) D.P && cpLs' (nI (k % 10)) D.P && decide (¬ nI ((k - 100) / 10) = nI (k % 10))) = false := by
            rw [ls_nI (by omega), ls_nI (by omega)]
            unfold twB at ht
            rw [← ht]
            congr 1
            refine decide_eq_decide.mpr (not_congr ?_)
            rw [nI_eq (by omega) (by omega)]
          have at2 : fX0_areTwo (nI ((k - 100) / 10)) (nI (k % 10)) S = some (nI 0, S) := by rw [c_areTwo hD c.1, hf]; rfl
          rw [e1]
          unfold fX0_tryDeed_26 fX0_quarrelNow
          simp (disch := omega) only [lit, lm1, nI_add, pk_mul, nm_eq, nm_eq', nm_lt, nm_lt', nm_le, nm_le', x_lt, x_le, x_eq, x_in, x_cl, x_div, x_sub, x_rem, x_min, x_max, x_and, x_or, x_xor, x_df, x_shl, bI_0, bI_1, bI_bo, lg_eq, toL_inj, ls_nI, decide_eq_false_iff_not, decide_eq_true_eq, Bool.true_eq_false, Bool.false_eq_true, bq, if_pos, if_neg, if_true, if_false, lq, Nat.reduceAdd, Nat.reduceMul, Nat.reduceSub, Nat.reduceDiv, Nat.reduceMod, litL, lL_lt, lL_gt, lL_le, lN_i, at2]
          first | done | rfl
        · obtain ⟨g1, g2, g3⟩ := tw_sp ht
          obtain ⟨T, t1, t2, t3⟩ := c_quarrelNow hD c.1 c.2 g1 g2 g3
          refine ⟨T, ?_, t2.le (fun q j h => Or.inl (by omega)), t3⟩
          rw [e1]
          unfold fX0_tryDeed_26
          simp (disch := omega) only [lit, lm1, nI_add, pk_mul, nm_eq, nm_eq', nm_lt, nm_lt', nm_le, nm_le', x_lt, x_le, x_eq, x_in, x_cl, x_div, x_sub, x_rem, x_min, x_max, x_and, x_or, x_xor, x_df, x_shl, bI_0, bI_1, bI_bo, lg_eq, toL_inj, ls_nI, decide_eq_false_iff_not, decide_eq_true_eq, Bool.true_eq_false, Bool.false_eq_true, bq, if_pos, if_neg, if_true, if_false, lq, Nat.reduceAdd, Nat.reduceMul, Nat.reduceSub, Nat.reduceDiv, Nat.reduceMod, litL, lL_lt, lL_gt, lL_le, lN_i, t1]
      · rw [if_neg h2]
        have e2 : fX0_tryDeed_26 (lN k) S = fX0_tryDeed_60 (lN k) S := by
          unfold fX0_tryDeed_26
          by_cases q : k < 100
          · simp (disch := omega) only [lit, lm1, nI_add, pk_mul, nm_eq, nm_eq', nm_lt, nm_lt', nm_le, nm_le', x_lt, x_le, x_eq, x_in, x_cl, x_div, x_sub, x_rem, x_min, x_max, x_and, x_or, x_xor, x_df, x_shl, bI_0, bI_1, bI_bo, lg_eq, toL_inj, ls_nI, decide_eq_false_iff_not, decide_eq_true_eq, Bool.true_eq_false, Bool.false_eq_true, bq, if_pos, if_neg, if_true, if_false, lq, Nat.reduceAdd, Nat.reduceMul, Nat.reduceSub, Nat.reduceDiv, Nat.reduceMod, litL, lL_lt, lL_gt, q]
          · simp (disch := omega) only [lit, lm1, nI_add, pk_mul, nm_eq, nm_eq', nm_lt, nm_lt', nm_le, nm_le', x_lt, x_le, x_eq, x_in, x_cl, x_div, x_sub, x_rem, x_min, x_max, x_and, x_or, x_xor, x_df, x_shl, bI_0, bI_1, bI_bo, lg_eq, toL_inj, ls_nI, decide_eq_false_iff_not, decide_eq_true_eq, Bool.true_eq_false, Bool.false_eq_true, bq, if_pos, if_neg, if_true, if_false, lq, Nat.reduceAdd, Nat.reduceMul, Nat.reduceSub, Nat.reduceDiv, Nat.reduceMod, litL, lL_lt, lL_gt, q]
        rw [e1, e2]
        by_cases h3 : 10000 ≤ k ∧ k ≤ 19999
        · rw [if_pos h3]
          have b1 : (k - 10000) / 1000 < 10 := by omega
          have b2 : (k - 10000) / 100 % 10 < 10 := by omega
          have b3 : (k - 10000) / 10 % 10 < 10 := by omega
          have b4 : (k - 10000) % 10 < 10 := by omega
          have e3 : fX0_tryDeed_60 (lN k) S = if (k - 10000) / 100 % 10 ≤ (k - 10000) / 1000 then fX0_tryDeed_142 (nI (k - 10000)) (nI ((k - 10000) / 10 % 10)) nM S else cpB (fX0_wearAt (nI ((k - 10000) / 1000)) (nI ((k - 10000) / 100 % 10)) (nI ((k - 10000) / 10 % 10)) (nI ((k - 10000) % 10)) (nI E.h) S) fun z5 S6 => fX0_tryDeed_142 (nI (k - 10000)) (nI ((k - 10000) / 10 % 10)) z5 S6 := by
            unfold fX0_tryDeed_60
            simp (disch := omega) only [lit, lm1, nI_add, pk_mul, nm_eq, nm_eq', nm_lt, nm_lt', nm_le, nm_le', x_lt, x_le, x_eq, x_in, x_cl, x_div, x_sub, x_rem, x_min, x_max, x_and, x_or, x_xor, x_df, x_shl, bI_0, bI_1, bI_bo, lg_eq, toL_inj, ls_nI, decide_eq_false_iff_not, decide_eq_true_eq, Bool.true_eq_false, Bool.false_eq_true, bq, if_pos, if_neg, if_true, if_false, lq, Nat.reduceAdd, Nat.reduceMul, Nat.reduceSub, Nat.reduceDiv, Nat.reduceMod, litL, lL_lt, lL_gt, lL_le, lN_i, c.h]
          rw [e3]
          by_cases hpq : (k - 10000) / 100 % 10 ≤ (k - 10000) / 1000
          · have hV : ddV D ((k - 10000) / 1000) ((k - 10000) / 100 % 10) ((k - 10000) / 10 % 10) ((k - 10000) % 10) = false := by unfold ddV; rw [decide_eq_false (by omega)]; rfl
            rw [if_pos hpq, hV]
            refine ⟨S, ?_, Kp.rf, c.2⟩
            unfold fX0_tryDeed_142
            simp (disch := omega) only [lit, lm1, nI_add, pk_mul, nm_eq, nm_eq', nm_lt, nm_lt', nm_le, nm_le', x_lt, x_le, x_eq, x_in, x_cl, x_div, x_sub, x_rem, x_min, x_max, x_and, x_or, x_xor, x_df, x_shl, bI_0, bI_1, bI_bo, lg_eq, toL_inj, ls_nI, decide_eq_false_iff_not, decide_eq_true_eq, Bool.true_eq_false, Bool.false_eq_true, bq, if_pos, if_neg, if_true, if_false, lq, Nat.reduceAdd, Nat.reduceMul, Nat.reduceSub, Nat.reduceDiv, Nat.reduceMod]
            rfl
          · rw [if_neg hpq]
            cases hV : ddV D ((k - 10000) / 1000) ((k - 10000) / 100 % 10) ((k - 10000) / 10 % 10) ((k - 10000) % 10)
            · refine ⟨S, ?_, Kp.rf, c.2⟩
              rw [c_wearAtN hD c (ddV_N b1 b2 b3 b4 hV (by omega)), bq]
              unfold fX0_tryDeed_142
              simp (disch := omega) only [lit, lm1, nI_add, pk_mul, nm_eq, nm_eq', nm_lt, nm_lt', nm_le, nm_le', x_lt, x_le, x_eq, x_in, x_cl, x_div, x_sub, x_rem, x_min, x_max, x_and, x_or, x_xor, x_df, x_shl, bI_0, bI_1, bI_bo, lg_eq, toL_inj, ls_nI, decide_eq_false_iff_not, decide_eq_true_eq, Bool.true_eq_false, Bool.false_eq_true, bq, if_pos, if_neg, if_true, if_false, lq, Nat.reduceAdd, Nat.reduceMul, Nat.reduceSub, Nat.reduceDiv, Nat.reduceMod]
              rfl
            · obtain ⟨g1, g2, g3, g4⟩ := ddV_sp hV
              obtain ⟨A, a1, a2⟩ := c_wearAt hD hE c (h := E.h) (p := (k - 10000) / 1000) (q := (k - 10000) / 100 % 10) (k := (k - 10000) / 10 % 10) (to := (k - 10000) % 10) (by omega) g2 (by omega) g3 g4
              rw [a1, bq]
              by_cases e : wy D E ((k - 10000) / 1000) ((k - 10000) / 100 % 10) ((k - 10000) / 10 % 10) ((k - 10000) % 10) E.h = 0
              · rw [if_pos e, if_pos e]
                obtain ⟨n', n9, hn'⟩ := wnF_sp D ((k - 10000) / 1000) ((k - 10000) / 100 % 10) ((k - 10000) / 10 % 10) (E.at' ((k - 10000) / 10 % 10)) ((k - 10000) % 10) E.h
                have hn' : wnI D E ((k - 10000) / 1000) ((k - 10000) / 100 % 10) ((k - 10000) / 10 % 10) ((k - 10000) % 10) E.h = nI n' := hn'
                rw [hn']
                obtain ⟨T, t1, t2, t3⟩ := c_move hD (c.F a2).2 (k := (k - 10000) / 10 % 10) (to := (k - 10000) % 10) (w := nI n') g3
                refine ⟨T, ?_, (a2.le (fun _ _ h => Or.inr h)).tr (t2.le (fun _ _ h => Or.inl h)), t3⟩
                unfold fX0_tryDeed_142
                simp (disch := omega) only [lit, lm1, nI_add, pk_mul, nm_eq, nm_eq', nm_lt, nm_lt', nm_le, nm_le', x_lt, x_le, x_eq, x_in, x_cl, x_div, x_sub, x_rem, x_min, x_max, x_and, x_or, x_xor, x_df, x_shl, bI_0, bI_1, bI_bo, lg_eq, toL_inj, ls_nI, decide_eq_false_iff_not, decide_eq_true_eq, Bool.true_eq_false, Bool.false_eq_true, bq, if_pos, if_neg, if_true, if_false, lq, Nat.reduceAdd, Nat.reduceMul, Nat.reduceSub, Nat.reduceDiv, Nat.reduceMod, t1]
              · rw [if_neg e, if_neg e]
                obtain ⟨q1, q2, q3, q4, q5, q6⟩ := ng_pos (wy D E ((k - 10000) / 1000) ((k - 10000) / 100 % 10) ((k - 10000) / 10 % 10) ((k - 10000) % 10) E.h) (by rcases wyF_cases D E ((k - 10000) / 1000) ((k - 10000) / 100 % 10) ((k - 10000) / 10 % 10) (E.at' ((k - 10000) / 10 % 10)) ((k - 10000) % 10) E.h with g | g | g | g; exact absurd g e; exact Or.inl g; exact Or.inr (Or.inl g); exact Or.inr (Or.inr g))
                refine ⟨A, ?_, a2.le (fun _ _ h => Or.inr h), (c.F a2).2⟩
                unfold fX0_tryDeed_142
                simp (disch := omega) only [lit, lm1, nI_add, pk_mul, nm_eq, nm_eq', nm_lt, nm_lt', nm_le, nm_le', x_lt, x_le, x_eq, x_in, x_cl, x_div, x_sub, x_rem, x_min, x_max, x_and, x_or, x_xor, x_df, x_shl, bI_0, bI_1, bI_bo, lg_eq, toL_inj, ls_nI, decide_eq_false_iff_not, decide_eq_true_eq, Bool.true_eq_false, Bool.false_eq_true, bq, if_pos, if_neg, if_true, if_false, lq, Nat.reduceAdd, Nat.reduceMul, Nat.reduceSub, Nat.reduceDiv, Nat.reduceMod, q1, q4]
        · rw [if_neg h3]
          refine ⟨S, ?_, Kp.rf, c.2⟩
          unfold fX0_tryDeed_60
          simp (disch := omega) only [lit, lm1, nI_add, pk_mul, nm_eq, nm_eq', nm_lt, nm_lt', nm_le, nm_le', x_lt, x_le, x_eq, x_in, x_cl, x_div, x_sub, x_rem, x_min, x_max, x_and, x_or, x_xor, x_df, x_shl, bI_0, bI_1, bI_bo, lg_eq, toL_inj, ls_nI, decide_eq_false_iff_not, decide_eq_true_eq, Bool.true_eq_false, Bool.false_eq_true, bq, if_pos, if_neg, if_true, if_false, lq, Nat.reduceAdd, Nat.reduceMul, Nat.reduceSub, Nat.reduceDiv, Nat.reduceMod, litL, lL_lt, lL_gt, lL_le]
  · rw [dd_out D E h]
    refine ⟨S, ?_, Kp.rf, c.2⟩
    unfold fX0_tryDeed fX0_tryDeed_26 fX0_tryDeed_60
    rw [l_lt, l_lt, lN_toInt (by decide), lN_toInt (by decide)] at h
    have z : ∀ n : Nat, n < 2 ^ 31 → (lN n).toInt = n := fun n hn => lN_toInt hn
    by_cases hv : v.toInt < 0
    · have s1 : ∀ n : Nat, n < 2 ^ 31 → (lg_cmp v (lN n) < nI 0) = True := fun n hn => eq_true ((lg_lt _ _).mpr (by rw [l_lt, z n hn]; omega))
      simp (disch := omega) only [lit, lm1, nI_add, pk_mul, nm_eq, nm_eq', nm_lt, nm_lt', nm_le, nm_le', x_lt, x_le, x_eq, x_in, x_cl, x_div, x_sub, x_rem, x_min, x_max, x_and, x_or, x_xor, x_df, x_shl, bI_0, bI_1, bI_bo, lg_eq, toL_inj, ls_nI, decide_eq_false_iff_not, decide_eq_true_eq, Bool.true_eq_false, Bool.false_eq_true, bq, if_pos, if_neg, if_true, if_false, lq, Nat.reduceAdd, Nat.reduceMul, Nat.reduceSub, Nat.reduceDiv, Nat.reduceMod, litL, s1]
    · have s1 : ∀ n : Nat, n < 20000 → (lg_cmp v (lN n) < nI 0) = False := fun n hn => eq_false (fun q => by rw [show nI 0 = (0 : Int32) from rfl, lg_lt, l_lt, z n (by omega)] at q; omega)
      have s2 : ∀ n : Nat, n < 20000 → (nI 0 < lg_cmp v (lN n)) = True := fun n hn => eq_true ((lg_gt _ _).mpr (by rw [l_lt, z n (by omega)]; omega))
      have s3 : ∀ n : Nat, n < 20000 → (lg_cmp v (lN n) ≤ nI 0) = False := fun n hn => eq_false (fun q => by rw [show nI 0 = (0 : Int32) from rfl, lgm_le, l_lt, z n (by omega)] at q; omega)
      simp (disch := omega) only [lit, lm1, nI_add, pk_mul, nm_eq, nm_eq', nm_lt, nm_lt', nm_le, nm_le', x_lt, x_le, x_eq, x_in, x_cl, x_div, x_sub, x_rem, x_min, x_max, x_and, x_or, x_xor, x_df, x_shl, bI_0, bI_1, bI_bo, lg_eq, toL_inj, ls_nI, decide_eq_false_iff_not, decide_eq_true_eq, Bool.true_eq_false, Bool.false_eq_true, bq, if_pos, if_neg, if_true, if_false, lq, Nat.reduceAdd, Nat.reduceMul, Nat.reduceSub, Nat.reduceDiv, Nat.reduceMod, litL, s1, s2, s3]
theorem m_whyNot (hD : D.WF) (hE : E.WF D) (m : mA D E S) (v : Int64) : ∃ T, fX12_whyNot v S = some (nI (dd D E v).1, T) ∧ Kp kG S T := by
  have p8 := hD.p8
  rcases v64 v with ⟨k, hk, rfl⟩ | h
  · rw [dd_N D E hk]
    unfold ddN
    have w1 : ∀ S, fX12_within (lN k) (lN 10) (lN 19) S = some (bI (decide (10 ≤ k ∧ k ≤ 19)), S) := fun S => m_winL 10 19 (by omega) (by decide) (by decide) S
    have w2 : ∀ S, fX12_within (lN k) (lN 100) (lN 199) S = some (bI (decide (100 ≤ k ∧ k ≤ 199)), S) := fun S => m_winL 100 199 (by omega) (by decide) (by decide) S
    have w3 : ∀ S, fX12_within (lN k) (lN 10000) (lN 19999) S = some (bI (decide (10000 ≤ k ∧ k ≤ 19999)), S) := fun S => m_winL 10000 19999 (by omega) (by decide) (by decide) S
    by_cases h1 : 10 ≤ k ∧ k ≤ 19
    · rw [if_pos h1]
      refine ⟨S, ?_, Kp.rf⟩
      unfold fX12_whyNot
      simp (disch := omega) only [lit, lm1, nI_add, pk_mul, nm_eq, nm_eq', nm_lt, nm_lt', nm_le, nm_le', x_lt, x_le, x_eq, x_in, x_cl, x_div, x_sub, x_rem, x_min, x_max, x_and, x_or, x_xor, x_df, x_shl, bI_0, bI_1, bI_bo, lg_eq, toL_inj, ls_nI, decide_eq_false_iff_not, decide_eq_true_eq, Bool.true_eq_false, Bool.false_eq_true, bq, if_pos, if_neg, if_true, if_false, lq, Nat.reduceAdd, Nat.reduceMul, Nat.reduceSub, Nat.reduceDiv, Nat.reduceMod, litL, w1]
    · rw [if_neg h1]
      by_cases h2 : 100 ≤ k ∧ k ≤ 199
      · rw [if_pos h2]
        have ea : (lN k - lN 100) / lN 10 = Int32.toInt64 (nI ((k - 100) / 10)) := by rw [lN_sub (by omega), pk_lDiv (by omega) (by decide) (by decide), nI_l (by omega)]
        have eb : cpReml (lN k) (lN 10) = Int32.toInt64 (nI (k % 10)) := by unfold cpReml; rw [pk_lRem (by omega) (by decide) (by decide), nI_l (by omega)]
        refine ⟨S, ?_, Kp.rf⟩
        cases ht : twB D.P ((k - 100) / 10) (k % 10)
        · have hf : (cpLs' (nI ((k - 100) / 10)) D.P && cpLs' (nI (k % 10)) D.P && decide (¬ nI ((k - 100) / 10) = nI (k % 10))) = false := by
            rw [ls_nI (by omega), ls_nI (by omega)]
            unfold twB at ht
            rw [← ht]
            congr 1
            refine decide_eq_decide.mpr (not_congr ?_)
            rw [nI_eq (by omega) (by omega)]
          have at2 : fX12_areTwo (Int32.toInt64 (nI ((k - 100) / 10))) (Int32.toInt64 (nI (k % 10))) S = some (nI 0, S) := by rw [m_areTwo hD m.1, hf]; rfl
          unfold fX12_whyNot
          simp (disch := omega) only [lit, lm1, nI_add, pk_mul, nm_eq, nm_eq', nm_lt, nm_lt', nm_le, nm_le', x_lt, x_le, x_eq, x_in, x_cl, x_div, x_sub, x_rem, x_min, x_max, x_and, x_or, x_xor, x_df, x_shl, bI_0, bI_1, bI_bo, lg_eq, toL_inj, ls_nI, decide_eq_false_iff_not, decide_eq_true_eq, Bool.true_eq_false, Bool.false_eq_true, bq, if_pos, if_neg, if_true, if_false, lq, Nat.reduceAdd, Nat.reduceMul, Nat.reduceSub, Nat.reduceDiv, Nat.reduceMod, litL, w1, w2, ea, eb, at2]
          first | done | rfl
        · obtain ⟨g1, g2, g3⟩ := tw_sp ht
          unfold fX12_whyNot
          simp (disch := omega) only [lit, lm1, nI_add, pk_mul, nm_eq, nm_eq', nm_lt, nm_lt', nm_le, nm_le', x_lt, x_le, x_eq, x_in, x_cl, x_div, x_sub, x_rem, x_min, x_max, x_and, x_or, x_xor, x_df, x_shl, bI_0, bI_1, bI_bo, lg_eq, toL_inj, ls_nI, decide_eq_false_iff_not, decide_eq_true_eq, Bool.true_eq_false, Bool.false_eq_true, bq, if_pos, if_neg, if_true, if_false, lq, Nat.reduceAdd, Nat.reduceMul, Nat.reduceSub, Nat.reduceDiv, Nat.reduceMod, litL, w1, w2, ea, eb, m_areTwo1 hD m.1 g1 g2 g3]
      · rw [if_neg h2]
        by_cases h3 : 10000 ≤ k ∧ k ≤ 19999
        · rw [if_pos h3]
          have b1 : (k - 10000) / 1000 < 10 := by omega
          have b2 : (k - 10000) / 100 % 10 < 10 := by omega
          have b3 : (k - 10000) / 10 % 10 < 10 := by omega
          have b4 : (k - 10000) % 10 < 10 := by omega
          have e3 : fX12_whyNot (lN k) S = if (k - 10000) / 100 % 10 ≤ (k - 10000) / 1000 then some (nI 1, S) else cpB (fX12_whyCarry (nI ((k - 10000) / 1000)) (nI ((k - 10000) / 100 % 10)) (nI ((k - 10000) / 10 % 10)) (nI ((k - 10000) % 10)) (nI E.h) S) fun z3 S4 => some (z3, S4) := by
            unfold fX12_whyNot fX12_whyTold
            simp (disch := omega) only [lit, lm1, nI_add, pk_mul, nm_eq, nm_eq', nm_lt, nm_lt', nm_le, nm_le', x_lt, x_le, x_eq, x_in, x_cl, x_div, x_sub, x_rem, x_min, x_max, x_and, x_or, x_xor, x_df, x_shl, bI_0, bI_1, bI_bo, lg_eq, toL_inj, ls_nI, decide_eq_false_iff_not, decide_eq_true_eq, Bool.true_eq_false, Bool.false_eq_true, bq, if_pos, if_neg, if_true, if_false, lq, Nat.reduceAdd, Nat.reduceMul, Nat.reduceSub, Nat.reduceDiv, Nat.reduceMod, litL, w1, w2, w3, lN_i, m.h]
            by_cases hpq : (k - 10000) / 100 % 10 ≤ (k - 10000) / 1000
            · rw [if_pos hpq, bq]
            · rw [if_neg hpq]
              cases fX12_whyCarry (nI ((k - 10000) / 1000)) (nI ((k - 10000) / 100 % 10)) (nI ((k - 10000) / 10 % 10)) (nI ((k - 10000) % 10)) (nI E.h) S <;> rfl
          rw [e3]
          by_cases hpq : (k - 10000) / 100 % 10 ≤ (k - 10000) / 1000
          · have hV : ddV D ((k - 10000) / 1000) ((k - 10000) / 100 % 10) ((k - 10000) / 10 % 10) ((k - 10000) % 10) = false := by unfold ddV; rw [decide_eq_false (by omega)]; rfl
            rw [if_pos hpq, hV]
            exact ⟨S, rfl, Kp.rf⟩
          · rw [if_neg hpq]
            cases hV : ddV D ((k - 10000) / 1000) ((k - 10000) / 100 % 10) ((k - 10000) / 10 % 10) ((k - 10000) % 10)
            · refine ⟨S, ?_, Kp.rf⟩
              rw [m_whyCarryN hD m (ddV_N b1 b2 b3 b4 hV (by omega)), bq]; rfl
            · obtain ⟨g1, g2, g3, g4⟩ := ddV_sp hV
              obtain ⟨A, a1, a2⟩ := m_whyCarry hD hE m (h := E.h) (p := (k - 10000) / 1000) (q := (k - 10000) / 100 % 10) (k := (k - 10000) / 10 % 10) (to := (k - 10000) % 10) (by omega) g2 (by omega) g3 g4
              refine ⟨A, ?_, a2⟩
              rw [a1, bq]
              by_cases e : wy D E ((k - 10000) / 1000) ((k - 10000) / 100 % 10) ((k - 10000) / 10 % 10) ((k - 10000) % 10) E.h = 0
              · rw [if_pos rfl, if_pos e, e]
              · rw [if_pos rfl, if_neg e]
        · rw [if_neg h3]
          refine ⟨S, ?_, Kp.rf⟩
          unfold fX12_whyNot
          simp (disch := omega) only [lit, lm1, nI_add, pk_mul, nm_eq, nm_eq', nm_lt, nm_lt', nm_le, nm_le', x_lt, x_le, x_eq, x_in, x_cl, x_div, x_sub, x_rem, x_min, x_max, x_and, x_or, x_xor, x_df, x_shl, bI_0, bI_1, bI_bo, lg_eq, toL_inj, ls_nI, decide_eq_false_iff_not, decide_eq_true_eq, Bool.true_eq_false, Bool.false_eq_true, bq, if_pos, if_neg, if_true, if_false, lq, Nat.reduceAdd, Nat.reduceMul, Nat.reduceSub, Nat.reduceDiv, Nat.reduceMod, litL, w1, w2, w3]
  · rw [dd_out D E h]
    refine ⟨S, ?_, Kp.rf⟩
    have w : ∀ a b : Nat, a < 20000 → b < 20000 → ∀ S, fX12_within v (lN a) (lN b) S = some (nI 0, S) := fun a b ha hb S => by
      rw [e_within, if_neg]; rfl
      rw [l_le, l_le, lN_toInt (by omega), lN_toInt (by omega)]
      rw [l_lt, l_lt, lN_toInt (by decide), lN_toInt (by decide)] at h
      omega
    unfold fX12_whyNot
    simp (disch := omega) only [lit, lm1, nI_add, pk_mul, nm_eq, nm_eq', nm_lt, nm_lt', nm_le, nm_le', x_lt, x_le, x_eq, x_in, x_cl, x_div, x_sub, x_rem, x_min, x_max, x_and, x_or, x_xor, x_df, x_shl, bI_0, bI_1, bI_bo, lg_eq, toL_inj, ls_nI, decide_eq_false_iff_not, decide_eq_true_eq, Bool.true_eq_false, Bool.false_eq_true, bq, if_pos, if_neg, if_true, if_false, lq, Nat.reduceAdd, Nat.reduceMul, Nat.reduceSub, Nat.reduceDiv, Nat.reduceMod, litL, w 10 19 (by decide) (by decide), w 100 199 (by decide) (by decide), w 10000 19999 (by decide) (by decide)]
theorem m_does (hD : D.WF) (hE : E.WF D) (m : mA D E S) (v : Int64) (h0 : (dd D E v).1 = 0) : ∃ T, fX12_does (Int64.toInt32 v) S = some ((), T) ∧ Kp kDm S T ∧ mN (dd D E v).2 T 62 := by
  rcases v64 v with ⟨k, hk, rfl⟩ | h
  · rw [dd_N D E hk] at h0 ⊢
    rw [lN_i]
    unfold ddN at h0 ⊢
    by_cases h1 : 10 ≤ k ∧ k ≤ 19
    · rw [if_pos h1]
      refine ⟨cpI S 151 78 (nI (k - 10)), ?_, Kp.rf.I (by exact Or.inl ⟨rfl, by decide, by decide⟩), fun i hi => ?_, fun i hi => ?_, fun i hi => ?_, sI1, ?_⟩
      · unfold fX12_does
        simp (disch := omega) only [lit, lm1, nI_add, pk_mul, nm_eq, nm_eq', nm_lt, nm_lt', nm_le, nm_le', x_lt, x_le, x_eq, x_in, x_cl, x_div, x_sub, x_rem, x_min, x_max, x_and, x_or, x_xor, x_df, x_shl, bI_0, bI_1, bI_bo, lg_eq, toL_inj, ls_nI, decide_eq_false_iff_not, decide_eq_true_eq, Bool.true_eq_false, Bool.false_eq_true, bq, if_pos, if_neg, if_true, if_false, lq, Nat.reduceAdd, Nat.reduceMul, Nat.reduceSub, Nat.reduceDiv, Nat.reduceMod]
      · rw [sIn (Or.inr (by omega))]; exact m.2.at' i hi
      · rw [sIn (Or.inr (by omega))]; exact m.2.rim i hi
      · rw [sIn (Or.inr (by omega))]; exact m.2.fd i hi
      · rw [sIn (Or.inr (by omega))]; exact m.2.ca
    · rw [if_neg h1] at h0 ⊢
      by_cases h2 : 100 ≤ k ∧ k ≤ 199
      · rw [if_pos h2] at h0 ⊢
        cases ht : twB D.P ((k - 100) / 10) (k % 10)
        · rw [ht] at h0; cases h0
        · obtain ⟨g1, g2, g3⟩ := tw_sp ht
          have p8 := hD.p8
          obtain ⟨T, t1, t2, t3⟩ := m_goesQuarrel m.2 (p := (k - 100) / 10) (q := k % 10) (by omega) (by omega) g3
          refine ⟨T, ?_, t2.le (fun q j h => Or.inl (by omega)), t3⟩
          unfold fX12_does
          simp (disch := omega) only [lit, lm1, nI_add, pk_mul, nm_eq, nm_eq', nm_lt, nm_lt', nm_le, nm_le', x_lt, x_le, x_eq, x_in, x_cl, x_div, x_sub, x_rem, x_min, x_max, x_and, x_or, x_xor, x_df, x_shl, bI_0, bI_1, bI_bo, lg_eq, toL_inj, ls_nI, decide_eq_false_iff_not, decide_eq_true_eq, Bool.true_eq_false, Bool.false_eq_true, bq, if_pos, if_neg, if_true, if_false, lq, Nat.reduceAdd, Nat.reduceMul, Nat.reduceSub, Nat.reduceDiv, Nat.reduceMod, t1]
      · rw [if_neg h2] at h0 ⊢
        by_cases h3 : 10000 ≤ k ∧ k ≤ 19999
        · rw [if_pos h3] at h0 ⊢
          cases hV : ddV D ((k - 10000) / 1000) ((k - 10000) / 100 % 10) ((k - 10000) / 10 % 10) ((k - 10000) % 10)
          · rw [hV] at h0; cases h0
          · rw [hV] at h0
            obtain ⟨g1, g2, g3, g4⟩ := ddV_sp hV
            by_cases e : wy D E ((k - 10000) / 1000) ((k - 10000) / 100 % 10) ((k - 10000) / 10 % 10) ((k - 10000) % 10) E.h = 0
            · rw [if_pos rfl, if_pos e]
              obtain ⟨T, t1, t2, t3⟩ := m_goesCarry hD hE m (p := (k - 10000) / 1000) (q := (k - 10000) / 100 % 10) (k := (k - 10000) / 10 % 10) (to := (k - 10000) % 10) (by omega) g2 g3 g4 e
              refine ⟨T, ?_, t2, t3⟩
              unfold fX12_does
              simp (disch := omega) only [lit, lm1, nI_add, pk_mul, nm_eq, nm_eq', nm_lt, nm_lt', nm_le, nm_le', x_lt, x_le, x_eq, x_in, x_cl, x_div, x_sub, x_rem, x_min, x_max, x_and, x_or, x_xor, x_df, x_shl, bI_0, bI_1, bI_bo, lg_eq, toL_inj, ls_nI, decide_eq_false_iff_not, decide_eq_true_eq, Bool.true_eq_false, Bool.false_eq_true, bq, if_pos, if_neg, if_true, if_false, lq, Nat.reduceAdd, Nat.reduceMul, Nat.reduceSub, Nat.reduceDiv, Nat.reduceMod, show k / 1000 % 10 = (k - 10000) / 1000 by omega, show k / 100 % 10 = (k - 10000) / 100 % 10 by omega, show k / 10 % 10 = (k - 10000) / 10 % 10 by omega, show k % 10 = (k - 10000) % 10 by omega, t1]
            · rw [if_pos rfl, if_neg e] at h0; exact absurd h0 e
        · rw [if_neg h3] at h0; cases h0
  · rw [dd_out D E h] at h0; cases h0
end DD
