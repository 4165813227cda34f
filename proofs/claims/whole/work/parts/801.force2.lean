/-! the class's forcing -/
theorem xor63 : ∀ t, t < 64 → ∀ s, s < 64 → decide (nI t &&& (nI s ^^^ nM) = nI 0) = decide (t &&& (63 ^^^ s) = 0) := by decide +kernel
def kFo (q j : Nat) : Prop := (q = 134 ∧ j = 5) ∨ q = 135
theorem kFo_C {k j : Nat} (h : kFo k j) : kC k j := by
  rcases h with ⟨rfl, rfl⟩ | rfl
  · exact ⟨scr_c (by decide) (by decide) (by decide) 5, by decide⟩
  · exact ⟨scr_c (by decide) (by decide) (by decide) j, by decide⟩
section FC
variable {D : cpD} {E : cpE} {S : cpS}
def onw (D : cpD) (E : cpE) (c : Nat) (S : cpS) : Prop := ∀ a, a < D.K → S.1 135 a = nI (nb D E c a)
theorem c_some (hD : D.WF) (cS : cA D E S) {c s : Nat} (o : onw D E c S) (hs : s < 2 ^ D.K) : fX2_someGoInto (nI s) S = some (nI (smI D E c s), S) := by
  have k6 := hD.k6
  have k64 : 2 ^ D.K ≤ 2 ^ 6 := Nat.pow_le_pow_right (by decide) k6
  refine up_lp (F := fun f a (x : Int32) => fX2_someGoInto_4 (nI s) f x a S) D.K (smS D E c s) (fun _ t => t < 2 ^ D.K) (fun t => nI t) (K := fun t => some (nI t, S)) (by omega) (fun f a t ha h => ⟨?_, ?_⟩) (fun f t _ => ?_) (i0 := 0) (s := 0) (Nat.zero_le _) (Nat.two_pow_pos _)
  · have hlt : nb D E c a &&& s < 2 ^ 31 := Nat.lt_of_le_of_lt Nat.and_le_right (by omega)
    have m4 : 2 ^ a < 2 ^ D.K := two_lt ha
    rw [fX2_someGoInto_4]
    unfold smS
    by_cases h0 : nb D E c a &&& s = 0
    · rw [if_pos h0]
      simp (disch := omega) only [lit, lm1, nI_add, pk_mul, nm_eq, nm_eq', nm_lt, nm_lt', nm_le, nm_le', x_lt, x_le, x_eq, x_in, x_cl, x_div, x_sub, x_rem, x_min, x_max, x_and, x_or, x_xor, x_df, x_shl, bI_0, bI_1, bI_bo, lg_eq, toL_inj, ls_nI, decide_eq_false_iff_not, decide_eq_true_eq, Bool.true_eq_false, Bool.false_eq_true, bq, if_pos, if_neg, if_true, if_false, lq, Nat.reduceAdd, Nat.reduceMul, Nat.reduceSub, Nat.reduceDiv, Nat.reduceMod, cS.K, o a ha, h0]
    · rw [if_neg h0]
      simp (disch := omega) only [lit, lm1, nI_add, pk_mul, nm_eq, nm_eq', nm_lt, nm_lt', nm_le, nm_le', x_lt, x_le, x_eq, x_in, x_cl, x_div, x_sub, x_rem, x_min, x_max, x_and, x_or, x_xor, x_df, x_shl, bI_0, bI_1, bI_bo, lg_eq, toL_inj, ls_nI, decide_eq_false_iff_not, decide_eq_true_eq, Bool.true_eq_false, Bool.false_eq_true, bq, if_pos, if_neg, if_true, if_false, lq, Nat.reduceAdd, Nat.reduceMul, Nat.reduceSub, Nat.reduceDiv, Nat.reduceMod, cS.K, o a ha, h0]
  · unfold smS
    split
    · exact h
    · exact or_lt h (two_lt ha)
  · rw [fX2_someGoInto_4]
    simp (disch := omega) only [lit, lm1, nI_add, pk_mul, nm_eq, nm_eq', nm_lt, nm_lt', nm_le, nm_le', x_lt, x_le, x_eq, x_in, x_cl, x_div, x_sub, x_rem, x_min, x_max, x_and, x_or, x_xor, x_df, x_shl, bI_0, bI_1, bI_bo, lg_eq, toL_inj, ls_nI, decide_eq_false_iff_not, decide_eq_true_eq, Bool.true_eq_false, Bool.false_eq_true, bq, if_pos, if_neg, if_true, if_false, lq, Nat.reduceAdd, Nat.reduceMul, Nat.reduceSub, Nat.reduceDiv, Nat.reduceMod, cS.K]
theorem c_all (hD : D.WF) (cS : cA D E S) {c s : Nat} (o : onw D E c S) (hs : s < 2 ^ D.K) : fX2_allGoInto (nI s) S = some (nI (alI D E c s), S) := by
  have k6 := hD.k6
  have k64 : 2 ^ D.K ≤ 2 ^ 6 := Nat.pow_le_pow_right (by decide) k6
  refine up_lp (F := fun f a (x : Int32) => fX2_allGoInto_4 (nI s) f x a S) D.K (alS D E c s) (fun _ t => t < 2 ^ D.K) (fun t => nI t) (K := fun t => some (nI t, S)) (by omega) (fun f a t ha h => ⟨?_, ?_⟩) (fun f t _ => ?_) (i0 := 0) (s := 0) (Nat.zero_le _) (Nat.two_pow_pos _)
  · have hn := nb_lt (D := D) (E := E) (c := c) ha
    have hx := xor63 (nb D E c a) (by omega) s (by omega)
    have m4 : 2 ^ a < 2 ^ D.K := two_lt ha
    rw [fX2_allGoInto_4]
    unfold alS
    by_cases h0 : nb D E c a &&& (63 ^^^ s) = 0
    · rw [decide_eq_true h0] at hx
      have hx : (nI (nb D E c a) &&& (nI s ^^^ nM) = nI 0) = True := eq_true (of_decide_eq_true hx)
      rw [x_df] at hx
      rw [if_pos h0]
      simp (disch := omega) only [lit, lm1, nI_add, pk_mul, nm_eq, nm_eq', nm_lt, nm_lt', nm_le, nm_le', x_lt, x_le, x_eq, x_in, x_cl, x_div, x_sub, x_rem, x_min, x_max, x_and, x_or, x_xor, x_df, x_shl, bI_0, bI_1, bI_bo, lg_eq, toL_inj, ls_nI, decide_eq_false_iff_not, decide_eq_true_eq, Bool.true_eq_false, Bool.false_eq_true, bq, if_pos, if_neg, if_true, if_false, lq, Nat.reduceAdd, Nat.reduceMul, Nat.reduceSub, Nat.reduceDiv, Nat.reduceMod, cS.K, o a ha, hx]
    · rw [decide_eq_false h0] at hx
      have hx : (nI (nb D E c a) &&& (nI s ^^^ nM) = nI 0) = False := eq_false (of_decide_eq_false hx)
      rw [x_df] at hx
      rw [if_neg h0]
      simp (disch := omega) only [lit, lm1, nI_add, pk_mul, nm_eq, nm_eq', nm_lt, nm_lt', nm_le, nm_le', x_lt, x_le, x_eq, x_in, x_cl, x_div, x_sub, x_rem, x_min, x_max, x_and, x_or, x_xor, x_df, x_shl, bI_0, bI_1, bI_bo, lg_eq, toL_inj, ls_nI, decide_eq_false_iff_not, decide_eq_true_eq, Bool.true_eq_false, Bool.false_eq_true, bq, if_pos, if_neg, if_true, if_false, lq, Nat.reduceAdd, Nat.reduceMul, Nat.reduceSub, Nat.reduceDiv, Nat.reduceMod, cS.K, o a ha, hx]
  · unfold alS
    split
    · exact or_lt h (two_lt ha)
    · exact h
  · rw [fX2_allGoInto_4]
    simp (disch := omega) only [lit, lm1, nI_add, pk_mul, nm_eq, nm_eq', nm_lt, nm_lt', nm_le, nm_le', x_lt, x_le, x_eq, x_in, x_cl, x_div, x_sub, x_rem, x_min, x_max, x_and, x_or, x_xor, x_df, x_shl, bI_0, bI_1, bI_bo, lg_eq, toL_inj, ls_nI, decide_eq_false_iff_not, decide_eq_true_eq, Bool.true_eq_false, Bool.false_eq_true, bq, if_pos, if_neg, if_true, if_false, lq, Nat.reduceAdd, Nat.reduceMul, Nat.reduceSub, Nat.reduceDiv, Nat.reduceMod, cS.K]
theorem c_forced58 (hD : D.WF) {c to a : Nat} (ht : to < D.K) (ha : a < D.K) : ∀ d k f (S : cpS), k + d = 12 → d < f → cA D E S → onw D E c S → (∀ j, j ≤ k → (mo D E c to j).1.testBit a = false) → S.1 134 5 = nI (mo D E c to k).2 → ∃ T, fX2_forcedWithin_58 (nI a) (nI to) f (nI (mo D E c to k).1) (nI (k + 1)) S = some (oI (Dm D E c to a), T) ∧ (∀ n, Dm D E c to a = some (n + 1) → T.1 134 5 = nI (mo D E c to n).2) ∧ onw D E c T ∧ Kp kFo S T := by
  have k6 := hD.k6
  have k64 : 2 ^ D.K ≤ 2 ^ 6 := Nat.pow_le_pow_right (by decide) k6
  have m4 : 2 ^ to < 2 ^ D.K := two_lt ht
  intro d
  induction d with
  | zero =>
    intro k f S h hf cS o hno h5
    obtain ⟨f, rfl⟩ : ∃ g, f = g + 1 := ⟨f - 1, by omega⟩
    have hn : Dm D E c to a = none := (ff_none 13 0).mpr (fun j _ hj => hno j (by omega))
    rw [hn]
    refine ⟨S, ?_, (fun n hn => by cases hn), o, Kp.rf⟩
    rw [fX2_forcedWithin_58]
    simp (disch := omega) only [lit, lm1, nI_add, pk_mul, nm_eq, nm_eq', nm_lt, nm_lt', nm_le, nm_le', x_lt, x_le, x_eq, x_in, x_cl, x_div, x_sub, x_rem, x_min, x_max, x_and, x_or, x_xor, x_df, x_shl, bI_0, bI_1, bI_bo, lg_eq, toL_inj, ls_nI, decide_eq_false_iff_not, decide_eq_true_eq, Bool.true_eq_false, Bool.false_eq_true, bq, if_pos, if_neg, if_true, if_false, lq, Nat.reduceAdd, Nat.reduceMul, Nat.reduceSub, Nat.reduceDiv, Nat.reduceMod]
    rfl
  | succ d ih =>
    intro k f S h hf cS o hno h5
    obtain ⟨f, rfl⟩ : ∃ g, f = g + 1 := ⟨f - 1, by omega⟩
    have hl := mo_lt (E := E) (c := c) ht k
    have hl' := mo_lt (E := E) (c := c) ht (k + 1)
    have s1 := c_some hD cS o hl.2
    have s2 := c_all hD cS o hl.1
    have sl := smI_lt (D := D) (E := E) c (mo D E c to k).2
    have al := alI_lt (D := D) (E := E) c (mo D E c to k).1
    have e1 : 2 ^ to ||| smI D E c (mo D E c to k).2 = (mo D E c to (k + 1)).1 := rfl
    have e2 : 2 ^ to ||| alI D E c (mo D E c to k).1 = (mo D E c to (k + 1)).2 := rfl
    cases hb : (mo D E c to (k + 1)).1.testBit a
    · have kT : Kp kFo S (cpI S 134 5 (nI (mo D E c to (k + 1)).2)) := Kp.rf.I (by exact Or.inl ⟨rfl, rfl⟩)
      obtain ⟨T, t1, t2, t3, t4⟩ := ih (k + 1) f (cpI S 134 5 (nI (mo D E c to (k + 1)).2)) (by omega) (by omega) (cS.cc (kT.le (fun _ _ => kFo_C))) (fun a ha => by rw [sIr (by decide)]; exact o a ha) (fun j hj => by
        by_cases e : j = k + 1
        · rw [e]; exact hb
        · exact hno j (by omega)) sI1
      refine ⟨T, ?_, t2, t3, kT.tr t4⟩
      rw [fX2_forcedWithin_58]
      simp (disch := omega) only [lit, lm1, nI_add, pk_mul, nm_eq, nm_eq', nm_lt, nm_lt', nm_le, nm_le', x_lt, x_le, x_eq, x_in, x_cl, x_div, x_sub, x_rem, x_min, x_max, x_and, x_or, x_xor, x_df, x_shl, bI_0, bI_1, bI_bo, lg_eq, toL_inj, ls_nI, decide_eq_false_iff_not, decide_eq_true_eq, Bool.true_eq_false, Bool.false_eq_true, bq, if_pos, if_neg, if_true, if_false, lq, Nat.reduceAdd, Nat.reduceMul, Nat.reduceSub, Nat.reduceDiv, Nat.reduceMod, h5, s1, e1, e_isIn, hb, s2, e2]
      exact t1
    · have hn : Dm D E c to a = some (k + 1) := (ff_some _ _ _).mpr ⟨by omega, by omega, hb, fun j _ hj => hno j (by omega)⟩
      rw [hn]
      refine ⟨S, ?_, (fun n hn => by cases hn; exact h5), o, Kp.rf⟩
      rw [fX2_forcedWithin_58]
      simp (disch := omega) only [lit, lm1, nI_add, pk_mul, nm_eq, nm_eq', nm_lt, nm_lt', nm_le, nm_le', x_lt, x_le, x_eq, x_in, x_cl, x_div, x_sub, x_rem, x_min, x_max, x_and, x_or, x_xor, x_df, x_shl, bI_0, bI_1, bI_bo, lg_eq, toL_inj, ls_nI, decide_eq_false_iff_not, decide_eq_true_eq, Bool.true_eq_false, Bool.false_eq_true, bq, if_pos, if_neg, if_true, if_false, lq, Nat.reduceAdd, Nat.reduceMul, Nat.reduceSub, Nat.reduceDiv, Nat.reduceMod, h5, s1, e1, e_isIn, hb]
      rfl
theorem c_forcedWithin (hD : D.WF) (cS : cA D E S) {c to a : Nat} {r : Bool} (l : lrn D E r c S) (ht : to < D.K) (ha : a < D.K) : ∃ T, fX2_forcedWithin (nI a) (nI to) S = some (oI (Dm D E c to a), T) ∧ (∀ n, Dm D E c to a = some (n + 1) → T.1 134 5 = nI (mo D E c to n).2) ∧ onw D E c T ∧ Kp kFo S T := by
  have k6 := hD.k6
  have k64 : 2 ^ D.K ≤ 2 ^ 6 := Nat.pow_le_pow_right (by decide) k6
  obtain ⟨A, a1, a2, a3⟩ : ∃ A, fX2_forcedWithin_2 (nI a) (nI to) cpFu (nI 0) S = (cpLt (cpShl (nI 1) (nI to)) fun y1 => cpLt (cpI A 134 5 (cpShl (nI 1) (nI to))) fun S2 => if nI a = nI to then some (nI 0, S2) else fX2_forcedWithin_58 (nI a) (nI to) cpFu y1 (nI 1) S2) ∧ onw D E c A ∧ Kp kFo S A := by
    refine up_lpR (F := fun f x (T : cpS) => fX2_forcedWithin_2 (nI a) (nI to) f x T) (K := fun A => (cpLt (cpShl (nI 1) (nI to)) fun y1 => cpLt (cpI A 134 5 (cpShl (nI 1) (nI to))) fun S2 => if nI a = nI to then some (nI 0, S2) else fX2_forcedWithin_58 (nI a) (nI to) cpFu y1 (nI 1) S2)) D.K (fun _ (s : Unit) => s) (fun x _ T => (∀ y, y < x → T.1 135 y = nI (nb D E c y)) ∧ Kp kFo S T) (by omega) (fun f x s T hx hI => ?_) (fun f s T hI => ?_) (i0 := 0) (s := ()) (a := S) (Nat.zero_le _) ⟨fun y hy => absurd hy (by omega), Kp.rf⟩
    · obtain ⟨i1, i2⟩ := hI
      have cT := cS.cc (i2.le (fun _ _ => kFo_C))
      have lT := l.kp i2 (fun q j h => by unfold kFo at h; omega)
      have xl := nxt_lt (D := D) (E := E) c x
      refine ⟨cpI T 135 x (nI (nb D E c x)), ?_, fun y hy => ?_, i2.I (by exact Or.inr rfl)⟩
      · rw [fX2_forcedWithin_2]
        unfold nb
        simp (disch := omega) only [lit, lm1, nI_add, pk_mul, nm_eq, nm_eq', nm_lt, nm_lt', nm_le, nm_le', x_lt, x_le, x_eq, x_in, x_cl, x_div, x_sub, x_rem, x_min, x_max, x_and, x_or, x_xor, x_df, x_shl, bI_0, bI_1, bI_bo, lg_eq, toL_inj, ls_nI, decide_eq_false_iff_not, decide_eq_true_eq, Bool.true_eq_false, Bool.false_eq_true, bq, if_pos, if_neg, if_true, if_false, lq, Nat.reduceAdd, Nat.reduceMul, Nat.reduceSub, Nat.reduceDiv, Nat.reduceMod, cT.K, c_nextTo hD cT lT hx]
      · by_cases e : y = x
        · rw [e, sI1]
        · rw [sIn (Or.inr e)]; exact i1 y (by omega)
    · have cT := cS.cc (hI.2.le (fun _ _ => kFo_C))
      have cK : T.1 1 0 = nI D.K := cT.K
      rw [fX2_forcedWithin_2, cK, if_pos ((nI_leI (by omega) (by omega)).mpr (Nat.le_refl _))]
      simp only [lit]
  have kB : Kp kFo A (cpI A 134 5 (nI (2 ^ to))) := Kp.rf.I (by exact Or.inl ⟨rfl, rfl⟩)
  have oB : onw D E c (cpI A 134 5 (nI (2 ^ to))) := fun a ha => by rw [sIr (by decide)]; exact a2 a ha
  have cB := (cS.cc (a3.le (fun _ _ => kFo_C))).cc (kB.le (fun _ _ => kFo_C))
  unfold fX2_forcedWithin
  simp only [lit]
  rw [a1]
  by_cases e : a = to
  · have hn : Dm D E c to a = some 0 := Dm_0.mpr e
    rw [hn]
    refine ⟨cpI A 134 5 (nI (2 ^ to)), ?_, (fun n hn => by cases hn), oB, a3.tr kB⟩
    simp (disch := omega) only [lit, lm1, nI_add, pk_mul, nm_eq, nm_eq', nm_lt, nm_lt', nm_le, nm_le', x_lt, x_le, x_eq, x_in, x_cl, x_div, x_sub, x_rem, x_min, x_max, x_and, x_or, x_xor, x_df, x_shl, bI_0, bI_1, bI_bo, lg_eq, toL_inj, ls_nI, decide_eq_false_iff_not, decide_eq_true_eq, Bool.true_eq_false, Bool.false_eq_true, bq, if_pos, if_neg, if_true, if_false, lq, Nat.reduceAdd, Nat.reduceMul, Nat.reduceSub, Nat.reduceDiv, Nat.reduceMod, e]
    rfl
  · obtain ⟨T, t1, t2, t3, t4⟩ := c_forced58 hD (c := c) ht ha 12 0 cpFu (cpI A 134 5 (nI (2 ^ to))) rfl (by decide) cB oB (fun j hj => by
      rw [show j = 0 by omega]
      show (2 ^ to).testBit a = false
      rw [Nat.testBit_two_pow, decide_eq_false (Ne.symm e)]) sI1
    refine ⟨T, ?_, t2, t3, (a3.tr kB).tr t4⟩
    simp (disch := omega) only [lit, lm1, nI_add, pk_mul, nm_eq, nm_eq', nm_lt, nm_lt', nm_le, nm_le', x_lt, x_le, x_eq, x_in, x_cl, x_div, x_sub, x_rem, x_min, x_max, x_and, x_or, x_xor, x_df, x_shl, bI_0, bI_1, bI_bo, lg_eq, toL_inj, ls_nI, decide_eq_false_iff_not, decide_eq_true_eq, Bool.true_eq_false, Bool.false_eq_true, bq, if_pos, if_neg, if_true, if_false, lq, Nat.reduceAdd, Nat.reduceMul, Nat.reduceSub, Nat.reduceDiv, Nat.reduceMod, e]
    exact t1
end FC
