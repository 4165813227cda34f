/-! the reference's likeliest ways -/
theorem lN_ltB {a b : Nat} (ha : a < 2 ^ 63) (hb : b < 2 ^ 63) : (lN a < lN b) = (a < b) := propext (by rw [l_lt, lN_big ha, lN_big hb]; omega)
theorem lgB {a b : Nat} (ha : a < 2 ^ 63) (hb : b < 2 ^ 63) : (lg_cmp (lN a) (lN b) ≤ nI 0) = (a ≤ b) := by
  rw [lg_leP, lN_ltB hb ha]
  exact propext (by omega)
theorem lgG {a b : Nat} (ha : a < 2 ^ 63) (hb : b < 2 ^ 63) : (nI 0 < lg_cmp (lN a) (lN b)) = (b < a) := propext ((lg_gt _ _).trans (by rw [lN_ltB hb ha]))
def rowM (S : cpS) (k : Nat) (f : Nat → Nat) : Prop := ∀ x, x < 6 → S.2 170 (6 * k + x) = lN (f x)
def k170 (k : Nat) (q j : Nat) : Prop := (q = 170 ∧ 6 * k ≤ j ∧ j < 6 * k + 6) ∨ kH q j
theorem k170_M {k q j : Nat} (h : k170 k q j) : kM q j := by
  rcases h with ⟨rfl, -, -⟩ | h
  · exact ⟨scr_c (by decide) (by decide) (by decide) j, by decide⟩
  · exact kH_M h
section LI2
variable {D : cpD} {E : cpE} {S : cpS}
theorem rowM.kp {T : cpS} {k : Nat} {f : Nat → Nat} {g : Nat → Nat → Prop} (h : rowM S k f) (q : Kp g S T) (hg : ∀ j, 6 * k ≤ j → j < 6 * k + 6 → ¬ g 170 j) : rowM T k f := fun x hx => by rw [q.l (hg _ (by omega) (by omega))]; exact h x hx
theorem gsL_le {c r a b B : Nat} {pv f : Nat → Nat} (hp : ∀ x, pv x * 10 ≤ B) (hf : ∀ x, f x ≤ B) : ∀ x, gsW D E c wL pv r a b f x ≤ B := fun x => by
  unfold gsW
  split
  · have h1 : wL (pv a) (D.rd r).2.2 ≤ pv a * 10 := Nat.mul_le_mul_left _ (by omega)
    have := hp a
    have := hf x
    omega
  · exact hf x
theorem m_goes (hD : D.WF) (hE : E.WF D) (m : mF D E S E.h) {c k r a b : Nat} {pv f : Nat → Nat} (hc : c < D.C) (hr : r < D.R) (hk : k < 5) (ha : a < D.K) (hb : b < D.K) (hp : ∀ x, pv x * 10 ≤ 1000000) (hf : ∀ x, f x ≤ 1000000) (h1 : rowM S k pv) (h2 : rowM S (k + 1) f) : ∃ T, fX12_goesLikely (nI c) (nI k) (nI r) (nI a) (nI b) S = some ((), T) ∧ rowM T (k + 1) (gsW D E c wL pv r a b f) ∧ Kp (k170 (k + 1)) S T := by
  have k6 := hD.k6
  obtain ⟨x1, x2, -, x4, x5⟩ := hD.rd r hr
  have hpa := hp a
  have hfb := hf b
  have e1 := h1 a (by omega)
  have e2 := h2 b (by omega)
  have hy : wL (pv a) (D.rd r).2.2 ≤ 1000000 := Nat.le_trans (Nat.mul_le_mul_left _ (by omega)) hpa
  have ey : lN (pv a) * Int32.toInt64 (nI (10 - (D.rd r).2.2)) = lN (wL (pv a) (D.rd r).2.2) := by rw [nI_l (by omega), lN_mul]; rfl
  have hlg := lgB (a := wL (pv a) (D.rd r).2.2) (b := f b) (by omega) (by omega)
  unfold fX12_goesLikely
  by_cases hle : wL (pv a) (D.rd r).2.2 ≤ f b
  · have eg : ∀ x, gsW D E c wL pv r a b f x = f x := fun x => by
      unfold gsW
      split
      · rename_i q; rw [q.1]; omega
      · rfl
    refine ⟨S, ?_, fun x hx => by rw [eg x]; exact h2 x hx, Kp.rf⟩
    simp (disch := omega) only [lit, lm1, nI_add, pk_mul, nm_eq, nm_eq', nm_lt, nm_lt', nm_le, nm_le', x_lt, x_le, x_eq, x_in, x_cl, x_div, x_sub, x_rem, x_min, x_max, x_and, x_or, x_xor, x_df, x_shl, bI_0, bI_1, bI_bo, lg_eq, toL_inj, ls_nI, decide_eq_false_iff_not, decide_eq_true_eq, Bool.true_eq_false, Bool.false_eq_true, bq, if_pos, if_neg, if_true, if_false, lq, Nat.reduceAdd, Nat.reduceMul, Nat.reduceSub, Nat.reduceDiv, Nat.reduceMod, m_longOf hD m.1 hr, e1, e2, ey, hlg, hle]
  · obtain ⟨U, u1, u2⟩ := m_someMay hD hE m hc ha hr
    cases hs : smY D E c a r
    · rw [hs] at u1
      rw [gsW_0 hs]
      refine ⟨U, ?_, h2.kp u2 (fun j _ _ q => by unfold kH at q; omega), u2.le (fun _ _ h => Or.inr h)⟩
      simp (disch := omega) only [lit, lm1, nI_add, pk_mul, nm_eq, nm_eq', nm_lt, nm_lt', nm_le, nm_le', x_lt, x_le, x_eq, x_in, x_cl, x_div, x_sub, x_rem, x_min, x_max, x_and, x_or, x_xor, x_df, x_shl, bI_0, bI_1, bI_bo, lg_eq, toL_inj, ls_nI, decide_eq_false_iff_not, decide_eq_true_eq, Bool.true_eq_false, Bool.false_eq_true, bq, if_pos, if_neg, if_true, if_false, lq, Nat.reduceAdd, Nat.reduceMul, Nat.reduceSub, Nat.reduceDiv, Nat.reduceMod, m_longOf hD m.1 hr, e1, e2, ey, hlg, hle, u1]
    · rw [hs] at u1
      rw [gsW_1 hs]
      refine ⟨cpL U 170 (6 * (k + 1) + b) (lN (wL (pv a) (D.rd r).2.2)), ?_, fun x hx => ?_, (u2.le (fun _ _ h => Or.inr h)).L (by exact Or.inl ⟨rfl, by omega, by omega⟩)⟩
      · simp (disch := omega) only [lit, lm1, nI_add, pk_mul, nm_eq, nm_eq', nm_lt, nm_lt', nm_le, nm_le', x_lt, x_le, x_eq, x_in, x_cl, x_div, x_sub, x_rem, x_min, x_max, x_and, x_or, x_xor, x_df, x_shl, bI_0, bI_1, bI_bo, lg_eq, toL_inj, ls_nI, decide_eq_false_iff_not, decide_eq_true_eq, Bool.true_eq_false, Bool.false_eq_true, bq, if_pos, if_neg, if_true, if_false, lq, Nat.reduceAdd, Nat.reduceMul, Nat.reduceSub, Nat.reduceDiv, Nat.reduceMod, m_longOf hD m.1 hr, e1, e2, ey, hlg, hle, u1]
      · (try dsimp only)
        by_cases e : x = b
        · rw [if_pos e, e, sL1, Nat.max_eq_right (by omega)]
        · rw [if_neg e, sLn (Or.inr (by omega)), u2.l (by unfold kH; omega)]; exact h2 x hx
theorem m_lk58 (hD : D.WF) (hE : E.WF D) (m : mF D E S E.h) {c k : Nat} (hc : c < D.C) (hk : k < 5) (h1 : rowM S k (Lk D E c k)) (h2 : rowM S (k + 1) (fun _ => 0)) (k51 : Int32 → cpS → Option (Unit × cpS)) : ∃ T, fX12_laysLikely_58 (nI c) (nI k) k51 cpFu (nI 0) S = k51 (nI (k + 1)) T ∧ rowM T (k + 1) (Lk D E c (k + 1)) ∧ Kp (k170 (k + 1)) S T := by
  have r9 := hD.r9
  have hp : ∀ x, Lk D E c k x * 10 ≤ 1000000 := fun x => by have := Lk_le (D := D) (E := E) c (show k ≤ 5 by omega) x; omega
  have := up_lpR (F := fun n r (T : cpS) => fX12_laysLikely_58 (nI c) (nI k) k51 n r T) (K := fun T => k51 (nI (k + 1)) T) D.R (rdW D E c wL (Lk D E c k)) (fun _ f T => rowM T (k + 1) f ∧ (∀ x, f x ≤ 1000000) ∧ Kp (k170 (k + 1)) S T) (by omega) (fun n r f T hr hI => ?_) (fun n f T hI => ?_) (i0 := 0) (s := fun _ => 0) (a := S) (Nat.zero_le _) ⟨h2, fun _ => Nat.zero_le _, Kp.rf⟩
  · obtain ⟨T, t1, t2, t3, t4⟩ := this
    exact ⟨T, t1, t2, t4⟩
  · obtain ⟨i1, i2, i3⟩ := hI
    obtain ⟨x1, x2, -, x4, x5⟩ := hD.rd r hr
    have hkk : ∀ q j, k170 (k + 1) q j → q ≠ 151 ∧ q ≠ 155 ∧ (q = 150 → j ≠ 19) := fun q j h => by unfold k170 kH at h; omega
    have mT : mF D E T E.h := m.kp hD i3 hkk
    have hT : rowM T k (Lk D E c k) := h1.kp i3 (fun j g1 g2 q => by unfold k170 kH at q; omega)
    obtain ⟨A, a1, a2, a3⟩ := m_goes hD hE mT hc hr hk x1 x2 hp i2 hT i1
    have mA' : mF D E A E.h := mT.kp hD a3 hkk
    have hA : rowM A k (Lk D E c k) := hT.kp a3 (fun j g1 g2 q => by unfold k170 kH at q; omega)
    have hf2 : ∀ x, gsW D E c wL (Lk D E c k) r (D.rd r).1 (D.rd r).2.1 f x ≤ 1000000 := gsL_le hp i2
    obtain ⟨B, b1, b2, b3⟩ := m_goes hD hE mA' hc hr hk x2 x1 hp hf2 hA a2
    refine ⟨B, ?_, b2, gsL_le hp hf2, (i3.tr a3).tr b3⟩
    rw [fX12_laysLikely_58]
    simp (disch := omega) only [lit, lm1, nI_add, pk_mul, nm_eq, nm_eq', nm_lt, nm_lt', nm_le, nm_le', x_lt, x_le, x_eq, x_in, x_cl, x_div, x_sub, x_rem, x_min, x_max, x_and, x_or, x_xor, x_df, x_shl, bI_0, bI_1, bI_bo, lg_eq, toL_inj, ls_nI, decide_eq_false_iff_not, decide_eq_true_eq, Bool.true_eq_false, Bool.false_eq_true, bq, if_pos, if_neg, if_true, if_false, lq, Nat.reduceAdd, Nat.reduceMul, Nat.reduceSub, Nat.reduceDiv, Nat.reduceMod, mT.1.R, mT.1.r1 r hr, mT.1.r2 r hr, a1, mA'.1.r1 r hr, mA'.1.r2 r hr, b1]
  · have hkk : ∀ q j, k170 (k + 1) q j → q ≠ 151 ∧ q ≠ 155 ∧ (q = 150 → j ≠ 19) := fun q j h => by unfold k170 kH at h; omega
    have mT : mF D E T E.h := m.kp hD hI.2.2 hkk
    rw [fX12_laysLikely_58]
    simp (disch := omega) only [lit, lm1, nI_add, pk_mul, nm_eq, nm_eq', nm_lt, nm_lt', nm_le, nm_le', x_lt, x_le, x_eq, x_in, x_cl, x_div, x_sub, x_rem, x_min, x_max, x_and, x_or, x_xor, x_df, x_shl, bI_0, bI_1, bI_bo, lg_eq, toL_inj, ls_nI, decide_eq_false_iff_not, decide_eq_true_eq, Bool.true_eq_false, Bool.false_eq_true, bq, if_pos, if_neg, if_true, if_false, lq, Nat.reduceAdd, Nat.reduceMul, Nat.reduceSub, Nat.reduceDiv, Nat.reduceMod, mT.1.R]
def kLk (q j : Nat) : Prop := q = 170 ∨ kG q j
theorem kLk_M {q j : Nat} (h : kLk q j) : kM q j := by
  rcases h with rfl | h
  · exact ⟨scr_c (by decide) (by decide) (by decide) j, by decide⟩
  · exact kG_M h
theorem m_lk51 (hD : D.WF) (hE : E.WF D) {c : Nat} (hc : c < D.C) : ∀ d k f (S : cpS), k + d = 5 → d < f → mF D E S E.h → (∀ j, j ≤ k → rowM S j (Lk D E c j)) → (∀ j, k < j → j ≤ 5 → rowM S j (fun _ => 0)) → ∃ T, fX12_laysLikely_51 (nI c) f (nI k) S = some ((), T) ∧ (∀ j, j ≤ 5 → rowM T j (Lk D E c j)) ∧ mF D E T E.h ∧ Kp kLk S T := by
  intro d
  induction d with
  | zero =>
    intro k f S h hf m h1 h2
    obtain ⟨f, rfl⟩ : ∃ g, f = g + 1 := ⟨f - 1, by omega⟩
    refine ⟨S, ?_, fun j hj => h1 j (by omega), m, Kp.rf⟩
    rw [fX12_laysLikely_51]
    simp (disch := omega) only [lit, lm1, nI_add, pk_mul, nm_eq, nm_eq', nm_lt, nm_lt', nm_le, nm_le', x_lt, x_le, x_eq, x_in, x_cl, x_div, x_sub, x_rem, x_min, x_max, x_and, x_or, x_xor, x_df, x_shl, bI_0, bI_1, bI_bo, lg_eq, toL_inj, ls_nI, decide_eq_false_iff_not, decide_eq_true_eq, Bool.true_eq_false, Bool.false_eq_true, bq, if_pos, if_neg, if_true, if_false, lq, Nat.reduceAdd, Nat.reduceMul, Nat.reduceSub, Nat.reduceDiv, Nat.reduceMod]
  | succ d ih =>
    intro k f S h hf m h1 h2
    obtain ⟨f, rfl⟩ : ∃ g, f = g + 1 := ⟨f - 1, by omega⟩
    obtain ⟨A, a1, a2, a3⟩ := m_lk58 hD hE m hc (show k < 5 by omega) (h1 k (Nat.le_refl _)) (h2 (k + 1) (by omega) (by omega)) (fX12_laysLikely_51 (nI c) f)
    obtain ⟨T, t1, t2, t3, t4⟩ := ih (k + 1) f A (by omega) (by omega) (m.kp hD a3 (fun q j h => by unfold k170 kH at h; omega)) (fun j hj => by
      by_cases e : j = k + 1
      · rw [e]; exact a2
      · exact (h1 j (by omega)).kp a3 (fun i g1 g2 q => by unfold k170 kH at q; omega)) (fun j hj hj5 => (h2 j (by omega) hj5).kp a3 (fun i g1 g2 q => by unfold k170 kH at q; omega))
    refine ⟨T, ?_, t2, t3, (a3.le (fun q j h => ?_)).tr t4⟩
    · rw [fX12_laysLikely_51]
      simp (disch := omega) only [lit, lm1, nI_add, pk_mul, nm_eq, nm_eq', nm_lt, nm_lt', nm_le, nm_le', x_lt, x_le, x_eq, x_in, x_cl, x_div, x_sub, x_rem, x_min, x_max, x_and, x_or, x_xor, x_df, x_shl, bI_0, bI_1, bI_bo, lg_eq, toL_inj, ls_nI, decide_eq_false_iff_not, decide_eq_true_eq, Bool.true_eq_false, Bool.false_eq_true, bq, if_pos, if_neg, if_true, if_false, lq, Nat.reduceAdd, Nat.reduceMul, Nat.reduceSub, Nat.reduceDiv, Nat.reduceMod]
      exact a1.trans t1
    · rcases h with h | h
      · exact Or.inl h.1
      · exact Or.inr (kH_G h)
theorem m_laysLikely (hD : D.WF) (hE : E.WF D) (m : mA D E S) {c : Nat} (hc : c < D.C) : ∃ T, fX12_laysLikely (nI c) S = some ((), T) ∧ (∀ j, j ≤ 5 → rowM T j (Lk D E c j)) ∧ mF D E T E.h ∧ Kp kLk S T := by
  have c4 := hD.c4
  have k6 := hD.k6
  have ha := hE.at' c hc
  obtain ⟨A, a1, a2, a3⟩ := m_laysNow hD m E.h
  obtain ⟨B, b1, b2, b3⟩ : ∃ B, fX12_laysLikely_13 (nI c) cpFu (nI 0) A = fX12_laysLikely_51 (nI c) cpFu (nI 0) B ∧ (∀ x, x < 36 → B.2 170 x = lN (if x = E.at' c then 1 else 0)) ∧ Kp (fun q _ => q = 170) A B := by
    refine up_lpR (F := fun n i (T : cpS) => fX12_laysLikely_13 (nI c) n i T) (K := fun T => fX12_laysLikely_51 (nI c) cpFu (nI 0) T) 36 (fun _ (s : Unit) => s) (fun i _ T => (∀ x, x < i → T.2 170 x = lN (if x = E.at' c then 1 else 0)) ∧ Kp (fun q _ => q = 170) A T) (by decide) (fun n i s T hi hI => ?_) (fun n s T hI => ?_) (i0 := 0) (s := ()) (a := A) (Nat.zero_le _) ⟨fun x hx => absurd hx (by omega), Kp.rf⟩
    · obtain ⟨i1, i2⟩ := hI
      have mT : mA D E T := a2.1.kp hD i2 (fun k j q => by omega)
      refine ⟨cpL T 170 i (lN (if i = E.at' c then 1 else 0)), ?_, fun x hx => ?_, i2.L rfl⟩
      · rw [fX12_laysLikely_13]
        by_cases e : i = E.at' c
        · rw [if_pos e]
          simp (disch := omega) only [lit, lm1, nI_add, pk_mul, nm_eq, nm_eq', nm_lt, nm_lt', nm_le, nm_le', x_lt, x_le, x_eq, x_in, x_cl, x_div, x_sub, x_rem, x_min, x_max, x_and, x_or, x_xor, x_df, x_shl, bI_0, bI_1, bI_bo, lg_eq, toL_inj, ls_nI, decide_eq_false_iff_not, decide_eq_true_eq, Bool.true_eq_false, Bool.false_eq_true, bq, if_pos, if_neg, if_true, if_false, lq, Nat.reduceAdd, Nat.reduceMul, Nat.reduceSub, Nat.reduceDiv, Nat.reduceMod, mT.at', e]
          rfl
        · rw [if_neg e]
          simp (disch := omega) only [lit, lm1, nI_add, pk_mul, nm_eq, nm_eq', nm_lt, nm_lt', nm_le, nm_le', x_lt, x_le, x_eq, x_in, x_cl, x_div, x_sub, x_rem, x_min, x_max, x_and, x_or, x_xor, x_df, x_shl, bI_0, bI_1, bI_bo, lg_eq, toL_inj, ls_nI, decide_eq_false_iff_not, decide_eq_true_eq, Bool.true_eq_false, Bool.false_eq_true, bq, if_pos, if_neg, if_true, if_false, lq, Nat.reduceAdd, Nat.reduceMul, Nat.reduceSub, Nat.reduceDiv, Nat.reduceMod, mT.at', e]
          rfl
      · by_cases e : x = i
        · rw [e]; exact sL1
        · rw [sLn (Or.inr e)]; exact i1 x (by omega)
    · rw [fX12_laysLikely_13]
      simp (disch := omega) only [lit, lm1, nI_add, pk_mul, nm_eq, nm_eq', nm_lt, nm_lt', nm_le, nm_le', x_lt, x_le, x_eq, x_in, x_cl, x_div, x_sub, x_rem, x_min, x_max, x_and, x_or, x_xor, x_df, x_shl, bI_0, bI_1, bI_bo, lg_eq, toL_inj, ls_nI, decide_eq_false_iff_not, decide_eq_true_eq, Bool.true_eq_false, Bool.false_eq_true, bq, if_pos, if_neg, if_true, if_false, lq, Nat.reduceAdd, Nat.reduceMul, Nat.reduceSub, Nat.reduceDiv, Nat.reduceMod]
  have mB : mF D E B E.h := a2.kp hD b3 (fun q j h => by omega)
  obtain ⟨T, t1, t2, t3, t4⟩ := m_lk51 hD hE hc 5 0 cpFu B rfl (by decide) mB (fun j hj x hx => by
    rw [show j = 0 by omega, Nat.mul_zero, Nat.zero_add]; exact b2 x (by omega)) (fun j hj hj5 x hx => by
    rw [b2 _ (by omega), if_neg (by omega)])
  refine ⟨T, ?_, t2, t3, (a3.le (fun _ _ h => Or.inr h)).tr ((b3.le (fun _ _ h => Or.inl h)).tr t4)⟩
  unfold fX12_laysLikely
  simp (disch := omega) only [lit, lm1, nI_add, pk_mul, nm_eq, nm_eq', nm_lt, nm_lt', nm_le, nm_le', x_lt, x_le, x_eq, x_in, x_cl, x_div, x_sub, x_rem, x_min, x_max, x_and, x_or, x_xor, x_df, x_shl, bI_0, bI_1, bI_bo, lg_eq, toL_inj, ls_nI, decide_eq_false_iff_not, decide_eq_true_eq, Bool.true_eq_false, Bool.false_eq_true, bq, if_pos, if_neg, if_true, if_false, lq, Nat.reduceAdd, Nat.reduceMul, Nat.reduceSub, Nat.reduceDiv, Nat.reduceMod, m.h, a1]
  exact b1.trans t1
end LI2
