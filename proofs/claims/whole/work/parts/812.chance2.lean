/-! the class's chances -/
section C2
variable {D : cpD} {E : cpE} {S : cpS}
theorem rowC.kp {T : cpS} {k : Nat} {f : Nat → Nat} {g : Nat → Nat → Prop} (h : rowC S k f) (q : Kp g S T) (hg : ∀ j, k * 6 ≤ j → j < k * 6 + 6 → ¬ g 136 j) : rowC T k f := fun x hx => by rw [q.i (hg _ (by omega) (by omega))]; exact h x hx
theorem gsW_0 {c r a b : Nat} {w : Nat → Nat → Nat} {pv f : Nat → Nat} (h : smY D E c a r = false) : gsW D E c w pv r a b f = f := by
  funext x
  unfold gsW
  rw [if_neg (fun q => by rw [h] at q; cases q.2)]
theorem gsW_1 {c r a b : Nat} {w : Nat → Nat → Nat} {pv f : Nat → Nat} (h : smY D E c a r = true) : gsW D E c w pv r a b f = fun x => if x = b then max (f x) (w (pv a) (D.rd r).2.2) else f x := by
  funext x
  unfold gsW
  by_cases e : x = b
  · rw [if_pos ⟨e, h⟩, if_pos e]
  · rw [if_neg (fun q => e q.1), if_neg e]
theorem k136_C {k q j : Nat} (h : k136 k q j) : kC q j := by
  obtain ⟨rfl, -, -⟩ := h
  exact ⟨scr_c (by decide) (by decide) (by decide) j, by decide⟩
theorem c_ch90 (hD : D.WF) (c : cA D E S) {k kc r : Nat} {f : Nat → Nat} (op : opn D E kc S) (hr : r < D.R) (hk : k < 5) (hf : ∀ x, f x ≤ 100000) (h1 : rowC S k (Vk D E kc k)) (h2 : rowC S (k + 1) f) (k23 k31 : Int32 → cpS → Option (Unit × cpS)) : ∃ T, fX2_learnChances_90 (nI (k + 1)) (nI r) k23 k31 S = k31 (nI (r + 1)) T ∧ rowC T (k + 1) (gsW D E kc wC (Vk D E kc k) r (D.rd r).2.1 (D.rd r).1 f) ∧ Kp (k136 (k + 1)) S T := by
  have r9 := hD.r9
  have k6 := hD.k6
  obtain ⟨x1, x2, -, x4, x5⟩ := hD.rd r hr
  have o2 := (op r hr).2
  unfold fX2_learnChances_90
  cases hs : smY D E kc (D.rd r).2.1 r
  · rw [hs] at o2
    have o2 : S.1 137 (2 * r + 1) = nI 0 := o2
    rw [gsW_0 hs]
    refine ⟨S, ?_, h2, Kp.rf⟩
    simp (disch := omega) only [lit, lm1, nI_add, pk_mul, nm_eq, nm_eq', nm_lt, nm_lt', nm_le, nm_le', x_lt, x_le, x_eq, x_in, x_cl, x_div, x_sub, x_rem, x_min, x_max, x_and, x_or, x_xor, x_df, x_shl, bI_0, bI_1, bI_bo, lg_eq, toL_inj, ls_nI, decide_eq_false_iff_not, decide_eq_true_eq, Bool.true_eq_false, Bool.false_eq_true, bq, if_pos, if_neg, if_true, if_false, lq, Nat.reduceAdd, Nat.reduceMul, Nat.reduceSub, Nat.reduceDiv, Nat.reduceMod, o2]
  · rw [hs] at o2
    have o2 : S.1 137 (2 * r + 1) = nI 1 := o2
    rw [gsW_1 hs]
    obtain ⟨T, t1, t2, t3⟩ := c_goOn (a := (D.rd r).2.1) (b := (D.rd r).1) (l := (D.rd r).2.2) hk (by omega) (by omega) (by omega) (Vk_le kc k) hf h1 h2
    refine ⟨T, ?_, t2, t3⟩
    simp (disch := omega) only [lit, lm1, nI_add, pk_mul, nm_eq, nm_eq', nm_lt, nm_lt', nm_le, nm_le', x_lt, x_le, x_eq, x_in, x_cl, x_div, x_sub, x_rem, x_min, x_max, x_and, x_or, x_xor, x_df, x_shl, bI_0, bI_1, bI_bo, lg_eq, toL_inj, ls_nI, decide_eq_false_iff_not, decide_eq_true_eq, Bool.true_eq_false, Bool.false_eq_true, bq, if_pos, if_neg, if_true, if_false, lq, Nat.reduceAdd, Nat.reduceMul, Nat.reduceSub, Nat.reduceDiv, Nat.reduceMod, o2, c.r1 r hr, c.r2 r hr, c.r3 r hr, t1]
theorem c_ch31 (hD : D.WF) (c : cA D E S) {k kc : Nat} (op : opn D E kc S) (hk : k < 5) (h1 : rowC S k (Vk D E kc k)) (h2 : rowC S (k + 1) (fun _ => 0)) (k23 : Int32 → cpS → Option (Unit × cpS)) : ∃ T, fX2_learnChances_31 (nI (k + 1)) k23 cpFu (nI 0) S = k23 (nI (k + 1 + 1)) T ∧ rowC T (k + 1) (Vk D E kc (k + 1)) ∧ Kp (k136 (k + 1)) S T := by
  have r9 := hD.r9
  have k6 := hD.k6
  have hV := Vk_le (D := D) (E := E) kc k
  have := up_lpR (F := fun n r (T : cpS) => fX2_learnChances_31 (nI (k + 1)) k23 n r T) (K := fun T => k23 (nI (k + 1 + 1)) T) D.R (rdW D E kc wC (Vk D E kc k)) (fun _ f T => rowC T (k + 1) f ∧ (∀ x, f x ≤ 100000) ∧ Kp (k136 (k + 1)) S T) (by omega) (fun n r f T hr hI => ?_) (fun n f T hI => ?_) (i0 := 0) (s := fun _ => 0) (a := S) (Nat.zero_le _) ⟨h2, fun _ => Nat.zero_le _, Kp.rf⟩
  · obtain ⟨T, t1, t2, t3, t4⟩ := this
    exact ⟨T, t1, t2, t4⟩
  · obtain ⟨i1, i2, i3⟩ := hI
    have cT := c.cc (i3.le (fun _ _ => k136_C))
    obtain ⟨x1, x2, -, x4, x5⟩ := hD.rd r hr
    have opT : opn D E kc T := fun r hr => by rw [i3.i (by unfold k136; omega), i3.i (by unfold k136; omega)]; exact op r hr
    have hT : rowC T k (Vk D E kc k) := h1.kp i3 (fun j g1 g2 q => by unfold k136 at q; omega)
    have o1 := (opT r hr).1
    rw [fX2_learnChances_31]
    unfold rdW
    cases hs : smY D E kc (D.rd r).1 r
    · rw [hs] at o1
      have o1 : T.1 137 (2 * r) = nI 0 := o1
      rw [gsW_0 (r := r) (a := (D.rd r).1) hs]
      obtain ⟨U, u1, u2, u3⟩ := c_ch90 hD cT opT hr hk i2 hT i1 k23 (fX2_learnChances_31 (nI (k + 1)) k23 n)
      refine ⟨U, ?_, u2, gsW_le hV i2, i3.tr u3⟩
      simp (disch := omega) only [lit, lm1, nI_add, pk_mul, nm_eq, nm_eq', nm_lt, nm_lt', nm_le, nm_le', x_lt, x_le, x_eq, x_in, x_cl, x_div, x_sub, x_rem, x_min, x_max, x_and, x_or, x_xor, x_df, x_shl, bI_0, bI_1, bI_bo, lg_eq, toL_inj, ls_nI, decide_eq_false_iff_not, decide_eq_true_eq, Bool.true_eq_false, Bool.false_eq_true, bq, if_pos, if_neg, if_true, if_false, lq, Nat.reduceAdd, Nat.reduceMul, Nat.reduceSub, Nat.reduceDiv, Nat.reduceMod, cT.R, o1]
      exact u1
    · rw [hs] at o1
      have o1 : T.1 137 (2 * r) = nI 1 := o1
      obtain ⟨A, a1, a2, a3⟩ := c_goOn (a := (D.rd r).1) (b := (D.rd r).2.1) (l := (D.rd r).2.2) hk (by omega) (by omega) (by omega) hV i2 hT i1
      rw [← gsW_1 (D := D) (E := E) (c := kc) (r := r) (w := wC) hs] at a2
      have hf2 : ∀ x, gsW D E kc wC (Vk D E kc k) r (D.rd r).1 (D.rd r).2.1 f x ≤ 100000 := gsW_le hV i2
      have cA' := cT.cc (a3.le (fun _ _ => k136_C))
      have opA : opn D E kc A := fun r hr => by rw [a3.i (by unfold k136; omega), a3.i (by unfold k136; omega)]; exact opT r hr
      have hA : rowC A k (Vk D E kc k) := hT.kp a3 (fun j g1 g2 q => by unfold k136 at q; omega)
      obtain ⟨U, u1, u2, u3⟩ := c_ch90 hD cA' opA hr hk hf2 hA a2 k23 (fX2_learnChances_31 (nI (k + 1)) k23 n)
      refine ⟨U, ?_, u2, gsW_le hV hf2, (i3.tr a3).tr u3⟩
      simp (disch := omega) only [lit, lm1, nI_add, pk_mul, nm_eq, nm_eq', nm_lt, nm_lt', nm_le, nm_le', x_lt, x_le, x_eq, x_in, x_cl, x_div, x_sub, x_rem, x_min, x_max, x_and, x_or, x_xor, x_df, x_shl, bI_0, bI_1, bI_bo, lg_eq, toL_inj, ls_nI, decide_eq_false_iff_not, decide_eq_true_eq, Bool.true_eq_false, Bool.false_eq_true, bq, if_pos, if_neg, if_true, if_false, lq, Nat.reduceAdd, Nat.reduceMul, Nat.reduceSub, Nat.reduceDiv, Nat.reduceMod, cT.R, o1, cT.r1 r hr, cT.r2 r hr, cT.r3 r hr, a1]
      exact u1
  · have cT := c.cc (hI.2.2.le (fun _ _ => k136_C))
    rw [fX2_learnChances_31]
    simp (disch := omega) only [lit, lm1, nI_add, pk_mul, nm_eq, nm_eq', nm_lt, nm_lt', nm_le, nm_le', x_lt, x_le, x_eq, x_in, x_cl, x_div, x_sub, x_rem, x_min, x_max, x_and, x_or, x_xor, x_df, x_shl, bI_0, bI_1, bI_bo, lg_eq, toL_inj, ls_nI, decide_eq_false_iff_not, decide_eq_true_eq, Bool.true_eq_false, Bool.false_eq_true, bq, if_pos, if_neg, if_true, if_false, lq, Nat.reduceAdd, Nat.reduceMul, Nat.reduceSub, Nat.reduceDiv, Nat.reduceMod, cT.R]
def kCh (q j : Nat) : Prop := q = 136 ∨ kO q j
theorem kCh_C {k j : Nat} (h : kCh k j) : kC k j := by
  rcases h with rfl | h
  · exact ⟨scr_c (by decide) (by decide) (by decide) j, by decide⟩
  · exact kO_C h
theorem c_ch23 (hD : D.WF) {kc : Nat} : ∀ d k f (S : cpS), k + d = 5 → d < f → cA D E S → opn D E kc S → (∀ j, j ≤ k → rowC S j (Vk D E kc j)) → (∀ j, k < j → j ≤ 5 → rowC S j (fun _ => 0)) → ∃ T, fX2_learnChances_23 f (nI (k + 1)) S = some ((), T) ∧ (∀ j, j ≤ 5 → rowC T j (Vk D E kc j)) ∧ Kp kCh S T := by
  intro d
  induction d with
  | zero =>
    intro k f S h hf c op h1 h2
    obtain ⟨f, rfl⟩ : ∃ g, f = g + 1 := ⟨f - 1, by omega⟩
    refine ⟨S, ?_, fun j hj => h1 j (by omega), Kp.rf⟩
    rw [fX2_learnChances_23]
    simp (disch := omega) only [lit, lm1, nI_add, pk_mul, nm_eq, nm_eq', nm_lt, nm_lt', nm_le, nm_le', x_lt, x_le, x_eq, x_in, x_cl, x_div, x_sub, x_rem, x_min, x_max, x_and, x_or, x_xor, x_df, x_shl, bI_0, bI_1, bI_bo, lg_eq, toL_inj, ls_nI, decide_eq_false_iff_not, decide_eq_true_eq, Bool.true_eq_false, Bool.false_eq_true, bq, if_pos, if_neg, if_true, if_false, lq, Nat.reduceAdd, Nat.reduceMul, Nat.reduceSub, Nat.reduceDiv, Nat.reduceMod]
  | succ d ih =>
    intro k f S h hf c op h1 h2
    obtain ⟨f, rfl⟩ : ∃ g, f = g + 1 := ⟨f - 1, by omega⟩
    obtain ⟨A, a1, a2, a3⟩ := c_ch31 hD c op (show k < 5 by omega) (h1 k (Nat.le_refl _)) (h2 (k + 1) (by omega) (by omega)) (fX2_learnChances_23 f)
    obtain ⟨T, t1, t2, t3⟩ := ih (k + 1) f A (by omega) (by omega) (c.cc (a3.le (fun _ _ => k136_C))) (fun r hr => by rw [a3.i (by unfold k136; omega), a3.i (by unfold k136; omega)]; exact op r hr) (fun j hj => by
      by_cases e : j = k + 1
      · rw [e]; exact a2
      · exact (h1 j (by omega)).kp a3 (fun i g1 g2 q => by unfold k136 at q; omega)) (fun j hj hj5 => (h2 j (by omega) hj5).kp a3 (fun i g1 g2 q => by unfold k136 at q; omega))
    refine ⟨T, ?_, t2, (a3.le (fun _ _ h => Or.inl h.1)).tr t3⟩
    rw [fX2_learnChances_23]
    simp (disch := omega) only [lit, lm1, nI_add, pk_mul, nm_eq, nm_eq', nm_lt, nm_lt', nm_le, nm_le', x_lt, x_le, x_eq, x_in, x_cl, x_div, x_sub, x_rem, x_min, x_max, x_and, x_or, x_xor, x_df, x_shl, bI_0, bI_1, bI_bo, lg_eq, toL_inj, ls_nI, decide_eq_false_iff_not, decide_eq_true_eq, Bool.true_eq_false, Bool.false_eq_true, bq, if_pos, if_neg, if_true, if_false, lq, Nat.reduceAdd, Nat.reduceMul, Nat.reduceSub, Nat.reduceDiv, Nat.reduceMod]
    exact a1.trans t1
theorem c_learnChances (hD : D.WF) (hE : E.WF D) (c : cA D E S) {k : Nat} (hk : k < D.C) : ∃ T, fX2_learnChances (nI k) (nI (E.at' k)) S = some ((), T) ∧ (∀ j, j ≤ 5 → rowC T j (Vk D E k j)) ∧ Kp kCh S T := by
  have k6 := hD.k6
  have ha := hE.at' k hk
  obtain ⟨A, a1, a2, a3⟩ := c_openRoads hD hE c hk
  obtain ⟨B, b1, b2⟩ := e_fillI 136 36 (nI 0) (by decide) A
  have kB : Kp kCh A (cpI B 136 (E.at' k) (nI 100000)) := (b2.kp (fun j _ _ => Or.inl rfl)).I (by exact Or.inl rfl)
  have kA : Kp kCh S A := a3.le (fun _ _ h => Or.inr h)
  have cB := c.cc ((kA.tr kB).le (fun _ _ => kCh_C))
  have z : ∀ j, j < 36 → B.1 136 j = nI 0 := fun j hj => b2.2.2.1 j (by omega) hj
  obtain ⟨T, t1, t2, t3⟩ := c_ch23 hD (kc := k) 5 0 cpFu (cpI B 136 (E.at' k) (nI 100000)) rfl (by decide) cB (fun r hr => by
    have r9 := hD.r9
    rw [sIr (by decide), (b2.kp (f := fun q _ => q = 136) (fun j _ _ => rfl)).i (by omega), (b2.kp (f := fun q _ => q = 136) (fun j _ _ => rfl)).i (by omega)]; exact a2 r hr) (fun j hj x hx => by
    rw [show j = 0 by omega, Nat.zero_mul, Nat.zero_add]
    show _ = nI (if x = E.at' k then 100000 else 0)
    by_cases e : x = E.at' k
    · rw [if_pos e, e, sI1]
    · rw [if_neg e, sIn (Or.inr e)]; exact z x (by omega)) (fun j hj hj5 x hx => by
    rw [sIn (Or.inr (by omega))]; exact z _ (by omega))
  refine ⟨T, ?_, t2, (kA.tr kB).tr t3⟩
  unfold fX2_learnChances
  simp (disch := omega) only [lit, lm1, nI_add, pk_mul, nm_eq, nm_eq', nm_lt, nm_lt', nm_le, nm_le', x_lt, x_le, x_eq, x_in, x_cl, x_div, x_sub, x_rem, x_min, x_max, x_and, x_or, x_xor, x_df, x_shl, bI_0, bI_1, bI_bo, lg_eq, toL_inj, ls_nI, decide_eq_false_iff_not, decide_eq_true_eq, Bool.true_eq_false, Bool.false_eq_true, bq, if_pos, if_neg, if_true, if_false, lq, Nat.reduceAdd, Nat.reduceMul, Nat.reduceSub, Nat.reduceDiv, Nat.reduceMod, a1]
  rw [b1]
  simp (disch := omega) only [lit, lm1, nI_add, pk_mul, nm_eq, nm_eq', nm_lt, nm_lt', nm_le, nm_le', x_lt, x_le, x_eq, x_in, x_cl, x_div, x_sub, x_rem, x_min, x_max, x_and, x_or, x_xor, x_df, x_shl, bI_0, bI_1, bI_bo, lg_eq, toL_inj, ls_nI, decide_eq_false_iff_not, decide_eq_true_eq, Bool.true_eq_false, Bool.false_eq_true, bq, if_pos, if_neg, if_true, if_false, lq, Nat.reduceAdd, Nat.reduceMul, Nat.reduceSub, Nat.reduceDiv, Nat.reduceMod]
  exact t1
end C2
