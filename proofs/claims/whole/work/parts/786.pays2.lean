/-! what pays: the reference -/
section PZ
variable {D : cpD} {E : cpE} {S : cpS}
def pyM (D : cpD) (E : cpE) (to : Nat) (S : cpS) : Prop := (∀ k, k < D.C → S.1 164 k = dF (tC D E to k)) ∧ ∀ k, k < D.C → S.1 165 k = dF (tO D E to k)
def kQ (q j : Nat) : Prop := q = 164 ∨ q = 165 ∨ kS q j
theorem kQ_M {k j : Nat} (h : kQ k j) : kM k j := by
  rcases h with rfl | rfl | h
  · exact ⟨scr_c (by decide) (by decide) (by decide) j, by decide⟩
  · exact ⟨scr_c (by decide) (by decide) (by decide) j, by decide⟩
  · exact kS_M h
def k165 (i : Nat) (q j : Nat) : Prop := q = 165 ∧ j = i
theorem nxt_0 {k to : Nat} : nxt D E k to = 0 ↔ ∀ b, b < D.K → go D E k to b = false := by
  constructor
  · intro h b hb
    have := nxt_bit (D := D) (E := E) (c := k) (a := to) (b := b)
    rw [h, Nat.zero_testBit, decide_eq_true hb] at this
    exact this.symm
  · intro h
    refine Nat.eq_of_testBit_eq (fun b => ?_)
    rw [nxt_bit, Nat.zero_testBit]
    by_cases hb : b < D.K
    · rw [h b hb, Bool.and_false]
    · rw [decide_eq_false hb]; rfl
theorem m_lays52 (hD : D.WF) (hE : E.WF D) (m : mA D E S) {to k : Nat} (hk : k < D.C) (ht : to < D.K) (br : brs D E k S) (h0 : S.1 165 k = dF (if E.at' k = to then none else some 0)) (kk : Int32 → cpS → Option (Unit × cpS)) : ∃ T, fX12_laysPaying_52 (nI to) (nI k) kk cpFu (nI 0) S = kk (nI (k + 1)) T ∧ T.1 165 k = dF (tO D E to k) ∧ Kp (k165 k) S T := by
  have c4 := hD.c4
  have k6 := hD.k6
  have ha := hE.at' k hk
  by_cases e : E.at' k = to
  · rw [if_pos e] at h0
    have := up_lpR (F := fun n i (T : cpS) => fX12_laysPaying_52 (nI to) (nI k) kk n i T) (K := fun T => kk (nI (k + 1)) T) 6 (fun b (s : Bool) => s || decide (brX D E k to b ≠ 0)) (fun i s T => T.1 165 k = dF (if s then some 1 else none) ∧ Kp (k165 k) S T) (by decide) (fun n b s T hb hI => ?_) (fun n s T hI => ?_) (i0 := 0) (s := false) (a := S) (Nat.zero_le _) ⟨h0, Kp.rf⟩
    · obtain ⟨T, t1, t2, t3⟩ := this
      refine ⟨T, t1, ?_, t3⟩
      rw [t2]
      have z : up (fun b (s : Bool) => s || decide (brX D E k to b ≠ 0)) 6 0 false = !decide (nxt D E k to = 0) := by
        have h1 : (up (fun b (s : Bool) => s || decide (brX D E k to b ≠ 0)) 6 0 false = true ↔ ∃ b, b < 6 ∧ brX D E k to b ≠ 0) := by
          refine up_inv (fun b (s : Bool) => s || decide (brX D E k to b ≠ 0)) 6 (fun i s => s = true ↔ ∃ b, b < i ∧ brX D E k to b ≠ 0) (fun i s hi q => ?_) 6 0 false (by omega) ⟨fun h => (by cases h), fun ⟨b, hb, _⟩ => absurd hb (by omega)⟩
          rw [Bool.or_eq_true, decide_eq_true_eq, q]
          constructor
          · rintro (⟨b, b1, b2⟩ | b2)
            · exact ⟨b, by omega, b2⟩
            · exact ⟨i, by omega, b2⟩
          · rintro ⟨b, b1, b2⟩
            by_cases e : b = i
            · rw [e] at b2; exact Or.inr b2
            · exact Or.inl ⟨b, by omega, b2⟩
        cases hu : up (fun b (s : Bool) => s || decide (brX D E k to b ≠ 0)) 6 0 false
        · have : nxt D E k to = 0 := nxt_0.mpr (fun b hb => by
            cases hg : go D E k to b
            · rfl
            · have := h1.mpr ⟨b, by omega, go_brX ht hb hg⟩
              rw [hu] at this; cases this)
          rw [decide_eq_true this]; rfl
        · obtain ⟨b, b1, b2⟩ := h1.mp hu
          obtain ⟨-, g2, g3⟩ := brX_go b2
          have : nxt D E k to ≠ 0 := fun q => by rw [nxt_0.mp q b g2] at g3; cases g3
          rw [decide_eq_false this]; rfl
      show dF (if up (fun b (s : Bool) => s || decide (brX D E k to b ≠ 0)) 6 0 false then some 1 else none) = _
      rw [z]
      unfold tO
      rw [if_pos e]
      by_cases q : nxt D E k to = 0
      · rw [if_pos q, decide_eq_true q]; rfl
      · rw [if_neg q, decide_eq_false q]; rfl
    · obtain ⟨i1, i2⟩ := hI
      have mT : mA D E T := m.kp hD i2 (fun k j q => by unfold k165 at q; omega)
      have bT := br.kp i2 (fun q j h => by unfold k165 at h; omega) to b (by omega) hb
      have hle := brX_le (D := D) (E := E) hD.p8 k to b
      by_cases q : brX D E k to b = 0
      · rw [decide_eq_false (fun h => h q), Bool.or_false]
        refine ⟨T, ?_, i1, i2⟩
        rw [fX12_laysPaying_52]
        simp (disch := omega) only [lit, lm1, nI_add, pk_mul, nm_eq, nm_eq', nm_lt, nm_lt', nm_le, nm_le', x_lt, x_le, x_eq, x_in, x_cl, x_div, x_sub, x_rem, x_min, x_max, x_and, x_or, x_xor, x_df, x_shl, bI_0, bI_1, bI_bo, lg_eq, toL_inj, ls_nI, decide_eq_false_iff_not, decide_eq_true_eq, Bool.true_eq_false, Bool.false_eq_true, bq, if_pos, if_neg, if_true, if_false, lq, Nat.reduceAdd, Nat.reduceMul, Nat.reduceSub, Nat.reduceDiv, Nat.reduceMod, mT.at', e, bT, q]
      · rw [decide_eq_true q, Bool.or_true]
        refine ⟨cpI T 165 k (nI 1), ?_, sI1, i2.I (by exact ⟨rfl, rfl⟩)⟩
        rw [fX12_laysPaying_52]
        simp (disch := omega) only [lit, lm1, nI_add, pk_mul, nm_eq, nm_eq', nm_lt, nm_lt', nm_le, nm_le', x_lt, x_le, x_eq, x_in, x_cl, x_div, x_sub, x_rem, x_min, x_max, x_and, x_or, x_xor, x_df, x_shl, bI_0, bI_1, bI_bo, lg_eq, toL_inj, ls_nI, decide_eq_false_iff_not, decide_eq_true_eq, Bool.true_eq_false, Bool.false_eq_true, bq, if_pos, if_neg, if_true, if_false, lq, Nat.reduceAdd, Nat.reduceMul, Nat.reduceSub, Nat.reduceDiv, Nat.reduceMod, mT.at', e, bT, q]
    · rw [fX12_laysPaying_52]
      simp (disch := omega) only [lit, lm1, nI_add, pk_mul, nm_eq, nm_eq', nm_lt, nm_lt', nm_le, nm_le', x_lt, x_le, x_eq, x_in, x_cl, x_div, x_sub, x_rem, x_min, x_max, x_and, x_or, x_xor, x_df, x_shl, bI_0, bI_1, bI_bo, lg_eq, toL_inj, ls_nI, decide_eq_false_iff_not, decide_eq_true_eq, Bool.true_eq_false, Bool.false_eq_true, bq, if_pos, if_neg, if_true, if_false, lq, Nat.reduceAdd, Nat.reduceMul, Nat.reduceSub, Nat.reduceDiv, Nat.reduceMod]
  · rw [if_neg e] at h0
    refine ⟨S, ?_, by rw [h0]; unfold tO; rw [if_neg e], Kp.rf⟩
    rw [show cpFu = 4999 + 1 from rfl, fX12_laysPaying_52]
    simp (disch := omega) only [lit, lm1, nI_add, pk_mul, nm_eq, nm_eq', nm_lt, nm_lt', nm_le, nm_le', x_lt, x_le, x_eq, x_in, x_cl, x_div, x_sub, x_rem, x_min, x_max, x_and, x_or, x_xor, x_df, x_shl, bI_0, bI_1, bI_bo, lg_eq, toL_inj, ls_nI, decide_eq_false_iff_not, decide_eq_true_eq, Bool.true_eq_false, Bool.false_eq_true, bq, if_pos, if_neg, if_true, if_false, lq, Nat.reduceAdd, Nat.reduceMul, Nat.reduceSub, Nat.reduceDiv, Nat.reduceMod, m.at', e]
theorem m_laysPaying (hD : D.WF) (hE : E.WF D) (m : mA D E S) {to : Nat} (ht : to < D.K) : ∃ T, fX12_laysPaying (nI to) S = some ((), T) ∧ pyM D E to T ∧ Kp kQ S T := by
  have c4 := hD.c4
  have k6 := hD.k6
  have := up_lpR (F := fun n i (T : cpS) => fX12_laysPaying_2 (nI to) n i T) (K := fun T => some ((), T)) D.C (fun _ (s : Unit) => s) (fun i _ T => (∀ k, k < i → T.1 164 k = dF (tC D E to k)) ∧ (∀ k, k < i → T.1 165 k = dF (tO D E to k)) ∧ Kp kQ S T) (by omega) (fun n i s T hi hI => ?_) (fun n s T hI => ?_) (i0 := 0) (s := ()) (a := S) (Nat.zero_le _) ⟨fun k hk => absurd hk (by omega), fun k hk => absurd hk (by omega), Kp.rf⟩
  · obtain ⟨T, t1, t2, t3, t4⟩ := this
    exact ⟨T, t1, ⟨t2, t3⟩, t4⟩
  · obtain ⟨i1, i2, i3⟩ := hI
    have mT := m.mm hD (i3.le (fun _ _ => kQ_M))
    have ha := hE.at' i hi
    obtain ⟨A, a1, a2, a3, a4, a5⟩ := m_laysStill hD hE mT hi ht
    have a1 : fX12_laysStill (nI i) (nI to) T = some (dF (tC D E to i), A) := a1
    have kB' : Kp kQ T (cpI (cpI A 164 i (dF (tC D E to i))) 165 i (dF (if E.at' i = to then none else some 0))) := ((a5.le (fun _ _ h => Or.inr (Or.inr h))).I (by exact Or.inl rfl)).I (by exact Or.inr (Or.inl rfl))
    have mB := mT.mm hD (kB'.le (fun _ _ => kQ_M))
    have bB : brs D E i (cpI (cpI A 164 i (dF (tC D E to i))) 165 i (dF (if E.at' i = to then none else some 0))) := fun a b h1 h2 => by rw [sIr (by decide), sIr (by decide)]; exact a3 a b h1 h2
    obtain ⟨U, u1, u2, u3⟩ := m_lays52 hD hE mB hi ht bB sI1 (fX12_laysPaying_2 (nI to) n)
    refine ⟨U, ?_, fun k hk => ?_, fun k hk => ?_, (i3.tr kB').tr (u3.le (fun _ _ h => Or.inr (Or.inl h.1)))⟩
    · rw [fX12_laysPaying_2, ← u1]
      have eA : A.1 151 (62 + i) = nI (E.at' i) := a4.1.at' i (by omega)
      by_cases e : E.at' i = to
      · rw [if_pos e, show dF none = nI 268435456 from rfl]
        simp (disch := omega) only [lit, lm1, nI_add, pk_mul, nm_eq, nm_eq', nm_lt, nm_lt', nm_le, nm_le', x_lt, x_le, x_eq, x_in, x_cl, x_div, x_sub, x_rem, x_min, x_max, x_and, x_or, x_xor, x_df, x_shl, bI_0, bI_1, bI_bo, lg_eq, toL_inj, ls_nI, decide_eq_false_iff_not, decide_eq_true_eq, Bool.true_eq_false, Bool.false_eq_true, bq, if_pos, if_neg, if_true, if_false, lq, Nat.reduceAdd, Nat.reduceMul, Nat.reduceSub, Nat.reduceDiv, Nat.reduceMod, mT.C, a1, sIr, eA, e, ne_eq, not_false_eq_true, Nat.reduceEqDiff]
      · rw [if_neg e, show dF (some 0) = nI 0 from rfl]
        simp (disch := omega) only [lit, lm1, nI_add, pk_mul, nm_eq, nm_eq', nm_lt, nm_lt', nm_le, nm_le', x_lt, x_le, x_eq, x_in, x_cl, x_div, x_sub, x_rem, x_min, x_max, x_and, x_or, x_xor, x_df, x_shl, bI_0, bI_1, bI_bo, lg_eq, toL_inj, ls_nI, decide_eq_false_iff_not, decide_eq_true_eq, Bool.true_eq_false, Bool.false_eq_true, bq, if_pos, if_neg, if_true, if_false, lq, Nat.reduceAdd, Nat.reduceMul, Nat.reduceSub, Nat.reduceDiv, Nat.reduceMod, mT.C, a1, sIr, eA, e, ne_eq, not_false_eq_true, Nat.reduceEqDiff]
    · rw [u3.i (by unfold k165; omega), sIr (by decide)]
      by_cases e : k = i
      · rw [e, sI1]
      · rw [sIn (Or.inr e), a5.i (by unfold kS kBG kG; omega)]; exact i1 k (by omega)
    · by_cases e : k = i
      · rw [e]; exact u2
      · rw [u3.i (by unfold k165; omega), sIn (Or.inr e), sIr (by decide), a5.i (by unfold kS kBG kG; omega)]; exact i2 k (by omega)
  · have mT := m.mm hD (hI.2.2.le (fun _ _ => kQ_M))
    rw [fX12_laysPaying_2]
    simp (disch := omega) only [lit, lm1, nI_add, pk_mul, nm_eq, nm_eq', nm_lt, nm_lt', nm_le, nm_le', x_lt, x_le, x_eq, x_in, x_cl, x_div, x_sub, x_rem, x_min, x_max, x_and, x_or, x_xor, x_df, x_shl, bI_0, bI_1, bI_bo, lg_eq, toL_inj, ls_nI, decide_eq_false_iff_not, decide_eq_true_eq, Bool.true_eq_false, Bool.false_eq_true, bq, if_pos, if_neg, if_true, if_false, lq, Nat.reduceAdd, Nat.reduceMul, Nat.reduceSub, Nat.reduceDiv, Nat.reduceMod, mT.C]
theorem m_pays82 (hD : D.WF) (m : mA D E S) {to s : Nat} (hs : s < 16) (pm : pyM D E to S) (x2 x3 x4 x5 : Int32) (k60 : Int32 → Int32 → Int32 → cpS → Option (Int32 × cpS)) : ∃ f, fX12_pays_82 x2 x3 x4 x5 (nI s) k60 cpFu (nI 0) (nI 0) (nI 0) S = fX12_pays_82 x2 x3 x4 x5 (nI s) k60 (f + 1) (nI (wN D s)) (dF (cfN D E to s)) (nI D.C) S := by
  have c4 := hD.c4
  have : ∀ d i f a (o : Option Nat), i + d = D.C → d < f → a ≤ 99 * i → (∀ n, o = some n → n ≤ 5 * i) → ∃ f', fX12_pays_82 x2 x3 x4 x5 (nI s) k60 f (nI a) (dF o) (nI i) S = fX12_pays_82 x2 x3 x4 x5 (nI s) k60 (f' + 1) (nI (up (wS D s) d i a)) (dF (up (cfS D E to s) d i o)) (nI D.C) S := by
    intro d
    induction d with
    | zero =>
      intro i f a o h hf ha ho
      obtain ⟨f, rfl⟩ : ∃ g, f = g + 1 := ⟨f - 1, by omega⟩
      obtain rfl : i = D.C := by omega
      exact ⟨f, rfl⟩
    | succ d ih =>
      intro i f a o h hf ha ho
      obtain ⟨f, rfl⟩ : ∃ g, f = g + 1 := ⟨f - 1, by omega⟩
      have hw := (hD.wt i (by omega)).2
      have hle : ∀ n, (if s.testBit i then tC D E to i else tO D E to i) = some n → n ≤ 5 := fun n hn => by
        split at hn
        · exact tC_le hn
        · exact tO_le hn
      have hcf : ∀ n, cfS D E to s i o = some n → n ≤ 5 * (i + 1) := fun n hn => by
        cases o with
        | none => cases hn
        | some a => have := ho a rfl; have := cfS_le hn; omega
      obtain ⟨f', e'⟩ := ih (i + 1) f (wS D s i a) (cfS D E to s i o) (by omega) (by omega) (by unfold wS; split <;> omega) hcf
      have go : fX12_pays_151 x2 x3 x4 x5 (nI s) (nI (wS D s i a)) (dF o) (nI i) (dF (if s.testBit i then tC D E to i else tO D E to i)) k60 (fX12_pays_82 x2 x3 x4 x5 (nI s) k60 f) S = fX12_pays_82 x2 x3 x4 x5 (nI s) k60 f (nI (wS D s i a)) (dF (cfS D E to s i o)) (nI (i + 1)) S := by
        unfold fX12_pays_151
        cases o with
        | none =>
          rw [cfS_no]
          simp (disch := omega) only [lit, lm1, nI_add, pk_mul, nm_eq, nm_eq', nm_lt, nm_lt', nm_le, nm_le', x_lt, x_le, x_eq, x_in, x_cl, x_div, x_sub, x_rem, x_min, x_max, x_and, x_or, x_xor, x_df, x_shl, bI_0, bI_1, bI_bo, lg_eq, toL_inj, ls_nI, decide_eq_false_iff_not, decide_eq_true_eq, Bool.true_eq_false, Bool.false_eq_true, bq, if_pos, if_neg, if_true, if_false, lq, Nat.reduceAdd, Nat.reduceMul, Nat.reduceSub, Nat.reduceDiv, Nat.reduceMod, dF, eq_self]
        | some y =>
          have hy := ho y rfl
          cases hb : (if s.testBit i then tC D E to i else tO D E to i) with
          | none =>
            have e : cfS D E to s i (some y) = none := by unfold cfS; rw [hb]; rfl
            rw [e]
            simp (disch := omega) only [lit, lm1, nI_add, pk_mul, nm_eq, nm_eq', nm_lt, nm_lt', nm_le, nm_le', x_lt, x_le, x_eq, x_in, x_cl, x_div, x_sub, x_rem, x_min, x_max, x_and, x_or, x_xor, x_df, x_shl, bI_0, bI_1, bI_bo, lg_eq, toL_inj, ls_nI, decide_eq_false_iff_not, decide_eq_true_eq, Bool.true_eq_false, Bool.false_eq_true, bq, if_pos, if_neg, if_true, if_false, lq, Nat.reduceAdd, Nat.reduceMul, Nat.reduceSub, Nat.reduceDiv, Nat.reduceMod, dF, eq_self]
          | some z =>
            have hz := hle z hb
            have e : cfS D E to s i (some y) = some (y + z) := by unfold cfS; rw [hb]; rfl
            rw [e]
            simp (disch := omega) only [lit, lm1, nI_add, pk_mul, nm_eq, nm_eq', nm_lt, nm_lt', nm_le, nm_le', x_lt, x_le, x_eq, x_in, x_cl, x_div, x_sub, x_rem, x_min, x_max, x_and, x_or, x_xor, x_df, x_shl, bI_0, bI_1, bI_bo, lg_eq, toL_inj, ls_nI, decide_eq_false_iff_not, decide_eq_true_eq, Bool.true_eq_false, Bool.false_eq_true, bq, if_pos, if_neg, if_true, if_false, lq, Nat.reduceAdd, Nat.reduceMul, Nat.reduceSub, Nat.reduceDiv, Nat.reduceMod, dF]
      refine ⟨f', ?_⟩
      rw [up, up, ← e', ← go, fX12_pays_82]
      cases hb : s.testBit i
      · have ew : wS D s i a = a := by unfold wS; rw [hb]; rfl
        rw [ew]
        unfold fX12_pays_120
        simp (disch := omega) only [lit, lm1, nI_add, pk_mul, nm_eq, nm_eq', nm_lt, nm_lt', nm_le, nm_le', x_lt, x_le, x_eq, x_in, x_cl, x_div, x_sub, x_rem, x_min, x_max, x_and, x_or, x_xor, x_df, x_shl, bI_0, bI_1, bI_bo, lg_eq, toL_inj, ls_nI, decide_eq_false_iff_not, decide_eq_true_eq, Bool.true_eq_false, Bool.false_eq_true, bq, if_pos, if_neg, if_true, if_false, lq, Nat.reduceAdd, Nat.reduceMul, Nat.reduceSub, Nat.reduceDiv, Nat.reduceMod, m.C, m_isIn, hb, pm.2 i (by omega), Nat.add_zero]
      · have ew : wS D s i a = a + D.wo i := by unfold wS; rw [hb]; rfl
        rw [ew]
        unfold fX12_pays_120
        simp (disch := omega) only [lit, lm1, nI_add, pk_mul, nm_eq, nm_eq', nm_lt, nm_lt', nm_le, nm_le', x_lt, x_le, x_eq, x_in, x_cl, x_div, x_sub, x_rem, x_min, x_max, x_and, x_or, x_xor, x_df, x_shl, bI_0, bI_1, bI_bo, lg_eq, toL_inj, ls_nI, decide_eq_false_iff_not, decide_eq_true_eq, Bool.true_eq_false, Bool.false_eq_true, bq, if_pos, if_neg, if_true, if_false, lq, Nat.reduceAdd, Nat.reduceMul, Nat.reduceSub, Nat.reduceDiv, Nat.reduceMod, m.C, m_isIn, hb, pm.1 i (by omega), m.wo i (by omega)]
  exact this D.C 0 cpFu 0 (some 0) (by omega) (by show _ < 5000; omega) (by omega) (fun n hn => by cases hn; omega)
theorem m_pays60 (hD : D.WF) (m : mA D E S) {to v x3 : Nat} (hx : x3 < 4) (hv : v ≤ 999) (pm : pyM D E to S) : fX12_pays_60 (nI v) (nI x3) cpFu nM (nI 268435456) (nI 0) S = some (pyA D E to v (decide (2 ≤ x3)) (x3 % 2 == 1), S) := by
  have c4 := hD.c4
  have k16 : 2 ^ D.C ≤ 16 := by
    have := Nat.pow_le_pow_right (n := 2) (by decide) c4
    omega
  have := up_lpR (F := fun n i (a : Int32 × Int32) => fX12_pays_60 (nI v) (nI x3) n a.1 a.2 i S) (K := fun a => if a.1 = nM then some (a.1, S) else if nI (x3 % 2) = nI 1 then some (a.1, S) else some (a.2, S)) (2 ^ D.C) (pyO D E to v (decide (2 ≤ x3))) (fun i o a => a.1 = pI1 o ∧ a.2 = pI3 o ∧ ∀ x, o = some x → x.1 < i ∧ x.2 ≤ 20) (by omega) (fun n i o a hi hI => ?_) (fun n o a hI => ?_) (i0 := 0) (s := none) (a := (nM, nI 268435456)) (Nat.zero_le _) ⟨rfl, rfl, fun x hx => by cases hx⟩
  · obtain ⟨⟨a, b⟩, t1, t2, t3, t4⟩ := this
    have t2 : a = pI1 (pyR D E to v (decide (2 ≤ x3))) := t2
    have t3 : b = pI3 (pyR D E to v (decide (2 ≤ x3))) := t3
    have t4 : ∀ x, pyR D E to v (decide (2 ≤ x3)) = some x → x.1 < 2 ^ D.C ∧ x.2 ≤ 20 := t4
    refine t1.trans ?_
    (try dsimp only)
    rw [t2, t3]
    unfold pyA
    cases hr : pyR D E to v (decide (2 ≤ x3)) with
    | none => simp (disch := omega) only [lit, lm1, nI_add, pk_mul, nm_eq, nm_eq', nm_lt, nm_lt', nm_le, nm_le', x_lt, x_le, x_eq, x_in, x_cl, x_div, x_sub, x_rem, x_min, x_max, x_and, x_or, x_xor, x_df, x_shl, bI_0, bI_1, bI_bo, lg_eq, toL_inj, ls_nI, decide_eq_false_iff_not, decide_eq_true_eq, Bool.true_eq_false, Bool.false_eq_true, bq, if_pos, if_neg, if_true, if_false, lq, Nat.reduceAdd, Nat.reduceMul, Nat.reduceSub, Nat.reduceDiv, Nat.reduceMod, pI1, eq_self]
    | some x =>
      have := t4 x hr
      by_cases e : x3 % 2 = 1
      · rw [e]
        simp (disch := omega) only [lit, lm1, nI_add, pk_mul, nm_eq, nm_eq', nm_lt, nm_lt', nm_le, nm_le', x_lt, x_le, x_eq, x_in, x_cl, x_div, x_sub, x_rem, x_min, x_max, x_and, x_or, x_xor, x_df, x_shl, bI_0, bI_1, bI_bo, lg_eq, toL_inj, ls_nI, decide_eq_false_iff_not, decide_eq_true_eq, Bool.true_eq_false, Bool.false_eq_true, bq, if_pos, if_neg, if_true, if_false, lq, Nat.reduceAdd, Nat.reduceMul, Nat.reduceSub, Nat.reduceDiv, Nat.reduceMod, pI1, pI3]
        rfl
      · rw [show x3 % 2 = 0 by omega]
        simp (disch := omega) only [lit, lm1, nI_add, pk_mul, nm_eq, nm_eq', nm_lt, nm_lt', nm_le, nm_le', x_lt, x_le, x_eq, x_in, x_cl, x_div, x_sub, x_rem, x_min, x_max, x_and, x_or, x_xor, x_df, x_shl, bI_0, bI_1, bI_bo, lg_eq, toL_inj, ls_nI, decide_eq_false_iff_not, decide_eq_true_eq, Bool.true_eq_false, Bool.false_eq_true, bq, if_pos, if_neg, if_true, if_false, lq, Nat.reduceAdd, Nat.reduceMul, Nat.reduceSub, Nat.reduceDiv, Nat.reduceMod, pI1, pI3]
        rfl
  · obtain ⟨a, b⟩ := a
    obtain ⟨i1, i2, i3⟩ := hI
    have j1 : a = pI1 o := i1
    have j2 : b = pI3 o := i2
    clear i1 i2
    subst j1 j2
    obtain ⟨f, hf⟩ := m_pays82 hD m (to := to) (s := i) (by omega) pm (nI v) (nI x3) (pI1 o) (pI3 o) (fX12_pays_60 (nI v) (nI x3) n)
    have wl := wN_le hD i D.C 0 0 (by omega)
    have wl : wN D i ≤ 0 + 99 * D.C := wl
    have skip : ∃ a' : Int32 × Int32, fX12_pays_60 (nI v) (nI x3) n (pI1 o) (pI3 o) (nI (i + 1)) S = fX12_pays_60 (nI v) (nI x3) n a'.1 a'.2 (nI (i + 1)) S ∧ a'.1 = pI1 o ∧ a'.2 = pI3 o ∧ ∀ x, o = some x → x.1 < i + 1 ∧ x.2 ≤ 20 := ⟨(pI1 o, pI3 o), rfl, rfl, rfl, fun x hx => by have := i3 x hx; omega⟩
    have e205 : (wN D i = v ∨ (decide (2 ≤ x3) = true ∧ v < wN D i)) → ∃ a' : Int32 × Int32, fX12_pays_205 (nI v) (nI x3) (pI1 o) (pI3 o) (nI i) (dF (cfN D E to i)) (fX12_pays_60 (nI v) (nI x3) n) S = fX12_pays_60 (nI v) (nI x3) n a'.1 a'.2 (nI (i + 1)) S ∧ a'.1 = pI1 (pyO D E to v (decide (2 ≤ x3)) i o) ∧ a'.2 = pI3 (pyO D E to v (decide (2 ≤ x3)) i o) ∧ ∀ x, pyO D E to v (decide (2 ≤ x3)) i o = some x → x.1 < i + 1 ∧ x.2 ≤ 20 := fun hb => by
      unfold fX12_pays_205
      cases hc : cfN D E to i with
      | none =>
        have e : pyO D E to v (decide (2 ≤ x3)) i o = o := by unfold pyO; rw [if_pos hb, hc]
        rw [e]
        cases o with
        | none =>
          simp (disch := omega) only [lit, lm1, nI_add, pk_mul, nm_eq, nm_eq', nm_lt, nm_lt', nm_le, nm_le', x_lt, x_le, x_eq, x_in, x_cl, x_div, x_sub, x_rem, x_min, x_max, x_and, x_or, x_xor, x_df, x_shl, bI_0, bI_1, bI_bo, lg_eq, toL_inj, ls_nI, decide_eq_false_iff_not, decide_eq_true_eq, Bool.true_eq_false, Bool.false_eq_true, bq, if_pos, if_neg, if_true, if_false, lq, Nat.reduceAdd, Nat.reduceMul, Nat.reduceSub, Nat.reduceDiv, Nat.reduceMod, dF, pI3]
          exact skip
        | some y =>
          have := i3 y rfl
          simp (disch := omega) only [lit, lm1, nI_add, pk_mul, nm_eq, nm_eq', nm_lt, nm_lt', nm_le, nm_le', x_lt, x_le, x_eq, x_in, x_cl, x_div, x_sub, x_rem, x_min, x_max, x_and, x_or, x_xor, x_df, x_shl, bI_0, bI_1, bI_bo, lg_eq, toL_inj, ls_nI, decide_eq_false_iff_not, decide_eq_true_eq, Bool.true_eq_false, Bool.false_eq_true, bq, if_pos, if_neg, if_true, if_false, lq, Nat.reduceAdd, Nat.reduceMul, Nat.reduceSub, Nat.reduceDiv, Nat.reduceMod, dF, pI3]
          exact skip
      | some q =>
        have hq := cfN_le hD hc
        cases o with
        | none =>
          have e : pyO D E to v (decide (2 ≤ x3)) i none = some (i, q) := by unfold pyO; rw [if_pos hb, hc]
          rw [e]
          refine ⟨(nI i, nI q), ?_, rfl, rfl, fun x hx => by cases hx; exact ⟨Nat.lt_succ_self _, hq⟩⟩
          simp (disch := omega) only [lit, lm1, nI_add, pk_mul, nm_eq, nm_eq', nm_lt, nm_lt', nm_le, nm_le', x_lt, x_le, x_eq, x_in, x_cl, x_div, x_sub, x_rem, x_min, x_max, x_and, x_or, x_xor, x_df, x_shl, bI_0, bI_1, bI_bo, lg_eq, toL_inj, ls_nI, decide_eq_false_iff_not, decide_eq_true_eq, Bool.true_eq_false, Bool.false_eq_true, bq, if_pos, if_neg, if_true, if_false, lq, Nat.reduceAdd, Nat.reduceMul, Nat.reduceSub, Nat.reduceDiv, Nat.reduceMod, dF, pI1, pI3]
        | some y =>
          obtain ⟨s', c'⟩ := y
          have hy := i3 _ rfl
          have h1 : s' < i := hy.1
          have h2 : c' ≤ 20 := hy.2
          by_cases hle : c' ≤ q
          · have e : pyO D E to v (decide (2 ≤ x3)) i (some (s', c')) = some (s', c') := by unfold pyO; rw [if_pos hb, hc]; dsimp only; rw [if_pos hle]
            rw [e]
            refine ⟨(nI s', nI c'), ?_, rfl, rfl, fun x hx => by cases hx; exact ⟨by (try dsimp only); omega, h2⟩⟩
            simp (disch := omega) only [lit, lm1, nI_add, pk_mul, nm_eq, nm_eq', nm_lt, nm_lt', nm_le, nm_le', x_lt, x_le, x_eq, x_in, x_cl, x_div, x_sub, x_rem, x_min, x_max, x_and, x_or, x_xor, x_df, x_shl, bI_0, bI_1, bI_bo, lg_eq, toL_inj, ls_nI, decide_eq_false_iff_not, decide_eq_true_eq, Bool.true_eq_false, Bool.false_eq_true, bq, if_pos, if_neg, if_true, if_false, lq, Nat.reduceAdd, Nat.reduceMul, Nat.reduceSub, Nat.reduceDiv, Nat.reduceMod, dF, pI1, pI3]
          · have e : pyO D E to v (decide (2 ≤ x3)) i (some (s', c')) = some (i, q) := by unfold pyO; rw [if_pos hb, hc]; dsimp only; rw [if_neg hle]
            rw [e]
            refine ⟨(nI i, nI q), ?_, rfl, rfl, fun x hx => by cases hx; exact ⟨Nat.lt_succ_self _, hq⟩⟩
            simp (disch := omega) only [lit, lm1, nI_add, pk_mul, nm_eq, nm_eq', nm_lt, nm_lt', nm_le, nm_le', x_lt, x_le, x_eq, x_in, x_cl, x_div, x_sub, x_rem, x_min, x_max, x_and, x_or, x_xor, x_df, x_shl, bI_0, bI_1, bI_bo, lg_eq, toL_inj, ls_nI, decide_eq_false_iff_not, decide_eq_true_eq, Bool.true_eq_false, Bool.false_eq_true, bq, if_pos, if_neg, if_true, if_false, lq, Nat.reduceAdd, Nat.reduceMul, Nat.reduceSub, Nat.reduceDiv, Nat.reduceMod, dF, pI1, pI3]
    have e0 : ¬ (wN D i = v ∨ (decide (2 ≤ x3) = true ∧ v < wN D i)) → pyO D E to v (decide (2 ≤ x3)) i o = o := fun h => by unfold pyO; rw [if_neg h]
    rw [fX12_pays_60]
    simp (disch := omega) only [lit, lm1, nI_add, pk_mul, nm_eq, nm_eq', nm_lt, nm_lt', nm_le, nm_le', x_lt, x_le, x_eq, x_in, x_cl, x_div, x_sub, x_rem, x_min, x_max, x_and, x_or, x_xor, x_df, x_shl, bI_0, bI_1, bI_bo, lg_eq, toL_inj, ls_nI, decide_eq_false_iff_not, decide_eq_true_eq, Bool.true_eq_false, Bool.false_eq_true, bq, if_pos, if_neg, if_true, if_false, lq, Nat.reduceAdd, Nat.reduceMul, Nat.reduceSub, Nat.reduceDiv, Nat.reduceMod, m.C]
    rw [hf, fX12_pays_82]
    by_cases h1 : wN D i < v
    · rw [e0 (fun q => by rcases q with q | q; omega; omega)]
      simp (disch := omega) only [lit, lm1, nI_add, pk_mul, nm_eq, nm_eq', nm_lt, nm_lt', nm_le, nm_le', x_lt, x_le, x_eq, x_in, x_cl, x_div, x_sub, x_rem, x_min, x_max, x_and, x_or, x_xor, x_df, x_shl, bI_0, bI_1, bI_bo, lg_eq, toL_inj, ls_nI, decide_eq_false_iff_not, decide_eq_true_eq, Bool.true_eq_false, Bool.false_eq_true, bq, if_pos, if_neg, if_true, if_false, lq, Nat.reduceAdd, Nat.reduceMul, Nat.reduceSub, Nat.reduceDiv, Nat.reduceMod, m.C]
      exact skip
    · by_cases h2 : 2 ≤ x3
      · have := e205 (by by_cases e : wN D i = v; exact Or.inl e; exact Or.inr ⟨decide_eq_true h2, by omega⟩)
        simp (disch := omega) only [lit, lm1, nI_add, pk_mul, nm_eq, nm_eq', nm_lt, nm_lt', nm_le, nm_le', x_lt, x_le, x_eq, x_in, x_cl, x_div, x_sub, x_rem, x_min, x_max, x_and, x_or, x_xor, x_df, x_shl, bI_0, bI_1, bI_bo, lg_eq, toL_inj, ls_nI, decide_eq_false_iff_not, decide_eq_true_eq, Bool.true_eq_false, Bool.false_eq_true, bq, if_pos, if_neg, if_true, if_false, lq, Nat.reduceAdd, Nat.reduceMul, Nat.reduceSub, Nat.reduceDiv, Nat.reduceMod, m.C]
        exact this
      · by_cases h3 : v < wN D i
        · rw [e0 (fun q => by rcases q with q | q; omega; exact h2 (of_decide_eq_true q.1))]
          simp (disch := omega) only [lit, lm1, nI_add, pk_mul, nm_eq, nm_eq', nm_lt, nm_lt', nm_le, nm_le', x_lt, x_le, x_eq, x_in, x_cl, x_div, x_sub, x_rem, x_min, x_max, x_and, x_or, x_xor, x_df, x_shl, bI_0, bI_1, bI_bo, lg_eq, toL_inj, ls_nI, decide_eq_false_iff_not, decide_eq_true_eq, Bool.true_eq_false, Bool.false_eq_true, bq, if_pos, if_neg, if_true, if_false, lq, Nat.reduceAdd, Nat.reduceMul, Nat.reduceSub, Nat.reduceDiv, Nat.reduceMod, m.C]
          exact skip
        · have := e205 (Or.inl (by omega))
          simp (disch := omega) only [lit, lm1, nI_add, pk_mul, nm_eq, nm_eq', nm_lt, nm_lt', nm_le, nm_le', x_lt, x_le, x_eq, x_in, x_cl, x_div, x_sub, x_rem, x_min, x_max, x_and, x_or, x_xor, x_df, x_shl, bI_0, bI_1, bI_bo, lg_eq, toL_inj, ls_nI, decide_eq_false_iff_not, decide_eq_true_eq, Bool.true_eq_false, Bool.false_eq_true, bq, if_pos, if_neg, if_true, if_false, lq, Nat.reduceAdd, Nat.reduceMul, Nat.reduceSub, Nat.reduceDiv, Nat.reduceMod, m.C]
          exact this
  · rw [fX12_pays_60]
    simp (disch := omega) only [lit, lm1, nI_add, pk_mul, nm_eq, nm_eq', nm_lt, nm_lt', nm_le, nm_le', x_lt, x_le, x_eq, x_in, x_cl, x_div, x_sub, x_rem, x_min, x_max, x_and, x_or, x_xor, x_df, x_shl, bI_0, bI_1, bI_bo, lg_eq, toL_inj, ls_nI, decide_eq_false_iff_not, decide_eq_true_eq, Bool.true_eq_false, Bool.false_eq_true, bq, if_pos, if_neg, if_true, if_false, lq, Nat.reduceAdd, Nat.reduceMul, Nat.reduceSub, Nat.reduceDiv, Nat.reduceMod, m.C]
end PZ
theorem q_pays : cpQ_pays cpRl := by
  intro x1 x2 x3 S hR
  refine q1 hR (fun D E hD hE => ?_)
  have k6 := hD.k6
  have w3 := m_win 4 3 (by decide)
  have w9 := m_win 1000 999 (by decide)
  rcases in_or x1 D.K with ⟨to, ht, rfl⟩ | h1
  · rcases in_or x3 4 with ⟨c, hc, rfl⟩ | h3
    · rcases in_or x2 1000 with ⟨v, hv, rfl⟩ | h2
      · refine ⟨pyA D E to v (decide (2 ≤ c)) (c % 2 == 1), fun S cS => ?_, fun S m => ?_⟩
        · obtain ⟨T, t1, t2, t3⟩ := c_learnPaying hD hE cS ht
          have cT := cS.cc (t3.le (fun _ _ => kP_C))
          have e := c_pays60 hD cT (x3 := c) (g := decide (2 ≤ c)) hc (show v ≤ 999 by omega) t2
          refine ⟨T, ?_, t3.le (fun _ _ => kP_C)⟩
          unfold fX11_pays
          by_cases h : c < 2
          · rw [decide_eq_false (by omega)] at e ⊢
            have e : fX11_pays_60 (nI c) (nI 0) (nI v) T = _ := e
            simp (disch := omega) only [lit, lm1, nI_add, pk_mul, nm_eq, nm_eq', nm_lt, nm_lt', nm_le, nm_le', x_lt, x_le, x_eq, x_in, x_cl, x_div, x_sub, x_rem, x_min, x_max, x_and, x_or, x_xor, x_df, x_shl, bI_0, bI_1, bI_bo, lg_eq, toL_inj, ls_nI, decide_eq_false_iff_not, decide_eq_true_eq, Bool.true_eq_false, Bool.false_eq_true, bq, if_pos, if_neg, if_true, if_false, lq, Nat.reduceAdd, Nat.reduceMul, Nat.reduceSub, Nat.reduceDiv, Nat.reduceMod, cS.hasPlace hD, t1]
            exact e
          · rw [decide_eq_true (by omega)] at e ⊢
            have e : fX11_pays_60 (nI c) (nI 1) (nI v) T = _ := e
            simp (disch := omega) only [lit, lm1, nI_add, pk_mul, nm_eq, nm_eq', nm_lt, nm_lt', nm_le, nm_le', x_lt, x_le, x_eq, x_in, x_cl, x_div, x_sub, x_rem, x_min, x_max, x_and, x_or, x_xor, x_df, x_shl, bI_0, bI_1, bI_bo, lg_eq, toL_inj, ls_nI, decide_eq_false_iff_not, decide_eq_true_eq, Bool.true_eq_false, Bool.false_eq_true, bq, if_pos, if_neg, if_true, if_false, lq, Nat.reduceAdd, Nat.reduceMul, Nat.reduceSub, Nat.reduceDiv, Nat.reduceMod, cS.hasPlace hD, t1]
            exact e
        · have m0 := m.thr hD (nI 0)
          obtain ⟨T, t1, t2, t3⟩ := m_laysPaying hD hE m0 ht
          have mT := m0.mm hD (t3.le (fun _ _ => kQ_M))
          have e := m_pays60 hD mT (x3 := c) hc (show v ≤ 999 by omega) t2
          refine ⟨T, ?_, (kM_thr S (nI 0)).tr (t3.le (fun _ _ => kQ_M))⟩
          unfold fX12_pays
          simp (disch := omega) only [lit, lm1, nI_add, pk_mul, nm_eq, nm_eq', nm_lt, nm_lt', nm_le, nm_le', x_lt, x_le, x_eq, x_in, x_cl, x_div, x_sub, x_rem, x_min, x_max, x_and, x_or, x_xor, x_df, x_shl, bI_0, bI_1, bI_bo, lg_eq, toL_inj, ls_nI, decide_eq_false_iff_not, decide_eq_true_eq, Bool.true_eq_false, Bool.false_eq_true, bq, if_pos, if_neg, if_true, if_false, lq, Nat.reduceAdd, Nat.reduceMul, Nat.reduceSub, Nat.reduceDiv, Nat.reduceMod, m0.isPlace hD, w3, w9, t1]
          exact e
      · refine ⟨-3, fun S cS => ⟨S, ?_, Kp.rf⟩, fun S m => ⟨_, ?_, kM_thr S (nI 0)⟩⟩
        · unfold fX11_pays
          rcases arg_out 1000 999 rfl (by decide) h2 with h | ⟨h, h', -⟩
          · simp (disch := omega) only [lit, lm1, nI_add, pk_mul, nm_eq, nm_eq', nm_lt, nm_lt', nm_le, nm_le', x_lt, x_le, x_eq, x_in, x_cl, x_div, x_sub, x_rem, x_min, x_max, x_and, x_or, x_xor, x_df, x_shl, bI_0, bI_1, bI_bo, lg_eq, toL_inj, ls_nI, decide_eq_false_iff_not, decide_eq_true_eq, Bool.true_eq_false, Bool.false_eq_true, bq, if_pos, if_neg, if_true, if_false, lq, Nat.reduceAdd, Nat.reduceMul, Nat.reduceSub, Nat.reduceDiv, Nat.reduceMod, cS.hasPlace hD, h]
          · simp (disch := omega) only [lit, lm1, nI_add, pk_mul, nm_eq, nm_eq', nm_lt, nm_lt', nm_le, nm_le', x_lt, x_le, x_eq, x_in, x_cl, x_div, x_sub, x_rem, x_min, x_max, x_and, x_or, x_xor, x_df, x_shl, bI_0, bI_1, bI_bo, lg_eq, toL_inj, ls_nI, decide_eq_false_iff_not, decide_eq_true_eq, Bool.true_eq_false, Bool.false_eq_true, bq, if_pos, if_neg, if_true, if_false, lq, Nat.reduceAdd, Nat.reduceMul, Nat.reduceSub, Nat.reduceDiv, Nat.reduceMod, cS.hasPlace hD, h, h']
        · unfold fX12_pays
          simp (disch := omega) only [lit, lm1, nI_add, pk_mul, nm_eq, nm_eq', nm_lt, nm_lt', nm_le, nm_le', x_lt, x_le, x_eq, x_in, x_cl, x_div, x_sub, x_rem, x_min, x_max, x_and, x_or, x_xor, x_df, x_shl, bI_0, bI_1, bI_bo, lg_eq, toL_inj, ls_nI, decide_eq_false_iff_not, decide_eq_true_eq, Bool.true_eq_false, Bool.false_eq_true, bq, if_pos, if_neg, if_true, if_false, lq, Nat.reduceAdd, Nat.reduceMul, Nat.reduceSub, Nat.reduceDiv, Nat.reduceMod, (m.thr hD (nI 0)).isPlace hD, w3, w9, h2]
    · refine ⟨-2, fun S cS => ⟨S, ?_, Kp.rf⟩, fun S m => ⟨_, ?_, kM_thr S (nI 0)⟩⟩
      · unfold fX11_pays
        rcases arg_out 4 3 rfl (by decide) h3 with h | ⟨h, h', -⟩
        · simp (disch := omega) only [lit, lm1, nI_add, pk_mul, nm_eq, nm_eq', nm_lt, nm_lt', nm_le, nm_le', x_lt, x_le, x_eq, x_in, x_cl, x_div, x_sub, x_rem, x_min, x_max, x_and, x_or, x_xor, x_df, x_shl, bI_0, bI_1, bI_bo, lg_eq, toL_inj, ls_nI, decide_eq_false_iff_not, decide_eq_true_eq, Bool.true_eq_false, Bool.false_eq_true, bq, if_pos, if_neg, if_true, if_false, lq, Nat.reduceAdd, Nat.reduceMul, Nat.reduceSub, Nat.reduceDiv, Nat.reduceMod, cS.hasPlace hD, h]
        · simp (disch := omega) only [lit, lm1, nI_add, pk_mul, nm_eq, nm_eq', nm_lt, nm_lt', nm_le, nm_le', x_lt, x_le, x_eq, x_in, x_cl, x_div, x_sub, x_rem, x_min, x_max, x_and, x_or, x_xor, x_df, x_shl, bI_0, bI_1, bI_bo, lg_eq, toL_inj, ls_nI, decide_eq_false_iff_not, decide_eq_true_eq, Bool.true_eq_false, Bool.false_eq_true, bq, if_pos, if_neg, if_true, if_false, lq, Nat.reduceAdd, Nat.reduceMul, Nat.reduceSub, Nat.reduceDiv, Nat.reduceMod, cS.hasPlace hD, h, h']
      · unfold fX12_pays
        simp (disch := omega) only [lit, lm1, nI_add, pk_mul, nm_eq, nm_eq', nm_lt, nm_lt', nm_le, nm_le', x_lt, x_le, x_eq, x_in, x_cl, x_div, x_sub, x_rem, x_min, x_max, x_and, x_or, x_xor, x_df, x_shl, bI_0, bI_1, bI_bo, lg_eq, toL_inj, ls_nI, decide_eq_false_iff_not, decide_eq_true_eq, Bool.true_eq_false, Bool.false_eq_true, bq, if_pos, if_neg, if_true, if_false, lq, Nat.reduceAdd, Nat.reduceMul, Nat.reduceSub, Nat.reduceDiv, Nat.reduceMod, (m.thr hD (nI 0)).isPlace hD, w3, h3]
  · refine ⟨-2, fun S cS => ⟨S, ?_, Kp.rf⟩, fun S m => ⟨_, ?_, kM_thr S (nI 0)⟩⟩
    · unfold fX11_pays
      simp (disch := omega) only [lit, lm1, nI_add, pk_mul, nm_eq, nm_eq', nm_lt, nm_lt', nm_le, nm_le', x_lt, x_le, x_eq, x_in, x_cl, x_div, x_sub, x_rem, x_min, x_max, x_and, x_or, x_xor, x_df, x_shl, bI_0, bI_1, bI_bo, lg_eq, toL_inj, ls_nI, decide_eq_false_iff_not, decide_eq_true_eq, Bool.true_eq_false, Bool.false_eq_true, bq, if_pos, if_neg, if_true, if_false, lq, Nat.reduceAdd, Nat.reduceMul, Nat.reduceSub, Nat.reduceDiv, Nat.reduceMod, cS.hasPlace hD, h1]
    · unfold fX12_pays
      simp (disch := omega) only [lit, lm1, nI_add, pk_mul, nm_eq, nm_eq', nm_lt, nm_lt', nm_le, nm_le', x_lt, x_le, x_eq, x_in, x_cl, x_div, x_sub, x_rem, x_min, x_max, x_and, x_or, x_xor, x_df, x_shl, bI_0, bI_1, bI_bo, lg_eq, toL_inj, ls_nI, decide_eq_false_iff_not, decide_eq_true_eq, Bool.true_eq_false, Bool.false_eq_true, bq, if_pos, if_neg, if_true, if_false, lq, Nat.reduceAdd, Nat.reduceMul, Nat.reduceSub, Nat.reduceDiv, Nat.reduceMod, (m.thr hD (nI 0)).isPlace hD, h1]
