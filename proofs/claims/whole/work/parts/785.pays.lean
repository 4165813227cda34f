/-! what pays: sets of coins, and the carryings that they ask -/
def tC (D : cpD) (E : cpE) (to k : Nat) : Option Nat := dst D E k to (E.at' k)
def tO (D : cpD) (E : cpE) (to k : Nat) : Option Nat := if E.at' k = to then (if nxt D E k to = 0 then none else some 1) else some 0
def oA (a b : Option Nat) : Option Nat := match a with
  | none => none
  | some x => match b with
    | none => none
    | some y => some (x + y)
def cfS (D : cpD) (E : cpE) (to s k : Nat) (a : Option Nat) : Option Nat := oA a (if s.testBit k then tC D E to k else tO D E to k)
def cfN (D : cpD) (E : cpE) (to s : Nat) : Option Nat := up (cfS D E to s) D.C 0 (some 0)
def wS (D : cpD) (s k a : Nat) : Nat := if s.testBit k then a + D.wo k else a
def wN (D : cpD) (s : Nat) : Nat := up (wS D s) D.C 0 0
def pyO (D : cpD) (E : cpE) (to v : Nat) (g : Bool) (s : Nat) (o : Option (Nat × Nat)) : Option (Nat × Nat) := if wN D s = v ∨ (g = true ∧ v < wN D s) then (match cfN D E to s with
  | none => o
  | some c => match o with
    | none => some (s, c)
    | some (s', c') => if c' ≤ c then o else some (s, c)) else o
def pyR (D : cpD) (E : cpE) (to v : Nat) (g : Bool) : Option (Nat × Nat) := up (pyO D E to v g) (2 ^ D.C) 0 none
def pI1 (o : Option (Nat × Nat)) : Int32 := match o with
  | none => nM
  | some x => nI x.1
def pI2 (o : Option (Nat × Nat)) : Int32 := match o with
  | none => nI 0
  | some x => nI x.2
def pI3 (o : Option (Nat × Nat)) : Int32 := match o with
  | none => nI 268435456
  | some x => nI x.2
def pyA (D : cpD) (E : cpE) (to v : Nat) (g r : Bool) : Int32 := match pyR D E to v g with
  | none => nM
  | some x => if r then nI x.1 else nI x.2
section PY
variable {D : cpD} {E : cpE} {S : cpS}
theorem tC_le {to k n : Nat} (h : tC D E to k = some n) : n ≤ 5 := by have := (dst_in h).1; omega
theorem tO_le {to k n : Nat} (h : tO D E to k = some n) : n ≤ 5 := by
  unfold tO at h
  split at h
  · split at h
    · cases h
    · cases h; omega
  · cases h; omega
theorem cfS_no (to s k : Nat) : cfS D E to s k none = none := rfl
theorem cf_no (to s : Nat) : ∀ d i, up (cfS D E to s) d i none = none := by
  intro d
  induction d with
  | zero => intro i; rfl
  | succ d ih => intro i; rw [up, cfS_no, ih]
theorem cfS_le {to s k a n : Nat} (h : cfS D E to s k (some a) = some n) : n ≤ a + 5 := by
  unfold cfS oA at h
  (try dsimp only at h)
  cases hb : (if s.testBit k then tC D E to k else tO D E to k) with
  | none => rw [hb] at h; cases h
  | some y =>
    rw [hb] at h
    cases h
    have : y ≤ 5 := by
      split at hb
      · exact tC_le hb
      · exact tO_le hb
    omega
theorem cfN_le (hD : D.WF) {to s n : Nat} (h : cfN D E to s = some n) : n ≤ 20 := by
  have c4 := hD.c4
  have := up_inv (cfS D E to s) D.C (fun i o => ∀ n, o = some n → n ≤ 5 * i) (fun i o hi q n hn => ?_) D.C 0 (some 0) (by omega) (fun n hn => by cases hn; omega) n h
  · omega
  · cases o with
    | none => rw [cfS_no] at hn; cases hn
    | some a => have := q a rfl; have := cfS_le hn; omega
theorem wN_le (hD : D.WF) (s : Nat) : ∀ d i a, i + d = D.C → up (wS D s) d i a ≤ a + 99 * d := by
  intro d
  induction d with
  | zero => intro i a _; exact Nat.le_refl _
  | succ d ih =>
    intro i a h
    rw [up]
    have h1 := ih (i + 1) (wS D s i a) (by omega)
    have h2 := (hD.wt i (by omega)).2
    have : wS D s i a ≤ a + 99 := by unfold wS; split <;> omega
    omega
/-! the class -/
def pyC (D : cpD) (E : cpE) (to : Nat) (S : cpS) : Prop := (∀ k, k < D.C → S.1 125 k = oI (tC D E to k)) ∧ ∀ k, k < D.C → S.1 126 k = oI (tO D E to k)
def kP (q j : Nat) : Prop := q = 125 ∨ q = 126 ∨ q = 122 ∨ kL q j
theorem kP_C {k j : Nat} (h : kP k j) : kC k j := by
  rcases h with rfl | rfl | h | h
  · exact ⟨scr_c (by decide) (by decide) (by decide) j, by decide⟩
  · exact ⟨scr_c (by decide) (by decide) (by decide) j, by decide⟩
  · exact k122_C h
  · exact kL_C h
theorem c_learnPaying (hD : D.WF) (hE : E.WF D) (c : cA D E S) {to : Nat} (ht : to < D.K) : ∃ T, fX4_learnPaying (nI to) S = some ((), T) ∧ pyC D E to T ∧ Kp kP S T := by
  have c4 := hD.c4
  have k6 := hD.k6
  have := up_lpR (F := fun n i (T : cpS) => fX4_learnPaying_2 (nI to) n i T) (K := fun T => some ((), T)) D.C (fun _ (s : Unit) => s) (fun i _ T => (∀ k, k < i → T.1 125 k = oI (tC D E to k)) ∧ (∀ k, k < i → T.1 126 k = oI (tO D E to k)) ∧ Kp kP S T) (by omega) (fun n i s T hi hI => ?_) (fun n s T hI => ?_) (i0 := 0) (s := ()) (a := S) (Nat.zero_le _) ⟨fun k hk => absurd hk (by omega), fun k hk => absurd hk (by omega), Kp.rf⟩
  · obtain ⟨T, t1, t2, t3, t4⟩ := this
    exact ⟨T, t1, ⟨t2, t3⟩, t4⟩
  · obtain ⟨i1, i2, i3⟩ := hI
    have cT := c.cc (i3.le (fun _ _ => kP_C))
    have ha := hE.at' i hi
    obtain ⟨A, a1, a2, a3⟩ := c_learn hD hE cT false hi
    have a1 : fX4_learn (nI i) (nI 0) T = some ((), A) := a1
    have cA' := cT.cc (a3.le (fun _ _ => kL_C))
    obtain ⟨B, b1, b2, b3⟩ := c_measureTo hD cA' a2 ht
    have cB := cA'.cc (b3.le (fun _ _ => k122_C))
    have lB := a2.kp b3 (fun q j h => by unfold k122 at h; omega)
    have k5 : Kp kP S (cpI B 125 i (oI (tC D E to i))) := ((i3.tr (a3.le (fun _ _ h => Or.inr (Or.inr (Or.inr h))))).tr (b3.le (fun _ _ h => Or.inr (Or.inr (Or.inl h))))).I (by exact Or.inl rfl)
    have c5 : cA D E (cpI B 125 i (oI (tC D E to i))) := c.cc (k5.le (fun _ _ => kP_C))
    have l5 : lrn D E false i (cpI B 125 i (oI (tC D E to i))) := ⟨fun a b ha hb => by rw [sIr (by decide)]; exact lB.1 a b ha hb, fun a b k ha hb hk => by rw [sIr (by decide)]; exact lB.2 a b k ha hb hk⟩
    have e2 : B.1 122 (E.at' i) = oI (tC D E to i) := b2 (E.at' i) ha
    have nx := c_nextTo hD c5 l5 ht
    have xl := nxt_lt (D := D) (E := E) i to
    have kk : 2 ^ D.K < 2 ^ 31 := Nat.pow_lt_pow_right (by decide) (by omega)
    refine ⟨cpI (cpI B 125 i (oI (tC D E to i))) 126 i (oI (tO D E to i)), ?_, fun k hk => ?_, fun k hk => ?_, k5.I (by exact Or.inr (Or.inl rfl))⟩
    · rw [fX4_learnPaying_2]
      by_cases e : E.at' i = to
      · have e2 : B.1 122 to = oI (tC D E to i) := by rw [← e2, e]
        by_cases e0 : nxt D E i to = 0
        · have et : tO D E to i = none := by unfold tO; rw [if_pos e, if_pos e0]
          rw [et, show oI none = nM from rfl]
          simp (disch := omega) only [lit, lm1, nI_add, pk_mul, nm_eq, nm_eq', nm_lt, nm_lt', nm_le, nm_le', x_lt, x_le, x_eq, x_in, x_cl, x_div, x_sub, x_rem, x_min, x_max, x_and, x_or, x_xor, x_df, x_shl, bI_0, bI_1, bI_bo, lg_eq, toL_inj, ls_nI, decide_eq_false_iff_not, decide_eq_true_eq, Bool.true_eq_false, Bool.false_eq_true, bq, if_pos, if_neg, if_true, if_false, lq, Nat.reduceAdd, Nat.reduceMul, Nat.reduceSub, Nat.reduceDiv, Nat.reduceMod, cT.C, cT.at', a1, b1, e, e2, nx, e0]
        · have et : tO D E to i = some 1 := by unfold tO; rw [if_pos e, if_neg e0]
          rw [et, show oI (some 1) = nI 1 from rfl]
          simp (disch := omega) only [lit, lm1, nI_add, pk_mul, nm_eq, nm_eq', nm_lt, nm_lt', nm_le, nm_le', x_lt, x_le, x_eq, x_in, x_cl, x_div, x_sub, x_rem, x_min, x_max, x_and, x_or, x_xor, x_df, x_shl, bI_0, bI_1, bI_bo, lg_eq, toL_inj, ls_nI, decide_eq_false_iff_not, decide_eq_true_eq, Bool.true_eq_false, Bool.false_eq_true, bq, if_pos, if_neg, if_true, if_false, lq, Nat.reduceAdd, Nat.reduceMul, Nat.reduceSub, Nat.reduceDiv, Nat.reduceMod, cT.C, cT.at', a1, b1, e, e2, nx, e0]
      · have et : tO D E to i = some 0 := by unfold tO; rw [if_neg e]
        rw [et, show oI (some 0) = nI 0 from rfl]
        simp (disch := omega) only [lit, lm1, nI_add, pk_mul, nm_eq, nm_eq', nm_lt, nm_lt', nm_le, nm_le', x_lt, x_le, x_eq, x_in, x_cl, x_div, x_sub, x_rem, x_min, x_max, x_and, x_or, x_xor, x_df, x_shl, bI_0, bI_1, bI_bo, lg_eq, toL_inj, ls_nI, decide_eq_false_iff_not, decide_eq_true_eq, Bool.true_eq_false, Bool.false_eq_true, bq, if_pos, if_neg, if_true, if_false, lq, Nat.reduceAdd, Nat.reduceMul, Nat.reduceSub, Nat.reduceDiv, Nat.reduceMod, cT.C, cT.at', a1, b1, e2, e]
    · rw [sIr (by decide)]
      by_cases e : k = i
      · rw [e, sI1]
      · rw [sIn (Or.inr e), b3.i (by unfold k122; omega), a3.i (by unfold kL kF; omega)]; exact i1 k (by omega)
    · by_cases e : k = i
      · rw [e, sI1]
      · rw [sIn (Or.inr e), sIr (by decide), b3.i (by unfold k122; omega), a3.i (by unfold kL kF; omega)]; exact i2 k (by omega)
  · have cT := c.cc (hI.2.2.le (fun _ _ => kP_C))
    rw [fX4_learnPaying_2]
    simp (disch := omega) only [lit, lm1, nI_add, pk_mul, nm_eq, nm_eq', nm_lt, nm_lt', nm_le, nm_le', x_lt, x_le, x_eq, x_in, x_cl, x_div, x_sub, x_rem, x_min, x_max, x_and, x_or, x_xor, x_df, x_shl, bI_0, bI_1, bI_bo, lg_eq, toL_inj, ls_nI, decide_eq_false_iff_not, decide_eq_true_eq, Bool.true_eq_false, Bool.false_eq_true, bq, if_pos, if_neg, if_true, if_false, lq, Nat.reduceAdd, Nat.reduceMul, Nat.reduceSub, Nat.reduceDiv, Nat.reduceMod, cT.C]
theorem c_carryingsFor (hD : D.WF) (c : cA D E S) {to s : Nat} (hs : s < 16) (pc : pyC D E to S) : fX4_carryingsFor (nI s) S = some (oI (cfN D E to s), S) := by
  have c4 := hD.c4
  have : ∀ d i f a, i + d = D.C → d < f → a ≤ 5 * i → fX4_carryingsFor_4 (nI s) f (nI a) (nI i) S = some (oI (up (cfS D E to s) d i (some a)), S) := by
    intro d
    induction d with
    | zero =>
      intro i f a h hf ha
      obtain ⟨f, rfl⟩ : ∃ g, f = g + 1 := ⟨f - 1, by omega⟩
      rw [fX4_carryingsFor_4]
      simp (disch := omega) only [lit, lm1, nI_add, pk_mul, nm_eq, nm_eq', nm_lt, nm_lt', nm_le, nm_le', x_lt, x_le, x_eq, x_in, x_cl, x_div, x_sub, x_rem, x_min, x_max, x_and, x_or, x_xor, x_df, x_shl, bI_0, bI_1, bI_bo, lg_eq, toL_inj, ls_nI, decide_eq_false_iff_not, decide_eq_true_eq, Bool.true_eq_false, Bool.false_eq_true, bq, if_pos, if_neg, if_true, if_false, lq, Nat.reduceAdd, Nat.reduceMul, Nat.reduceSub, Nat.reduceDiv, Nat.reduceMod, c.C]
      rfl
    | succ d ih =>
      intro i f a h hf ha
      obtain ⟨f, rfl⟩ : ∃ g, f = g + 1 := ⟨f - 1, by omega⟩
      have go : fX4_carryingsFor_41 (nI s) (nI a) (nI i) (oI (if s.testBit i then tC D E to i else tO D E to i)) (fX4_carryingsFor_4 (nI s) f) S = some (oI (up (cfS D E to s) d (i + 1) (cfS D E to s i (some a))), S) := by
        unfold fX4_carryingsFor_41
        cases hb : (if s.testBit i then tC D E to i else tO D E to i) with
        | none =>
          have e : cfS D E to s i (some a) = none := by unfold cfS; rw [hb]; rfl
          rw [e, cf_no]
          simp (disch := omega) only [lit, lm1, nI_add, pk_mul, nm_eq, nm_eq', nm_lt, nm_lt', nm_le, nm_le', x_lt, x_le, x_eq, x_in, x_cl, x_div, x_sub, x_rem, x_min, x_max, x_and, x_or, x_xor, x_df, x_shl, bI_0, bI_1, bI_bo, lg_eq, toL_inj, ls_nI, decide_eq_false_iff_not, decide_eq_true_eq, Bool.true_eq_false, Bool.false_eq_true, bq, if_pos, if_neg, if_true, if_false, lq, Nat.reduceAdd, Nat.reduceMul, Nat.reduceSub, Nat.reduceDiv, Nat.reduceMod, oI, eq_self]
        | some y =>
          have e : cfS D E to s i (some a) = some (a + y) := by unfold cfS; rw [hb]; rfl
          have hy := cfS_le e
          rw [e, ← ih (i + 1) f (a + y) (by omega) (by omega) (by omega)]
          simp (disch := omega) only [lit, lm1, nI_add, pk_mul, nm_eq, nm_eq', nm_lt, nm_lt', nm_le, nm_le', x_lt, x_le, x_eq, x_in, x_cl, x_div, x_sub, x_rem, x_min, x_max, x_and, x_or, x_xor, x_df, x_shl, bI_0, bI_1, bI_bo, lg_eq, toL_inj, ls_nI, decide_eq_false_iff_not, decide_eq_true_eq, Bool.true_eq_false, Bool.false_eq_true, bq, if_pos, if_neg, if_true, if_false, lq, Nat.reduceAdd, Nat.reduceMul, Nat.reduceSub, Nat.reduceDiv, Nat.reduceMod, oI]
      rw [up, ← go, fX4_carryingsFor_4]
      cases hb : s.testBit i
      · simp (disch := omega) only [lit, lm1, nI_add, pk_mul, nm_eq, nm_eq', nm_lt, nm_lt', nm_le, nm_le', x_lt, x_le, x_eq, x_in, x_cl, x_div, x_sub, x_rem, x_min, x_max, x_and, x_or, x_xor, x_df, x_shl, bI_0, bI_1, bI_bo, lg_eq, toL_inj, ls_nI, decide_eq_false_iff_not, decide_eq_true_eq, Bool.true_eq_false, Bool.false_eq_true, bq, if_pos, if_neg, if_true, if_false, lq, Nat.reduceAdd, Nat.reduceMul, Nat.reduceSub, Nat.reduceDiv, Nat.reduceMod, c.C, e_isIn, hb, pc.2 i (by omega)]
      · simp (disch := omega) only [lit, lm1, nI_add, pk_mul, nm_eq, nm_eq', nm_lt, nm_lt', nm_le, nm_le', x_lt, x_le, x_eq, x_in, x_cl, x_div, x_sub, x_rem, x_min, x_max, x_and, x_or, x_xor, x_df, x_shl, bI_0, bI_1, bI_bo, lg_eq, toL_inj, ls_nI, decide_eq_false_iff_not, decide_eq_true_eq, Bool.true_eq_false, Bool.false_eq_true, bq, if_pos, if_neg, if_true, if_false, lq, Nat.reduceAdd, Nat.reduceMul, Nat.reduceSub, Nat.reduceDiv, Nat.reduceMod, c.C, e_isIn, hb, pc.1 i (by omega)]
  exact this D.C 0 cpFu 0 (by omega) (by show _ < 5000; omega) (by omega)
theorem c_worthOf (hD : D.WF) (c : cA D E S) {s : Nat} (hs : s < 16) : fX4_worthOf (nI s) S = some (nI (wN D s), S) := by
  have c4 := hD.c4
  unfold fX4_worthOf wN
  simp only [lit]
  refine up_lp (F := fun n i (a : Int32) => fX4_worthOf_4 (nI s) n a i S) D.C (wS D s) (fun i a => a ≤ 99 * i) (fun a => nI a) (K := fun a => some (nI a, S)) (by omega) (fun n i a hi hJ => ?_) (fun n a hJ => ?_) (i0 := 0) (s := 0) (Nat.zero_le _) (by omega)
  · have h2 := (hD.wt i hi).2
    refine ⟨?_, by unfold wS; split <;> omega⟩
    rw [fX4_worthOf_4]
    unfold wS
    cases hb : s.testBit i
    · simp (disch := omega) only [lit, lm1, nI_add, pk_mul, nm_eq, nm_eq', nm_lt, nm_lt', nm_le, nm_le', x_lt, x_le, x_eq, x_in, x_cl, x_div, x_sub, x_rem, x_min, x_max, x_and, x_or, x_xor, x_df, x_shl, bI_0, bI_1, bI_bo, lg_eq, toL_inj, ls_nI, decide_eq_false_iff_not, decide_eq_true_eq, Bool.true_eq_false, Bool.false_eq_true, bq, if_pos, if_neg, if_true, if_false, lq, Nat.reduceAdd, Nat.reduceMul, Nat.reduceSub, Nat.reduceDiv, Nat.reduceMod, c.C, e_isIn, hb]
    · simp (disch := omega) only [lit, lm1, nI_add, pk_mul, nm_eq, nm_eq', nm_lt, nm_lt', nm_le, nm_le', x_lt, x_le, x_eq, x_in, x_cl, x_div, x_sub, x_rem, x_min, x_max, x_and, x_or, x_xor, x_df, x_shl, bI_0, bI_1, bI_bo, lg_eq, toL_inj, ls_nI, decide_eq_false_iff_not, decide_eq_true_eq, Bool.true_eq_false, Bool.false_eq_true, bq, if_pos, if_neg, if_true, if_false, lq, Nat.reduceAdd, Nat.reduceMul, Nat.reduceSub, Nat.reduceDiv, Nat.reduceMod, c.C, e_isIn, hb, c.wo i hi]
  · rw [fX4_worthOf_4]
    simp (disch := omega) only [lit, lm1, nI_add, pk_mul, nm_eq, nm_eq', nm_lt, nm_lt', nm_le, nm_le', x_lt, x_le, x_eq, x_in, x_cl, x_div, x_sub, x_rem, x_min, x_max, x_and, x_or, x_xor, x_df, x_shl, bI_0, bI_1, bI_bo, lg_eq, toL_inj, ls_nI, decide_eq_false_iff_not, decide_eq_true_eq, Bool.true_eq_false, Bool.false_eq_true, bq, if_pos, if_neg, if_true, if_false, lq, Nat.reduceAdd, Nat.reduceMul, Nat.reduceSub, Nat.reduceDiv, Nat.reduceMod, c.C]
theorem py_in (hD : D.WF) (to v : Nat) (g : Bool) : ∀ x, pyR D E to v g = some x → x.1 < 2 ^ D.C ∧ cfN D E to x.1 = some x.2 := by
  refine up_inv (pyO D E to v g) (2 ^ D.C) (fun i o => ∀ x, o = some x → x.1 < i ∧ cfN D E to x.1 = some x.2) (fun i o hi q x hx => ?_) (2 ^ D.C) 0 none (by omega) (fun x hx => by cases hx)
  have old : o = some x → x.1 < i + 1 ∧ cfN D E to x.1 = some x.2 := fun e => ⟨by have := (q x e).1; omega, (q x e).2⟩
  unfold pyO at hx
  split at hx
  · cases hc : cfN D E to i with
    | none => rw [hc] at hx; exact old hx
    | some c =>
      rw [hc] at hx
      (try dsimp only at hx)
      cases o with
      | none => cases hx; exact ⟨Nat.lt_succ_self _, hc⟩
      | some y =>
        obtain ⟨s', c'⟩ := y
        (try dsimp only at hx)
        split at hx
        · exact old hx
        · cases hx; exact ⟨Nat.lt_succ_self _, hc⟩
  · exact old hx
theorem c_leastPaying (hD : D.WF) (c : cA D E S) {to v : Nat} {g : Bool} (hv : v ≤ 999) (pc : pyC D E to S) : fX4_leastPaying (nI v) (bI g) S = some (pI1 (pyR D E to v g), S) := by
  have c4 := hD.c4
  have k16 : 2 ^ D.C ≤ 16 := by
    have := Nat.pow_le_pow_right (n := 2) (by decide) c4
    omega
  have := up_lpR (F := fun n i (a : Int32 × Int32) => fX4_leastPaying_8 (nI v) (bI g) n a.1 a.2 i S) (K := fun a => some (a.1, S)) (2 ^ D.C) (pyO D E to v g) (fun i o a => a.1 = pI1 o ∧ a.2 = pI2 o ∧ ∀ x, o = some x → x.1 < i ∧ x.2 ≤ 20) (by omega) (fun n i o a hi hI => ?_) (fun n o a hI => ?_) (i0 := 0) (s := none) (a := (nM, nI 0)) (Nat.zero_le _) ⟨rfl, rfl, fun x hx => by cases hx⟩
  · obtain ⟨a, t1, t2, -⟩ := this
    rw [t2] at t1
    exact t1
  · obtain ⟨a, b⟩ := a
    obtain ⟨i1, i2, i3⟩ := hI
    have j1 : a = pI1 o := i1
    have j2 : b = pI2 o := i2
    clear i1 i2
    subst j1 j2
    have w1 := c_worthOf hD c (s := i) (by omega)
    have w2 := c_carryingsFor hD c (s := i) (by omega) pc
    have wl := wN_le hD i D.C 0 0 (by omega)
    have wl : wN D i ≤ 0 + 99 * D.C := wl
    have skip : ∃ a' : Int32 × Int32, fX4_leastPaying_8 (nI v) (bI g) n (pI1 o) (pI2 o) (nI (i + 1)) S = fX4_leastPaying_8 (nI v) (bI g) n a'.1 a'.2 (nI (i + 1)) S ∧ a'.1 = pI1 o ∧ a'.2 = pI2 o ∧ ∀ x, o = some x → x.1 < i + 1 ∧ x.2 ≤ 20 := ⟨(pI1 o, pI2 o), rfl, rfl, rfl, fun x hx => by have := i3 x hx; omega⟩
    have e62 : ∀ b : Bool, b = decide (wN D i = v ∨ (g = true ∧ v < wN D i)) → ∃ a' : Int32 × Int32, fX4_leastPaying_62 (nI v) (bI g) (pI1 o) (pI2 o) (nI i) (oI (cfN D E to i)) (bI b) (fX4_leastPaying_8 (nI v) (bI g) n) S = fX4_leastPaying_8 (nI v) (bI g) n a'.1 a'.2 (nI (i + 1)) S ∧ a'.1 = pI1 (pyO D E to v g i o) ∧ a'.2 = pI2 (pyO D E to v g i o) ∧ ∀ x, pyO D E to v g i o = some x → x.1 < i + 1 ∧ x.2 ≤ 20 := fun b hb => by
      cases b with
      | false =>
        have hb := of_decide_eq_false hb.symm
        have e : pyO D E to v g i o = o := by unfold pyO; rw [if_neg hb]
        rw [e]
        unfold fX4_leastPaying_62
        simp (disch := omega) only [lit, lm1, nI_add, pk_mul, nm_eq, nm_eq', nm_lt, nm_lt', nm_le, nm_le', x_lt, x_le, x_eq, x_in, x_cl, x_div, x_sub, x_rem, x_min, x_max, x_and, x_or, x_xor, x_df, x_shl, bI_0, bI_1, bI_bo, lg_eq, toL_inj, ls_nI, decide_eq_false_iff_not, decide_eq_true_eq, Bool.true_eq_false, Bool.false_eq_true, bq, if_pos, if_neg, if_true, if_false, lq, Nat.reduceAdd, Nat.reduceMul, Nat.reduceSub, Nat.reduceDiv, Nat.reduceMod, bI]
        exact skip
      | true =>
        have hb := of_decide_eq_true hb.symm
        unfold fX4_leastPaying_62
        cases hc : cfN D E to i with
        | none =>
          have e : pyO D E to v g i o = o := by unfold pyO; rw [if_pos hb, hc]
          rw [e]
          simp (disch := omega) only [lit, lm1, nI_add, pk_mul, nm_eq, nm_eq', nm_lt, nm_lt', nm_le, nm_le', x_lt, x_le, x_eq, x_in, x_cl, x_div, x_sub, x_rem, x_min, x_max, x_and, x_or, x_xor, x_df, x_shl, bI_0, bI_1, bI_bo, lg_eq, toL_inj, ls_nI, decide_eq_false_iff_not, decide_eq_true_eq, Bool.true_eq_false, Bool.false_eq_true, bq, if_pos, if_neg, if_true, if_false, lq, Nat.reduceAdd, Nat.reduceMul, Nat.reduceSub, Nat.reduceDiv, Nat.reduceMod, bI, oI, eq_self]
          exact skip
        | some q =>
          have hq := cfN_le hD hc
          cases o with
          | none =>
            have e : pyO D E to v g i none = some (i, q) := by unfold pyO; rw [if_pos hb, hc]
            rw [e]
            refine ⟨(nI i, nI q), ?_, rfl, rfl, fun x hx => by cases hx; exact ⟨Nat.lt_succ_self _, hq⟩⟩
            simp (disch := omega) only [lit, lm1, nI_add, pk_mul, nm_eq, nm_eq', nm_lt, nm_lt', nm_le, nm_le', x_lt, x_le, x_eq, x_in, x_cl, x_div, x_sub, x_rem, x_min, x_max, x_and, x_or, x_xor, x_df, x_shl, bI_0, bI_1, bI_bo, lg_eq, toL_inj, ls_nI, decide_eq_false_iff_not, decide_eq_true_eq, Bool.true_eq_false, Bool.false_eq_true, bq, if_pos, if_neg, if_true, if_false, lq, Nat.reduceAdd, Nat.reduceMul, Nat.reduceSub, Nat.reduceDiv, Nat.reduceMod, bI, oI, pI1, pI2, eq_self]
          | some y =>
            obtain ⟨s', c'⟩ := y
            have hy := i3 _ rfl
            have h1 : s' < i := hy.1
            have h2 : c' ≤ 20 := hy.2
            by_cases hle : c' ≤ q
            · have e : pyO D E to v g i (some (s', c')) = some (s', c') := by unfold pyO; rw [if_pos hb, hc]; dsimp only; rw [if_pos hle]
              rw [e]
              refine ⟨(nI s', nI c'), ?_, rfl, rfl, fun x hx => by cases hx; exact ⟨by (try dsimp only); omega, h2⟩⟩
              simp (disch := omega) only [lit, lm1, nI_add, pk_mul, nm_eq, nm_eq', nm_lt, nm_lt', nm_le, nm_le', x_lt, x_le, x_eq, x_in, x_cl, x_div, x_sub, x_rem, x_min, x_max, x_and, x_or, x_xor, x_df, x_shl, bI_0, bI_1, bI_bo, lg_eq, toL_inj, ls_nI, decide_eq_false_iff_not, decide_eq_true_eq, Bool.true_eq_false, Bool.false_eq_true, bq, if_pos, if_neg, if_true, if_false, lq, Nat.reduceAdd, Nat.reduceMul, Nat.reduceSub, Nat.reduceDiv, Nat.reduceMod, bI, oI, pI1, pI2]
            · have e : pyO D E to v g i (some (s', c')) = some (i, q) := by unfold pyO; rw [if_pos hb, hc]; dsimp only; rw [if_neg hle]
              rw [e]
              refine ⟨(nI i, nI q), ?_, rfl, rfl, fun x hx => by cases hx; exact ⟨Nat.lt_succ_self _, hq⟩⟩
              simp (disch := omega) only [lit, lm1, nI_add, pk_mul, nm_eq, nm_eq', nm_lt, nm_lt', nm_le, nm_le', x_lt, x_le, x_eq, x_in, x_cl, x_div, x_sub, x_rem, x_min, x_max, x_and, x_or, x_xor, x_df, x_shl, bI_0, bI_1, bI_bo, lg_eq, toL_inj, ls_nI, decide_eq_false_iff_not, decide_eq_true_eq, Bool.true_eq_false, Bool.false_eq_true, bq, if_pos, if_neg, if_true, if_false, lq, Nat.reduceAdd, Nat.reduceMul, Nat.reduceSub, Nat.reduceDiv, Nat.reduceMod, bI, oI, pI1, pI2]
    rw [fX4_leastPaying_8]
    by_cases h1 : wN D i = v
    · have := e62 true (by rw [decide_eq_true (Or.inl h1)])
      simp (disch := omega) only [lit, lm1, nI_add, pk_mul, nm_eq, nm_eq', nm_lt, nm_lt', nm_le, nm_le', x_lt, x_le, x_eq, x_in, x_cl, x_div, x_sub, x_rem, x_min, x_max, x_and, x_or, x_xor, x_df, x_shl, bI_0, bI_1, bI_bo, lg_eq, toL_inj, ls_nI, decide_eq_false_iff_not, decide_eq_true_eq, Bool.true_eq_false, Bool.false_eq_true, bq, if_pos, if_neg, if_true, if_false, lq, Nat.reduceAdd, Nat.reduceMul, Nat.reduceSub, Nat.reduceDiv, Nat.reduceMod, c.C, w1, w2, h1]
      exact this
    · cases g with
      | false =>
        have := e62 false (by rw [decide_eq_false (fun q => by rcases q with q | q; exact h1 q; cases q.1)])
        have b0 : bI false = nI 0 := rfl
        rw [b0] at this ⊢
        simp (disch := omega) only [lit, lm1, nI_add, pk_mul, nm_eq, nm_eq', nm_lt, nm_lt', nm_le, nm_le', x_lt, x_le, x_eq, x_in, x_cl, x_div, x_sub, x_rem, x_min, x_max, x_and, x_or, x_xor, x_df, x_shl, bI_0, bI_1, bI_bo, lg_eq, toL_inj, ls_nI, decide_eq_false_iff_not, decide_eq_true_eq, Bool.true_eq_false, Bool.false_eq_true, bq, if_pos, if_neg, if_true, if_false, lq, Nat.reduceAdd, Nat.reduceMul, Nat.reduceSub, Nat.reduceDiv, Nat.reduceMod, c.C, w1, w2, h1]
        exact this
      | true =>
        have b0 : bI true = nI 1 := rfl
        by_cases h2 : wN D i ≤ v
        · have := e62 false (by rw [decide_eq_false (fun q => by rcases q with q | q; exact h1 q; omega)])
          rw [b0] at this ⊢
          simp (disch := omega) only [lit, lm1, nI_add, pk_mul, nm_eq, nm_eq', nm_lt, nm_lt', nm_le, nm_le', x_lt, x_le, x_eq, x_in, x_cl, x_div, x_sub, x_rem, x_min, x_max, x_and, x_or, x_xor, x_df, x_shl, bI_0, bI_1, bI_bo, lg_eq, toL_inj, ls_nI, decide_eq_false_iff_not, decide_eq_true_eq, Bool.true_eq_false, Bool.false_eq_true, bq, if_pos, if_neg, if_true, if_false, lq, Nat.reduceAdd, Nat.reduceMul, Nat.reduceSub, Nat.reduceDiv, Nat.reduceMod, c.C, w1, w2, h1]
          exact this
        · have := e62 true (by rw [decide_eq_true (Or.inr ⟨rfl, by omega⟩)])
          rw [b0] at this ⊢
          simp (disch := omega) only [lit, lm1, nI_add, pk_mul, nm_eq, nm_eq', nm_lt, nm_lt', nm_le, nm_le', x_lt, x_le, x_eq, x_in, x_cl, x_div, x_sub, x_rem, x_min, x_max, x_and, x_or, x_xor, x_df, x_shl, bI_0, bI_1, bI_bo, lg_eq, toL_inj, ls_nI, decide_eq_false_iff_not, decide_eq_true_eq, Bool.true_eq_false, Bool.false_eq_true, bq, if_pos, if_neg, if_true, if_false, lq, Nat.reduceAdd, Nat.reduceMul, Nat.reduceSub, Nat.reduceDiv, Nat.reduceMod, c.C, w1, w2, h1]
          exact this
  · rw [fX4_leastPaying_8]
    simp (disch := omega) only [lit, lm1, nI_add, pk_mul, nm_eq, nm_eq', nm_lt, nm_lt', nm_le, nm_le', x_lt, x_le, x_eq, x_in, x_cl, x_div, x_sub, x_rem, x_min, x_max, x_and, x_or, x_xor, x_df, x_shl, bI_0, bI_1, bI_bo, lg_eq, toL_inj, ls_nI, decide_eq_false_iff_not, decide_eq_true_eq, Bool.true_eq_false, Bool.false_eq_true, bq, if_pos, if_neg, if_true, if_false, lq, Nat.reduceAdd, Nat.reduceMul, Nat.reduceSub, Nat.reduceDiv, Nat.reduceMod, c.C]
theorem c_pays60 (hD : D.WF) (c : cA D E S) {to v x3 : Nat} {g : Bool} (hx : x3 < 4) (hv : v ≤ 999) (pc : pyC D E to S) : fX11_pays_60 (nI x3) (bI g) (nI v) S = some (pyA D E to v g (x3 % 2 == 1), S) := by
  have c4 := hD.c4
  have k16 : 2 ^ D.C ≤ 16 := by
    have := Nat.pow_le_pow_right (n := 2) (by decide) c4
    omega
  have l := c_leastPaying hD c (g := g) hv pc
  unfold fX11_pays_60 pyA
  cases hr : pyR D E to v g with
  | none =>
    rw [hr] at l
    simp (disch := omega) only [lit, lm1, nI_add, pk_mul, nm_eq, nm_eq', nm_lt, nm_lt', nm_le, nm_le', x_lt, x_le, x_eq, x_in, x_cl, x_div, x_sub, x_rem, x_min, x_max, x_and, x_or, x_xor, x_df, x_shl, bI_0, bI_1, bI_bo, lg_eq, toL_inj, ls_nI, decide_eq_false_iff_not, decide_eq_true_eq, Bool.true_eq_false, Bool.false_eq_true, bq, if_pos, if_neg, if_true, if_false, lq, Nat.reduceAdd, Nat.reduceMul, Nat.reduceSub, Nat.reduceDiv, Nat.reduceMod, l, pI1, eq_self]
  | some x =>
    obtain ⟨h1, h2⟩ := py_in hD to v g x hr
    have l2 := c_carryingsFor hD c (s := x.1) (by omega) pc
    rw [h2] at l2
    rw [hr] at l
    by_cases e : x3 % 2 = 0
    · rw [e]
      simp (disch := omega) only [lit, lm1, nI_add, pk_mul, nm_eq, nm_eq', nm_lt, nm_lt', nm_le, nm_le', x_lt, x_le, x_eq, x_in, x_cl, x_div, x_sub, x_rem, x_min, x_max, x_and, x_or, x_xor, x_df, x_shl, bI_0, bI_1, bI_bo, lg_eq, toL_inj, ls_nI, decide_eq_false_iff_not, decide_eq_true_eq, Bool.true_eq_false, Bool.false_eq_true, bq, if_pos, if_neg, if_true, if_false, lq, Nat.reduceAdd, Nat.reduceMul, Nat.reduceSub, Nat.reduceDiv, Nat.reduceMod, l, l2, pI1, oI, e]
      rfl
    · rw [show x3 % 2 = 1 by omega]
      simp (disch := omega) only [lit, lm1, nI_add, pk_mul, nm_eq, nm_eq', nm_lt, nm_lt', nm_le, nm_le', x_lt, x_le, x_eq, x_in, x_cl, x_div, x_sub, x_rem, x_min, x_max, x_and, x_or, x_xor, x_df, x_shl, bI_0, bI_1, bI_bo, lg_eq, toL_inj, ls_nI, decide_eq_false_iff_not, decide_eq_true_eq, Bool.true_eq_false, Bool.false_eq_true, bq, if_pos, if_neg, if_true, if_false, lq, Nat.reduceAdd, Nat.reduceMul, Nat.reduceSub, Nat.reduceDiv, Nat.reduceMod, l, l2, pI1, oI, e]
      rfl
end PY
