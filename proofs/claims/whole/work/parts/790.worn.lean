/-! rims told: rows of carryings that wear so -/
theorem lN_big {a : Nat} (h : a < 2 ^ 63) : (lN a).toInt = a := by
  show (BitVec.ofNat 64 a).toInt = a
  have e : (BitVec.ofNat 64 a).toNat = a := by rw [BitVec.toNat_ofNat]; exact Nat.mod_eq_of_lt (by omega)
  rw [BitVec.toInt_eq_toNat_of_lt (by rw [e]; omega), e]
theorem lN_z {a : Nat} (h : a < 2 ^ 63) : (lN a = lN 0) = (a = 0) := propext ⟨fun e => by
  have := congrArg Int64.toInt e
  rw [lN_big h, lN_big (by decide)] at this
  omega, fun e => by rw [e]⟩
theorem lN_p {a : Nat} (h : a < 2 ^ 63) : (lN 0 < lN a) = (0 < a) := propext (by rw [l_lt, lN_big h, lN_big (by decide)]; omega)
def fit (D : cpD) (E : cpE) (c : Nat) (x : Int64) (a b p q : Nat) : Bool := bro D E c a b E.h p q && (decide (x = -1) || decide (x = Int32.toInt64 (wnF D p q c a b E.h)))
def ftI (D : cpD) (E : cpE) (c : Nat) (x : Int64) (a b i : Nat) : Bool := decide (poN i < D.P) && fit D E c x a b (plN i) (poN i)
def adI (p : Bool) (x s : Nat) : Nat := if p then s + x else s
def rwD (D : cpD) (E : cpE) (c : Nat) (v : Nat → Int64) : Nat → Nat → Nat → Nat
  | 0, _, _ => 1
  | d + 1, j, a => up (fun b s => up (fun i s => adI (ftI D E c (v j) a b i) (rwD D E c v d (j + 1) b) s) 28 0 s) D.K 0 0
section WO
variable {D : cpD} {E : cpE} {S : cpS}
theorem rwD_0 (c : Nat) (v : Nat → Int64) (j a : Nat) : rwD D E c v 0 j a = 1 := rfl
theorem rwD_s (c : Nat) (v : Nat → Int64) (d j a : Nat) : rwD D E c v (d + 1) j a = up (fun b s => up (fun i s => adI (ftI D E c (v j) a b i) (rwD D E c v d (j + 1) b) s) 28 0 s) D.K 0 0 := rfl
theorem up_le {f : Nat → Nat → Nat} {B : Nat} (h : ∀ i s, f i s ≤ s + B) : ∀ d i s, up f d i s ≤ s + B * d := by
  intro d
  induction d with
  | zero => intro i s; exact Nat.le_refl _
  | succ d ih =>
    intro i s
    rw [up]
    have h1 := ih (i + 1) (f i s)
    have h2 := h i s
    rw [Nat.mul_succ]
    omega
theorem rwD_le (hD : D.WF) (c : Nat) (v : Nat → Int64) : ∀ d j a, rwD D E c v d j a ≤ 168 ^ d := by
  have k6 := hD.k6
  intro d
  induction d with
  | zero => intro j a; exact Nat.le_refl _
  | succ d ih =>
    intro j a
    rw [rwD_s]
    have h1 : ∀ b s, up (fun i s => adI (ftI D E c (v j) a b i) (rwD D E c v d (j + 1) b) s) 28 0 s ≤ s + 168 ^ d * 28 := fun b s => up_le (fun i s => by have := ih (j + 1) b; unfold adI; split <;> omega) 28 0 s
    refine Nat.le_trans (up_le h1 D.K 0 0) ?_
    have h3 : 168 ^ d * 28 * D.K ≤ 168 ^ d * 28 * 6 := Nat.mul_le_mul_left _ k6
    have h4 : 168 ^ (d + 1) = 168 ^ d * 28 * 6 := by rw [Nat.pow_succ, Nat.mul_assoc]
    omega
theorem rwD_lt (hD : D.WF) {c d j a : Nat} {v : Nat → Int64} (hd : d ≤ 8) : rwD D E c v d j a < 2 ^ 63 := by
  have h1 := rwD_le (E := E) hD c v d j a
  have h2 : 168 ^ d ≤ 168 ^ 8 := Nat.pow_le_pow_right (by decide) hd
  have h3 : 168 ^ 8 < 2 ^ 63 := by decide
  omega
/-! the class learns it -/
def clw (D : cpD) (E : cpE) (c n : Nat) (v : Nat → Int64) (S : cpS) : Prop := lrn D E true c S ∧ (∀ j, j < n → S.2 133 j = v j) ∧ ∀ j a, j ≤ n → a < D.K → S.2 131 (j * 6 + a) = lN (rwD D E c v (n - j) j a)
theorem c_fits {c a b i j : Nat} {x : Int64} (hj : j < 8) (hx : S.2 133 j = x) : fX8_fits (nI j) (wv D E true c a b i) S = some (bI (ftI D E c x a b i), S) := by
  unfold fX8_fits ftI fit wv
  by_cases hw : poN i < D.P ∧ bro D E c a b E.h (plN i) (poN i) = true
  · obtain ⟨m, m9, hm⟩ := wnF_sp D (plN i) (poN i) c a b E.h
    rw [if_pos hw, decide_eq_true hw.1, hw.2]
    simp only [if_true]
    rw [hm]
    by_cases h1 : x = -1
    · simp (disch := omega) only [lit, lm1, nI_add, pk_mul, nm_eq, nm_eq', nm_lt, nm_lt', nm_le, nm_le', x_lt, x_le, x_eq, x_in, x_cl, x_div, x_sub, x_rem, x_min, x_max, x_and, x_or, x_xor, x_df, x_shl, bI_0, bI_1, bI_bo, lg_eq, toL_inj, ls_nI, decide_eq_false_iff_not, decide_eq_true_eq, Bool.true_eq_false, Bool.false_eq_true, bq, if_pos, if_neg, if_true, if_false, lq, Nat.reduceAdd, Nat.reduceMul, Nat.reduceSub, Nat.reduceDiv, Nat.reduceMod, hx, h1, eq_self]
      rfl
    · by_cases h2 : x = Int32.toInt64 (nI m)
      · rw [decide_eq_true h2]
        simp (disch := omega) only [lit, lm1, nI_add, pk_mul, nm_eq, nm_eq', nm_lt, nm_lt', nm_le, nm_le', x_lt, x_le, x_eq, x_in, x_cl, x_div, x_sub, x_rem, x_min, x_max, x_and, x_or, x_xor, x_df, x_shl, bI_0, bI_1, bI_bo, lg_eq, toL_inj, ls_nI, decide_eq_false_iff_not, decide_eq_true_eq, Bool.true_eq_false, Bool.false_eq_true, bq, if_pos, if_neg, if_true, if_false, lq, Nat.reduceAdd, Nat.reduceMul, Nat.reduceSub, Nat.reduceDiv, Nat.reduceMod, hx, h1, h2, eq_self]
        rw [show (decide (Int32.toInt64 (nI m) = -1) || true) = true from Bool.or_true _]
        by_cases h3 : Int32.toInt64 (nI m) = -1
        · rw [if_pos h3]; rfl
        · rw [if_neg h3]; rfl
      · rw [decide_eq_false h1, decide_eq_false h2]
        simp (disch := omega) only [lit, lm1, nI_add, pk_mul, nm_eq, nm_eq', nm_lt, nm_lt', nm_le, nm_le', x_lt, x_le, x_eq, x_in, x_cl, x_div, x_sub, x_rem, x_min, x_max, x_and, x_or, x_xor, x_df, x_shl, bI_0, bI_1, bI_bo, lg_eq, toL_inj, ls_nI, decide_eq_false_iff_not, decide_eq_true_eq, Bool.true_eq_false, Bool.false_eq_true, bq, if_pos, if_neg, if_true, if_false, lq, Nat.reduceAdd, Nat.reduceMul, Nat.reduceSub, Nat.reduceDiv, Nat.reduceMod, hx, h1, h2]
        rfl
  · rw [if_neg hw]
    have : (decide (poN i < D.P) && (bro D E c a b E.h (plN i) (poN i) && (decide (x = -1) || decide (x = Int32.toInt64 (wnF D (plN i) (poN i) c a b E.h))))) = false := by
      cases h1 : decide (poN i < D.P)
      · rfl
      · cases h2 : bro D E c a b E.h (plN i) (poN i)
        · rfl
        · exact absurd ⟨of_decide_eq_true h1, h2⟩ hw
    rw [this]
    simp (disch := omega) only [lit, lm1, nI_add, pk_mul, nm_eq, nm_eq', nm_lt, nm_lt', nm_le, nm_le', x_lt, x_le, x_eq, x_in, x_cl, x_div, x_sub, x_rem, x_min, x_max, x_and, x_or, x_xor, x_df, x_shl, bI_0, bI_1, bI_bo, lg_eq, toL_inj, ls_nI, decide_eq_false_iff_not, decide_eq_true_eq, Bool.true_eq_false, Bool.false_eq_true, bq, if_pos, if_neg, if_true, if_false, lq, Nat.reduceAdd, Nat.reduceMul, Nat.reduceSub, Nat.reduceDiv, Nat.reduceMod, eq_self]
    rfl
theorem c_wearOf (hD : D.WF) {c a b i : Nat} {r : Bool} (l : lrn D E r c S) (ha : a < D.K) (hb : b < D.K) (hi : i < 28) : fX4_wearOf (nI a) (nI b) (nI i) S = some (wv D E r c a b i, S) := by
  have k6 := hD.k6
  unfold fX4_wearOf
  simp (disch := omega) only [lit, lm1, nI_add, pk_mul, nm_eq, nm_eq', nm_lt, nm_lt', nm_le, nm_le', x_lt, x_le, x_eq, x_in, x_cl, x_div, x_sub, x_rem, x_min, x_max, x_and, x_or, x_xor, x_df, x_shl, bI_0, bI_1, bI_bo, lg_eq, toL_inj, ls_nI, decide_eq_false_iff_not, decide_eq_true_eq, Bool.true_eq_false, Bool.false_eq_true, bq, if_pos, if_neg, if_true, if_false, lq, Nat.reduceAdd, Nat.reduceMul, Nat.reduceSub, Nat.reduceDiv, Nat.reduceMod, l.2 a b i ha hb hi]
theorem c_on20 (hD : D.WF) {c a b j s : Nat} {v : Nat → Int64} {R : Nat} (l : lrn D E true c S) (ha : a < D.K) (hb : b < D.K) (hj : j < 8) (hx : S.2 133 j = v j) (hR : S.2 131 ((j + 1) * 6 + b) = lN R) (kk : Int64 → Int32 → cpS → Option (Int64 × cpS)) : fX8_rowsOnFrom_20 (nI j) (nI a) (nI b) kk cpFu (lN s) (nI 0) S = kk (lN (up (fun i s => adI (ftI D E c (v j) a b i) R s) 28 0 s)) (nI (b + 1)) S := by
  have k6 := hD.k6
  refine up_lp (F := fun n i (x : Int64) => fX8_rowsOnFrom_20 (nI j) (nI a) (nI b) kk n x i S) 28 (fun i s => adI (ftI D E c (v j) a b i) R s) (fun _ _ => True) (fun s => lN s) (K := fun s => kk (lN s) (nI (b + 1)) S) (by decide) (fun n i s hi _ => ⟨?_, trivial⟩) (fun n s _ => ?_) (i0 := 0) (s := s) (Nat.zero_le _) trivial
  · rw [fX8_rowsOnFrom_20]
    unfold adI fX8_rowsFrom
    cases hf : ftI D E c (v j) a b i
    · simp (disch := omega) only [lit, lm1, nI_add, pk_mul, nm_eq, nm_eq', nm_lt, nm_lt', nm_le, nm_le', x_lt, x_le, x_eq, x_in, x_cl, x_div, x_sub, x_rem, x_min, x_max, x_and, x_or, x_xor, x_df, x_shl, bI_0, bI_1, bI_bo, lg_eq, toL_inj, ls_nI, decide_eq_false_iff_not, decide_eq_true_eq, Bool.true_eq_false, Bool.false_eq_true, bq, if_pos, if_neg, if_true, if_false, lq, Nat.reduceAdd, Nat.reduceMul, Nat.reduceSub, Nat.reduceDiv, Nat.reduceMod, c_wearOf hD l ha hb hi, c_fits hj hx, hf]
    · simp (disch := omega) only [lit, lm1, nI_add, pk_mul, nm_eq, nm_eq', nm_lt, nm_lt', nm_le, nm_le', x_lt, x_le, x_eq, x_in, x_cl, x_div, x_sub, x_rem, x_min, x_max, x_and, x_or, x_xor, x_df, x_shl, bI_0, bI_1, bI_bo, lg_eq, toL_inj, ls_nI, decide_eq_false_iff_not, decide_eq_true_eq, Bool.true_eq_false, Bool.false_eq_true, bq, if_pos, if_neg, if_true, if_false, lq, Nat.reduceAdd, Nat.reduceMul, Nat.reduceSub, Nat.reduceDiv, Nat.reduceMod, c_wearOf hD l ha hb hi, c_fits hj hx, hf, hR, lN_add]
  · rw [fX8_rowsOnFrom_20]
    simp (disch := omega) only [lit, lm1, nI_add, pk_mul, nm_eq, nm_eq', nm_lt, nm_lt', nm_le, nm_le', x_lt, x_le, x_eq, x_in, x_cl, x_div, x_sub, x_rem, x_min, x_max, x_and, x_or, x_xor, x_df, x_shl, bI_0, bI_1, bI_bo, lg_eq, toL_inj, ls_nI, decide_eq_false_iff_not, decide_eq_true_eq, Bool.true_eq_false, Bool.false_eq_true, bq, if_pos, if_neg, if_true, if_false, lq, Nat.reduceAdd, Nat.reduceMul, Nat.reduceSub, Nat.reduceDiv, Nat.reduceMod]
theorem c_rowsOn (hD : D.WF) (cS : cA D E S) {c a j d : Nat} {v : Nat → Int64} (l : lrn D E true c S) (ha : a < D.K) (hj : j < 8) (hx : S.2 133 j = v j) (hR : ∀ b, b < D.K → S.2 131 ((j + 1) * 6 + b) = lN (rwD D E c v d (j + 1) b)) : fX8_rowsOnFrom (nI j) (nI a) S = some (lN (rwD D E c v (d + 1) j a), S) := by
  have k6 := hD.k6
  rw [rwD_s]
  refine up_lp (F := fun n b (x : Int64) => fX8_rowsOnFrom_5 (nI j) (nI a) n x b S) D.K (fun b s => up (fun i s => adI (ftI D E c (v j) a b i) (rwD D E c v d (j + 1) b) s) 28 0 s) (fun _ _ => True) (fun s => lN s) (K := fun s => some (lN s, S)) (by omega) (fun n b s hb _ => ⟨?_, trivial⟩) (fun n s _ => ?_) (i0 := 0) (s := 0) (Nat.zero_le _) trivial
  · have := c_on20 hD (s := s) l ha hb hj hx (hR b hb) (fX8_rowsOnFrom_5 (nI j) (nI a) n)
    rw [fX8_rowsOnFrom_5]
    unfold fX4_places
    simp (disch := omega) only [lit, lm1, nI_add, pk_mul, nm_eq, nm_eq', nm_lt, nm_lt', nm_le, nm_le', x_lt, x_le, x_eq, x_in, x_cl, x_div, x_sub, x_rem, x_min, x_max, x_and, x_or, x_xor, x_df, x_shl, bI_0, bI_1, bI_bo, lg_eq, toL_inj, ls_nI, decide_eq_false_iff_not, decide_eq_true_eq, Bool.true_eq_false, Bool.false_eq_true, bq, if_pos, if_neg, if_true, if_false, lq, Nat.reduceAdd, Nat.reduceMul, Nat.reduceSub, Nat.reduceDiv, Nat.reduceMod, cS.K]
    exact this
  · rw [fX8_rowsOnFrom_5]
    unfold fX4_places
    simp (disch := omega) only [lit, lm1, nI_add, pk_mul, nm_eq, nm_eq', nm_lt, nm_lt', nm_le, nm_le', x_lt, x_le, x_eq, x_in, x_cl, x_div, x_sub, x_rem, x_min, x_max, x_and, x_or, x_xor, x_df, x_shl, bI_0, bI_1, bI_bo, lg_eq, toL_inj, ls_nI, decide_eq_false_iff_not, decide_eq_true_eq, Bool.true_eq_false, Bool.false_eq_true, bq, if_pos, if_neg, if_true, if_false, lq, Nat.reduceAdd, Nat.reduceMul, Nat.reduceSub, Nat.reduceDiv, Nat.reduceMod, cS.K]
theorem nI_dec (j : Nat) : nI (j + 1) + nM = nI j := by
  rw [← nI_add, Int32.add_assoc, show nI 1 + nM = 0 from by decide, Int32.add_zero]
def k131 (q _ : Nat) : Prop := q = 131
theorem k131_C {k j : Nat} (h : k131 k j) : kC k j := by
  unfold k131 at h; subst h; exact ⟨scr_c (by decide) (by decide) (by decide) j, by decide⟩
theorem c_learn80 (hD : D.WF) (cS : cA D E S) {c j n k1 : Nat} {v : Nat → Int64} (l : lrn D E true c S) (hj : j < n) (hn : n ≤ 8) (hv : ∀ j, j < n → S.2 133 j = v j) (hR : ∀ y b, j < y → y ≤ n → b < D.K → S.2 131 (y * 6 + b) = lN (rwD D E c v (n - y) y b)) (kk : Int32 → cpS → Option (Unit × cpS)) : ∃ T, fX8_learn_80 k1 (nI j) kk cpFu (nI 0) S = kk (nI j + nM) T ∧ (∀ y b, j ≤ y → y ≤ n → b < D.K → T.2 131 (y * 6 + b) = lN (rwD D E c v (n - y) y b)) ∧ Kp k131 S T := by
  have k6 := hD.k6
  have := up_lpR (F := fun f a (T : cpS) => fX8_learn_80 k1 (nI j) kk f a T) (K := fun T => kk (nI j + nM) T) D.K (fun _ (s : Unit) => s) (fun a _ T => (∀ y b, j < y → y ≤ n → b < D.K → T.2 131 (y * 6 + b) = lN (rwD D E c v (n - y) y b)) ∧ (∀ b, b < a → T.2 131 (j * 6 + b) = lN (rwD D E c v (n - j) j b)) ∧ Kp k131 S T) (by omega) (fun f a s T ha hI => ?_) (fun f s T hI => ?_) (i0 := 0) (s := ()) (a := S) (Nat.zero_le _) ⟨hR, fun b hb => absurd hb (by omega), Kp.rf⟩
  · obtain ⟨T, t1, t2, t3, t4⟩ := this
    refine ⟨T, t1, fun y b h1 h2 hb => ?_, t4⟩
    by_cases e : y = j
    · rw [e]; exact t3 b hb
    · exact t2 y b (by omega) h2 hb
  · obtain ⟨i1, i2, i3⟩ := hI
    have cT := cS.cc (i3.le (fun _ _ => k131_C))
    have lT := l.kp i3 (fun q j h => by unfold k131 at h; omega)
    have hx : T.2 133 j = v j := by rw [i3.l (by unfold k131; omega)]; exact hv j hj
    have hr := c_rowsOn hD cT (d := n - (j + 1)) lT ha (show j < 8 by omega) hx (fun b hb => i1 (j + 1) b (by omega) (by omega) hb)
    rw [show n - (j + 1) + 1 = n - j by omega] at hr
    refine ⟨cpL T 131 (j * 6 + a) (lN (rwD D E c v (n - j) j a)), ?_, fun y b h1 h2 hb => ?_, fun b hb => ?_, i3.L (by exact rfl)⟩
    · rw [fX8_learn_80]
      unfold fX4_places
      simp (disch := omega) only [lit, lm1, nI_add, pk_mul, nm_eq, nm_eq', nm_lt, nm_lt', nm_le, nm_le', x_lt, x_le, x_eq, x_in, x_cl, x_div, x_sub, x_rem, x_min, x_max, x_and, x_or, x_xor, x_df, x_shl, bI_0, bI_1, bI_bo, lg_eq, toL_inj, ls_nI, decide_eq_false_iff_not, decide_eq_true_eq, Bool.true_eq_false, Bool.false_eq_true, bq, if_pos, if_neg, if_true, if_false, lq, Nat.reduceAdd, Nat.reduceMul, Nat.reduceSub, Nat.reduceDiv, Nat.reduceMod, cT.K, hr]
    · rw [sLn (Or.inr (by omega))]; exact i1 y b h1 h2 hb
    · by_cases e : b = a
      · rw [e]; exact sL1
      · rw [sLn (Or.inr (by omega))]; exact i2 b (by omega)
  · have cT := cS.cc (hI.2.2.le (fun _ _ => k131_C))
    rw [fX8_learn_80]
    unfold fX4_places
    simp (disch := omega) only [lit, lm1, nI_add, pk_mul, nm_eq, nm_eq', nm_lt, nm_lt', nm_le, nm_le', x_lt, x_le, x_eq, x_in, x_cl, x_div, x_sub, x_rem, x_min, x_max, x_and, x_or, x_xor, x_df, x_shl, bI_0, bI_1, bI_bo, lg_eq, toL_inj, ls_nI, decide_eq_false_iff_not, decide_eq_true_eq, Bool.true_eq_false, Bool.false_eq_true, bq, if_pos, if_neg, if_true, if_false, lq, Nat.reduceAdd, Nat.reduceMul, Nat.reduceSub, Nat.reduceDiv, Nat.reduceMod, cT.K]
theorem c_learn72 (hD : D.WF) {c n k1 : Nat} {v : Nat → Int64} (hn : n ≤ 8) : ∀ j f (S : cpS), j ≤ n → j < f → cA D E S → lrn D E true c S → (∀ j, j < n → S.2 133 j = v j) → (∀ y b, j ≤ y → y ≤ n → b < D.K → S.2 131 (y * 6 + b) = lN (rwD D E c v (n - y) y b)) → ∃ T, fX8_learn_72 k1 f (nI j + nM) S = some ((), T) ∧ clw D E c n v T ∧ Kp k131 S T := by
  intro j
  induction j with
  | zero =>
    intro f S hj hf cS l hv hR
    obtain ⟨f, rfl⟩ : ∃ g, f = g + 1 := ⟨f - 1, by omega⟩
    refine ⟨S, ?_, ⟨l, hv, fun y a hy ha => hR y a (Nat.zero_le _) hy ha⟩, Kp.rf⟩
    rw [fX8_learn_72, show nI 0 + nM = nM from by decide]
    simp (disch := omega) only [lit, lm1, nI_add, pk_mul, nm_eq, nm_eq', nm_lt, nm_lt', nm_le, nm_le', x_lt, x_le, x_eq, x_in, x_cl, x_div, x_sub, x_rem, x_min, x_max, x_and, x_or, x_xor, x_df, x_shl, bI_0, bI_1, bI_bo, lg_eq, toL_inj, ls_nI, decide_eq_false_iff_not, decide_eq_true_eq, Bool.true_eq_false, Bool.false_eq_true, bq, if_pos, if_neg, if_true, if_false, lq, Nat.reduceAdd, Nat.reduceMul, Nat.reduceSub, Nat.reduceDiv, Nat.reduceMod]
  | succ j ih =>
    intro f S hj hf cS l hv hR
    obtain ⟨f, rfl⟩ : ∃ g, f = g + 1 := ⟨f - 1, by omega⟩
    obtain ⟨A, a1, a2, a3⟩ := c_learn80 hD cS (k1 := k1) l (show j < n by omega) hn hv (fun y b h1 h2 hb => hR y b (by omega) h2 hb) (fX8_learn_72 k1 f)
    obtain ⟨T, t1, t2, t3⟩ := ih f A (by omega) (by omega) (cS.cc (a3.le (fun _ _ => k131_C))) (l.kp a3 (fun q j h => by unfold k131 at h; omega)) (fun j hj => by rw [a3.l (by unfold k131; omega)]; exact hv j hj) a2
    refine ⟨T, ?_, t2, a3.tr t3⟩
    rw [fX8_learn_72, nI_dec]
    simp (disch := omega) only [lit, lm1, nI_add, pk_mul, nm_eq, nm_eq', nm_lt, nm_lt', nm_le, nm_le', x_lt, x_le, x_eq, x_in, x_cl, x_div, x_sub, x_rem, x_min, x_max, x_and, x_or, x_xor, x_df, x_shl, bI_0, bI_1, bI_bo, lg_eq, toL_inj, ls_nI, decide_eq_false_iff_not, decide_eq_true_eq, Bool.true_eq_false, Bool.false_eq_true, bq, if_pos, if_neg, if_true, if_false, lq, Nat.reduceAdd, Nat.reduceMul, Nat.reduceSub, Nat.reduceDiv, Nat.reduceMod]
    exact a1.trans t1
def kWo (q j : Nat) : Prop := q = 131 ∨ q = 133 ∨ kL q j
theorem kWo_C {k j : Nat} (h : kWo k j) : kC k j := by
  rcases h with rfl | rfl | h
  · exact ⟨scr_c (by decide) (by decide) (by decide) j, by decide⟩
  · exact ⟨scr_c (by decide) (by decide) (by decide) j, by decide⟩
  · exact kL_C h
theorem c_wornLearn (hD : D.WF) (hE : E.WF D) (cS : cA D E S) {c n t : Nat} {v : Nat → Int64} (hc : c < D.C) (ht : t < 4) (n1 : 1 ≤ n) (n8 : n ≤ 8) (y : cY t (some (n, v)) S) : ∃ T, fX8_learn (139 + 2 * t) (nI c) S = some ((), T) ∧ clw D E c n v T ∧ Kp kWo S T := by
  have k6 := hD.k6
  have hcp : (cpCp (nI n) 40 8 = true) = True := eq_true (by
    unfold cpCp
    rw [nI_clamp (by omega)]
    exact decide_eq_true ⟨nI_pos (by omega), by omega, by omega⟩)
  have kA : Kp kWo S (cpRL S 133 (va_cpy (S.2 (139 + 2 * t + 1)) (S.2 133) 0 0 n)) := fun q j hq => ⟨rfl, by
    show (if q = 133 then _ else S.2 q) j = _
    rw [if_neg (fun e => hq (Or.inr (Or.inl e)))]⟩
  have vA : ∀ j, j < n → (cpRL S 133 (va_cpy (S.2 (139 + 2 * t + 1)) (S.2 133) 0 0 n)).2 133 j = v j := fun j hj => by
    show (if 133 = 133 then va_cpy (S.2 (139 + 2 * t + 1)) (S.2 133) 0 0 n else S.2 133) j = _
    rw [if_pos rfl, pk_cpy_in (by omega) (by omega), Nat.zero_add, Nat.sub_zero]
    exact y.2.2 j hj
  obtain ⟨B, b1, b2, b3⟩ := c_learn hD hE (cS.cc (kA.le (fun _ _ => kWo_C))) true hc
  have b1 : fX4_learn (nI c) (nI 1) (cpRL S 133 (va_cpy (S.2 (139 + 2 * t + 1)) (S.2 133) 0 0 n)) = some ((), B) := b1
  have kB' := kA.tr (b3.le (fun _ _ h => Or.inr (Or.inr h)))
  have cB := cS.cc (kB'.le (fun _ _ => kWo_C))
  have vB : ∀ j, j < n → B.2 133 j = v j := fun j hj => by rw [b3.l (by unfold kL kF; omega)]; exact vA j hj
  obtain ⟨G, g1, g2, g3⟩ : ∃ G, fX8_learn_36 (139 + 2 * t) (nI n) cpFu (nI 0) B = fX8_learn_72 (139 + 2 * t) cpFu (nI n + nM) G ∧ (∀ b, b < D.K → G.2 131 (n * 6 + b) = lN 1) ∧ Kp k131 B G := by
    refine up_lpR (F := fun f a (T : cpS) => fX8_learn_36 (139 + 2 * t) (nI n) f a T) (K := fun T => fX8_learn_72 (139 + 2 * t) cpFu (nI n + nM) T) D.K (fun _ (s : Unit) => s) (fun a _ T => (∀ b, b < a → T.2 131 (n * 6 + b) = lN 1) ∧ Kp k131 B T) (by omega) (fun f a s T ha hI => ?_) (fun f s T hI => ?_) (i0 := 0) (s := ()) (a := B) (Nat.zero_le _) ⟨fun b hb => absurd hb (by omega), Kp.rf⟩
    · obtain ⟨i1, i2⟩ := hI
      have cT := cB.cc (i2.le (fun _ _ => k131_C))
      refine ⟨cpL T 131 (n * 6 + a) (lN 1), ?_, fun b hb => ?_, i2.L (by exact rfl)⟩
      · rw [fX8_learn_36]
        unfold fX4_places
        simp (disch := omega) only [lit, lm1, nI_add, pk_mul, nm_eq, nm_eq', nm_lt, nm_lt', nm_le, nm_le', x_lt, x_le, x_eq, x_in, x_cl, x_div, x_sub, x_rem, x_min, x_max, x_and, x_or, x_xor, x_df, x_shl, bI_0, bI_1, bI_bo, lg_eq, toL_inj, ls_nI, decide_eq_false_iff_not, decide_eq_true_eq, Bool.true_eq_false, Bool.false_eq_true, bq, if_pos, if_neg, if_true, if_false, lq, Nat.reduceAdd, Nat.reduceMul, Nat.reduceSub, Nat.reduceDiv, Nat.reduceMod, cT.K]
        rfl
      · by_cases e : b = a
        · rw [e]; exact sL1
        · rw [sLn (Or.inr (by omega))]; exact i1 b (by omega)
    · have cT := cB.cc (hI.2.le (fun _ _ => k131_C))
      obtain ⟨m, rfl⟩ : ∃ m, n = m + 1 := ⟨n - 1, by omega⟩
      rw [fX8_learn_36, nI_dec]
      unfold fX4_places
      simp (disch := omega) only [lit, lm1, nI_add, pk_mul, nm_eq, nm_eq', nm_lt, nm_lt', nm_le, nm_le', x_lt, x_le, x_eq, x_in, x_cl, x_div, x_sub, x_rem, x_min, x_max, x_and, x_or, x_xor, x_df, x_shl, bI_0, bI_1, bI_bo, lg_eq, toL_inj, ls_nI, decide_eq_false_iff_not, decide_eq_true_eq, Bool.true_eq_false, Bool.false_eq_true, bq, if_pos, if_neg, if_true, if_false, lq, Nat.reduceAdd, Nat.reduceMul, Nat.reduceSub, Nat.reduceDiv, Nat.reduceMod, cT.K, Nat.add_sub_cancel]
  obtain ⟨T, t1, t2, t3⟩ := c_learn72 hD n8 (k1 := 139 + 2 * t) (v := v) n cpFu G (Nat.le_refl _) (by show n < 5000; omega) (cB.cc (g3.le (fun _ _ => k131_C))) (b2.kp g3 (fun q j h => by unfold k131 at h; omega)) (fun j hj => by rw [g3.l (by unfold k131; omega)]; exact vB j hj) (fun y b h1 h2 hb => by rw [show y = n by omega, Nat.sub_self, rwD_0]; exact g2 b hb)
  refine ⟨T, ?_, t2, kB'.tr ((g3.tr t3).le (fun _ _ h => Or.inl h))⟩
  unfold fX8_learn
  simp (disch := omega) only [lit, lm1, nI_add, pk_mul, nm_eq, nm_eq', nm_lt, nm_lt', nm_le, nm_le', x_lt, x_le, x_eq, x_in, x_cl, x_div, x_sub, x_rem, x_min, x_max, x_and, x_or, x_xor, x_df, x_shl, bI_0, bI_1, bI_bo, lg_eq, toL_inj, ls_nI, decide_eq_false_iff_not, decide_eq_true_eq, Bool.true_eq_false, Bool.false_eq_true, bq, if_pos, if_neg, if_true, if_false, lq, Nat.reduceAdd, Nat.reduceMul, Nat.reduceSub, Nat.reduceDiv, Nat.reduceMod, y.2.1, show min n 8 = n by omega, hcp, b1]
  exact g1.trans t1
end WO
