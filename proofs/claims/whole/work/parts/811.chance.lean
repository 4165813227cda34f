/-! the likeliest way, by so many roads -/
def gsW (D : cpD) (E : cpE) (c : Nat) (w : Nat → Nat → Nat) (pv : Nat → Nat) (r a b : Nat) (f : Nat → Nat) : Nat → Nat := fun x => if x = b ∧ smY D E c a r = true then max (f x) (w (pv a) (D.rd r).2.2) else f x
def rdW (D : cpD) (E : cpE) (c : Nat) (w : Nat → Nat → Nat) (pv : Nat → Nat) (r : Nat) (f : Nat → Nat) : Nat → Nat := gsW D E c w pv r (D.rd r).2.1 (D.rd r).1 (gsW D E c w pv r (D.rd r).1 (D.rd r).2.1 f)
def rowW (D : cpD) (E : cpE) (c : Nat) (w : Nat → Nat → Nat) (pv : Nat → Nat) : Nat → Nat := up (rdW D E c w pv) D.R 0 (fun _ => 0)
def wC (v l : Nat) : Nat := v / 10 * (10 - l)
def wL (v l : Nat) : Nat := v * (10 - l)
def Vk (D : cpD) (E : cpE) (c : Nat) : Nat → Nat → Nat
  | 0 => fun x => if x = E.at' c then 100000 else 0
  | k + 1 => rowW D E c wC (Vk D E c k)
def Lk (D : cpD) (E : cpE) (c : Nat) : Nat → Nat → Nat
  | 0 => fun x => if x = E.at' c then 1 else 0
  | k + 1 => rowW D E c wL (Lk D E c k)
theorem up_rel {σ τ : Type} {f : Nat → σ → σ} {g : Nat → τ → τ} {R : σ → τ → Prop} (h : ∀ i s t, R s t → R (f i s) (g i t)) : ∀ d i s t, R s t → R (up f d i s) (up g d i t) := by
  intro d
  induction d with
  | zero => intro i s t r; exact r
  | succ d ih => intro i s t r; exact ih (i + 1) _ _ (h i s t r)
theorem mx_mul (a b e : Nat) : max (a * e) (b * e) = max a b * e := by
  by_cases h : a ≤ b
  · rw [Nat.max_eq_right h, Nat.max_eq_right (Nat.mul_le_mul_right e h)]
  · have h' : b ≤ a := by omega
    rw [Nat.max_eq_left h', Nat.max_eq_left (Nat.mul_le_mul_right e h')]
section CH
variable {D : cpD} {E : cpE} {S : cpS}
theorem Vk_s (c k : Nat) : Vk D E c (k + 1) = rowW D E c wC (Vk D E c k) := rfl
theorem Lk_s (c k : Nat) : Lk D E c (k + 1) = rowW D E c wL (Lk D E c k) := rfl
theorem wC_L {v m e l : Nat} (h : v = m * (10 * e)) : wC v l = wL m l * e := by
  unfold wC wL
  have : v / 10 = m * e := by
    rw [h, ← Nat.mul_assoc, Nat.mul_comm m 10, Nat.mul_assoc, Nat.mul_div_cancel_left _ (by decide)]
  rw [this, Nat.mul_assoc, Nat.mul_comm e, ← Nat.mul_assoc]
theorem Vk_L (c : Nat) : ∀ k, k ≤ 5 → ∀ x, Vk D E c k x = Lk D E c k x * 10 ^ (5 - k) := by
  intro k
  induction k with
  | zero =>
    intro _ x
    show (if x = E.at' c then 100000 else 0) = (if x = E.at' c then 1 else 0) * 10 ^ 5
    split <;> rfl
  | succ k ih =>
    intro hk
    have ih := ih (by omega)
    have he : 10 ^ (5 - k) = 10 * 10 ^ (5 - (k + 1)) := by rw [show 5 - k = (5 - (k + 1)) + 1 by omega, Nat.pow_succ, Nat.mul_comm]
    rw [Vk_s, Lk_s]
    have gs : ∀ r a b (s t : Nat → Nat), (∀ x, s x = t x * 10 ^ (5 - (k + 1))) → ∀ x, gsW D E c wC (Vk D E c k) r a b s x = gsW D E c wL (Lk D E c k) r a b t x * 10 ^ (5 - (k + 1)) := fun r a b s t h x => by
      unfold gsW
      split
      · rw [h x, wC_L (m := Lk D E c k a) (e := 10 ^ (5 - (k + 1))) (by rw [ih a, he]), mx_mul]
      · exact h x
    exact up_rel (R := fun s t => ∀ x, s x = t x * 10 ^ (5 - (k + 1))) (f := rdW D E c wC (Vk D E c k)) (g := rdW D E c wL (Lk D E c k)) (fun r s t h => gs r _ _ _ _ (gs r _ _ _ _ h)) D.R 0 (fun _ => 0) (fun _ => 0) (fun x => (Nat.zero_mul _).symm)
theorem wC_le (v l : Nat) : wC v l ≤ v := by
  unfold wC
  have h1 : v / 10 * (10 - l) ≤ v / 10 * 10 := Nat.mul_le_mul_left _ (by omega)
  have h2 := Nat.div_mul_le_self v 10
  omega
theorem gsW_le {c r a b B : Nat} {pv f : Nat → Nat} (hp : ∀ x, pv x ≤ B) (hf : ∀ x, f x ≤ B) : ∀ x, gsW D E c wC pv r a b f x ≤ B := fun x => by
  unfold gsW
  split
  · have := wC_le (pv a) (D.rd r).2.2
    have := hp a
    have := hf x
    omega
  · exact hf x
theorem rdW_le {c r B : Nat} {pv f : Nat → Nat} (hp : ∀ x, pv x ≤ B) (hf : ∀ x, f x ≤ B) : ∀ x, rdW D E c wC pv r f x ≤ B := gsW_le hp (gsW_le hp hf)
theorem Vk_le (c : Nat) : ∀ k x, Vk D E c k x ≤ 100000 := by
  intro k
  induction k with
  | zero => intro x; show (if x = E.at' c then 100000 else 0) ≤ 100000; split <;> omega
  | succ k ih =>
    rw [Vk_s]
    exact up_inv (rdW D E c wC (Vk D E c k)) D.R (fun _ f => ∀ x, f x ≤ 100000) (fun r f _ h => rdW_le ih h) D.R 0 (fun _ => 0) (by omega) (fun x => Nat.zero_le _)
theorem Lk_le (c : Nat) {k : Nat} (hk : k ≤ 5) (x : Nat) : Lk D E c k x ≤ 100000 := by
  have h1 := Vk_le (D := D) (E := E) c k x
  rw [Vk_L c k hk x] at h1
  have h2 : Lk D E c k x * 1 ≤ Lk D E c k x * 10 ^ (5 - k) := Nat.mul_le_mul_left _ (Nat.pow_pos (by decide))
  omega
/-! the class -/
def opn (D : cpD) (E : cpE) (c : Nat) (S : cpS) : Prop := ∀ r, r < D.R → S.1 137 (2 * r) = bI (smY D E c (D.rd r).1 r) ∧ S.1 137 (2 * r + 1) = bI (smY D E c (D.rd r).2.1 r)
def kO (q j : Nat) : Prop := q = 137 ∨ kF q j
theorem kO_C {k j : Nat} (h : kO k j) : kC k j := by
  rcases h with rfl | h
  · exact ⟨scr_c (by decide) (by decide) (by decide) j, by decide⟩
  · exact kF_C h
theorem nar_b (b : Bool) : vp_nar .boolean (bI b) = bI b := by cases b <;> decide
theorem c_openRoads (hD : D.WF) (hE : E.WF D) (c : cA D E S) {k : Nat} (hk : k < D.C) : ∃ T, fX2_learnOpenRoads (nI k) S = some ((), T) ∧ opn D E k T ∧ Kp kO S T := by
  have r9 := hD.r9
  refine up_lpR (F := fun n r (T : cpS) => fX2_learnOpenRoads_2 (nI k) n r T) (K := fun T => some ((), T)) D.R (fun _ (s : Unit) => s) (fun i _ T => (∀ r, r < i → T.1 137 (2 * r) = bI (smY D E k (D.rd r).1 r) ∧ T.1 137 (2 * r + 1) = bI (smY D E k (D.rd r).2.1 r)) ∧ Kp kO S T) (by omega) (fun n r s T hr hI => ?_) (fun n s T hI => ?_) (i0 := 0) (s := ()) (a := S) (Nat.zero_le _) ⟨fun r hr => absurd hr (by omega), Kp.rf⟩
  · obtain ⟨i1, i2⟩ := hI
    have cT := c.cc (i2.le (fun _ _ => kO_C))
    obtain ⟨x1, x2, -, -, -⟩ := hD.rd r hr
    obtain ⟨A, a1, a2⟩ := c_someMay hD hE cT hk x1 hr
    have kA : Kp kO T (cpI A 137 (2 * r) (bI (smY D E k (D.rd r).1 r))) := (a2.le (fun _ _ h => Or.inr h)).I (by exact Or.inl rfl)
    have cA' := cT.cc (kA.le (fun _ _ => kO_C))
    obtain ⟨B, b1, b2⟩ := c_someMay hD hE cA' hk x2 hr
    refine ⟨cpI B 137 (2 * r + 1) (bI (smY D E k (D.rd r).2.1 r)), ?_, fun y hy => ?_, ((i2.tr kA).tr (b2.le (fun _ _ h => Or.inr h))).I (by exact Or.inl rfl)⟩
    · rw [fX2_learnOpenRoads_2]
      simp (disch := omega) only [lit, lm1, nI_add, pk_mul, nm_eq, nm_eq', nm_lt, nm_lt', nm_le, nm_le', x_lt, x_le, x_eq, x_in, x_cl, x_div, x_sub, x_rem, x_min, x_max, x_and, x_or, x_xor, x_df, x_shl, bI_0, bI_1, bI_bo, lg_eq, toL_inj, ls_nI, decide_eq_false_iff_not, decide_eq_true_eq, Bool.true_eq_false, Bool.false_eq_true, bq, if_pos, if_neg, if_true, if_false, lq, Nat.reduceAdd, Nat.reduceMul, Nat.reduceSub, Nat.reduceDiv, Nat.reduceMod, cT.R, cT.r1 r hr, a1, nar_b, cA'.r2 r hr, b1]
    · by_cases e : y = r
      · subst e
        refine ⟨?_, sI1⟩
        rw [sIn (Or.inr (by omega)), b2.i (by unfold kF; omega), sI1]
      · rw [sIn (Or.inr (by omega)), sIn (Or.inr (by omega)), b2.i (by unfold kF; omega), b2.i (by unfold kF; omega), sIn (Or.inr (by omega)), sIn (Or.inr (by omega)), a2.i (by unfold kF; omega), a2.i (by unfold kF; omega)]
        exact i1 y (by omega)
  · have cT := c.cc (hI.2.le (fun _ _ => kO_C))
    rw [fX2_learnOpenRoads_2]
    simp (disch := omega) only [lit, lm1, nI_add, pk_mul, nm_eq, nm_eq', nm_lt, nm_lt', nm_le, nm_le', x_lt, x_le, x_eq, x_in, x_cl, x_div, x_sub, x_rem, x_min, x_max, x_and, x_or, x_xor, x_df, x_shl, bI_0, bI_1, bI_bo, lg_eq, toL_inj, ls_nI, decide_eq_false_iff_not, decide_eq_true_eq, Bool.true_eq_false, Bool.false_eq_true, bq, if_pos, if_neg, if_true, if_false, lq, Nat.reduceAdd, Nat.reduceMul, Nat.reduceSub, Nat.reduceDiv, Nat.reduceMod, cT.R]
def rowC (S : cpS) (k : Nat) (f : Nat → Nat) : Prop := ∀ x, x < 6 → S.1 136 (k * 6 + x) = nI (f x)
def k136 (k : Nat) (q j : Nat) : Prop := q = 136 ∧ k * 6 ≤ j ∧ j < k * 6 + 6
theorem c_goOn {k a b l : Nat} {pv f : Nat → Nat} (hk : k < 5) (ha : a < 6) (hb : b < 6) (hl : l ≤ 10) (hp : ∀ x, pv x ≤ 100000) (hf : ∀ x, f x ≤ 100000) (h1 : rowC S k pv) (h2 : rowC S (k + 1) f) : ∃ T, fX2_goOn (nI (k + 1)) (nI a) (nI b) (nI l) S = some ((), T) ∧ rowC T (k + 1) (fun x => if x = b then max (f x) (wC (pv a) l) else f x) ∧ Kp (k136 (k + 1)) S T := by
  have hpa := hp a
  have hfb := hf b
  have hw := wC_le (pv a) l
  have e1 := h1 a ha
  have e2 := h2 b hb
  refine ⟨cpI S 136 ((k + 1) * 6 + b) (nI (max (f b) (wC (pv a) l))), ?_, fun x hx => ?_, Kp.rf.I (by exact ⟨rfl, by omega, by omega⟩)⟩
  · unfold fX2_goOn wC
    unfold wC at hw
    simp (disch := omega) only [lit, lm1, nI_add, pk_mul, nm_eq, nm_eq', nm_lt, nm_lt', nm_le, nm_le', x_lt, x_le, x_eq, x_in, x_cl, x_div, x_sub, x_rem, x_min, x_max, x_and, x_or, x_xor, x_df, x_shl, bI_0, bI_1, bI_bo, lg_eq, toL_inj, ls_nI, decide_eq_false_iff_not, decide_eq_true_eq, Bool.true_eq_false, Bool.false_eq_true, bq, if_pos, if_neg, if_true, if_false, lq, Nat.reduceAdd, Nat.reduceMul, Nat.reduceSub, Nat.reduceDiv, Nat.reduceMod, Nat.add_sub_cancel, e1, e2]
  · (try dsimp only)
    by_cases e : x = b
    · rw [if_pos e, e, sI1]
    · rw [if_neg e, sIn (Or.inr (by omega))]; exact h2 x hx
end CH
