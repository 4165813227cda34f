/-! a chance in lowest terms -/
def st2 (z : Nat × Nat) : Nat × Nat := if z.1 % 2 = 0 then (z.1 / 2, z.2 / 2) else z
def st5 (z : Nat × Nat) : Nat × Nat := if z.1 % 5 = 0 then (z.1 / 5, z.2 / 5) else z
def frc (x : Nat) : Nat × Nat := up (fun _ z => st5 (st2 z)) 5 0 (x, 100000)
def frI (x t : Nat) (z : Nat × Nat) : Prop := ∃ i j q, z.2 = 2 ^ i * 5 ^ j ∧ z.1 * q = x ∧ z.2 * q = 100000 ∧ (z.1 % 2 ≠ 0 ∨ i + t = 5) ∧ (z.1 % 5 ≠ 0 ∨ j + t = 5)
theorem frI_s {x t : Nat} {z : Nat × Nat} (ht : t < 5) (h : frI x t z) : frI x (t + 1) (st5 (st2 z)) := by
  obtain ⟨n, d⟩ := z
  obtain ⟨i, j, q, h1, h2, h3, h4, h5⟩ := h
  have h1 : d = 2 ^ i * 5 ^ j := h1
  have h2 : n * q = x := h2
  have h3 : d * q = 100000 := h3
  have h4 : n % 2 ≠ 0 ∨ i + t = 5 := h4
  have h5 : n % 5 ≠ 0 ∨ j + t = 5 := h5
  have m : ∃ i q, (st2 (n, d)).2 = 2 ^ i * 5 ^ j ∧ (st2 (n, d)).1 * q = x ∧ (st2 (n, d)).2 * q = 100000 ∧ ((st2 (n, d)).1 % 2 ≠ 0 ∨ i + (t + 1) = 5) ∧ ((st2 (n, d)).1 % 5 ≠ 0 ∨ j + t = 5) := by
    unfold st2
    by_cases e : n % 2 = 0
    · rw [if_pos e]
      obtain ⟨i', rfl⟩ : ∃ i', i = i' + 1 := ⟨i - 1, by omega⟩
      have hd : d = 2 * (2 ^ i' * 5 ^ j) := by rw [h1, Nat.pow_succ, Nat.mul_comm (2 ^ i') 2, Nat.mul_assoc]
      have hd2 : d / 2 = 2 ^ i' * 5 ^ j := by omega
      have hn : n / 2 * 2 = n := by omega
      have hdd : d / 2 * 2 = d := by omega
      refine ⟨i', 2 * q, hd2, ?_, ?_, Or.inr (by omega), ?_⟩
      · show n / 2 * (2 * q) = x
        rw [← Nat.mul_assoc, hn]; exact h2
      · show d / 2 * (2 * q) = 100000
        rw [← Nat.mul_assoc, hdd]; exact h3
      · show n / 2 % 5 ≠ 0 ∨ j + t = 5
        rcases h5 with h5 | h5
        · exact Or.inl (by omega)
        · exact Or.inr h5
    · rw [if_neg e]
      exact ⟨i, q, h1, h2, h3, Or.inl e, h5⟩
  generalize st2 (n, d) = w at m
  obtain ⟨n', d'⟩ := w
  obtain ⟨i, q, h1, h2, h3, h4, h5⟩ := m
  have h1 : d' = 2 ^ i * 5 ^ j := h1
  have h2 : n' * q = x := h2
  have h3 : d' * q = 100000 := h3
  have h4 : n' % 2 ≠ 0 ∨ i + (t + 1) = 5 := h4
  have h5 : n' % 5 ≠ 0 ∨ j + t = 5 := h5
  unfold st5
  by_cases e : n' % 5 = 0
  · rw [if_pos e]
    obtain ⟨j', rfl⟩ : ∃ j', j = j' + 1 := ⟨j - 1, by omega⟩
    have hd : d' = 5 * (2 ^ i * 5 ^ j') := by rw [h1, Nat.pow_succ, ← Nat.mul_assoc, Nat.mul_comm]
    have hd2 : d' / 5 = 2 ^ i * 5 ^ j' := by omega
    have hn : n' / 5 * 5 = n' := by omega
    have hdd : d' / 5 * 5 = d' := by omega
    refine ⟨i, j', 5 * q, hd2, ?_, ?_, ?_, Or.inr (by omega)⟩
    · show n' / 5 * (5 * q) = x
      rw [← Nat.mul_assoc, hn]; exact h2
    · show d' / 5 * (5 * q) = 100000
      rw [← Nat.mul_assoc, hdd]; exact h3
    · show n' / 5 % 2 ≠ 0 ∨ i + (t + 1) = 5
      rcases h4 with h4 | h4
      · exact Or.inl (by omega)
      · exact Or.inr h4
  · rw [if_neg e]
    exact ⟨i, j, q, h1, h2, h3, h4, Or.inl e⟩
theorem cop {n i j : Nat} (h1 : n % 2 ≠ 0 ∨ i + 5 = 5) (h2 : n % 5 ≠ 0 ∨ j + 5 = 5) : Nat.gcd n (2 ^ i * 5 ^ j) = 1 := by
  have c2 : Nat.Coprime n (2 ^ i) := by
    rcases h1 with h | h
    · refine Nat.Coprime.pow_right i ?_
      show Nat.gcd n 2 = 1
      rw [Nat.gcd_comm, Nat.gcd_rec, show n % 2 = 1 by omega]
      decide +kernel
    · rw [show i = 0 by omega]; exact Nat.gcd_one_right n
  have c5 : Nat.Coprime n (5 ^ j) := by
    rcases h2 with h | h
    · refine Nat.Coprime.pow_right j ?_
      show Nat.gcd n 5 = 1
      rw [Nat.gcd_comm, Nat.gcd_rec]
      rcases (show n % 5 = 1 ∨ n % 5 = 2 ∨ n % 5 = 3 ∨ n % 5 = 4 by omega) with e | e | e | e <;> rw [e] <;> decide +kernel
    · rw [show j = 0 by omega]; exact Nat.gcd_one_right n
  exact Nat.Coprime.mul_right c2 c5
theorem frc_eq (x : Nat) : ∃ g, 0 < g ∧ g = Nat.gcd x 100000 ∧ (frc x).1 = x / g ∧ (frc x).2 = 100000 / g := by
  have : frI x 5 (frc x) := up_inv (fun _ z => st5 (st2 z)) 5 (frI x) (fun t z ht h => frI_s ht h) 5 0 (x, 100000) rfl ⟨5, 5, 1, (show (100000 : Nat) = 2 ^ 5 * 5 ^ 5 by decide +kernel), Nat.mul_one x, Nat.mul_one 100000, Or.inr rfl, Or.inr rfl⟩
  obtain ⟨i, j, q, h1, h2, h3, h4, h5⟩ := this
  have hg : Nat.gcd x 100000 = q := by rw [← h2, ← h3, Nat.gcd_mul_right, h1, cop h4 h5, Nat.one_mul]
  have hq : 0 < q := Nat.pos_of_ne_zero (fun e => by rw [e, Nat.mul_zero] at h3; omega)
  exact ⟨q, hq, hg.symm, (Nat.div_eq_of_eq_mul_left hq h2.symm).symm, (Nat.div_eq_of_eq_mul_left hq h3.symm).symm⟩
theorem frc_ref {L k : Nat} (hk : k ≤ 5) : (frc (L * 10 ^ (5 - k))).1 = L / Nat.gcd L (10 ^ k) ∧ (frc (L * 10 ^ (5 - k))).2 = 10 ^ k / Nat.gcd L (10 ^ k) := by
  obtain ⟨g, g0, g1, g2, g3⟩ := frc_eq (L * 10 ^ (5 - k))
  have e5 : 100000 = 10 ^ k * 10 ^ (5 - k) := by rw [← Nat.pow_add, show k + (5 - k) = 5 by omega]
  have hp : 0 < 10 ^ (5 - k) := Nat.pow_pos (by decide)
  have eg : g = Nat.gcd L (10 ^ k) * 10 ^ (5 - k) := by rw [g1, e5, Nat.gcd_mul_right]
  refine ⟨?_, ?_⟩
  · rw [g2, eg, Nat.mul_div_mul_right _ _ hp]
  · rw [g3, eg, e5, Nat.mul_div_mul_right _ _ hp]
section C3
variable {D : cpD} {E : cpE} {S : cpS}
theorem c_fraction {x x2 : Nat} (hx : x ≤ 100000) (h2 : x2 < 2) : fX2_fraction (nI x) (nI x2) S = some (if x2 = 0 then nI (frc x).1 else nI (frc x).2, S) := by
  have := up_lpR (F := fun f t (z : Int32 × Int32) => fX2_fraction_9 (nI x2) f z.1 z.2 t S) (K := fun z => if nI x2 = nI 0 then some (z.1, S) else some (z.2, S)) 5 (fun _ z => st5 (st2 z)) (fun _ z y => y.1 = nI z.1 ∧ y.2 = nI z.2 ∧ z.1 ≤ 100000 ∧ z.2 ≤ 100000) (by decide) (fun f t z y ht hI => ?_) (fun f z y hI => ?_) (i0 := 0) (s := (x, 100000)) (a := (nI x, nI 100000)) (Nat.zero_le _) ⟨rfl, rfl, hx, Nat.le_refl _⟩
  · obtain ⟨⟨a, b⟩, t1, t2, t3, -⟩ := this
    have t2 : a = nI (frc x).1 := t2
    have t3 : b = nI (frc x).2 := t3
    rw [t2, t3] at t1
    refine Eq.trans t1 ?_
    (try dsimp only)
    by_cases e : x2 = 0
    · rw [if_pos e, e, if_pos rfl]
    · rw [if_neg e, if_neg (fun q => e ((nI_eq (by omega) (by omega)).mp q))]
  · obtain ⟨a, b⟩ := y
    obtain ⟨n, d⟩ := z
    obtain ⟨i1, i2, i3, i4⟩ := hI
    have j1 : a = nI n := i1
    have j2 : b = nI d := i2
    have j3 : n ≤ 100000 := i3
    have j4 : d ≤ 100000 := i4
    clear i1 i2 i3 i4
    subst j1 j2
    have go5 : ∀ n d, n ≤ 100000 → d ≤ 100000 → fX2_fraction_31 (nI x2) (nI n) (nI d) (nI t) (fX2_fraction_9 (nI x2) f) S = fX2_fraction_9 (nI x2) f (nI (st5 (n, d)).1) (nI (st5 (n, d)).2) (nI (t + 1)) S ∧ (st5 (n, d)).1 ≤ 100000 ∧ (st5 (n, d)).2 ≤ 100000 := fun n d hn hd => by
      unfold st5 fX2_fraction_31
      by_cases e : n % 5 = 0
      · rw [if_pos e]
        refine ⟨?_, by show n / 5 ≤ 100000; omega, by show d / 5 ≤ 100000; omega⟩
        simp (disch := omega) only [lit, lm1, nI_add, pk_mul, nm_eq, nm_eq', nm_lt, nm_lt', nm_le, nm_le', x_lt, x_le, x_eq, x_in, x_cl, x_div, x_sub, x_rem, x_min, x_max, x_and, x_or, x_xor, x_df, x_shl, bI_0, bI_1, bI_bo, lg_eq, toL_inj, ls_nI, decide_eq_false_iff_not, decide_eq_true_eq, Bool.true_eq_false, Bool.false_eq_true, bq, if_pos, if_neg, if_true, if_false, lq, Nat.reduceAdd, Nat.reduceMul, Nat.reduceSub, Nat.reduceDiv, Nat.reduceMod, e]
      · rw [if_neg e]
        refine ⟨?_, hn, hd⟩
        simp (disch := omega) only [lit, lm1, nI_add, pk_mul, nm_eq, nm_eq', nm_lt, nm_lt', nm_le, nm_le', x_lt, x_le, x_eq, x_in, x_cl, x_div, x_sub, x_rem, x_min, x_max, x_and, x_or, x_xor, x_df, x_shl, bI_0, bI_1, bI_bo, lg_eq, toL_inj, ls_nI, decide_eq_false_iff_not, decide_eq_true_eq, Bool.true_eq_false, Bool.false_eq_true, bq, if_pos, if_neg, if_true, if_false, lq, Nat.reduceAdd, Nat.reduceMul, Nat.reduceSub, Nat.reduceDiv, Nat.reduceMod, e]
    rw [fX2_fraction_9]
    unfold st2
    by_cases e : n % 2 = 0
    · rw [if_pos e]
      obtain ⟨g1, g2, g3⟩ := go5 (n / 2) (d / 2) (by omega) (by omega)
      refine ⟨(nI (st5 (n / 2, d / 2)).1, nI (st5 (n / 2, d / 2)).2), ?_, rfl, rfl, g2, g3⟩
      simp (disch := omega) only [lit, lm1, nI_add, pk_mul, nm_eq, nm_eq', nm_lt, nm_lt', nm_le, nm_le', x_lt, x_le, x_eq, x_in, x_cl, x_div, x_sub, x_rem, x_min, x_max, x_and, x_or, x_xor, x_df, x_shl, bI_0, bI_1, bI_bo, lg_eq, toL_inj, ls_nI, decide_eq_false_iff_not, decide_eq_true_eq, Bool.true_eq_false, Bool.false_eq_true, bq, if_pos, if_neg, if_true, if_false, lq, Nat.reduceAdd, Nat.reduceMul, Nat.reduceSub, Nat.reduceDiv, Nat.reduceMod, e]
      exact g1
    · rw [if_neg e]
      obtain ⟨g1, g2, g3⟩ := go5 n d j3 j4
      refine ⟨(nI (st5 (n, d)).1, nI (st5 (n, d)).2), ?_, rfl, rfl, g2, g3⟩
      simp (disch := omega) only [lit, lm1, nI_add, pk_mul, nm_eq, nm_eq', nm_lt, nm_lt', nm_le, nm_le', x_lt, x_le, x_eq, x_in, x_cl, x_div, x_sub, x_rem, x_min, x_max, x_and, x_or, x_xor, x_df, x_shl, bI_0, bI_1, bI_bo, lg_eq, toL_inj, ls_nI, decide_eq_false_iff_not, decide_eq_true_eq, Bool.true_eq_false, Bool.false_eq_true, bq, if_pos, if_neg, if_true, if_false, lq, Nat.reduceAdd, Nat.reduceMul, Nat.reduceSub, Nat.reduceDiv, Nat.reduceMod, e]
      exact g1
  · rw [fX2_fraction_9]
    simp (disch := omega) only [lit, lm1, nI_add, pk_mul, nm_eq, nm_eq', nm_lt, nm_lt', nm_le, nm_le', x_lt, x_le, x_eq, x_in, x_cl, x_div, x_sub, x_rem, x_min, x_max, x_and, x_or, x_xor, x_df, x_shl, bI_0, bI_1, bI_bo, lg_eq, toL_inj, ls_nI, decide_eq_false_iff_not, decide_eq_true_eq, Bool.true_eq_false, Bool.false_eq_true, bq, if_pos, if_neg, if_true, if_false, lq, Nat.reduceAdd, Nat.reduceMul, Nat.reduceSub, Nat.reduceDiv, Nat.reduceMod]
end C3
