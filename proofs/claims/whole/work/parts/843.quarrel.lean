/-! a quarrel -/
def fdn (fd : Nat → Nat) (p q : Nat) : Nat → Nat := fun i => if i = p then fd p ||| 2 ^ q else if i = q then fd q ||| 2 ^ p else fd i
theorem fdn_bt (fd : Nat → Nat) (p q i j : Nat) : (fdn fd p q i).testBit j = ((fd i).testBit j || decide ((i = p ∧ j = q) ∨ (i = q ∧ j = p))) := by
  unfold fdn
  by_cases h1 : i = p
  · subst h1
    rw [if_pos rfl, Nat.testBit_or, Nat.testBit_two_pow]
    congr 1
    by_cases h2 : q = j
    · rw [decide_eq_true h2, decide_eq_true (Or.inl ⟨rfl, h2.symm⟩)]
    · rw [decide_eq_false h2, decide_eq_false (by omega)]
  · rw [if_neg h1]
    by_cases h3 : i = q
    · subst h3
      rw [if_pos rfl, Nat.testBit_or, Nat.testBit_two_pow]
      congr 1
      by_cases h2 : p = j
      · rw [decide_eq_true h2, decide_eq_true (Or.inr ⟨rfl, h2.symm⟩)]
      · rw [decide_eq_false h2, decide_eq_false (by omega)]
    · rw [if_neg h3, decide_eq_false (by omega), Bool.or_false]
section QU
variable {t : Nat → Nat} {L s : Nat} {l : List Nat} {K R P C hh : Nat} {S M : cpS}
theorem vy_quarrel {A B : cpS} {p q : Nat} (vy : Vy K R P C hh S M) (hp : p < P) (hq : q < P) (hn : p ≠ q)
    (kc : Kp (fun q' j => (q' = 115 ∧ 3 ≤ j) ∨ q' = 21) S A) (km : Kp (fun q' j => (q' = 150 ∧ 6 ≤ j) ∨ (q' = 154 ∧ 70 ≤ j ∧ j < 78)) M B)
    (hA : ∀ i, i < 8 → A.1 21 i = if i = p then S.1 21 p ||| nI (2 ^ q) else if i = q then S.1 21 q ||| nI (2 ^ p) else S.1 21 i)
    (hB : ∀ i, i < 8 → B.1 154 (70 + i) = if i = p then M.1 154 (70 + p) ||| nI (2 ^ q) else if i = q then M.1 154 (70 + q) ||| nI (2 ^ p) else M.1 154 (70 + i)) : Vy K R P C hh A B := by
  obtain ⟨k1, k6, r9, p8, c4, h9⟩ := vy.b
  refine ⟨⟨k1, k6, r9, p8, c4, h9⟩, ?_, ?_, ?_, ?_, ?_, ?_, ?_, ?_, ?_, ?_, ?_, fun r hr => ?_, fun p hp => ?_, fun c hc => ?_, fun c z1 z2 => ?_, ?_, fun j hj => ?_⟩
  · rw [kc.i (by omega)]; exact vy.cK
  · rw [km.i (by omega)]; exact vy.mK
  · rw [kc.i (by omega)]; exact vy.cR
  · rw [km.i (by omega)]; exact vy.mR
  · rw [kc.i (by omega)]; exact vy.cP
  · rw [km.i (by omega)]; exact vy.mP
  · rw [kc.i (by omega)]; exact vy.cC
  · rw [km.i (by omega)]; exact vy.mC
  · rw [kc.i (by omega)]; exact vy.ch
  · rw [km.i (by omega)]; exact vy.mh
  · rw [kc.i (by omega), km.i (by omega)]; exact vy.ln
  · rw [kc.i (by omega), kc.i (by omega), kc.i (by omega), km.i (by omega), km.i (by omega), km.i (by omega)]; exact vy.rd r hr
  · rw [kc.i (by omega), kc.i (by omega), km.i (by omega), km.i (by omega)]; exact vy.pe p hp
  · rw [kc.i (by omega), kc.i (by omega), kc.i (by omega), km.i (by omega), km.i (by omega), km.i (by omega)]; exact vy.co c hc
  · rw [kc.i (by omega), km.i (by omega)]; exact vy.cz c z1 z2
  · obtain ⟨fd, y1, y2, y3, y4⟩ := vy.fd
    obtain ⟨p1, p2, p3⟩ := y1 p (by omega)
    obtain ⟨q1, q2, q3⟩ := y1 q (by omega)
    refine ⟨fdn fd p q, fun i hi => ⟨?_, ?_, ?_⟩, fun i j hi hj => ?_, fun i hi => ?_, fun i i1 i2 => ?_⟩
    · rw [hA i hi, p1, q1, x_or, x_or, (y1 i hi).1]
      unfold fdn
      split
      · rfl
      · split <;> rfl
    · rw [hB i hi, p2, q2, x_or, x_or, (y1 i hi).2.1]
      unfold fdn
      split
      · rfl
      · split <;> rfl
    · unfold fdn
      split
      · exact Nat.or_lt_two_pow p3 (Nat.pow_lt_pow_right (by decide) hq)
      · split
        · exact Nat.or_lt_two_pow q3 (Nat.pow_lt_pow_right (by decide) hp)
        · exact (y1 i hi).2.2
    · rw [fdn_bt, fdn_bt, y2 i j hi hj]
      congr 1
      by_cases e : (i = p ∧ j = q) ∨ (i = q ∧ j = p)
      · rw [decide_eq_true e, decide_eq_true (by omega)]
      · rw [decide_eq_false e, decide_eq_false (by omega)]
    · rw [fdn_bt, y3 i hi, decide_eq_false (by omega)]; rfl
    · unfold fdn
      rw [if_neg (by omega), if_neg (by omega)]; exact y4 i i1 i2
  · rw [km.i (by omega)]; exact vy.z j hj
theorem l_quarrel (hl : Ln t L s l K R P C hh S M) (hk : kyE t L s = 8) : Lo t L s S M (fX7_readQuarrel S) (fX12_readQuarrel M) := by
  have l9 := hl.rp.ct.1
  have vy := hl.vy
  obtain ⟨k1, k6, r9, p8, c4, h9⟩ := vy.b
  obtain ⟨s1, S1, M1, a1, a2, a3, a4, a5, a6⟩ := hl.rp.adv (by omega)
  obtain ⟨x2, hx⟩ : ∃ x2, nI P - nI 1 = x2 := ⟨_, rfl⟩
  have ub : uB x2 P := by rw [← hx]; exact uB.m (by omega)
  have kP1 : ∀ {A : cpS}, Kp kRc S1 A → A.1 15 7 - nI 1 = x2 := fun q => by rw [q.i (by unfold kRc; omega), a5.i (by unfold k115; omega), vy.cP]; exact hx
  have mP1 : ∀ {A : cpS}, Kp kRm M1 A → A.1 154 3 - nI 1 = x2 := fun q => by rw [q.i (by unfold kRm; omega), a6.i (by unfold k150; omega), vy.mP]; exact hx
  have kS1 := kP1 Kp.rf
  have mM1 := mP1 Kp.rf
  rcases a3.num (a := 0) (B := P) (x2 := x2) (x3 := nM) (m := fun M => fX12_takes (nI 0) x2 M) (by decide) ub (Or.inl rfl) (Or.inl ⟨rfl, rfl⟩) with ⟨v, S2, M2, -, v2, -, n1, n2, n3, s2, b1, b2, b3, b4⟩ | ⟨z, S2, M2, n1, n2, f1, f2, f3⟩
  · (try dsimp only at n2)
    have kS2 := kP1 b3
    have mM2 := mP1 b4
    rcases b1.num (a := 0) (B := P) (x2 := x2) (x3 := nI v) (m := fun M => fX12_takesOther (nI v) x2 M) (by decide) ub (Or.inr ⟨v, by omega, rfl⟩) (Or.inr ⟨rfl, ⟨v, by omega, rfl⟩, rfl⟩) with ⟨u, S3, M3, -, u2, u3, o1, o2, o3, s3, d1, d2, d3, d4⟩ | ⟨z, S3, M3, o1, o2, f1, f2, f3⟩
    · (try dsimp only at o2)
      have hn : v ≠ u := fun q => u3 (by rw [q])
      have kc0 := ((k115.le a5).tr b3).tr d3
      have km0 := ((k150.le a6).tr b4).tr d4
      have eS : ∀ i, S3.1 21 i = S.1 21 i := fun i => kc0.i (by unfold kRc; omega)
      have eM : ∀ i, M3.1 154 i = M.1 154 i := fun i => km0.i (by unfold kRm; omega)
      have kc : Kp (fun q' j => (q' = 115 ∧ 3 ≤ j) ∨ q' = 21) S (cpI (cpI S3 21 v (S.1 21 v ||| nI (2 ^ u))) 21 u (S.1 21 u ||| nI (2 ^ v))) := ((kc0.le (fun q j h => Or.inl ⟨h.1, h.2.1⟩)).I (by exact Or.inr rfl)).I (by exact Or.inr rfl)
      have km : Kp (fun q' j => (q' = 150 ∧ 6 ≤ j) ∨ (q' = 154 ∧ 70 ≤ j ∧ j < 78)) M (cpI (cpI M3 154 (70 + v) (M.1 154 (70 + v) ||| nI (2 ^ u))) 154 (70 + u) (M.1 154 (70 + u) ||| nI (2 ^ v))) := ((km0.le (fun q j h => Or.inl ⟨h.1, h.2.1⟩)).I (by refine Or.inr ⟨rfl, ?_, ?_⟩ <;> omega)).I (by refine Or.inr ⟨rfl, ?_, ?_⟩ <;> omega)
      have vv := vy_quarrel vy v2 u2 hn kc km (fun i hi => by
        by_cases e : i = v
        · subst e; rw [sIn (Or.inr hn), sI1, if_pos rfl]
        · by_cases e2 : i = u
          · subst e2; rw [sI1, if_neg e, if_pos rfl]
          · rw [sIn (Or.inr e2), sIn (Or.inr e), if_neg e, if_neg e2, eS]) (fun i hi => by
        by_cases e : i = v
        · subst e; rw [sIn (Or.inr (by omega)), sI1, if_pos rfl]
        · by_cases e2 : i = u
          · subst e2; rw [sI1, if_neg e, if_pos rfl]
          · rw [sIn (Or.inr (by omega)), sIn (Or.inr (by omega)), if_neg e, if_neg e2, eM])
      have q1 : (cpI S3 21 v (S.1 21 v ||| nI (2 ^ u))).1 115 10 = nI u := by rw [sIn (Or.inl (by decide))]; exact o3
      have q2 : (cpI S3 21 v (S.1 21 v ||| nI (2 ^ u))).1 21 u = S.1 21 u := by rw [sIn (Or.inr (Ne.symm hn)), eS]
      have q3 : (cpI M3 154 (70 + v) (M.1 154 (70 + v) ||| nI (2 ^ u))).1 154 (70 + u) = M.1 154 (70 + u) := by rw [sIn (Or.inr (by omega)), eM]
      have bg := hl.bg
      refine Or.inl ⟨s3, _, _, ?_, ?_, ⟨l, K, R, P, C, hh, (((d1.wS (by decide)).wS (by decide)).wM).wM, hl.cd.kp kc km (by omega) (fun j => by omega) (fun j _ => by omega), hl.lw.kp0 kc km (fun j _ _ => by omega) (fun j _ _ => by omega), vv, by omega⟩, by omega, kc.le (fun q j h => by unfold kVc; omega), km.le (fun q j h => by unfold kVm; omega)⟩
      · unfold fX7_readQuarrel
        simp (disch := omega) only [lit, lm1, nI_add, pk_mul, nm_eq, nm_eq', nm_lt, nm_lt', nm_le, nm_le', x_lt, x_le, x_eq, x_in, x_cl, x_div, x_sub, x_rem, x_min, x_max, x_and, x_or, x_xor, x_df, x_shl, bI_0, bI_1, bI_bo, lg_eq, toL_inj, ls_nI, decide_eq_false_iff_not, decide_eq_true_eq, Bool.true_eq_false, Bool.false_eq_true, bq, if_pos, if_neg, if_true, if_false, lq, Nat.reduceAdd, Nat.reduceMul, Nat.reduceSub, Nat.reduceDiv, Nat.reduceMod, a1, kS1, n1, n3, kS2, o1, o3, eS, q1, q2]
      · unfold fX12_readQuarrel
        simp (disch := omega) only [lit, lm1, nI_add, pk_mul, nm_eq, nm_eq', nm_lt, nm_lt', nm_le, nm_le', x_lt, x_le, x_eq, x_in, x_cl, x_div, x_sub, x_rem, x_min, x_max, x_and, x_or, x_xor, x_df, x_shl, bI_0, bI_1, bI_bo, lg_eq, toL_inj, ls_nI, decide_eq_false_iff_not, decide_eq_true_eq, Bool.true_eq_false, Bool.false_eq_true, bq, if_pos, if_neg, if_true, if_false, lq, Nat.reduceAdd, Nat.reduceMul, Nat.reduceSub, Nat.reduceDiv, Nat.reduceMod, a2, mM1, n2, mM2, o2, d1.m11, eM, q3]
    · (try dsimp only at o2)
      have fm := eq_false f1.fm
      refine Or.inr ⟨S3, M3, ?_, ?_, f1, vy.fl (((kRc.f (k115.le a5)).tr (kRc.f b3)).tr (kRc.f f2)), ((kRm.v (k150.le a6)).tr (kRm.v b4)).tr (kRm.v f3)⟩
      · unfold fX7_readQuarrel
        simp (disch := omega) only [lit, lm1, nI_add, pk_mul, nm_eq, nm_eq', nm_lt, nm_lt', nm_le, nm_le', x_lt, x_le, x_eq, x_in, x_cl, x_div, x_sub, x_rem, x_min, x_max, x_and, x_or, x_xor, x_df, x_shl, bI_0, bI_1, bI_bo, lg_eq, toL_inj, ls_nI, decide_eq_false_iff_not, decide_eq_true_eq, Bool.true_eq_false, Bool.false_eq_true, bq, if_pos, if_neg, if_true, if_false, lq, Nat.reduceAdd, Nat.reduceMul, Nat.reduceSub, Nat.reduceDiv, Nat.reduceMod, a1, kS1, n1, n3, kS2, o1]
      · unfold fX12_readQuarrel
        simp (disch := omega) only [lit, lm1, nI_add, pk_mul, nm_eq, nm_eq', nm_lt, nm_lt', nm_le, nm_le', x_lt, x_le, x_eq, x_in, x_cl, x_div, x_sub, x_rem, x_min, x_max, x_and, x_or, x_xor, x_df, x_shl, bI_0, bI_1, bI_bo, lg_eq, toL_inj, ls_nI, decide_eq_false_iff_not, decide_eq_true_eq, Bool.true_eq_false, Bool.false_eq_true, bq, if_pos, if_neg, if_true, if_false, lq, Nat.reduceAdd, Nat.reduceMul, Nat.reduceSub, Nat.reduceDiv, Nat.reduceMod, a2, mM1, n2, mM2, o2, fm]
  · (try dsimp only at n2)
    have fm := eq_false f1.fm
    refine Or.inr ⟨S2, M2, ?_, ?_, f1, vy.fl ((kRc.f (k115.le a5)).tr (kRc.f f2)), (kRm.v (k150.le a6)).tr (kRm.v f3)⟩
    · unfold fX7_readQuarrel
      simp (disch := omega) only [lit, lm1, nI_add, pk_mul, nm_eq, nm_eq', nm_lt, nm_lt', nm_le, nm_le', x_lt, x_le, x_eq, x_in, x_cl, x_div, x_sub, x_rem, x_min, x_max, x_and, x_or, x_xor, x_df, x_shl, bI_0, bI_1, bI_bo, lg_eq, toL_inj, ls_nI, decide_eq_false_iff_not, decide_eq_true_eq, Bool.true_eq_false, Bool.false_eq_true, bq, if_pos, if_neg, if_true, if_false, lq, Nat.reduceAdd, Nat.reduceMul, Nat.reduceSub, Nat.reduceDiv, Nat.reduceMod, a1, kS1, n1]
    · unfold fX12_readQuarrel
      simp (disch := omega) only [lit, lm1, nI_add, pk_mul, nm_eq, nm_eq', nm_lt, nm_lt', nm_le, nm_le', x_lt, x_le, x_eq, x_in, x_cl, x_div, x_sub, x_rem, x_min, x_max, x_and, x_or, x_xor, x_df, x_shl, bI_0, bI_1, bI_bo, lg_eq, toL_inj, ls_nI, decide_eq_false_iff_not, decide_eq_true_eq, Bool.true_eq_false, Bool.false_eq_true, bq, if_pos, if_neg, if_true, if_false, lq, Nat.reduceAdd, Nat.reduceMul, Nat.reduceSub, Nat.reduceDiv, Nat.reduceMod, a2, mM1, n2, f_other f1.fm, fm]
end QU
