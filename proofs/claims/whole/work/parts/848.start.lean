/-! how a reading begins -/
theorem e_clear (S : cpS) : ∃ A, fX10_clear 15 S = some ((), A) ∧ (A.1 15 0 = nI 1 ∧ A.1 15 1 = nI 0 ∧ A.1 15 2 = nI 0 ∧ A.1 15 3 = nI 0 ∧ A.1 15 7 = nI 0 ∧ A.1 15 11 = nI 0) ∧ (∀ j, j < 8 → A.1 21 j = nI 0) ∧ (∀ j, j < 4 → A.1 22 j = nI 0) ∧ (A.1 26 1 = nI 5 ∧ A.1 26 2 = nI 0 ∧ A.1 26 3 = nI 4 ∧ A.1 26 4 = nI 4 ∧ A.1 26 5 = nI 5) ∧ (A.1 27 0 = nI 1000 ∧ A.1 27 1 = nI 1001 ∧ A.1 27 2 = nI 2004 ∧ A.1 27 3 = nI 2008 ∧ A.1 27 4 = nI 1003) ∧ Kp (fun q j => 15 ≤ q ∧ q ≤ 28) S A := by
  obtain ⟨T1, t1, t2⟩ := e_fillI 21 8 (nI 0) (by decide) (cpI (cpI (cpI (cpI (cpI (cpI S 15 0 (nI 1)) 15 1 (nI 0)) 15 2 (nI 0)) 15 3 (nI 0)) 15 7 (nI 0)) 15 11 (nI 0))
  obtain ⟨T2, u1, u2⟩ := e_fillI 22 4 (nI 0) (by decide) T1
  have b1 : T2.1 15 = (cpI (cpI (cpI (cpI (cpI (cpI S 15 0 (nI 1)) 15 1 (nI 0)) 15 2 (nI 0)) 15 3 (nI 0)) 15 7 (nI 0)) 15 11 (nI 0)).1 15 := by rw [u2.2.1 15 (by decide), t2.2.1 15 (by decide)]
  have b2 : ∀ j, j < 8 → T2.1 21 j = nI 0 := fun j hj => by rw [u2.2.1 21 (by decide), t2.2.2.1 j (by omega) hj]
  have b3 : ∀ j, j < 4 → T2.1 22 j = nI 0 := fun j hj => u2.2.2.1 j (by omega) hj
  have k2 : Kp (fun q j => 15 ≤ q ∧ q ≤ 28) S T2 := by
    have k0 : Kp (fun q j => 15 ≤ q ∧ q ≤ 28) S (cpI (cpI (cpI (cpI (cpI (cpI S 15 0 (nI 1)) 15 1 (nI 0)) 15 2 (nI 0)) 15 3 (nI 0)) 15 7 (nI 0)) 15 11 (nI 0)) := (((((Kp.rf.I (by decide)).I (by decide)).I (by decide)).I (by decide)).I (by decide)).I (by decide)
    exact (k0.tr (t2.kp (fun j _ _ => by decide))).tr (u2.kp (fun j _ _ => by decide))
  refine ⟨cpI (cpI (cpI (cpI (cpI (cpI (cpI (cpI (cpI (cpI T2 27 0 (nI 1000)) 27 1 (nI 1001)) 27 2 (nI 2004)) 27 3 (nI 2008)) 27 4 (nI 1003)) 26 2 (nI 0)) 26 3 (nI 4)) 26 4 (nI 4)) 26 5 (nI 5)) 26 1 (nI 5), ?_, ?_, fun j hj => ?_, fun j hj => ?_, ?_, ?_, ?_⟩
  · unfold fX10_clear fX3_clear
    simp (disch := omega) only [lit, lm1, nI_add, pk_mul, nm_eq, nm_eq', nm_lt, nm_lt', nm_le, nm_le', x_lt, x_le, x_eq, x_in, x_cl, x_div, x_sub, x_rem, x_min, x_max, x_and, x_or, x_xor, x_df, x_shl, bI_0, bI_1, bI_bo, lg_eq, toL_inj, ls_nI, decide_eq_false_iff_not, decide_eq_true_eq, Bool.true_eq_false, Bool.false_eq_true, bq, if_pos, if_neg, if_true, if_false, lq, Nat.reduceAdd, Nat.reduceMul, Nat.reduceSub, Nat.reduceDiv, Nat.reduceMod, t1, u1]
  · simp (disch := omega) only [sIr, b1, sI1, sIn, and_self]
  · simp (disch := omega) only [sIr, b2 j hj]
  · simp (disch := omega) only [sIr, b3 j hj]
  · simp (disch := omega) only [sIr, sI1, sIn, and_self]
  · simp (disch := omega) only [sIr, sI1, sIn, and_self]
  · exact (((((((((k2.I (by decide)).I (by decide)).I (by decide)).I (by decide)).I (by decide)).I (by decide)).I (by decide)).I (by decide)).I (by decide)).I (by decide)
theorem e_plain (S : cpS) : ∃ A, fX12_plain 154 1162 S = some ((), A) ∧ A.1 154 1 = nI 1 ∧ (∀ j, j < 1162 → j ≠ 1 → A.1 154 j = nI 0) ∧ Kp (fun q j => q = 154) S A := by
  obtain ⟨V, v1, v2⟩ : ∃ V, fX12_plain_2 154 1162 cpFu (nI 0) S = some ((), cpI V 154 1 (nI 1)) ∧ fI S V 154 0 1162 (fun _ => nI 0) := by
    have := up_lpR (F := fun n k (V : cpS) => fX12_plain_2 154 1162 n k V) (K := fun V => some ((), cpI V 154 1 (nI 1))) 1162 (fun _ (s : Unit) => s) (fun k _ V => fI S V 154 0 k (fun _ => nI 0)) (by decide) (fun n k s V hk hI => ?_) (fun n s V hI => ?_) (i0 := 0) (s := ()) (a := S) (Nat.zero_le _) (fI.rf S 154 _ _)
    · exact this
    · refine ⟨cpI V 154 k (nI 0), ?_, hI.nx rfl (by omega)⟩
      (try dsimp only)
      rw [fX12_plain_2]
      simp (disch := omega) only [lit, lm1, nI_add, pk_mul, nm_eq, nm_eq', nm_lt, nm_lt', nm_le, nm_le', x_lt, x_le, x_eq, x_in, x_cl, x_div, x_sub, x_rem, x_min, x_max, x_and, x_or, x_xor, x_df, x_shl, bI_0, bI_1, bI_bo, lg_eq, toL_inj, ls_nI, decide_eq_false_iff_not, decide_eq_true_eq, Bool.true_eq_false, Bool.false_eq_true, bq, if_pos, if_neg, if_true, if_false, lq, Nat.reduceAdd, Nat.reduceMul, Nat.reduceSub, Nat.reduceDiv, Nat.reduceMod]
    · (try dsimp only)
      rw [fX12_plain_2]
      simp (disch := omega) only [lit, lm1, nI_add, pk_mul, nm_eq, nm_eq', nm_lt, nm_lt', nm_le, nm_le', x_lt, x_le, x_eq, x_in, x_cl, x_div, x_sub, x_rem, x_min, x_max, x_and, x_or, x_xor, x_df, x_shl, bI_0, bI_1, bI_bo, lg_eq, toL_inj, ls_nI, decide_eq_false_iff_not, decide_eq_true_eq, Bool.true_eq_false, Bool.false_eq_true, bq, if_pos, if_neg, if_true, if_false, lq, Nat.reduceAdd, Nat.reduceMul, Nat.reduceSub, Nat.reduceDiv, Nat.reduceMod]
  refine ⟨cpI V 154 1 (nI 1), v1, sI1, fun j hj h1 => ?_, (v2.kp (fun j _ _ => rfl)).I (by exact rfl)⟩
  rw [sIn (Or.inr h1), v2.2.2.1 j (by omega) hj]
section ST
variable {S M : cpS} {t : Nat → Nat} {L : Nat}
/-- the reference's reading, up to its end -/
theorem t_begin (l9 : L ≤ 900) {n : Nat} (hn : n ≤ 900) (hLn : L ≤ n) (hS : ∀ x, x < L → S.1 116 x = nI (t x) ∧ t x < 256) (hM : ∀ x, x < L → M.1 153 x = nI (t x)) (h5 : M.1 150 5 = nI n) :
    ∃ s S8 M8, (∀ z T, fX7_readHead S8 = some (z, T) → fX7_readText (nI L) S = fX7_readText_38 cpFu z (nI 0) T) ∧ fX12_valley (nI L) M = headM M8 ∧ Rp t L s S8 M8 ∧ Cd [1000, 1001, 2004, 2008, 1003] S8 M8 ∧ Lw [1000, 1001, 2004, 2008, 1003] S8 M8 ∧ Vy 1 0 0 0 0 S8 M8 ∧ M8.1 150 5 = nI 0 ∧ Kp kVc S S8 ∧ Kp (fun q j => q = 154 ∨ q = 150) M M8 := by
  obtain ⟨A, a1, ⟨c0, c1, c2, c3, c7, c11⟩, c21, c22, ⟨d1, d2, d3, d4, d5⟩, ⟨e0, e1, e2, e3, e4⟩, kA⟩ := e_clear (cpI (cpI (cpI (cpI S 115 5 (nI L)) 115 8 (nI 0)) 115 3 (nI 0)) 115 4 nM)
  obtain ⟨B, b1, f1, f0, kB⟩ := e_plain (cpI (cpI (cpI (cpI (cpI M 150 0 (nI 0)) 150 8 (nI L)) 150 5 (nI 0)) 150 7 (nI 0)) 150 11 (nI 0))
  have qA : ∀ q j, (q < 15 ∨ 28 < q) → A.1 q j = (cpI (cpI (cpI (cpI S 115 5 (nI L)) 115 8 (nI 0)) 115 3 (nI 0)) 115 4 nM).1 q j := fun q j h => kA.i (by omega)
  have qB : ∀ q j, q ≠ 154 → B.1 q j = (cpI (cpI (cpI (cpI (cpI M 150 0 (nI 0)) 150 8 (nI L)) 150 5 (nI 0)) 150 7 (nI 0)) 150 11 (nI 0)).1 q j := fun q j h => kB.i h
  have tA : cTp t L A := by
    refine ⟨l9, ?_, fun x hx => ?_⟩
    · rw [qA 115 5 (by omega)]; simp (disch := omega) only [sI1, sIn]
    · rw [qA 116 x (by omega)]; simp (disch := omega) only [sIr]; exact hS x hx
  have tB : mTp t L B := by
    refine ⟨l9, ?_, fun x hx => ?_⟩
    · rw [qB 150 8 (by omega)]; simp (disch := omega) only [sI1, sIn]
    · rw [qB 153 x (by omega)]; simp (disch := omega) only [sIr]; exact ⟨hM x hx, (hS x hx).2⟩
  have a8 : A.1 115 8 = nI 0 := by rw [qA 115 8 (by omega)]; simp (disch := omega) only [sI1, sIn]
  have b7 : B.1 150 7 = nI 0 := by rw [qB 150 7 (by omega)]; simp (disch := omega) only [sI1, sIn]
  obtain ⟨S8, s1, s2, s3, s4, s5, s6⟩ := c_advance tA (Nat.zero_le L) a8
  obtain ⟨M8, m1, m2, m3, m4, m5, m6⟩ := m_next tB (Nat.zero_le L) b7
  have hs := skp_le (t := t) (L := L) 0 (Nat.zero_le _)
  have gS : ∀ q j, q ≠ 115 → S8.1 q j = A.1 q j := fun q j h => s6.i (fun z => h z.1)
  have gM : ∀ j, M8.1 154 j = B.1 154 j := fun j => m6.i (fun z => by have := z.1; omega)
  refine ⟨skp t L 0, S8, M8, fun z T e => ?_, ?_, ⟨tA.kp s6, tB.kp m6, hs.2, fun q => skp_nw (Nat.zero_le _) q, s2, s3, s4, s5, ?_, ?_, m2, m3, m4, m5, ?_⟩, ⟨by decide, ?_, ?_, ?_, ?_⟩, ⟨?_, ?_⟩, ?_, ?_, ?_, ?_⟩
  · unfold fX7_readText
    simp (disch := omega) only [lit, lm1, nI_add, pk_mul, nm_eq, nm_eq', nm_lt, nm_lt', nm_le, nm_le', x_lt, x_le, x_eq, x_in, x_cl, x_div, x_sub, x_rem, x_min, x_max, x_and, x_or, x_xor, x_df, x_shl, bI_0, bI_1, bI_bo, lg_eq, toL_inj, ls_nI, decide_eq_false_iff_not, decide_eq_true_eq, Bool.true_eq_false, Bool.false_eq_true, bq, if_pos, if_neg, if_true, if_false, lq, Nat.reduceAdd, Nat.reduceMul, Nat.reduceSub, Nat.reduceDiv, Nat.reduceMod, a1, s1, e]
  · have wn := m_win2 0 n (nI 0).toInt64 (nI n).toInt64 (by decide) (by rw [i2l_toInt, nI_toInt (by omega)]) (k := L) (by omega) (cpI M 150 0 (nI 0))
    rw [decide_eq_true ⟨Nat.zero_le _, hLn⟩] at wn
    have wn : fX12_within (nI L).toInt64 (0 : Int64) (nI n).toInt64 (cpI M 150 0 (nI 0)) = some (nI 1, cpI M 150 0 (nI 0)) := wn
    have e5 : (cpI M 150 0 (nI 0)).1 150 5 = nI n := by rw [sIn (Or.inr (by decide))]; exact h5
    unfold fX12_valley headM
    simp (disch := omega) only [lit, lm1, nI_add, pk_mul, nm_eq, nm_eq', nm_lt, nm_lt', nm_le, nm_le', x_lt, x_le, x_eq, x_in, x_cl, x_div, x_sub, x_rem, x_min, x_max, x_and, x_or, x_xor, x_df, x_shl, bI_0, bI_1, bI_bo, lg_eq, toL_inj, ls_nI, decide_eq_false_iff_not, decide_eq_true_eq, Bool.true_eq_false, Bool.false_eq_true, bq, if_pos, if_neg, if_true, if_false, lq, Nat.reduceAdd, Nat.reduceMul, Nat.reduceSub, Nat.reduceDiv, Nat.reduceMod, e5, wn, b1, m1]
  · rw [s6.i (by unfold k115; omega), qA 115 3 (by omega)]; simp (disch := omega) only [sI1, sIn]
  · rw [s6.i (by unfold k115; omega), qA 115 4 (by omega), sI1]
  · rw [m6.i (by unfold k150; omega), qB 150 11 (by omega), sI1]
  · rw [gS 26 1 (by decide)]; exact d1
  · intro j hj
    rw [gS 27 j (by decide)]
    have hj : j < 5 := hj
    rcases (by omega : j = 0 ∨ j = 1 ∨ j = 2 ∨ j = 3 ∨ j = 4) with rfl | rfl | rfl | rfl | rfl
    · exact e0
    · exact e1
    · exact e2
    · exact e3
    · exact e4
  · rw [gM]; exact f0 261 (by decide) (by decide)
  · intro j hj
    exact absurd (show 5 + j < 5 from hj) (by omega)
  · refine ⟨[], [1000, 1001, 2004, 2008], [1003], rfl, by rw [gS 26 2 (by decide)]; exact d2, by rw [gS 26 3 (by decide)]; exact d3, ?_, Or.inl ⟨by rw [gM]; exact f0 5 (by decide) (by decide), rfl⟩⟩
    exact ⟨by decide, _, rfl, by decide, _, rfl, by decide, _, rfl, by decide, _, rfl, rfl⟩
  · refine ⟨[1000, 1001, 2004, 2008], [1003], [], rfl, by rw [gS 26 4 (by decide)]; exact d4, by rw [gS 26 5 (by decide)]; exact d5, ?_, Or.inl ⟨by rw [gM]; exact f0 6 (by decide) (by decide), rfl⟩⟩
    exact ⟨by decide, _, rfl, rfl⟩
  · refine ⟨⟨by decide, by decide, by decide, by decide, by decide, by decide⟩, by rw [gS 15 0 (by decide)]; exact c0, by rw [gM]; exact f1, by rw [gS 15 3 (by decide)]; exact c3, by rw [gM]; exact f0 2 (by decide) (by decide), by rw [gS 15 7 (by decide)]; exact c7, by rw [gM]; exact f0 3 (by decide) (by decide), by rw [gS 15 11 (by decide)]; exact c11, by rw [gM]; exact f0 4 (by decide) (by decide), by rw [gS 15 1 (by decide)]; exact c1, by rw [gM]; exact f0 78 (by decide) (by decide), by rw [gS 15 2 (by decide), gM, c2, f0 0 (by decide) (by decide)], fun r hr => absurd hr (by omega), fun r hr => absurd hr (by omega), fun r hr => absurd hr (by omega), fun c _ hc => ⟨by rw [gS 22 c (by decide)]; exact c22 c hc, by rw [gM]; exact f0 _ (by omega) (by omega)⟩, ⟨fun _ => 0, fun p hp => ⟨by rw [gS 21 p (by decide)]; exact c21 p hp, by rw [gM]; exact f0 _ (by omega) (by omega), by show 0 < 2 ^ 0; decide⟩, fun p q _ _ => by rw [Nat.zero_testBit, Nat.zero_testBit], fun p _ => Nat.zero_testBit _, fun _ _ _ => rfl⟩, fun j hj => by rw [gM]; exact f0 _ (by omega) (by omega)⟩
  · rw [m6.i (by unfold k150; omega), qB 150 5 (by omega)]; simp (disch := omega) only [sI1, sIn]
  · have k0 : Kp kVc S (cpI (cpI (cpI (cpI S 115 5 (nI L)) 115 8 (nI 0)) 115 3 (nI 0)) 115 4 nM) := (((Kp.rf.I (by exact Or.inr ⟨rfl, by decide⟩)).I (by exact Or.inr ⟨rfl, by decide⟩)).I (by exact Or.inr ⟨rfl, by decide⟩)).I (by exact Or.inr ⟨rfl, by decide⟩)
    exact (k0.tr (kA.le (fun q j h => Or.inl h))).tr (kRc.v (k115.le s6))
  · have k0 : Kp (fun q j => q = 154 ∨ q = 150) M (cpI (cpI (cpI (cpI (cpI M 150 0 (nI 0)) 150 8 (nI L)) 150 5 (nI 0)) 150 7 (nI 0)) 150 11 (nI 0)) := ((((Kp.rf.I (by exact Or.inr rfl)).I (by exact Or.inr rfl)).I (by exact Or.inr rfl)).I (by exact Or.inr rfl)).I (by exact Or.inr rfl)
    exact (k0.tr (kB.le (fun q j h => Or.inl h))).tr (m6.le (fun q j h => Or.inr h.1))
end ST
