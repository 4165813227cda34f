/-! how many bits; counts -/
def cnt (a : Nat) : Nat := up (fun i s => s + a / 2 ^ i % 2) 8 0 0
def bcE (x0 : Int32) : Int32 :=
  let y1 := x0 - ((cpUsh x0 (1 : Int32)) &&& (1431655765 : Int32))
  let y2 := (y1 &&& (858993459 : Int32)) + ((cpUsh y1 (2 : Int32)) &&& (858993459 : Int32))
  let y3 := (y2 + (cpUsh y2 (4 : Int32))) &&& (252645135 : Int32)
  let y4 := y3 + (cpUsh y3 (8 : Int32))
  let y5 := y4 + (cpUsh y4 (16 : Int32))
  y5 &&& (63 : Int32)
theorem bc_eq (x : Int32) (S : cpS) : fJ6_bitCount_0f7a4 x S = some (bcE x, S) := rfl
theorem bcE_cnt : ∀ a, a < 256 → bcE (nI a) = nI (cnt a) := by decide +kernel
theorem c_bc {a : Nat} (h : a < 256) (S : cpS) : fJ6_bitCount_0f7a4 (nI a) S = some (nI (cnt a), S) := by rw [bc_eq, bcE_cnt a h]
theorem cnt_le (a : Nat) : cnt a ≤ 8 := by
  unfold cnt
  exact up_inv (fun i s => s + a / 2 ^ i % 2) 8 (fun i s => s ≤ i) (fun i s _ h => by have := Nat.mod_lt (a / 2 ^ i) (show 0 < 2 by decide); (try dsimp only); omega) 8 0 0 rfl (Nat.le_refl _)
theorem cnt_lt (a : Nat) : cnt a < 2 ^ 31 := by have := cnt_le a; omega
theorem m_bits {a : Nat} (h : a < 256) (S : cpS) : fX12_bitsOf (nI a) S = some (nI (cnt a), S) := by
  unfold fX12_bitsOf cnt
  simp only [lit]
  refine up_lp (F := fun n i (x : Int32) => fX12_bitsOf_4 (nI a) n x i S) (K := fun s => some (nI s, S)) 8 (fun i s => s + a / 2 ^ i % 2) (fun _ _ => True) nI (by decide) (fun n i s hi ok => ⟨?_, trivial⟩) (fun n s ok => ?_) (Nat.zero_le _) trivial
  · (try dsimp only)
    rw [fX12_bitsOf_4]
    simp (disch := omega) only [lit, lm1, nI_add, pk_mul, nm_eq, nm_eq', nm_lt, nm_lt', nm_le, nm_le', x_lt, x_le, x_eq, x_in, x_cl, x_div, x_sub, x_rem, x_min, x_max, x_and, x_or, x_xor, x_df, x_shl, bI_0, bI_1, bI_bo, lg_eq, toL_inj, ls_nI, decide_eq_false_iff_not, decide_eq_true_eq, Bool.true_eq_false, Bool.false_eq_true, bq, if_pos, if_neg, if_true, if_false, lq, Nat.reduceAdd, Nat.reduceMul, Nat.reduceSub, Nat.reduceDiv, Nat.reduceMod, x_shr, Nat.and_one_is_mod]
  · (try dsimp only)
    rw [fX12_bitsOf_4]
    simp (disch := omega) only [lit, lm1, nI_add, pk_mul, nm_eq, nm_eq', nm_lt, nm_lt', nm_le, nm_le', x_lt, x_le, x_eq, x_in, x_cl, x_div, x_sub, x_rem, x_min, x_max, x_and, x_or, x_xor, x_df, x_shl, bI_0, bI_1, bI_bo, lg_eq, toL_inj, ls_nI, decide_eq_false_iff_not, decide_eq_true_eq, Bool.true_eq_false, Bool.false_eq_true, bq, if_pos, if_neg, if_true, if_false, lq, Nat.reduceAdd, Nat.reduceMul, Nat.reduceSub, Nat.reduceDiv, Nat.reduceMod]
theorem up_add {σ : Type} (step : Nat → σ → σ) : ∀ (a b i : Nat) (s : σ), up step (a + b) i s = up step b (i + a) (up step a i s) := by
  intro a
  induction a with
  | zero => intro b i s; rw [Nat.zero_add]; rfl
  | succ a ih => intro b i s; rw [show a + 1 + b = (a + b) + 1 by omega, up, ih b (i + 1) (step i s), up, show i + 1 + a = i + (a + 1) by omega]
/-- what changes nothing any more -/
theorem up_tail {σ : Type} {step : Nat → σ → σ} {N M : Nat} (hN : N ≤ M) (h : ∀ i s, N ≤ i → i < M → step i s = s) (s : σ) : up step M 0 s = up step N 0 s := by
  have : ∀ d i s, N ≤ i → i + d = M → up step d i s = s := by
    intro d
    induction d with
    | zero => intro i s _ _; rfl
    | succ d ih => intro i s h1 h2; rw [up, h i s h1 (by omega)]; exact ih (i + 1) s (by omega) (by omega)
  rw [show M = N + (M - N) by omega, up_add, Nat.zero_add, this (M - N) N _ (Nat.le_refl _) (by omega)]
def quM (E : cpE) (N : Nat) : Nat := up (fun p s => s + cnt (E.fd p)) N 0 0
theorem c_quarrels {D : cpD} {E : cpE} {S : cpS} (hD : D.WF) (hE : E.WF D) (c : cA D E S) : fX5_quarrelsThereAre 57 S = some (nI (quM E D.P / 2), S) := by
  have p8 := hD.p8
  have e0 : quM E D.P = quM E 8 := (up_tail p8 (fun i s h1 h2 => by (try dsimp only); rw [hE.fz i h1 h2]; rfl) 0).symm
  rw [e0]
  unfold fX5_quarrelsThereAre quM
  simp only [lit]
  refine up_lp (F := fun n i (x : Int32) => fX5_quarrelsThereAre_4 57 n x i S) (K := fun s => some (nI (s / 2), S)) 8 (fun p s => s + cnt (E.fd p)) (fun i s => s ≤ 8 * i) nI (by decide) (fun n i s hi ok => ⟨?_, ?_⟩) (fun n s ok => ?_) (Nat.zero_le _) (by decide)
  · (try dsimp only)
    have := fd_lt hD hE hi
    rw [fX5_quarrelsThereAre_4]
    simp (disch := omega) only [lit, lm1, nI_add, pk_mul, nm_eq, nm_eq', nm_lt, nm_lt', nm_le, nm_le', x_lt, x_le, x_eq, x_in, x_cl, x_div, x_sub, x_rem, x_min, x_max, x_and, x_or, x_xor, x_df, x_shl, bI_0, bI_1, bI_bo, lg_eq, toL_inj, ls_nI, decide_eq_false_iff_not, decide_eq_true_eq, Bool.true_eq_false, Bool.false_eq_true, bq, if_pos, if_neg, if_true, if_false, lq, Nat.reduceAdd, Nat.reduceMul, Nat.reduceSub, Nat.reduceDiv, Nat.reduceMod, c.fd, c_bc this]
  · have := cnt_le (E.fd i); (try dsimp only); omega
  · (try dsimp only)
    rw [fX5_quarrelsThereAre_4]
    simp (disch := omega) only [lit, lm1, nI_add, pk_mul, nm_eq, nm_eq', nm_lt, nm_lt', nm_le, nm_le', x_lt, x_le, x_eq, x_in, x_cl, x_div, x_sub, x_rem, x_min, x_max, x_and, x_or, x_xor, x_df, x_shl, bI_0, bI_1, bI_bo, lg_eq, toL_inj, ls_nI, decide_eq_false_iff_not, decide_eq_true_eq, Bool.true_eq_false, Bool.false_eq_true, bq, if_pos, if_neg, if_true, if_false, lq, Nat.reduceAdd, Nat.reduceMul, Nat.reduceSub, Nat.reduceDiv, Nat.reduceMod]
theorem m_quarrels {D : cpD} {E : cpE} {S : cpS} (hD : D.WF) (hE : E.WF D) (m : mA D E S) : fX12_quarrelMany S = some (nI (quM E D.P / 2), S) := by
  have p8 := hD.p8
  unfold fX12_quarrelMany quM
  simp only [lit]
  refine up_lp (F := fun n i (x : Int32) => fX12_quarrelMany_4 n x i S) (K := fun s => some (nI (s / 2), S)) D.P (fun p s => s + cnt (E.fd p)) (fun i s => s ≤ 8 * i) nI (by omega) (fun n i s hi ok => ⟨?_, ?_⟩) (fun n s ok => ?_) (Nat.zero_le _) (by decide)
  · (try dsimp only)
    have := fd_lt hD hE (show i < 8 by omega)
    rw [fX12_quarrelMany_4]
    simp (disch := omega) only [lit, lm1, nI_add, pk_mul, nm_eq, nm_eq', nm_lt, nm_lt', nm_le, nm_le', x_lt, x_le, x_eq, x_in, x_cl, x_div, x_sub, x_rem, x_min, x_max, x_and, x_or, x_xor, x_df, x_shl, bI_0, bI_1, bI_bo, lg_eq, toL_inj, ls_nI, decide_eq_false_iff_not, decide_eq_true_eq, Bool.true_eq_false, Bool.false_eq_true, bq, if_pos, if_neg, if_true, if_false, lq, Nat.reduceAdd, Nat.reduceMul, Nat.reduceSub, Nat.reduceDiv, Nat.reduceMod, m.P, m.fd, m_bits this]
  · have := cnt_le (E.fd i); (try dsimp only); omega
  · (try dsimp only)
    rw [fX12_quarrelMany_4]
    simp (disch := omega) only [lit, lm1, nI_add, pk_mul, nm_eq, nm_eq', nm_lt, nm_lt', nm_le, nm_le', x_lt, x_le, x_eq, x_in, x_cl, x_div, x_sub, x_rem, x_min, x_max, x_and, x_or, x_xor, x_df, x_shl, bI_0, bI_1, bI_bo, lg_eq, toL_inj, ls_nI, decide_eq_false_iff_not, decide_eq_true_eq, Bool.true_eq_false, Bool.false_eq_true, bq, if_pos, if_neg, if_true, if_false, lq, Nat.reduceAdd, Nat.reduceMul, Nat.reduceSub, Nat.reduceDiv, Nat.reduceMod, m.P]
def rimM (E : cpE) (N : Nat) : Int32 := up (fun c s => s + E.rim c) N 0 (nI 0)
theorem c_rims {D : cpD} {E : cpE} {S : cpS} (hD : D.WF) (hE : E.WF D) (c : cA D E S) : fX5_rimsTogether 57 S = some (rimM E D.C, S) := by
  have e0 : rimM E D.C = rimM E 4 := (up_tail hD.c4 (fun i s h1 h2 => by (try dsimp only); rw [(hE.no i h1 h2).2]; exact Int32.add_zero s) (nI 0)).symm
  rw [e0]
  unfold fX5_rimsTogether rimM
  simp only [lit]
  refine up_lp (F := fun n i (x : Int32) => fX5_rimsTogether_4 57 n x i S) (K := fun s => some (s, S)) 4 (fun c s => s + E.rim c) (fun i s => True) id (by decide) (fun n i s hi ok => ⟨?_, trivial⟩) (fun n s ok => ?_) (Nat.zero_le _) trivial
  · (try dsimp only [id])
    rw [fX5_rimsTogether_4]
    simp (disch := omega) only [lit, lm1, nI_add, pk_mul, nm_eq, nm_eq', nm_lt, nm_lt', nm_le, nm_le', x_lt, x_le, x_eq, x_in, x_cl, x_div, x_sub, x_rem, x_min, x_max, x_and, x_or, x_xor, x_df, x_shl, bI_0, bI_1, bI_bo, lg_eq, toL_inj, ls_nI, decide_eq_false_iff_not, decide_eq_true_eq, Bool.true_eq_false, Bool.false_eq_true, bq, if_pos, if_neg, if_true, if_false, lq, Nat.reduceAdd, Nat.reduceMul, Nat.reduceSub, Nat.reduceDiv, Nat.reduceMod, c.rim]
  · (try dsimp only [id])
    rw [fX5_rimsTogether_4]
    simp (disch := omega) only [lit, lm1, nI_add, pk_mul, nm_eq, nm_eq', nm_lt, nm_lt', nm_le, nm_le', x_lt, x_le, x_eq, x_in, x_cl, x_div, x_sub, x_rem, x_min, x_max, x_and, x_or, x_xor, x_df, x_shl, bI_0, bI_1, bI_bo, lg_eq, toL_inj, ls_nI, decide_eq_false_iff_not, decide_eq_true_eq, Bool.true_eq_false, Bool.false_eq_true, bq, if_pos, if_neg, if_true, if_false, lq, Nat.reduceAdd, Nat.reduceMul, Nat.reduceSub, Nat.reduceDiv, Nat.reduceMod]
theorem m_rims {D : cpD} {E : cpE} {S : cpS} (hD : D.WF) (m : mA D E S) : fX12_wornSum S = some (rimM E D.C, S) := by
  have c4 := hD.c4
  unfold fX12_wornSum rimM
  simp only [lit]
  refine up_lp (F := fun n i (x : Int32) => fX12_wornSum_4 n x i S) (K := fun s => some (s, S)) D.C (fun c s => s + E.rim c) (fun i s => True) id (by omega) (fun n i s hi ok => ⟨?_, trivial⟩) (fun n s ok => ?_) (Nat.zero_le _) trivial
  · (try dsimp only [id])
    rw [fX12_wornSum_4]
    simp (disch := omega) only [lit, lm1, nI_add, pk_mul, nm_eq, nm_eq', nm_lt, nm_lt', nm_le, nm_le', x_lt, x_le, x_eq, x_in, x_cl, x_div, x_sub, x_rem, x_min, x_max, x_and, x_or, x_xor, x_df, x_shl, bI_0, bI_1, bI_bo, lg_eq, toL_inj, ls_nI, decide_eq_false_iff_not, decide_eq_true_eq, Bool.true_eq_false, Bool.false_eq_true, bq, if_pos, if_neg, if_true, if_false, lq, Nat.reduceAdd, Nat.reduceMul, Nat.reduceSub, Nat.reduceDiv, Nat.reduceMod, m.C, m.rim]
  · (try dsimp only [id])
    rw [fX12_wornSum_4]
    simp (disch := omega) only [lit, lm1, nI_add, pk_mul, nm_eq, nm_eq', nm_lt, nm_lt', nm_le, nm_le', x_lt, x_le, x_eq, x_in, x_cl, x_div, x_sub, x_rem, x_min, x_max, x_and, x_or, x_xor, x_df, x_shl, bI_0, bI_1, bI_bo, lg_eq, toL_inj, ls_nI, decide_eq_false_iff_not, decide_eq_true_eq, Bool.true_eq_false, Bool.false_eq_true, bq, if_pos, if_neg, if_true, if_false, lq, Nat.reduceAdd, Nat.reduceMul, Nat.reduceSub, Nat.reduceDiv, Nat.reduceMod, m.C]
theorem q_count : cpQ_count cpRl := by
  intro x1 S hR
  obtain ⟨D, E, z, x, hD, hE, c, m, n, w, z9, x9, hz, hz', hx, old⟩ := hR.un
  obtain ⟨b, hb, t1, t2, -⟩ := hR.1
  have cS : cA D E S := ⟨c, n⟩
  have mS : mA D E (cpI S 150 0 (nI 0)) := mA.thr ⟨m, w⟩ hD (nI 0)
  have e80 : (cpI S 150 0 (nI 0)).1 151 80 = nI z := by rw [sIr (by decide)]; exact hz'
  have e5 : (cpI S 150 0 (nI 0)).1 150 5 = nI b := by rw [sIn (Or.inr (by decide))]; exact t2
  have hq := hR.kp (kM_thr S (nI 0)) (fun k j h => h.1)
  rcases in_or x1 11 with ⟨k, hk, rfl⟩ | h1
  · have : k = 0 ∨ k = 1 ∨ k = 2 ∨ k = 3 ∨ k = 4 ∨ k = 5 ∨ k = 6 ∨ k = 7 ∨ k = 8 ∨ k = 9 ∨ k = 10 := by omega
    rcases this with rfl | rfl | rfl | rfl | rfl | rfl | rfl | rfl | rfl | rfl | rfl
    · exact ⟨nI D.K, S, cpI S 150 0 (nI 0), by unfold fX11_count; simp (disch := omega) only [lit, lm1, nI_add, pk_mul, nm_eq, nm_eq', nm_lt, nm_lt', nm_le, nm_le', x_lt, x_le, x_eq, x_in, x_cl, x_div, x_sub, x_rem, x_min, x_max, x_and, x_or, x_xor, x_df, x_shl, bI_0, bI_1, bI_bo, lg_eq, toL_inj, ls_nI, decide_eq_false_iff_not, decide_eq_true_eq, Bool.true_eq_false, Bool.false_eq_true, bq, if_pos, if_neg, if_true, if_false, lq, Nat.reduceAdd, Nat.reduceMul, Nat.reduceSub, Nat.reduceDiv, Nat.reduceMod, cS.K], by unfold fX12_count; simp (disch := omega) only [lit, lm1, nI_add, pk_mul, nm_eq, nm_eq', nm_lt, nm_lt', nm_le, nm_le', x_lt, x_le, x_eq, x_in, x_cl, x_div, x_sub, x_rem, x_min, x_max, x_and, x_or, x_xor, x_df, x_shl, bI_0, bI_1, bI_bo, lg_eq, toL_inj, ls_nI, decide_eq_false_iff_not, decide_eq_true_eq, Bool.true_eq_false, Bool.false_eq_true, bq, if_pos, if_neg, if_true, if_false, lq, Nat.reduceAdd, Nat.reduceMul, Nat.reduceSub, Nat.reduceDiv, Nat.reduceMod, mS.K], hq⟩
    · exact ⟨nI D.R, S, cpI S 150 0 (nI 0), by unfold fX11_count; simp (disch := omega) only [lit, lm1, nI_add, pk_mul, nm_eq, nm_eq', nm_lt, nm_lt', nm_le, nm_le', x_lt, x_le, x_eq, x_in, x_cl, x_div, x_sub, x_rem, x_min, x_max, x_and, x_or, x_xor, x_df, x_shl, bI_0, bI_1, bI_bo, lg_eq, toL_inj, ls_nI, decide_eq_false_iff_not, decide_eq_true_eq, Bool.true_eq_false, Bool.false_eq_true, bq, if_pos, if_neg, if_true, if_false, lq, Nat.reduceAdd, Nat.reduceMul, Nat.reduceSub, Nat.reduceDiv, Nat.reduceMod, cS.R], by unfold fX12_count; simp (disch := omega) only [lit, lm1, nI_add, pk_mul, nm_eq, nm_eq', nm_lt, nm_lt', nm_le, nm_le', x_lt, x_le, x_eq, x_in, x_cl, x_div, x_sub, x_rem, x_min, x_max, x_and, x_or, x_xor, x_df, x_shl, bI_0, bI_1, bI_bo, lg_eq, toL_inj, ls_nI, decide_eq_false_iff_not, decide_eq_true_eq, Bool.true_eq_false, Bool.false_eq_true, bq, if_pos, if_neg, if_true, if_false, lq, Nat.reduceAdd, Nat.reduceMul, Nat.reduceSub, Nat.reduceDiv, Nat.reduceMod, mS.R], hq⟩
    · exact ⟨nI D.P, S, cpI S 150 0 (nI 0), by unfold fX11_count; simp (disch := omega) only [lit, lm1, nI_add, pk_mul, nm_eq, nm_eq', nm_lt, nm_lt', nm_le, nm_le', x_lt, x_le, x_eq, x_in, x_cl, x_div, x_sub, x_rem, x_min, x_max, x_and, x_or, x_xor, x_df, x_shl, bI_0, bI_1, bI_bo, lg_eq, toL_inj, ls_nI, decide_eq_false_iff_not, decide_eq_true_eq, Bool.true_eq_false, Bool.false_eq_true, bq, if_pos, if_neg, if_true, if_false, lq, Nat.reduceAdd, Nat.reduceMul, Nat.reduceSub, Nat.reduceDiv, Nat.reduceMod, cS.P], by unfold fX12_count; simp (disch := omega) only [lit, lm1, nI_add, pk_mul, nm_eq, nm_eq', nm_lt, nm_lt', nm_le, nm_le', x_lt, x_le, x_eq, x_in, x_cl, x_div, x_sub, x_rem, x_min, x_max, x_and, x_or, x_xor, x_df, x_shl, bI_0, bI_1, bI_bo, lg_eq, toL_inj, ls_nI, decide_eq_false_iff_not, decide_eq_true_eq, Bool.true_eq_false, Bool.false_eq_true, bq, if_pos, if_neg, if_true, if_false, lq, Nat.reduceAdd, Nat.reduceMul, Nat.reduceSub, Nat.reduceDiv, Nat.reduceMod, mS.P], hq⟩
    · exact ⟨nI D.C, S, cpI S 150 0 (nI 0), by unfold fX11_count; simp (disch := omega) only [lit, lm1, nI_add, pk_mul, nm_eq, nm_eq', nm_lt, nm_lt', nm_le, nm_le', x_lt, x_le, x_eq, x_in, x_cl, x_div, x_sub, x_rem, x_min, x_max, x_and, x_or, x_xor, x_df, x_shl, bI_0, bI_1, bI_bo, lg_eq, toL_inj, ls_nI, decide_eq_false_iff_not, decide_eq_true_eq, Bool.true_eq_false, Bool.false_eq_true, bq, if_pos, if_neg, if_true, if_false, lq, Nat.reduceAdd, Nat.reduceMul, Nat.reduceSub, Nat.reduceDiv, Nat.reduceMod, cS.C], by unfold fX12_count; simp (disch := omega) only [lit, lm1, nI_add, pk_mul, nm_eq, nm_eq', nm_lt, nm_lt', nm_le, nm_le', x_lt, x_le, x_eq, x_in, x_cl, x_div, x_sub, x_rem, x_min, x_max, x_and, x_or, x_xor, x_df, x_shl, bI_0, bI_1, bI_bo, lg_eq, toL_inj, ls_nI, decide_eq_false_iff_not, decide_eq_true_eq, Bool.true_eq_false, Bool.false_eq_true, bq, if_pos, if_neg, if_true, if_false, lq, Nat.reduceAdd, Nat.reduceMul, Nat.reduceSub, Nat.reduceDiv, Nat.reduceMod, mS.C], hq⟩
    · exact ⟨nI E.h, S, cpI S 150 0 (nI 0), by unfold fX11_count; simp (disch := omega) only [lit, lm1, nI_add, pk_mul, nm_eq, nm_eq', nm_lt, nm_lt', nm_le, nm_le', x_lt, x_le, x_eq, x_in, x_cl, x_div, x_sub, x_rem, x_min, x_max, x_and, x_or, x_xor, x_df, x_shl, bI_0, bI_1, bI_bo, lg_eq, toL_inj, ls_nI, decide_eq_false_iff_not, decide_eq_true_eq, Bool.true_eq_false, Bool.false_eq_true, bq, if_pos, if_neg, if_true, if_false, lq, Nat.reduceAdd, Nat.reduceMul, Nat.reduceSub, Nat.reduceDiv, Nat.reduceMod, cS.h], by unfold fX12_count; simp (disch := omega) only [lit, lm1, nI_add, pk_mul, nm_eq, nm_eq', nm_lt, nm_lt', nm_le, nm_le', x_lt, x_le, x_eq, x_in, x_cl, x_div, x_sub, x_rem, x_min, x_max, x_and, x_or, x_xor, x_df, x_shl, bI_0, bI_1, bI_bo, lg_eq, toL_inj, ls_nI, decide_eq_false_iff_not, decide_eq_true_eq, Bool.true_eq_false, Bool.false_eq_true, bq, if_pos, if_neg, if_true, if_false, lq, Nat.reduceAdd, Nat.reduceMul, Nat.reduceSub, Nat.reduceDiv, Nat.reduceMod, mS.h], hq⟩
    · exact ⟨nI (quM E D.P / 2), S, cpI S 150 0 (nI 0), by unfold fX11_count; simp (disch := omega) only [lit, lm1, nI_add, pk_mul, nm_eq, nm_eq', nm_lt, nm_lt', nm_le, nm_le', x_lt, x_le, x_eq, x_in, x_cl, x_div, x_sub, x_rem, x_min, x_max, x_and, x_or, x_xor, x_df, x_shl, bI_0, bI_1, bI_bo, lg_eq, toL_inj, ls_nI, decide_eq_false_iff_not, decide_eq_true_eq, Bool.true_eq_false, Bool.false_eq_true, bq, if_pos, if_neg, if_true, if_false, lq, Nat.reduceAdd, Nat.reduceMul, Nat.reduceSub, Nat.reduceDiv, Nat.reduceMod, c_quarrels hD hE cS], by unfold fX12_count; simp (disch := omega) only [lit, lm1, nI_add, pk_mul, nm_eq, nm_eq', nm_lt, nm_lt', nm_le, nm_le', x_lt, x_le, x_eq, x_in, x_cl, x_div, x_sub, x_rem, x_min, x_max, x_and, x_or, x_xor, x_df, x_shl, bI_0, bI_1, bI_bo, lg_eq, toL_inj, ls_nI, decide_eq_false_iff_not, decide_eq_true_eq, Bool.true_eq_false, Bool.false_eq_true, bq, if_pos, if_neg, if_true, if_false, lq, Nat.reduceAdd, Nat.reduceMul, Nat.reduceSub, Nat.reduceDiv, Nat.reduceMod, m_quarrels hD hE mS], hq⟩
    · exact ⟨E.ca, S, cpI S 150 0 (nI 0), by unfold fX11_count; simp (disch := omega) only [lit, lm1, nI_add, pk_mul, nm_eq, nm_eq', nm_lt, nm_lt', nm_le, nm_le', x_lt, x_le, x_eq, x_in, x_cl, x_div, x_sub, x_rem, x_min, x_max, x_and, x_or, x_xor, x_df, x_shl, bI_0, bI_1, bI_bo, lg_eq, toL_inj, ls_nI, decide_eq_false_iff_not, decide_eq_true_eq, Bool.true_eq_false, Bool.false_eq_true, bq, if_pos, if_neg, if_true, if_false, lq, Nat.reduceAdd, Nat.reduceMul, Nat.reduceSub, Nat.reduceDiv, Nat.reduceMod, cS.ca], by unfold fX12_count; simp (disch := omega) only [lit, lm1, nI_add, pk_mul, nm_eq, nm_eq', nm_lt, nm_lt', nm_le, nm_le', x_lt, x_le, x_eq, x_in, x_cl, x_div, x_sub, x_rem, x_min, x_max, x_and, x_or, x_xor, x_df, x_shl, bI_0, bI_1, bI_bo, lg_eq, toL_inj, ls_nI, decide_eq_false_iff_not, decide_eq_true_eq, Bool.true_eq_false, Bool.false_eq_true, bq, if_pos, if_neg, if_true, if_false, lq, Nat.reduceAdd, Nat.reduceMul, Nat.reduceSub, Nat.reduceDiv, Nat.reduceMod, mS.ca], hq⟩
    · exact ⟨rimM E D.C, S, cpI S 150 0 (nI 0), by unfold fX11_count; simp (disch := omega) only [lit, lm1, nI_add, pk_mul, nm_eq, nm_eq', nm_lt, nm_lt', nm_le, nm_le', x_lt, x_le, x_eq, x_in, x_cl, x_div, x_sub, x_rem, x_min, x_max, x_and, x_or, x_xor, x_df, x_shl, bI_0, bI_1, bI_bo, lg_eq, toL_inj, ls_nI, decide_eq_false_iff_not, decide_eq_true_eq, Bool.true_eq_false, Bool.false_eq_true, bq, if_pos, if_neg, if_true, if_false, lq, Nat.reduceAdd, Nat.reduceMul, Nat.reduceSub, Nat.reduceDiv, Nat.reduceMod, c_rims hD hE cS], by unfold fX12_count; simp (disch := omega) only [lit, lm1, nI_add, pk_mul, nm_eq, nm_eq', nm_lt, nm_lt', nm_le, nm_le', x_lt, x_le, x_eq, x_in, x_cl, x_div, x_sub, x_rem, x_min, x_max, x_and, x_or, x_xor, x_df, x_shl, bI_0, bI_1, bI_bo, lg_eq, toL_inj, ls_nI, decide_eq_false_iff_not, decide_eq_true_eq, Bool.true_eq_false, Bool.false_eq_true, bq, if_pos, if_neg, if_true, if_false, lq, Nat.reduceAdd, Nat.reduceMul, Nat.reduceSub, Nat.reduceDiv, Nat.reduceMod, m_rims hD mS], hq⟩
    · exact ⟨nI z, S, cpI S 150 0 (nI 0), by unfold fX11_count; simp (disch := omega) only [lit, lm1, nI_add, pk_mul, nm_eq, nm_eq', nm_lt, nm_lt', nm_le, nm_le', x_lt, x_le, x_eq, x_in, x_cl, x_div, x_sub, x_rem, x_min, x_max, x_and, x_or, x_xor, x_df, x_shl, bI_0, bI_1, bI_bo, lg_eq, toL_inj, ls_nI, decide_eq_false_iff_not, decide_eq_true_eq, Bool.true_eq_false, Bool.false_eq_true, bq, if_pos, if_neg, if_true, if_false, lq, Nat.reduceAdd, Nat.reduceMul, Nat.reduceSub, Nat.reduceDiv, Nat.reduceMod, hz], by unfold fX12_count; simp (disch := omega) only [lit, lm1, nI_add, pk_mul, nm_eq, nm_eq', nm_lt, nm_lt', nm_le, nm_le', x_lt, x_le, x_eq, x_in, x_cl, x_div, x_sub, x_rem, x_min, x_max, x_and, x_or, x_xor, x_df, x_shl, bI_0, bI_1, bI_bo, lg_eq, toL_inj, ls_nI, decide_eq_false_iff_not, decide_eq_true_eq, Bool.true_eq_false, Bool.false_eq_true, bq, if_pos, if_neg, if_true, if_false, lq, Nat.reduceAdd, Nat.reduceMul, Nat.reduceSub, Nat.reduceDiv, Nat.reduceMod, e80], hq⟩
    · exact ⟨nI b, S, cpI S 150 0 (nI 0), by unfold fX11_count; simp (disch := omega) only [lit, lm1, nI_add, pk_mul, nm_eq, nm_eq', nm_lt, nm_lt', nm_le, nm_le', x_lt, x_le, x_eq, x_in, x_cl, x_div, x_sub, x_rem, x_min, x_max, x_and, x_or, x_xor, x_df, x_shl, bI_0, bI_1, bI_bo, lg_eq, toL_inj, ls_nI, decide_eq_false_iff_not, decide_eq_true_eq, Bool.true_eq_false, Bool.false_eq_true, bq, if_pos, if_neg, if_true, if_false, lq, Nat.reduceAdd, Nat.reduceMul, Nat.reduceSub, Nat.reduceDiv, Nat.reduceMod, t1], by unfold fX12_count; simp (disch := omega) only [lit, lm1, nI_add, pk_mul, nm_eq, nm_eq', nm_lt, nm_lt', nm_le, nm_le', x_lt, x_le, x_eq, x_in, x_cl, x_div, x_sub, x_rem, x_min, x_max, x_and, x_or, x_xor, x_df, x_shl, bI_0, bI_1, bI_bo, lg_eq, toL_inj, ls_nI, decide_eq_false_iff_not, decide_eq_true_eq, Bool.true_eq_false, Bool.false_eq_true, bq, if_pos, if_neg, if_true, if_false, lq, Nat.reduceAdd, Nat.reduceMul, Nat.reduceSub, Nat.reduceDiv, Nat.reduceMod, e5], hq⟩
    · exact ⟨D.ln, S, cpI S 150 0 (nI 0), by unfold fX11_count; simp (disch := omega) only [lit, lm1, nI_add, pk_mul, nm_eq, nm_eq', nm_lt, nm_lt', nm_le, nm_le', x_lt, x_le, x_eq, x_in, x_cl, x_div, x_sub, x_rem, x_min, x_max, x_and, x_or, x_xor, x_df, x_shl, bI_0, bI_1, bI_bo, lg_eq, toL_inj, ls_nI, decide_eq_false_iff_not, decide_eq_true_eq, Bool.true_eq_false, Bool.false_eq_true, bq, if_pos, if_neg, if_true, if_false, lq, Nat.reduceAdd, Nat.reduceMul, Nat.reduceSub, Nat.reduceDiv, Nat.reduceMod, cS.ln], by unfold fX12_count; simp (disch := omega) only [lit, lm1, nI_add, pk_mul, nm_eq, nm_eq', nm_lt, nm_lt', nm_le, nm_le', x_lt, x_le, x_eq, x_in, x_cl, x_div, x_sub, x_rem, x_min, x_max, x_and, x_or, x_xor, x_df, x_shl, bI_0, bI_1, bI_bo, lg_eq, toL_inj, ls_nI, decide_eq_false_iff_not, decide_eq_true_eq, Bool.true_eq_false, Bool.false_eq_true, bq, if_pos, if_neg, if_true, if_false, lq, Nat.reduceAdd, Nat.reduceMul, Nat.reduceSub, Nat.reduceDiv, Nat.reduceMod, mS.ln], hq⟩
  · have ne := fun p (hp : p < 11) => arg_ne p h1 hp (by decide)
    refine ⟨-1, S, _, ?_, ?_, hq⟩
    · unfold fX11_count
      simp (disch := omega) only [lit, lm1, nI_add, pk_mul, nm_eq, nm_eq', nm_lt, nm_lt', nm_le, nm_le', x_lt, x_le, x_eq, x_in, x_cl, x_div, x_sub, x_rem, x_min, x_max, x_and, x_or, x_xor, x_df, x_shl, bI_0, bI_1, bI_bo, lg_eq, toL_inj, ls_nI, decide_eq_false_iff_not, decide_eq_true_eq, Bool.true_eq_false, Bool.false_eq_true, bq, if_pos, if_neg, if_true, if_false, lq, Nat.reduceAdd, Nat.reduceMul, Nat.reduceSub, Nat.reduceDiv, Nat.reduceMod, ne]
    · unfold fX12_count
      simp (disch := omega) only [lit, lm1, nI_add, pk_mul, nm_eq, nm_eq', nm_lt, nm_lt', nm_le, nm_le', x_lt, x_le, x_eq, x_in, x_cl, x_div, x_sub, x_rem, x_min, x_max, x_and, x_or, x_xor, x_df, x_shl, bI_0, bI_1, bI_bo, lg_eq, toL_inj, ls_nI, decide_eq_false_iff_not, decide_eq_true_eq, Bool.true_eq_false, Bool.false_eq_true, bq, if_pos, if_neg, if_true, if_false, lq, Nat.reduceAdd, Nat.reduceMul, Nat.reduceSub, Nat.reduceDiv, Nat.reduceMod, ne]
/-! images -/
def vC (S T : cpS) (v k : Nat) : Prop := (∀ q, (q < v ∨ v + 12 < q) → T.1 q = S.1 q) ∧ T.2 = S.2 ∧ (∀ D : cpD, D.WF → cW D S k → cW D T v) ∧ (∀ j, j < 8 → T.1 (v + 6) j = S.1 (k + 6) j) ∧ (∀ j, j < 4 → T.1 (v + 7) j = S.1 (k + 7) j) ∧ T.1 v 1 = S.1 k 1
theorem e_copyV (v k : Nat) (S : cpS) (hd : k + 13 < v ∨ v + 13 < k) : ∃ T, fX10_copyFrom v k S = some ((), T) ∧ vC S T v k := by
  have h : ∃ T, fX10_copyFrom v k S = some ((), T) ∧ (∀ q, (q < v ∨ v + 12 < q) → T.1 q = S.1 q) ∧ T.2 = S.2 ∧ (∀ j, (j = 0 ∨ j = 1 ∨ j = 2 ∨ j = 3 ∨ j = 7 ∨ j = 11) → T.1 v j = S.1 k j) ∧ (∀ j, j < 9 → T.1 (v + 1) j = S.1 (k + 1) j ∧ T.1 (v + 2) j = S.1 (k + 2) j ∧ T.1 (v + 3) j = S.1 (k + 3) j) ∧ (∀ j, j < 8 → T.1 (v + 4) j = S.1 (k + 4) j ∧ T.1 (v + 5) j = S.1 (k + 5) j ∧ T.1 (v + 6) j = S.1 (k + 6) j) ∧ (∀ j, j < 4 → T.1 (v + 7) j = S.1 (k + 7) j ∧ T.1 (v + 8) j = S.1 (k + 8) j ∧ T.1 (v + 9) j = S.1 (k + 9) j) ∧ (∀ j, j < 36 → T.1 (v + 10) j = S.1 (k + 10) j) ∧ (∀ j, 1 ≤ j → j ≤ 5 → T.1 (v + 11) j = S.1 (k + 11) j) ∧ ∀ j, j < 900 → T.1 (v + 12) j = S.1 (k + 12) j := by
    refine ⟨_, rfl, ?_, rfl, ?_, ?_, ?_, ?_, ?_, ?_, ?_⟩
    · intro q hq
      simp (disch := omega) only [sRr, sIr]
    · intro j hj
      rcases hj with rfl | rfl | rfl | rfl | rfl | rfl <;> simp (disch := omega) only [sRr, sIr, sI1, sIn]
    · intro j hj
      simp (disch := omega) only [sRr, sIr, sR1, sb_cpy0, and_self]
    · intro j hj
      simp (disch := omega) only [sRr, sIr, sR1, sb_cpy0, and_self]
    · intro j hj
      simp (disch := omega) only [sRr, sIr, sR1, sb_cpy0, and_self]
    · intro j hj
      simp (disch := omega) only [sRr, sIr, sR1, sb_cpy0]
    · intro j h1 h2
      have : j = 1 ∨ j = 2 ∨ j = 3 ∨ j = 4 ∨ j = 5 := by omega
      rcases this with rfl | rfl | rfl | rfl | rfl <;> simp (disch := omega) only [sRr, sIr, sI1, sIn]
    · intro j hj
      simp (disch := omega) only [sRr, sIr, sR1, sb_cpy0]
  obtain ⟨T, h0, h1, h2, h3, h4, h5, h6, h7, h8, h9⟩ := h
  refine ⟨T, h0, h1, h2, fun D hD c => ?_, fun j hj => (h5 j hj).2.2, fun j hj => (h6 j hj).1, h3 1 (by omega)⟩
  have r9 := hD.r9
  have p8 := hD.p8
  have c4 := hD.c4
  have k6 := hD.k6
  have hl : ∀ (l : List Nat) (x y : Nat), 1 ≤ x → x ≤ 5 → 1 ≤ y → y ≤ 5 → cL l S k x y → cL l T v x y := by
    intro l x y x1 x2 y1 y2 ⟨a, g1, g2, g3, g4⟩
    exact ⟨a, g1, by rw [h8 x x1 x2]; exact g2, by rw [h8 y y1 y2]; exact g3, fun j hj => by rw [h9 _ (by omega)]; exact g4 j hj⟩
  refine ⟨by rw [h3 0 (by omega)]; exact c.K, by rw [h3 2 (by omega)]; exact c.ln, by rw [h3 3 (by omega)]; exact c.R, by rw [h3 7 (by omega)]; exact c.P, by rw [h3 11 (by omega)]; exact c.C, fun r hr => ?_, fun r hr => ?_, fun r hr => ?_, fun a b ha hb => ?_, hl _ _ _ (by omega) (by omega) (by omega) (by omega) c.la, hl _ _ _ (by omega) (by omega) (by omega) (by omega) c.lb⟩
  · obtain ⟨g1, g2, g3⟩ := h4 r (by omega)
    rw [g1, g2, g3]; exact c.rd r hr
  · obtain ⟨g1, g2, g3⟩ := h5 r (by omega)
    rw [g1, g2]; exact c.hm r hr
  · obtain ⟨g1, g2, g3⟩ := h6 r (by omega)
    rw [g2, g3]; exact c.wt r hr
  · rw [h7 _ (by omega)]; exact c.far a b ha hb
theorem vC.kp {S T : cpS} {v k : Nat} (h : vC S T v k) {f : Nat → Nat → Prop} (hf : ∀ q j, v ≤ q → q ≤ v + 12 → f q j) : Kp f S T := fun q j n => by
  refine ⟨?_, by rw [h.2.1]⟩
  rw [h.1 q]
  by_cases e : v ≤ q ∧ q ≤ v + 12
  · exact absurd (hf q j e.1 e.2) n
  · omega
theorem mL.sh {l : List Nat} {t : Bool} {S U : cpS} {o o' i : Nat} (h : mL l t S o i) (hi : i ≤ 1) (g : ∀ j, j < 1162 → U.1 151 (o' + j) = S.1 151 (o + j)) : mL l t U o' i := by
  obtain ⟨h1, h2⟩ := h
  have e : ∀ a j, a + j < 1162 → U.1 151 (o' + a + j) = S.1 151 (o + a + j) := fun a j hj => by rw [Nat.add_assoc, g (a + j) hj, Nat.add_assoc]
  refine ⟨by rw [e _ _ (by omega)]; exact h1, fun ht => ?_⟩
  obtain ⟨f, f1, f2, f3, f4⟩ := h2 ht
  refine ⟨f, f1, by rw [e _ _ (by omega)]; exact f2, by rw [e _ _ (by omega)]; exact f3, fun j hj => ?_⟩
  rw [show o' + 262 + f + j = o' + 262 + (f + j) by omega, e _ _ (by omega), show o + 262 + (f + j) = o + 262 + f + j by omega]
  exact f4 j hj
theorem mW.sh {D : cpD} {S U : cpS} {o o' : Nat} (h : mW D S o) (hD : D.WF) (g : ∀ j, j < 1162 → U.1 151 (o' + j) = S.1 151 (o + j)) : mW D U o' := by
  have e : ∀ a j, a + j < 1162 → U.1 151 (o' + a + j) = S.1 151 (o + a + j) := fun a j hj => by rw [Nat.add_assoc, g (a + j) hj, Nat.add_assoc]
  have r9 := hD.r9
  have p8 := hD.p8
  have c4 := hD.c4
  refine ⟨by rw [g 0 (by omega)]; exact h.ln, by rw [g 1 (by omega)]; exact h.K, by rw [g 2 (by omega)]; exact h.R, by rw [g 3 (by omega)]; exact h.P, by rw [g 4 (by omega)]; exact h.C, fun r hr => ?_, fun r hr => ?_, fun r hr => ?_, h.la.sh (by decide) g, h.lb.sh (by decide) g⟩
  · have := h.rd r hr
    rw [e _ _ (by omega), Nat.add_assoc (o' + 11), e _ (3 * r + 1) (by omega), Nat.add_assoc (o' + 11), e _ (3 * r + 2) (by omega), ← Nat.add_assoc, ← Nat.add_assoc]; exact this
  · rw [e _ _ (by omega), e _ _ (by omega)]; exact h.hm r hr
  · rw [e _ _ (by omega), e _ _ (by omega)]; exact h.wt r hr
theorem rV.kp {S U : cpS} {v n o : Nat} (h : rV S v n o) {f : Nat → Nat → Prop} (g : Kp f S U) (h1 : ∀ k j, v ≤ k → k ≤ v + 12 → ¬ f k j) (h2 : ∀ k j, n ≤ k → k ≤ n + 3 → ¬ f k j) (h3 : ∀ j, o ≤ j → j < o + 1162 → (j < o + 80 ∨ o + 261 ≤ j) → ¬ f 151 j) : rV U v n o := by
  obtain ⟨D, E, hD, hE, c, m, n, w⟩ := h.un
  exact rV.mk' hD hE (c.kp g h1) (m.kp hD g (fun j a b c => h3 j a b (by omega))) (n.kp g h2) (w.kp g (fun j a b => h3 j (by omega) (by omega) (by omega)))
theorem rP.kp {S U : cpS} (h : rP S) {f : Nat → Nat → Prop} (g : Kp f S U) (h1 : ∀ k j, (k = 1 ∨ k = 113 ∨ (65 ≤ k ∧ k ≤ 104)) → ¬ f k j) (h3 : ∀ j, 80 ≤ j → j < 261 → ¬ f 151 j) : rP U := by
  obtain ⟨z, x, z9, x9, a1, a2, a3, a4⟩ := h
  refine ⟨z, x, z9, x9, by rw [g.i (h1 _ _ (by omega))]; exact a1, by rw [g.i (h3 _ (by omega) (by omega))]; exact a2, by rw [g.i (h1 _ _ (by omega))]; exact a3, fun i hi => ?_⟩
  obtain ⟨p1, p2⟩ := a4 i hi
  have el : (x + 9 - i) % 10 < 10 := Nat.mod_lt _ (by decide)
  generalize (x + 9 - i) % 10 = s at p1 p2 el
  have er : ∀ j t, t ≤ 3 → U.1 (65 + 4 * s + t) j = S.1 (65 + 4 * s + t) j := fun j t ht => g.i (h1 _ _ (by omega))
  refine ⟨p1.cg er (fun j hj => g.i (h3 _ (by omega) (by omega))), fun K P C k1 k2 k3 k4 k5 k6 => ?_⟩
  rw [g.i (h1 _ _ (by omega))] at k4 k5 k6
  exact (p2 K P C k1 k2 k3 k4 k5 k6).cg er
def cpTFY (k j : Nat) : Prop := (k = 115 ∧ (j = 1 ∨ j = 3 ∨ j = 4)) ∨ k = 116 ∨ (139 ≤ k ∧ k ≤ 146) ∨ (k = 150 ∧ (j = 5 ∨ j = 13 ∨ j = 14)) ∨ k = 153 ∨ (171 ≤ k ∧ k ≤ 173)
theorem cpRl.TFY {S U : cpS} (hR : cpRl S) {f : Nat → Nat → Prop} (g : Kp f S U) (hf : ∀ k j, f k j → ¬ cpTFY k j) : rT U ∧ rF U ∧ rY U := by
  obtain ⟨hT, hF, hY, -⟩ := hR
  have e : ∀ k j, cpTFY k j → U.1 k j = S.1 k j ∧ U.2 k j = S.2 k j := fun k j h => g k j (fun q => hf k j q h)
  have e1 : ∀ k j, cpTFY k j → U.1 k j = S.1 k j := fun k j h => (e k j h).1
  refine ⟨?_, ?_, ?_⟩
  · obtain ⟨n, h1, h2, h3, h4⟩ := hT
    refine ⟨n, h1, ?_, ?_, fun j hj => ?_⟩
    · rw [e1 115 1 (Or.inl (by omega))]; exact h2
    · rw [e1 150 5 (Or.inr (Or.inr (Or.inr (Or.inl (by omega)))))]; exact h3
    · rw [e1 153 j (Or.inr (Or.inr (Or.inr (Or.inr (Or.inl rfl))))), e1 116 j (Or.inr (Or.inl rfl))]; exact h4 j hj
  · refine ⟨?_, ?_⟩
    · rw [e1 115 3 (Or.inl (by omega)), e1 150 13 (Or.inr (Or.inr (Or.inr (Or.inl (by omega)))))]; exact hF.1
    · rw [e1 115 4 (Or.inl (by omega)), e1 150 14 (Or.inr (Or.inr (Or.inr (Or.inl (by omega)))))]; exact hF.2
  · intro t ht
    have e2 := fun j => (e (139 + 2 * t) j (Or.inr (Or.inr (Or.inl (by omega))))).1
    have e3 := fun j => (e (140 + 2 * t) j (Or.inr (Or.inr (Or.inl (by omega))))).2
    have e4 := fun k j (h : 171 ≤ k ∧ k ≤ 173) => e k j (Or.inr (Or.inr (Or.inr (Or.inr (Or.inr h)))))
    have e5 := fun j => (e4 171 j (by omega)).1
    have e6 := fun j => (e4 172 j (by omega)).1
    have e7 := fun j => (e4 173 j (by omega)).2
    simp only [e2, e3, e5, e6, e7]
    exact hY t ht
theorem q_image : cpQ_image cpRl := by
  intro x1 S hR
  have hq := hR.kp (kM_thr S (nI 0)) (fun k j h => h.1)
  rcases in_or x1 2 with ⟨i, hi, rfl⟩ | h1
  · obtain ⟨D, E, z, x, hD, hE, c, m, n, w, z9, x9, hz, hz', hx, old⟩ := hR.un
    obtain ⟨A, a1, a2⟩ := e_copyV (29 + 14 * i) 1 S (by omega)
    have kA : Kp (fun q _ => 29 + 14 * i ≤ q ∧ q ≤ 29 + 14 * i + 12) S A := a2.kp (fun q j a b => ⟨a, b⟩)
    obtain ⟨B, b1, b2⟩ := e_copyN (105 + 4 * i) 57 A (by omega)
    have kB : Kp (fun q _ => 105 + 4 * i ≤ q ∧ q ≤ 105 + 4 * i + 3) A B := b2.kp (fun q j a b => ⟨a, b⟩)
    have cA' : cW D A (29 + 14 * i) := a2.2.2.1 D hD c
    have nA : cN E A 57 := n.kp kA (fun k j a b => by omega)
    have nB : cN E B (105 + 4 * i) := nA.cp b2
    have cB : cW D B (29 + 14 * i) := cA'.kp kB (fun k j a b => by omega)
    have hc : fX11_image (nI i) S = some (nI 0, cpI B 149 i (nI 1)) := by
      unfold fX11_image
      simp (disch := omega) only [lit, lm1, nI_add, pk_mul, nm_eq, nm_eq', nm_lt, nm_lt', nm_le, nm_le', x_lt, x_le, x_eq, x_in, x_cl, x_div, x_sub, x_rem, x_min, x_max, x_and, x_or, x_xor, x_df, x_shl, bI_0, bI_1, bI_bo, lg_eq, toL_inj, ls_nI, decide_eq_false_iff_not, decide_eq_true_eq, Bool.true_eq_false, Bool.false_eq_true, bq, if_pos, if_neg, if_true, if_false, lq, Nat.reduceAdd, Nat.reduceMul, Nat.reduceSub, Nat.reduceDiv, Nat.reduceMod, a1, b1]
      rfl
    have kT : Kp (fun q j => (29 + 14 * i ≤ q ∧ q ≤ 29 + 14 * i + 12) ∨ (105 + 4 * i ≤ q ∧ q ≤ 105 + 4 * i + 3) ∨ (q = 149 ∧ j = i) ∨ (q = 150 ∧ j = 0)) S (cpI (cpI B 149 i (nI 1)) 150 0 (nI 0)) := (((kA.le (fun _ _ h => Or.inl h)).tr (kB.le (fun _ _ h => Or.inr (Or.inl h)))).I (by exact Or.inr (Or.inr (Or.inl ⟨rfl, rfl⟩)))).I (by exact Or.inr (Or.inr (Or.inr ⟨rfl, rfl⟩)))
    have kQ : Kp (fun q _ => q = 149 ∨ q = 150) B (cpI (cpI B 149 i (nI 1)) 150 0 (nI 0)) := (Kp.rf.I (by exact Or.inl rfl)).I (by exact Or.inr rfl)
    have cT : cW D (cpI (cpI B 149 i (nI 1)) 150 0 (nI 0)) (29 + 14 * i) := cB.kp kQ (fun k j a b => by omega)
    have nT : cN E (cpI (cpI B 149 i (nI 1)) 150 0 (nI 0)) (105 + 4 * i) := nB.kp kQ (fun k j a b => by omega)
    have e149 : (cpI (cpI B 149 i (nI 1)) 150 0 (nI 0)).1 149 i = nI 1 := by rw [sIr (by decide), sI1]
    have hm0 : fX12_image (nI i) (cpI B 149 i (nI 1)) = fX12_image_20 (nI i) cpFu (nI 0) (cpI (cpI B 149 i (nI 1)) 150 0 (nI 0)) := by
      unfold fX12_image
      simp (disch := omega) only [lit, lm1, nI_add, pk_mul, nm_eq, nm_eq', nm_lt, nm_lt', nm_le, nm_le', x_lt, x_le, x_eq, x_in, x_cl, x_div, x_sub, x_rem, x_min, x_max, x_and, x_or, x_xor, x_df, x_shl, bI_0, bI_1, bI_bo, lg_eq, toL_inj, ls_nI, decide_eq_false_iff_not, decide_eq_true_eq, Bool.true_eq_false, Bool.false_eq_true, bq, if_pos, if_neg, if_true, if_false, lq, Nat.reduceAdd, Nat.reduceMul, Nat.reduceSub, Nat.reduceDiv, Nat.reduceMod, m_win 2 1 (by decide)]
    generalize cpI (cpI B 149 i (nI 1)) 150 0 (nI 0) = T at kT cT nT e149 hm0
    obtain ⟨V, v1, v2⟩ : ∃ V, fX12_image_20 (nI i) cpFu (nI 0) T = some (nI 0, cpI V 152 i (nI 1)) ∧ fI T V 151 (1162 * (i + 1)) (1162 * (i + 1) + 1162) (fun j => T.1 151 (j - 1162 * (i + 1))) := by
      have := up_lpR (F := fun n k (V : cpS) => fX12_image_20 (nI i) n k V) (K := fun V => some (nI 0, cpI V 152 i (nI 1))) 1162 (fun _ (s : Unit) => s) (fun k _ V => fI T V 151 (1162 * (i + 1)) (1162 * (i + 1) + k) (fun j => T.1 151 (j - 1162 * (i + 1)))) (by decide) (fun n k s V hk hI => ?_) (fun n s V hI => ?_) (i0 := 0) (s := ()) (a := T) (Nat.zero_le _) (fI.rf T 151 _ _)
      · exact this
      · refine ⟨cpI V 151 (1162 * (i + 1) + k) (V.1 151 k), ?_, hI.nx ?_ (by omega)⟩
        · (try dsimp only)
          rw [fX12_image_20]
          simp (disch := omega) only [lit, lm1, nI_add, pk_mul, nm_eq, nm_eq', nm_lt, nm_lt', nm_le, nm_le', x_lt, x_le, x_eq, x_in, x_cl, x_div, x_sub, x_rem, x_min, x_max, x_and, x_or, x_xor, x_df, x_shl, bI_0, bI_1, bI_bo, lg_eq, toL_inj, ls_nI, decide_eq_false_iff_not, decide_eq_true_eq, Bool.true_eq_false, Bool.false_eq_true, bq, if_pos, if_neg, if_true, if_false, lq, Nat.reduceAdd, Nat.reduceMul, Nat.reduceSub, Nat.reduceDiv, Nat.reduceMod]
        · rw [hI.2.2.2 _ (by omega)]; exact congrArg (T.1 151) (by omega)
      · (try dsimp only)
        rw [fX12_image_20]
        simp (disch := omega) only [lit, lm1, nI_add, pk_mul, nm_eq, nm_eq', nm_lt, nm_lt', nm_le, nm_le', x_lt, x_le, x_eq, x_in, x_cl, x_div, x_sub, x_rem, x_min, x_max, x_and, x_or, x_xor, x_df, x_shl, bI_0, bI_1, bI_bo, lg_eq, toL_inj, ls_nI, decide_eq_false_iff_not, decide_eq_true_eq, Bool.true_eq_false, Bool.false_eq_true, bq, if_pos, if_neg, if_true, if_false, lq, Nat.reduceAdd, Nat.reduceMul, Nat.reduceSub, Nat.reduceDiv, Nat.reduceMod]
        rfl
    have kV : Kp (fun q j => (q = 151 ∧ 1162 * (i + 1) ≤ j ∧ j < 1162 * (i + 1) + 1162) ∨ (q = 152 ∧ j = i)) T (cpI V 152 i (nI 1)) := (v2.kp (fun j a b => Or.inl ⟨rfl, a, b⟩)).I (by exact Or.inr ⟨rfl, rfl⟩)
    have kU : Kp (fun q j => ((29 + 14 * i ≤ q ∧ q ≤ 29 + 14 * i + 12) ∨ (105 + 4 * i ≤ q ∧ q ≤ 105 + 4 * i + 3) ∨ (q = 149 ∧ j = i) ∨ (q = 150 ∧ j = 0)) ∨ (q = 151 ∧ 1162 * (i + 1) ≤ j ∧ j < 1162 * (i + 1) + 1162) ∨ (q = 152 ∧ j = i)) S (cpI V 152 i (nI 1)) := (kT.le (fun _ _ h => Or.inl h)).tr (kV.le (fun _ _ h => Or.inr h))
    have ev : ∀ j, j < 1162 → (cpI V 152 i (nI 1)).1 151 (1162 * (i + 1) + j) = S.1 151 (0 + j) := fun j hj => by
      rw [sIr (by decide), v2.2.2.1 _ (by omega) (by omega)]
      show T.1 151 (1162 * (i + 1) + j - 1162 * (i + 1)) = _
      rw [show 1162 * (i + 1) + j - 1162 * (i + 1) = 0 + j by omega, kT.i (by omega)]
    obtain ⟨f1, f2, f3⟩ := hR.TFY kU (fun k j h g => by unfold cpTFY at g; omega)
    refine ⟨nI 0, _, cpI V 152 i (nI 1), hc, hm0.trans v1, f1, f2, f3, hR.2.2.2.1.kp kU (fun k j a b => by omega) (fun k j a b => by omega) (fun j a b _ => by omega), hR.2.2.2.2.1.kp kU (fun k j a => by omega) (fun j a b => by omega), fun i' hi' => ?_⟩
    obtain ⟨g1, g2, g3⟩ := hR.2.2.2.2.2 i' hi'
    by_cases e : i' = i
    · subst e
      have p1 : (cpI V 152 i' (nI 1)).1 149 i' = nI 1 := by rw [kV.i (by omega)]; exact e149
      rw [p1, sI1]
      refine ⟨rfl, Or.inr rfl, fun _ => rV.mk' hD hE (cT.kp kV (fun k j a b => by omega)) (m.sh hD ev) (nT.kp kV (fun k j a b => by omega)) (w.mv (fun j hj => ?_))⟩
      rw [Nat.add_assoc, ev _ (by omega), show 0 + (62 + j) = 0 + 62 + j by omega]
    · rw [kU.i (by omega), kU.i (by omega)]
      exact ⟨g1, g2, fun h => (g3 h).kp kU (fun k j a b => by omega) (fun k j a b => by omega) (fun j a b _ => by omega)⟩
  · rcases arg_out 2 1 rfl (by decide) h1 with h | ⟨h, h2, h3, h4, h5⟩
    · exact ⟨-2, S, _, by unfold fX11_image; simp (disch := omega) only [lit, lm1, nI_add, pk_mul, nm_eq, nm_eq', nm_lt, nm_lt', nm_le, nm_le', x_lt, x_le, x_eq, x_in, x_cl, x_div, x_sub, x_rem, x_min, x_max, x_and, x_or, x_xor, x_df, x_shl, bI_0, bI_1, bI_bo, lg_eq, toL_inj, ls_nI, decide_eq_false_iff_not, decide_eq_true_eq, Bool.true_eq_false, Bool.false_eq_true, bq, if_pos, if_neg, if_true, if_false, lq, Nat.reduceAdd, Nat.reduceMul, Nat.reduceSub, Nat.reduceDiv, Nat.reduceMod, h], by unfold fX12_image; simp (disch := omega) only [lit, lm1, nI_add, pk_mul, nm_eq, nm_eq', nm_lt, nm_lt', nm_le, nm_le', x_lt, x_le, x_eq, x_in, x_cl, x_div, x_sub, x_rem, x_min, x_max, x_and, x_or, x_xor, x_df, x_shl, bI_0, bI_1, bI_bo, lg_eq, toL_inj, ls_nI, decide_eq_false_iff_not, decide_eq_true_eq, Bool.true_eq_false, Bool.false_eq_true, bq, if_pos, if_neg, if_true, if_false, lq, Nat.reduceAdd, Nat.reduceMul, Nat.reduceSub, Nat.reduceDiv, Nat.reduceMod, m_win 2 1 (by decide), h1], hq⟩
    · exact ⟨-2, S, _, by unfold fX11_image; simp (disch := omega) only [lit, lm1, nI_add, pk_mul, nm_eq, nm_eq', nm_lt, nm_lt', nm_le, nm_le', x_lt, x_le, x_eq, x_in, x_cl, x_div, x_sub, x_rem, x_min, x_max, x_and, x_or, x_xor, x_df, x_shl, bI_0, bI_1, bI_bo, lg_eq, toL_inj, ls_nI, decide_eq_false_iff_not, decide_eq_true_eq, Bool.true_eq_false, Bool.false_eq_true, bq, if_pos, if_neg, if_true, if_false, lq, Nat.reduceAdd, Nat.reduceMul, Nat.reduceSub, Nat.reduceDiv, Nat.reduceMod, h, h4], by unfold fX12_image; simp (disch := omega) only [lit, lm1, nI_add, pk_mul, nm_eq, nm_eq', nm_lt, nm_lt', nm_le, nm_le', x_lt, x_le, x_eq, x_in, x_cl, x_div, x_sub, x_rem, x_min, x_max, x_and, x_or, x_xor, x_df, x_shl, bI_0, bI_1, bI_bo, lg_eq, toL_inj, ls_nI, decide_eq_false_iff_not, decide_eq_true_eq, Bool.true_eq_false, Bool.false_eq_true, bq, if_pos, if_neg, if_true, if_false, lq, Nat.reduceAdd, Nat.reduceMul, Nat.reduceSub, Nat.reduceDiv, Nat.reduceMod, m_win 2 1 (by decide), h1], hq⟩
theorem q_restore : cpQ_restore cpRl := by
  intro x1 S hR
  have hq := hR.kp (kM_thr S (nI 0)) (fun k j h => h.1)
  rcases in_or x1 2 with ⟨i, hi, rfl⟩ | h1
  · obtain ⟨g1, g2, g3⟩ := hR.2.2.2.2.2 i hi
    have e152 : (cpI S 150 0 (nI 0)).1 152 i = S.1 149 i := by rw [sIr (by decide)]; exact g1.symm
    rcases g2 with g2 | g2
    · have g0 : S.1 149 i = nI 0 := g2
      exact ⟨-5, S, _, by unfold fX11_restore; simp (disch := omega) only [lit, lm1, nI_add, pk_mul, nm_eq, nm_eq', nm_lt, nm_lt', nm_le, nm_le', x_lt, x_le, x_eq, x_in, x_cl, x_div, x_sub, x_rem, x_min, x_max, x_and, x_or, x_xor, x_df, x_shl, bI_0, bI_1, bI_bo, lg_eq, toL_inj, ls_nI, decide_eq_false_iff_not, decide_eq_true_eq, Bool.true_eq_false, Bool.false_eq_true, bq, if_pos, if_neg, if_true, if_false, lq, Nat.reduceAdd, Nat.reduceMul, Nat.reduceSub, Nat.reduceDiv, Nat.reduceMod, g0], by unfold fX12_restore; simp (disch := omega) only [lit, lm1, nI_add, pk_mul, nm_eq, nm_eq', nm_lt, nm_lt', nm_le, nm_le', x_lt, x_le, x_eq, x_in, x_cl, x_div, x_sub, x_rem, x_min, x_max, x_and, x_or, x_xor, x_df, x_shl, bI_0, bI_1, bI_bo, lg_eq, toL_inj, ls_nI, decide_eq_false_iff_not, decide_eq_true_eq, Bool.true_eq_false, Bool.false_eq_true, bq, if_pos, if_neg, if_true, if_false, lq, Nat.reduceAdd, Nat.reduceMul, Nat.reduceSub, Nat.reduceDiv, Nat.reduceMod, m_win 2 1 (by decide), e152, g0], hq⟩
    · obtain ⟨D, E, hD, hE, c, m, n, w⟩ := (g3 g2).un
      obtain ⟨z, x, z9, x9, hz, hz', hx, old⟩ := hR.2.2.2.2.1
      have g0 : S.1 149 i = nI 1 := g2
      obtain ⟨A, a1, a2⟩ := e_copyV 1 (29 + 14 * i) S (by omega)
      have kA : Kp (fun q _ => 1 ≤ q ∧ q ≤ 13) S A := a2.kp (fun q j a b => ⟨a, by omega⟩)
      obtain ⟨B, b1, b2⟩ := e_copyN 57 (105 + 4 * i) A (by omega)
      have kB : Kp (fun q _ => 57 ≤ q ∧ q ≤ 60) A B := b2.kp (fun q j a b => ⟨a, b⟩)
      have cA' : cW D A 1 := a2.2.2.1 D hD c
      have nA : cN E A (105 + 4 * i) := n.kp kA (fun k j a b => by omega)
      have nB : cN E B 57 := nA.cp b2
      have cB : cW D B 1 := cA'.kp kB (fun k j a b => by omega)
      have hc : fX11_restore (nI i) S = some (nI 0, cpI B 113 2 (nI 0)) := by
        unfold fX11_restore fX6_forget
        simp (disch := omega) only [lit, lm1, nI_add, pk_mul, nm_eq, nm_eq', nm_lt, nm_lt', nm_le, nm_le', x_lt, x_le, x_eq, x_in, x_cl, x_div, x_sub, x_rem, x_min, x_max, x_and, x_or, x_xor, x_df, x_shl, bI_0, bI_1, bI_bo, lg_eq, toL_inj, ls_nI, decide_eq_false_iff_not, decide_eq_true_eq, Bool.true_eq_false, Bool.false_eq_true, bq, if_pos, if_neg, if_true, if_false, lq, Nat.reduceAdd, Nat.reduceMul, Nat.reduceSub, Nat.reduceDiv, Nat.reduceMod, a1, b1, g0]
      have kT : Kp (fun q j => (1 ≤ q ∧ q ≤ 13) ∨ (57 ≤ q ∧ q ≤ 60) ∨ (q = 113 ∧ j = 2) ∨ (q = 150 ∧ j = 0)) S (cpI (cpI B 113 2 (nI 0)) 150 0 (nI 0)) := (((kA.le (fun _ _ h => Or.inl h)).tr (kB.le (fun _ _ h => Or.inr (Or.inl h)))).I (by exact Or.inr (Or.inr (Or.inl ⟨rfl, rfl⟩)))).I (by exact Or.inr (Or.inr (Or.inr ⟨rfl, rfl⟩)))
      have kQ : Kp (fun q _ => q = 113 ∨ q = 150) B (cpI (cpI B 113 2 (nI 0)) 150 0 (nI 0)) := (Kp.rf.I (by exact Or.inl rfl)).I (by exact Or.inr rfl)
      have cT : cW D (cpI (cpI B 113 2 (nI 0)) 150 0 (nI 0)) 1 := cB.kp kQ (fun k j a b => by omega)
      have nT : cN E (cpI (cpI B 113 2 (nI 0)) 150 0 (nI 0)) 57 := nB.kp kQ (fun k j a b => by omega)
      have e113 : (cpI (cpI B 113 2 (nI 0)) 150 0 (nI 0)).1 113 2 = nI 0 := by rw [sIr (by decide), sI1]
      have e152' : (cpI (cpI B 113 2 (nI 0)) 150 0 (nI 0)).1 152 i = nI 1 := by rw [kT.i (by omega), ← g1]; exact g0
      have hm0 : fX12_restore (nI i) (cpI B 113 2 (nI 0)) = fX12_restore_32 (nI i) cpFu (nI 0) (cpI (cpI B 113 2 (nI 0)) 150 0 (nI 0)) := by
        unfold fX12_restore
        simp (disch := omega) only [lit, lm1, nI_add, pk_mul, nm_eq, nm_eq', nm_lt, nm_lt', nm_le, nm_le', x_lt, x_le, x_eq, x_in, x_cl, x_div, x_sub, x_rem, x_min, x_max, x_and, x_or, x_xor, x_df, x_shl, bI_0, bI_1, bI_bo, lg_eq, toL_inj, ls_nI, decide_eq_false_iff_not, decide_eq_true_eq, Bool.true_eq_false, Bool.false_eq_true, bq, if_pos, if_neg, if_true, if_false, lq, Nat.reduceAdd, Nat.reduceMul, Nat.reduceSub, Nat.reduceDiv, Nat.reduceMod, m_win 2 1 (by decide), e152']
      generalize cpI (cpI B 113 2 (nI 0)) 150 0 (nI 0) = T at kT cT nT e113 hm0
      obtain ⟨V, v1, v2⟩ : ∃ V, fX12_restore_32 (nI i) cpFu (nI 0) T = some (nI 0, cpI V 151 80 (nI 0)) ∧ fI T V 151 0 (0 + 1162) (fun j => T.1 151 (1162 * (i + 1) + j)) := by
        have := up_lpR (F := fun n k (V : cpS) => fX12_restore_32 (nI i) n k V) (K := fun V => some (nI 0, cpI V 151 80 (nI 0))) 1162 (fun _ (s : Unit) => s) (fun k _ V => fI T V 151 0 (0 + k) (fun j => T.1 151 (1162 * (i + 1) + j))) (by decide) (fun n k s V hk hI => ?_) (fun n s V hI => ?_) (i0 := 0) (s := ()) (a := T) (Nat.zero_le _) (fI.rf T 151 _ _)
        · exact this
        · refine ⟨cpI V 151 (0 + k) (V.1 151 (1162 * (i + 1) + k)), ?_, hI.nx ?_ (by omega)⟩
          · (try dsimp only)
            rw [fX12_restore_32]
            simp (disch := omega) only [lit, lm1, nI_add, pk_mul, nm_eq, nm_eq', nm_lt, nm_lt', nm_le, nm_le', x_lt, x_le, x_eq, x_in, x_cl, x_div, x_sub, x_rem, x_min, x_max, x_and, x_or, x_xor, x_df, x_shl, bI_0, bI_1, bI_bo, lg_eq, toL_inj, ls_nI, decide_eq_false_iff_not, decide_eq_true_eq, Bool.true_eq_false, Bool.false_eq_true, bq, if_pos, if_neg, if_true, if_false, lq, Nat.reduceAdd, Nat.reduceMul, Nat.reduceSub, Nat.reduceDiv, Nat.reduceMod, Nat.zero_add]
          · rw [hI.2.2.2 _ (by omega)]; exact congrArg (T.1 151) (by omega)
        · (try dsimp only)
          rw [fX12_restore_32]
          simp (disch := omega) only [lit, lm1, nI_add, pk_mul, nm_eq, nm_eq', nm_lt, nm_lt', nm_le, nm_le', x_lt, x_le, x_eq, x_in, x_cl, x_div, x_sub, x_rem, x_min, x_max, x_and, x_or, x_xor, x_df, x_shl, bI_0, bI_1, bI_bo, lg_eq, toL_inj, ls_nI, decide_eq_false_iff_not, decide_eq_true_eq, Bool.true_eq_false, Bool.false_eq_true, bq, if_pos, if_neg, if_true, if_false, lq, Nat.reduceAdd, Nat.reduceMul, Nat.reduceSub, Nat.reduceDiv, Nat.reduceMod]
      have kV : Kp (fun q j => q = 151 ∧ j < 1162) T (cpI V 151 80 (nI 0)) := (v2.kp (fun j a b => ⟨rfl, by omega⟩)).I (by exact ⟨rfl, by decide⟩)
      have kU : Kp (fun q j => ((1 ≤ q ∧ q ≤ 13) ∨ (57 ≤ q ∧ q ≤ 60) ∨ (q = 113 ∧ j = 2) ∨ (q = 150 ∧ j = 0)) ∨ (q = 151 ∧ j < 1162)) S (cpI V 151 80 (nI 0)) := (kT.le (fun _ _ h => Or.inl h)).tr (kV.le (fun _ _ h => Or.inr h))
      have ev : ∀ j, j < 1162 → V.1 151 (0 + j) = S.1 151 (1162 * (i + 1) + j) := fun j hj => by
        rw [v2.2.2.1 _ (by omega) (by omega)]
        show T.1 151 (1162 * (i + 1) + (0 + j)) = _
        rw [Nat.zero_add, kT.i (by omega)]
      have k80 : Kp (fun q j => q = 151 ∧ j = 80) V (cpI V 151 80 (nI 0)) := Kp.rf.I (by exact ⟨rfl, rfl⟩)
      obtain ⟨f1, f2, f3⟩ := hR.TFY kU (fun k j h g => by unfold cpTFY at g; omega)
      refine ⟨nI 0, _, cpI V 151 80 (nI 0), hc, hm0.trans v1, f1, f2, f3, rV.mk' hD hE (cT.kp kV (fun k j a b => by omega)) ((m.sh hD ev).kp hD k80 (fun j _ _ _ => by omega)) (nT.kp kV (fun k j a b => by omega)) (mN.kp (w.mv (w' := 0 + 62) (fun j hj => ?_)) k80 (fun j _ _ => by omega)), ⟨0, x, by omega, x9, by rw [kV.i (by omega)]; exact e113, sI1, by rw [kU.i (by omega)]; exact hx, fun i hi => absurd hi (by omega)⟩, fun i' hi' => ?_⟩
      · rw [Nat.add_assoc 0, ev _ (by omega), Nat.add_assoc]
      · obtain ⟨g1, g2, g3⟩ := hR.2.2.2.2.2 i' hi'
        rw [kU.i (by omega), kU.i (by omega)]
        exact ⟨g1, g2, fun h => (g3 h).kp kU (fun k j a b => by omega) (fun k j a b => by omega) (fun j a b _ => by omega)⟩
  · rcases arg_out 2 1 rfl (by decide) h1 with h | ⟨h, h2, h3, h4, h5⟩
    · exact ⟨-2, S, _, by unfold fX11_restore; simp (disch := omega) only [lit, lm1, nI_add, pk_mul, nm_eq, nm_eq', nm_lt, nm_lt', nm_le, nm_le', x_lt, x_le, x_eq, x_in, x_cl, x_div, x_sub, x_rem, x_min, x_max, x_and, x_or, x_xor, x_df, x_shl, bI_0, bI_1, bI_bo, lg_eq, toL_inj, ls_nI, decide_eq_false_iff_not, decide_eq_true_eq, Bool.true_eq_false, Bool.false_eq_true, bq, if_pos, if_neg, if_true, if_false, lq, Nat.reduceAdd, Nat.reduceMul, Nat.reduceSub, Nat.reduceDiv, Nat.reduceMod, h], by unfold fX12_restore; simp (disch := omega) only [lit, lm1, nI_add, pk_mul, nm_eq, nm_eq', nm_lt, nm_lt', nm_le, nm_le', x_lt, x_le, x_eq, x_in, x_cl, x_div, x_sub, x_rem, x_min, x_max, x_and, x_or, x_xor, x_df, x_shl, bI_0, bI_1, bI_bo, lg_eq, toL_inj, ls_nI, decide_eq_false_iff_not, decide_eq_true_eq, Bool.true_eq_false, Bool.false_eq_true, bq, if_pos, if_neg, if_true, if_false, lq, Nat.reduceAdd, Nat.reduceMul, Nat.reduceSub, Nat.reduceDiv, Nat.reduceMod, m_win 2 1 (by decide), h1], hq⟩
    · exact ⟨-2, S, _, by unfold fX11_restore; simp (disch := omega) only [lit, lm1, nI_add, pk_mul, nm_eq, nm_eq', nm_lt, nm_lt', nm_le, nm_le', x_lt, x_le, x_eq, x_in, x_cl, x_div, x_sub, x_rem, x_min, x_max, x_and, x_or, x_xor, x_df, x_shl, bI_0, bI_1, bI_bo, lg_eq, toL_inj, ls_nI, decide_eq_false_iff_not, decide_eq_true_eq, Bool.true_eq_false, Bool.false_eq_true, bq, if_pos, if_neg, if_true, if_false, lq, Nat.reduceAdd, Nat.reduceMul, Nat.reduceSub, Nat.reduceDiv, Nat.reduceMod, h, h4], by unfold fX12_restore; simp (disch := omega) only [lit, lm1, nI_add, pk_mul, nm_eq, nm_eq', nm_lt, nm_lt', nm_le, nm_le', x_lt, x_le, x_eq, x_in, x_cl, x_div, x_sub, x_rem, x_min, x_max, x_and, x_or, x_xor, x_df, x_shl, bI_0, bI_1, bI_bo, lg_eq, toL_inj, ls_nI, decide_eq_false_iff_not, decide_eq_true_eq, Bool.true_eq_false, Bool.false_eq_true, bq, if_pos, if_neg, if_true, if_false, lq, Nat.reduceAdd, Nat.reduceMul, Nat.reduceSub, Nat.reduceDiv, Nat.reduceMod, m_win 2 1 (by decide), h1], hq⟩
/-! the tape -/
def byt (x : Int32) (j : Nat) : Nat := x.toBitVec.toNat / 2 ^ (24 - 8 * j) % 256
theorem byt_lt (x : Int32) (j : Nat) : byt x j < 256 := Nat.mod_lt _ (by decide)
theorem c_byt (x : Int32) {j : Nat} (h : j < 4) : vp_nar .char (cpi2c ((cpUsh x (nI (24 - 8 * j))) &&& nI 255)) = nI (byt x j) := by
  have e1 : (cpUsh x (nI (24 - 8 * j))).toBitVec.toNat = x.toBitVec.toNat / 2 ^ (24 - 8 * j) := by
    refine pk_ushr x (nI (24 - 8 * j)) (24 - 8 * j) ?_
    have : ∀ j, j < 4 → (((nI (24 - 8 * j)).toUInt32 &&& Int32.toUInt32 31).toBitVec % 32).toNat = 24 - 8 * j := by decide +kernel
    exact this j h
  have e2 : (cpUsh x (nI (24 - 8 * j))) &&& nI 255 = nI (byt x j) := by rw [pk_and _ 8 (by decide), e1]; rfl
  have hb := byt_lt x j
  have e3 : cpi2c (nI (byt x j)) = nI (byt x j) := by
    unfold cpi2c
    rw [pk_char, pk_tn (by omega), Nat.mod_eq_of_lt (by omega)]
  rw [e2, e3]
  unfold vp_nar
  rw [(pk_charN (q := byt x j) (by omega)).1]
theorem m_byt (x : Int32) {j : Nat} (h : j < 4) : (cpShr x (nI (24 - 8 * j))) &&& nI 255 = nI (byt x j) := by
  have e0 : ∀ j, j < 4 → (((nI (24 - 8 * j)) &&& 31).toBitVec.smod 32).toNat = 24 - 8 * j := by decide +kernel
  have e1 : (cpShr x (nI (24 - 8 * j))).toInt = x.toInt >>> (24 - 8 * j) := pk_shr x ((nI (24 - 8 * j)) &&& 31) (24 - 8 * j) (e0 j h)
  rw [pk_and _ 8 (by decide)]
  refine congrArg nI ?_
  unfold byt
  rw [Int.shiftRight_eq_div_pow] at e1
  generalize cpShr x (nI (24 - 8 * j)) = y at e1
  have h1 : x.toInt = if 2 * x.toBitVec.toNat < 2 ^ 32 then (x.toBitVec.toNat : Int) else (x.toBitVec.toNat : Int) - (2 ^ 32 : Nat) := BitVec.toInt_eq_toNat_cond x.toBitVec
  have h2 : y.toInt = if 2 * y.toBitVec.toNat < 2 ^ 32 then (y.toBitVec.toNat : Int) else (y.toBitVec.toNat : Int) - (2 ^ 32 : Nat) := BitVec.toInt_eq_toNat_cond y.toBitVec
  have b1 : x.toBitVec.toNat < 2 ^ 32 := x.toBitVec.isLt
  have b2 : y.toBitVec.toNat < 2 ^ 32 := y.toBitVec.isLt
  generalize x.toBitVec.toNat = X at h1 b1
  generalize y.toBitVec.toNat = Y at h2 b2
  generalize x.toInt = xi at h1 e1
  generalize y.toInt = yi at h2 e1
  rcases (show j = 0 ∨ j = 1 ∨ j = 2 ∨ j = 3 by omega) with rfl | rfl | rfl | rfl <;> split at h1 <;> split at h2 <;> simp only [Nat.reduceMul, Nat.reduceSub, Nat.reducePow] at * <;> omega
theorem e_append {x : Int32} {n : Nat} {S : cpS} (hn : n + 4 ≤ 900) (h : S.1 115 1 = nI n) : ∃ T, fX7_append x S = some ((), T) ∧ T.1 115 1 = nI (n + 4) ∧ (∀ j, j < 4 → T.1 116 (n + j) = nI (byt x j)) ∧ Kp (fun q j => (q = 115 ∧ j = 1) ∨ (q = 116 ∧ n ≤ j ∧ j < n + 4)) S T := by
  have st : ∀ (f j k : Nat) (T : cpS), j < 4 → k < 900 → T.1 115 1 = nI k → fX7_append_3 x (f + 1) (nI (24 - 8 * j)) T = fX7_append_3 x f (nI (24 - 8 * j) + (-8)) (cpI (cpI T 116 k (nI (byt x j))) 115 1 (nI (k + 1))) := by
    intro f j k T hj hk hT
    have e : (cpI T 116 k (nI (byt x j))).1 115 1 = nI k := by rw [sIr (by decide)]; exact hT
    rw [fX7_append_3]
    simp (disch := omega) only [lit, x_lt, x_le, x_in, x_cl, if_neg, if_pos, lq, hT, c_byt x hj, nI_add, e]
  have u0 : S.1 115 1 = nI n := h
  let S1 := cpI (cpI S 116 n (nI (byt x 0))) 115 1 (nI (n + 1))
  let S2 := cpI (cpI S1 116 (n + 1) (nI (byt x 1))) 115 1 (nI (n + 2))
  let S3 := cpI (cpI S2 116 (n + 2) (nI (byt x 2))) 115 1 (nI (n + 3))
  let S4 := cpI (cpI S3 116 (n + 3) (nI (byt x 3))) 115 1 (nI (n + 4))
  refine ⟨S4, ?_, sI1, fun j hj => ?_, ?_⟩
  · show fX7_append_3 x (4995 + 1 + 1 + 1 + 1 + 1) (nI (24 - 8 * 0)) S = _
    rw [st _ 0 n S (by omega) (by omega) h]
    show fX7_append_3 x (4995 + 1 + 1 + 1 + 1) (nI (24 - 8 * 1)) S1 = _
    rw [st _ 1 (n + 1) S1 (by omega) (by omega) sI1]
    show fX7_append_3 x (4995 + 1 + 1 + 1) (nI (24 - 8 * 2)) S2 = _
    rw [st _ 2 (n + 2) S2 (by omega) (by omega) sI1]
    show fX7_append_3 x (4995 + 1 + 1) (nI (24 - 8 * 3)) S3 = _
    rw [st _ 3 (n + 3) S3 (by omega) (by omega) sI1]
    show fX7_append_3 x (4995 + 1) (-8) S4 = _
    rw [fX7_append_3, if_pos (by decide)]
  · show S4.1 116 (n + j) = _
    rcases (show j = 0 ∨ j = 1 ∨ j = 2 ∨ j = 3 by omega) with rfl | rfl | rfl | rfl <;> simp (disch := omega) only [S4, S3, S2, S1, sIr, sI1, sIn, Nat.add_zero]
  · refine Kp.I (Kp.I (Kp.I (Kp.I (Kp.I (Kp.I (Kp.I (Kp.I Kp.rf ?_) ?_) ?_) ?_) ?_) ?_) ?_) ?_
    · exact Or.inr ⟨rfl, by omega, by omega⟩
    · exact Or.inl ⟨rfl, rfl⟩
    · exact Or.inr ⟨rfl, by omega, by omega⟩
    · exact Or.inl ⟨rfl, rfl⟩
    · exact Or.inr ⟨rfl, by omega, by omega⟩
    · exact Or.inl ⟨rfl, rfl⟩
    · exact Or.inr ⟨rfl, by omega, by omega⟩
    · exact Or.inl ⟨rfl, rfl⟩
def ar5 (a b c d e : Int32) (k : Nat) : Int32 := if k < 4 then a else if k < 8 then b else if k < 12 then c else if k < 16 then d else e
theorem q_feed : cpQ_feed cpRl := by
  intro a b c d e S hR
  obtain ⟨n, hn, t1, t2, t3⟩ := hR.1
  by_cases h : n + 20 ≤ 900
  · obtain ⟨A, a1, a2, a3, a4⟩ := e_append (x := a) (by omega) t1
    obtain ⟨B, b1, b2, b3, b4⟩ := e_append (x := b) (by omega) a2
    obtain ⟨C, c1, c2, c3, c4⟩ := e_append (x := c) (by omega) b2
    obtain ⟨T, d1, d2, d3, d4⟩ := e_append (x := d) (by omega) c2
    obtain ⟨U, e1, e2, e3, e4⟩ := e_append (x := e) (by omega) d2
    have hU : U.1 115 1 = nI (n + 20) := by rw [e2]
    have hc : fX11_feed a b c d e S = some (nI (n + 20), U) := by
      unfold fX11_feed
      simp (disch := omega) only [lit, lm1, nI_add, pk_mul, nm_eq, nm_eq', nm_lt, nm_lt', nm_le, nm_le', x_lt, x_le, x_eq, x_in, x_cl, x_div, x_sub, x_rem, x_min, x_max, x_and, x_or, x_xor, x_df, x_shl, bI_0, bI_1, bI_bo, lg_eq, toL_inj, ls_nI, decide_eq_false_iff_not, decide_eq_true_eq, Bool.true_eq_false, Bool.false_eq_true, bq, if_pos, if_neg, if_true, if_false, lq, Nat.reduceAdd, Nat.reduceMul, Nat.reduceSub, Nat.reduceDiv, Nat.reduceMod, t1, a1, b1, c1, d1, e1, hU]
    have kU : Kp (fun q j => (q = 115 ∧ j = 1) ∨ (q = 116 ∧ n ≤ j)) S U := ((((a4.le ?_).tr (b4.le ?_)).tr (c4.le ?_)).tr (d4.le ?_)).tr (e4.le ?_)
    rotate_left
    · intro q j h; omega
    · intro q j h; omega
    · intro q j h; omega
    · intro q j h; omega
    · intro q j h; omega
    have hB : ∀ k, k < 20 → U.1 116 (n + k) = nI (byt (ar5 a b c d e k) (k % 4)) := by
      intro k hk
      unfold ar5
      by_cases h1 : k < 4
      · rw [if_pos h1, Nat.mod_eq_of_lt h1, e4.i (by omega), d4.i (by omega), c4.i (by omega), b4.i (by omega), a3 k h1]
      · by_cases h2 : k < 8
        · rw [if_neg h1, if_pos h2, e4.i (by omega), d4.i (by omega), c4.i (by omega), show n + k = n + 4 + (k - 4) by omega, b3 _ (by omega), show k % 4 = k - 4 by omega]
        · by_cases h3 : k < 12
          · rw [if_neg h1, if_neg h2, if_pos h3, e4.i (by omega), d4.i (by omega), show n + k = n + 4 + 4 + (k - 8) by omega, c3 _ (by omega), show k % 4 = k - 8 by omega]
          · by_cases h4 : k < 16
            · rw [if_neg h1, if_neg h2, if_neg h3, if_pos h4, e4.i (by omega), show n + k = n + 4 + 4 + 4 + (k - 12) by omega, d3 _ (by omega), show k % 4 = k - 12 by omega]
            · rw [if_neg h1, if_neg h2, if_neg h3, if_neg h4, show n + k = n + 4 + 4 + 4 + 4 + (k - 16) by omega, e3 _ (by omega), show k % 4 = k - 16 by omega]
    have k0 : Kp (fun q j => (q = 150 ∧ j = 0) ∨ (q = 115 ∧ j = 1) ∨ (q = 116 ∧ n ≤ j)) S (cpI U 150 0 (nI 0)) := (kU.le (fun _ _ h => Or.inr h)).I (by exact Or.inl ⟨rfl, rfl⟩)
    have h5 : (cpI U 150 0 (nI 0)).1 150 5 = nI n := by rw [k0.i (by omega)]; exact t2
    have hm0 : fX12_feed a b c d e U = fX12_feed_24 a b c d e cpFu (nI 0) (cpI U 150 0 (nI 0)) := by
      unfold fX12_feed
      simp (disch := omega) only [lit, lm1, nI_add, pk_mul, nm_eq, nm_eq', nm_lt, nm_lt', nm_le, nm_le', x_lt, x_le, x_eq, x_in, x_cl, x_div, x_sub, x_rem, x_min, x_max, x_and, x_or, x_xor, x_df, x_shl, bI_0, bI_1, bI_bo, lg_eq, toL_inj, ls_nI, decide_eq_false_iff_not, decide_eq_true_eq, Bool.true_eq_false, Bool.false_eq_true, bq, if_pos, if_neg, if_true, if_false, lq, Nat.reduceAdd, Nat.reduceMul, Nat.reduceSub, Nat.reduceDiv, Nat.reduceMod, h5]
    have hB' : ∀ k, k < 20 → (cpI U 150 0 (nI 0)).1 116 (n + k) = nI (byt (ar5 a b c d e k) (k % 4)) := fun k hk => by rw [sIr (by decide)]; exact hB k hk
    have hU' : (cpI U 150 0 (nI 0)).1 115 1 = nI (n + 20) := by rw [sIr (by decide)]; exact hU
    generalize cpI U 150 0 (nI 0) = V at k0 h5 hm0 hB' hU'
    obtain ⟨W, w1, w2, w3, w4⟩ : ∃ W, fX12_feed_24 a b c d e cpFu (nI 0) V = some (W.1 150 5, W) ∧ W.1 150 5 = nI (n + 20) ∧ (∀ j, j < 20 → W.1 153 (n + j) = nI (byt (ar5 a b c d e j) (j % 4))) ∧ Kp (fun q j => (q = 150 ∧ j = 5) ∨ (q = 153 ∧ n ≤ j)) V W := by
      have := up_lpR (F := fun f k (W : cpS) => fX12_feed_24 a b c d e f k W) (K := fun W => some (W.1 150 5, W)) 20 (fun _ (s : Unit) => s) (fun i _ W => W.1 150 5 = nI (n + i) ∧ (∀ j, j < i → W.1 153 (n + j) = nI (byt (ar5 a b c d e j) (j % 4))) ∧ Kp (fun q j => (q = 150 ∧ j = 5) ∨ (q = 153 ∧ n ≤ j)) V W) (by decide) (fun f i s W hi hI => ?_) (fun f s W hI => ?_) (i0 := 0) (s := ()) (a := V) (Nat.zero_le _) ⟨h5, fun j hj => absurd hj (by omega), Kp.rf⟩
      · exact this
      · obtain ⟨i1, i2, i3⟩ := hI
        have z : ∀ x : Int32, fX12_feed_77 a b c d e (nI i) x (fX12_feed_24 a b c d e f) W = fX12_feed_24 a b c d e f (nI (i + 1)) (cpI (cpI W 153 (n + i) (nI (byt x (i % 4)))) 150 5 (nI (n + (i + 1)))) := by
          intro x
          have e5 : (cpI W 153 (n + i) (nI (byt x (i % 4)))).1 150 5 = nI (n + i) := by rw [sIr (by decide)]; exact i1
          unfold fX12_feed_77
          simp (disch := omega) only [lit, lm1, nI_add, pk_mul, nm_eq, nm_eq', nm_lt, nm_lt', nm_le, nm_le', x_lt, x_le, x_eq, x_in, x_cl, x_div, x_sub, x_rem, x_min, x_max, x_and, x_or, x_xor, x_df, x_shl, bI_0, bI_1, bI_bo, lg_eq, toL_inj, ls_nI, decide_eq_false_iff_not, decide_eq_true_eq, Bool.true_eq_false, Bool.false_eq_true, bq, if_pos, if_neg, if_true, if_false, lq, Nat.reduceAdd, Nat.reduceMul, Nat.reduceSub, Nat.reduceDiv, Nat.reduceMod, i1, m_byt x (show i % 4 < 4 from Nat.mod_lt _ (by decide)), e5]
          rw [Nat.add_assoc]
        refine ⟨cpI (cpI W 153 (n + i) (nI (byt (ar5 a b c d e i) (i % 4)))) 150 5 (nI (n + (i + 1))), ?_, sI1, fun j hj => ?_, (i3.I (by exact Or.inr ⟨rfl, by omega⟩)).I (by exact Or.inl ⟨rfl, rfl⟩)⟩
        · (try dsimp only)
          rw [fX12_feed_24]
          unfold ar5
          by_cases h1 : i < 4
          · simp (disch := omega) only [lit, lm1, nI_add, pk_mul, nm_eq, nm_eq', nm_lt, nm_lt', nm_le, nm_le', x_lt, x_le, x_eq, x_in, x_cl, x_div, x_sub, x_rem, x_min, x_max, x_and, x_or, x_xor, x_df, x_shl, bI_0, bI_1, bI_bo, lg_eq, toL_inj, ls_nI, decide_eq_false_iff_not, decide_eq_true_eq, Bool.true_eq_false, Bool.false_eq_true, bq, if_pos, if_neg, if_true, if_false, lq, Nat.reduceAdd, Nat.reduceMul, Nat.reduceSub, Nat.reduceDiv, Nat.reduceMod, h1, z]
          · by_cases h2 : i < 8
            · simp (disch := omega) only [lit, lm1, nI_add, pk_mul, nm_eq, nm_eq', nm_lt, nm_lt', nm_le, nm_le', x_lt, x_le, x_eq, x_in, x_cl, x_div, x_sub, x_rem, x_min, x_max, x_and, x_or, x_xor, x_df, x_shl, bI_0, bI_1, bI_bo, lg_eq, toL_inj, ls_nI, decide_eq_false_iff_not, decide_eq_true_eq, Bool.true_eq_false, Bool.false_eq_true, bq, if_pos, if_neg, if_true, if_false, lq, Nat.reduceAdd, Nat.reduceMul, Nat.reduceSub, Nat.reduceDiv, Nat.reduceMod, h1, h2, z]
            · by_cases h3 : i < 12
              · simp (disch := omega) only [lit, lm1, nI_add, pk_mul, nm_eq, nm_eq', nm_lt, nm_lt', nm_le, nm_le', x_lt, x_le, x_eq, x_in, x_cl, x_div, x_sub, x_rem, x_min, x_max, x_and, x_or, x_xor, x_df, x_shl, bI_0, bI_1, bI_bo, lg_eq, toL_inj, ls_nI, decide_eq_false_iff_not, decide_eq_true_eq, Bool.true_eq_false, Bool.false_eq_true, bq, if_pos, if_neg, if_true, if_false, lq, Nat.reduceAdd, Nat.reduceMul, Nat.reduceSub, Nat.reduceDiv, Nat.reduceMod, h1, h2, h3, z]
              · by_cases h4 : i < 16
                · simp (disch := omega) only [lit, lm1, nI_add, pk_mul, nm_eq, nm_eq', nm_lt, nm_lt', nm_le, nm_le', x_lt, x_le, x_eq, x_in, x_cl, x_div, x_sub, x_rem, x_min, x_max, x_and, x_or, x_xor, x_df, x_shl, bI_0, bI_1, bI_bo, lg_eq, toL_inj, ls_nI, decide_eq_false_iff_not, decide_eq_true_eq, Bool.true_eq_false, Bool.false_eq_true, bq, if_pos, if_neg, if_true, if_false, lq, Nat.reduceAdd, Nat.reduceMul, Nat.reduceSub, Nat.reduceDiv, Nat.reduceMod, h1, h2, h3, h4, z]
                · simp (disch := omega) only [lit, lm1, nI_add, pk_mul, nm_eq, nm_eq', nm_lt, nm_lt', nm_le, nm_le', x_lt, x_le, x_eq, x_in, x_cl, x_div, x_sub, x_rem, x_min, x_max, x_and, x_or, x_xor, x_df, x_shl, bI_0, bI_1, bI_bo, lg_eq, toL_inj, ls_nI, decide_eq_false_iff_not, decide_eq_true_eq, Bool.true_eq_false, Bool.false_eq_true, bq, if_pos, if_neg, if_true, if_false, lq, Nat.reduceAdd, Nat.reduceMul, Nat.reduceSub, Nat.reduceDiv, Nat.reduceMod, h1, h2, h3, h4, z]
        · rw [sIr (by decide)]
          by_cases ej : j = i
          · subst ej; rw [sI1]
          · rw [sIn (Or.inr (by omega))]; exact i2 j (by omega)
      · (try dsimp only)
        rw [fX12_feed_24]
        simp (disch := omega) only [lit, lm1, nI_add, pk_mul, nm_eq, nm_eq', nm_lt, nm_lt', nm_le, nm_le', x_lt, x_le, x_eq, x_in, x_cl, x_div, x_sub, x_rem, x_min, x_max, x_and, x_or, x_xor, x_df, x_shl, bI_0, bI_1, bI_bo, lg_eq, toL_inj, ls_nI, decide_eq_false_iff_not, decide_eq_true_eq, Bool.true_eq_false, Bool.false_eq_true, bq, if_pos, if_neg, if_true, if_false, lq, Nat.reduceAdd, Nat.reduceMul, Nat.reduceSub, Nat.reduceDiv, Nat.reduceMod]
    rw [w2] at w1
    have kW : Kp (fun q j => ((q = 150 ∧ j = 0) ∨ (q = 115 ∧ j = 1) ∨ (q = 116 ∧ n ≤ j)) ∨ (q = 150 ∧ j = 5) ∨ (q = 153 ∧ n ≤ j)) S W := (k0.le (fun _ _ h => Or.inl h)).tr (w4.le (fun _ _ h => Or.inr h))
    refine ⟨_, U, W, hc, hm0.trans w1, ⟨n + 20, h, by rw [w4.i (by omega)]; exact hU', w2, fun j hj => ?_⟩, ?_, ?_, ?_, ?_, ?_⟩
    · by_cases ej : j < n
      · rw [kW.i (by omega), kW.i (by omega)]; exact t3 j ej
      · have e1 := w3 (j - n) (by omega)
        have e2 := hB' (j - n) (by omega)
        rw [show n + (j - n) = j by omega] at e1 e2
        rw [e1, w4.i (by omega), e2]
        exact ⟨rfl, _, byt_lt _ _, rfl⟩
    · obtain ⟨f1, f2⟩ := hR.2.1
      exact ⟨by rw [kW.i (by omega), kW.i (by omega)]; exact f1, by rw [kW.i (by omega), kW.i (by omega)]; exact f2⟩
    · intro t ht
      have e2 : ∀ j, W.1 (139 + 2 * t) j = S.1 (139 + 2 * t) j := fun j => kW.i (by omega)
      have e3 : ∀ j, W.2 (140 + 2 * t) j = S.2 (140 + 2 * t) j := fun j => kW.l (by omega)
      have e5 : ∀ j, W.1 171 j = S.1 171 j := fun j => kW.i (by omega)
      have e6 : ∀ j, W.1 172 j = S.1 172 j := fun j => kW.i (by omega)
      have e7 : ∀ j, W.2 173 j = S.2 173 j := fun j => kW.l (by omega)
      simp only [e2, e3, e5, e6, e7]
      exact hR.2.2.1 t ht
    · exact hR.2.2.2.1.kp kW (fun k j a b => by omega) (fun k j a b => by omega) (fun j a b _ => by omega)
    · exact hR.2.2.2.2.1.kp kW (fun k j a => by omega) (fun j a b => by omega)
    · intro i hi
      obtain ⟨g1, g2, g3⟩ := hR.2.2.2.2.2 i hi
      rw [kW.i (by omega), kW.i (by omega)]
      exact ⟨g1, g2, fun h => (g3 h).kp kW (fun k j a b => by omega) (fun k j a b => by omega) (fun j a b _ => by omega)⟩
  · have h5 : (cpI S 150 0 (nI 0)).1 150 5 = nI n := by rw [sIn (Or.inr (by decide))]; exact t2
    exact ⟨-5, S, _, by unfold fX11_feed; simp (disch := omega) only [lit, lm1, nI_add, pk_mul, nm_eq, nm_eq', nm_lt, nm_lt', nm_le, nm_le', x_lt, x_le, x_eq, x_in, x_cl, x_div, x_sub, x_rem, x_min, x_max, x_and, x_or, x_xor, x_df, x_shl, bI_0, bI_1, bI_bo, lg_eq, toL_inj, ls_nI, decide_eq_false_iff_not, decide_eq_true_eq, Bool.true_eq_false, Bool.false_eq_true, bq, if_pos, if_neg, if_true, if_false, lq, Nat.reduceAdd, Nat.reduceMul, Nat.reduceSub, Nat.reduceDiv, Nat.reduceMod, t1], by unfold fX12_feed; simp (disch := omega) only [lit, lm1, nI_add, pk_mul, nm_eq, nm_eq', nm_lt, nm_lt', nm_le, nm_le', x_lt, x_le, x_eq, x_in, x_cl, x_div, x_sub, x_rem, x_min, x_max, x_and, x_or, x_xor, x_df, x_shl, bI_0, bI_1, bI_bo, lg_eq, toL_inj, ls_nI, decide_eq_false_iff_not, decide_eq_true_eq, Bool.true_eq_false, Bool.false_eq_true, bq, if_pos, if_neg, if_true, if_false, lq, Nat.reduceAdd, Nat.reduceMul, Nat.reduceSub, Nat.reduceDiv, Nat.reduceMod, h5], hR.kp (kM_thr S (nI 0)) (fun k j h => h.1)⟩
