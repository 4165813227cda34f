/-! roads; guards -/
def jn (D : cpD) (r a b : Nat) : Bool := (decide ((D.rd r).1 = a) && decide ((D.rd r).2.1 = b)) || (decide ((D.rd r).1 = b) && decide ((D.rd r).2.1 = a))
def jnd (D : cpD) (a b : Nat) : Bool := (ff (fun r => jn D r a b) D.R 0).isSome
section GU
variable {D : cpD} {E : cpE} {S : cpS}
theorem c_joins (hD : D.WF) (c : cA D E S) {r a b : Nat} (hr : r < D.R) (ha : a < 2 ^ 31) (hb : b < 2 ^ 31) : fX10_joins 1 (nI r) (nI a) (nI b) S = some (bI (jn D r a b), S) := by
  have r9 := hD.r9
  have k6 := hD.k6
  obtain ⟨w1, w2, w0, w3, w4⟩ := hD.rd r hr
  unfold fX10_joins fX10_joins_20 jn
  simp (disch := omega) only [lit, lm1, nI_add, pk_mul, nm_eq, nm_eq', nm_lt, nm_lt', nm_le, nm_le', x_lt, x_le, x_eq, x_in, x_cl, x_div, x_sub, x_rem, x_min, x_max, x_and, x_or, x_xor, x_df, x_shl, bI_0, bI_1, bI_bo, lg_eq, toL_inj, ls_nI, decide_eq_false_iff_not, decide_eq_true_eq, Bool.true_eq_false, Bool.false_eq_true, bq, if_pos, if_neg, if_true, if_false, lq, Nat.reduceAdd, Nat.reduceMul, Nat.reduceSub, Nat.reduceDiv, Nat.reduceMod, c.r1, c.r2]
  generalize (D.rd r).1 = x
  generalize (D.rd r).2.1 = y
  rcases Classical.propComplete (x = a) with e1 | e1 <;> rcases Classical.propComplete (y = b) with e2 | e2 <;> rcases Classical.propComplete (x = b) with e3 | e3 <;> rcases Classical.propComplete (y = a) with e4 | e4 <;> simp only [e1, e2, e3, e4, if_true, if_false, decide_true, decide_false] <;> first | rfl | (exfalso; simp only [eq_iff_iff, iff_true, iff_false] at e1 e2 e3 e4; omega)
theorem m_joins (hD : D.WF) (m : mA D E S) {r a b : Nat} (hr : r < D.R) (ha : a < 2 ^ 31) (hb : b < 2 ^ 31) : fX12_joins (nI r) (nI a) (nI b) S = some (bI (jn D r a b), S) := by
  have r9 := hD.r9
  have k6 := hD.k6
  obtain ⟨w1, w2, w0, w3, w4⟩ := hD.rd r hr
  unfold fX12_joins fX12_joins_40 jn
  simp (disch := omega) only [lit, lm1, nI_add, pk_mul, nm_eq, nm_eq', nm_lt, nm_lt', nm_le, nm_le', x_lt, x_le, x_eq, x_in, x_cl, x_div, x_sub, x_rem, x_min, x_max, x_and, x_or, x_xor, x_df, x_shl, bI_0, bI_1, bI_bo, lg_eq, toL_inj, ls_nI, decide_eq_false_iff_not, decide_eq_true_eq, Bool.true_eq_false, Bool.false_eq_true, bq, if_pos, if_neg, if_true, if_false, lq, Nat.reduceAdd, Nat.reduceMul, Nat.reduceSub, Nat.reduceDiv, Nat.reduceMod, m.r1, m.r2]
  generalize (D.rd r).1 = x
  generalize (D.rd r).2.1 = y
  rcases Classical.propComplete (x = a) with e1 | e1 <;> rcases Classical.propComplete (y = b) with e2 | e2 <;> rcases Classical.propComplete (x = b) with e3 | e3 <;> rcases Classical.propComplete (y = a) with e4 | e4 <;> simp only [e1, e2, e3, e4, if_true, if_false, decide_true, decide_false] <;> first | rfl | (exfalso; simp only [eq_iff_iff, iff_true, iff_false] at e1 e2 e3 e4; omega)
theorem c_joined (hD : D.WF) (c : cA D E S) {a b : Nat} (ha : a < 2 ^ 31) (hb : b < 2 ^ 31) : fX10_joined 1 (nI a) (nI b) S = some (bI (jnd D a b), S) := by
  have r9 := hD.r9
  unfold fX10_joined jnd
  simp only [lit]
  refine ff_lp (F := fun f i (T : cpS) => fX10_joined_2 1 (nI a) (nI b) f i T) D.R (fun r => jn D r a b) (fun _ T => T = S) (fun o r => r = some (bI o.isSome, S)) (by omega) (fun f i T hi hT hp' => ⟨S, ?_, rfl⟩) (fun f i T hi hT hp' => ?_) (fun f T hT => ?_) (i0 := 0) (a := S) (Nat.zero_le _) rfl
  · subst hT
    rw [fX10_joined_2]
    simp (disch := omega) only [lit, lm1, nI_add, pk_mul, nm_eq, nm_eq', nm_lt, nm_lt', nm_le, nm_le', x_lt, x_le, x_eq, x_in, x_cl, x_div, x_sub, x_rem, x_min, x_max, x_and, x_or, x_xor, x_df, x_shl, bI_0, bI_1, bI_bo, lg_eq, toL_inj, ls_nI, decide_eq_false_iff_not, decide_eq_true_eq, Bool.true_eq_false, Bool.false_eq_true, bq, if_pos, if_neg, if_true, if_false, lq, Nat.reduceAdd, Nat.reduceMul, Nat.reduceSub, Nat.reduceDiv, Nat.reduceMod, c.R, c_joins hD c hi ha hb, hp']
  · subst hT
    rw [fX10_joined_2]
    simp (disch := omega) only [lit, lm1, nI_add, pk_mul, nm_eq, nm_eq', nm_lt, nm_lt', nm_le, nm_le', x_lt, x_le, x_eq, x_in, x_cl, x_div, x_sub, x_rem, x_min, x_max, x_and, x_or, x_xor, x_df, x_shl, bI_0, bI_1, bI_bo, lg_eq, toL_inj, ls_nI, decide_eq_false_iff_not, decide_eq_true_eq, Bool.true_eq_false, Bool.false_eq_true, bq, if_pos, if_neg, if_true, if_false, lq, Nat.reduceAdd, Nat.reduceMul, Nat.reduceSub, Nat.reduceDiv, Nat.reduceMod, c.R, c_joins hD c hi ha hb, hp']
    rfl
  · subst hT
    rw [fX10_joined_2]
    simp (disch := omega) only [lit, lm1, nI_add, pk_mul, nm_eq, nm_eq', nm_lt, nm_lt', nm_le, nm_le', x_lt, x_le, x_eq, x_in, x_cl, x_div, x_sub, x_rem, x_min, x_max, x_and, x_or, x_xor, x_df, x_shl, bI_0, bI_1, bI_bo, lg_eq, toL_inj, ls_nI, decide_eq_false_iff_not, decide_eq_true_eq, Bool.true_eq_false, Bool.false_eq_true, bq, if_pos, if_neg, if_true, if_false, lq, Nat.reduceAdd, Nat.reduceMul, Nat.reduceSub, Nat.reduceDiv, Nat.reduceMod, c.R]
    rfl
theorem m_joined (hD : D.WF) (m : mA D E S) {a b : Nat} (ha : a < 2 ^ 31) (hb : b < 2 ^ 31) : fX12_areJoined (nI a) (nI b) S = some (bI (jnd D a b), S) := by
  have r9 := hD.r9
  unfold fX12_areJoined jnd
  simp only [lit]
  refine ff_lp (F := fun f i (T : cpS) => fX12_areJoined_2 (nI a) (nI b) f i T) D.R (fun r => jn D r a b) (fun _ T => T = S) (fun o r => r = some (bI o.isSome, S)) (by omega) (fun f i T hi hT hp' => ⟨S, ?_, rfl⟩) (fun f i T hi hT hp' => ?_) (fun f T hT => ?_) (i0 := 0) (a := S) (Nat.zero_le _) rfl
  · subst hT
    rw [fX12_areJoined_2]
    simp (disch := omega) only [lit, lm1, nI_add, pk_mul, nm_eq, nm_eq', nm_lt, nm_lt', nm_le, nm_le', x_lt, x_le, x_eq, x_in, x_cl, x_div, x_sub, x_rem, x_min, x_max, x_and, x_or, x_xor, x_df, x_shl, bI_0, bI_1, bI_bo, lg_eq, toL_inj, ls_nI, decide_eq_false_iff_not, decide_eq_true_eq, Bool.true_eq_false, Bool.false_eq_true, bq, if_pos, if_neg, if_true, if_false, lq, Nat.reduceAdd, Nat.reduceMul, Nat.reduceSub, Nat.reduceDiv, Nat.reduceMod, m.R, m_joins hD m hi ha hb, hp']
  · subst hT
    rw [fX12_areJoined_2]
    simp (disch := omega) only [lit, lm1, nI_add, pk_mul, nm_eq, nm_eq', nm_lt, nm_lt', nm_le, nm_le', x_lt, x_le, x_eq, x_in, x_cl, x_div, x_sub, x_rem, x_min, x_max, x_and, x_or, x_xor, x_df, x_shl, bI_0, bI_1, bI_bo, lg_eq, toL_inj, ls_nI, decide_eq_false_iff_not, decide_eq_true_eq, Bool.true_eq_false, Bool.false_eq_true, bq, if_pos, if_neg, if_true, if_false, lq, Nat.reduceAdd, Nat.reduceMul, Nat.reduceSub, Nat.reduceDiv, Nat.reduceMod, m.R, m_joins hD m hi ha hb, hp']
    rfl
  · subst hT
    rw [fX12_areJoined_2]
    simp (disch := omega) only [lit, lm1, nI_add, pk_mul, nm_eq, nm_eq', nm_lt, nm_lt', nm_le, nm_le', x_lt, x_le, x_eq, x_in, x_cl, x_div, x_sub, x_rem, x_min, x_max, x_and, x_or, x_xor, x_df, x_shl, bI_0, bI_1, bI_bo, lg_eq, toL_inj, ls_nI, decide_eq_false_iff_not, decide_eq_true_eq, Bool.true_eq_false, Bool.false_eq_true, bq, if_pos, if_neg, if_true, if_false, lq, Nat.reduceAdd, Nat.reduceMul, Nat.reduceSub, Nat.reduceDiv, Nat.reduceMod, m.R]
    rfl
/-! sets that grow come to rest -/
def it {σ : Type} (f : σ → σ) (n : Nat) (s : σ) : σ := up (fun _ s => f s) n 0 s
theorem it_s {σ : Type} (f : σ → σ) (n : Nat) (s : σ) : it f (n + 1) s = f (it f n s) := up_last _ n 0 s
theorem sm_lt {f g : Nat → Nat} (h : ∀ i, f i ≤ g i) : ∀ {n k : Nat}, k < n → f k < g k → sm f n < sm g n
  | 0, k, hk, _ => absurd hk (by omega)
  | n + 1, k, hk, e => by
    have hle : ∀ n, sm f n ≤ sm g n := fun n => by
      induction n with
      | zero => exact Nat.le_refl _
      | succ n ih => have := h n; rw [sm, sm]; omega
    rw [sm, sm]
    by_cases e' : k = n
    · have := hle n; rw [e'] at e; omega
    · have := sm_lt h (n := n) (k := k) (by omega) e; have := h n; omega
def sub (s t : Nat) : Prop := ∀ i, s.testBit i = true → t.testBit i = true
theorem cnt_sub {s t : Nat} (h : sub s t) (ht : t < 256) (hn : s ≠ t) : cnt s < cnt t := by
  have hb : ∀ i, (s.testBit i).toNat ≤ (t.testBit i).toNat := fun i => by
    cases e : s.testBit i
    · exact Nat.zero_le _
    · rw [h i e]; exact Nat.le_refl _
  obtain ⟨k, hk⟩ : ∃ k, s.testBit k ≠ t.testBit k := by
    refine Classical.byContradiction (fun q => hn (Nat.eq_of_testBit_eq (fun i => ?_)))
    exact Classical.byContradiction (fun e => q ⟨i, e⟩)
  have h1 : s.testBit k = false := by
    cases e : s.testBit k
    · rfl
    · rw [e, h k e] at hk; exact absurd rfl hk
  have h2 : t.testBit k = true := by
    cases e : t.testBit k
    · rw [h1, e] at hk; exact absurd rfl hk
    · rfl
  have k8 : k < 8 := by
    by_cases e : k < 8
    · exact e
    · have := bit_ge (n := 8) ht (show 8 ≤ k by omega); rw [h2] at this; cases this
  rw [cnt_sm, cnt_sm]
  exact sm_lt hb k8 (by rw [h1, h2]; decide)
theorem cnt_leP {x P : Nat} (hP : P ≤ 8) (hx : x < 2 ^ P) : cnt x ≤ P := by
  rw [cnt_smP hP hx]
  have := sm_le (fun i => (x.testBit i).toNat) 1 (n := P) (fun i _ => bn_le _)
  omega
theorem it_stab {f : Nat → Nat} {K : Nat} (hK : K ≤ 8) (hf : ∀ s, s < 2 ^ K → f s < 2 ^ K ∧ sub s (f s)) {s : Nat} (hs : s < 2 ^ K) (h0 : 1 ≤ cnt s) (h1 : 1 ≤ K) : ∀ n, K - 1 ≤ n → it f n s = it f (K - 1) s := by
  have hl : ∀ n, it f n s < 2 ^ K := by
    intro n
    induction n with
    | zero => exact hs
    | succ n ih => rw [it_s]; exact (hf _ ih).1
  have k256 : 2 ^ K ≤ 256 := pow_le (n := 8) hK
  have hg : ∀ n, it f (n + 1) s ≠ it f n s → cnt (it f n s) < cnt (it f (n + 1) s) := fun n e => by
    have := (hf _ (hl n)).2
    rw [← it_s f] at this
    exact cnt_sub this (by have := hl (n + 1); omega) (Ne.symm e)
  have hc : ∀ n, (∃ m, m ≤ n ∧ it f (m + 1) s = it f m s) ∨ n + 2 ≤ cnt (it f (n + 1) s) := by
    intro n
    induction n with
    | zero =>
      by_cases e : it f (0 + 1) s = it f 0 s
      · exact Or.inl ⟨0, by omega, e⟩
      · have := hg 0 e
        have e0 : it f 0 s = s := rfl
        rw [e0] at this
        exact Or.inr (by omega)
    | succ n ih =>
      rcases ih with ⟨m, h1, h2⟩ | ih
      · exact Or.inl ⟨m, by omega, h2⟩
      · by_cases e : it f (n + 1 + 1) s = it f (n + 1) s
        · exact Or.inl ⟨n + 1, by omega, e⟩
        · have := hg (n + 1) e; exact Or.inr (by omega)
  obtain ⟨m, m1, m2⟩ : ∃ m, m ≤ K - 1 ∧ it f (m + 1) s = it f m s := by
    rcases hc (K - 1) with h | h
    · exact h
    · have := cnt_leP hK (hl (K - 1 + 1)); omega
  have hst : ∀ d, it f (m + d) s = it f m s := by
    intro d
    induction d with
    | zero => rfl
    | succ d ih => rw [← Nat.add_assoc, it_s, ih, ← it_s f]; exact m2
  intro n hn
  rw [show n = m + (n - m) by omega, hst, show K - 1 = m + (K - 1 - m) by omega, hst]
/-! guards -/
def en (D : cpD) (r : Nat) : Nat := 2 ^ (D.rd r).1 ||| 2 ^ (D.rd r).2.1
def gdS (D : cpD) (g r s : Nat) : Nat := if en D r &&& s = 0 then s else if en D r &&& g = 0 then s ||| en D r else s
def gdR (D : cpD) (g s : Nat) : Nat := up (gdS D g) D.R 0 s
theorem en_lt (hD : D.WF) {r : Nat} (hr : r < D.R) : en D r < 2 ^ D.K := by
  obtain ⟨w1, w2, -⟩ := hD.rd r hr
  exact or_lt (two_lt w1) (two_lt w2)
theorem gdS_lt (hD : D.WF) {g r s : Nat} (hr : r < D.R) (hs : s < 2 ^ D.K) : gdS D g r s < 2 ^ D.K := by
  unfold gdS
  split
  · exact hs
  · split
    · exact or_lt hs (en_lt hD hr)
    · exact hs
theorem gdR_lt (hD : D.WF) {g s : Nat} (hs : s < 2 ^ D.K) : gdR D g s < 2 ^ D.K := up_inv (gdS D g) D.R (fun _ s => s < 2 ^ D.K) (fun i s hi h => gdS_lt hD hi h) D.R 0 s (by omega) hs
theorem gdR_sub (g s : Nat) : sub s (gdR D g s) := fun i h => up_inv (gdS D g) D.R (fun _ s => s.testBit i = true) (fun r s hr h => by
  unfold gdS
  split
  · exact h
  · split
    · rw [Nat.testBit_or, h]; rfl
    · exact h) D.R 0 s (by omega) h
theorem and0 {a b : Nat} : (a &&& b = 0) ↔ ∀ i, a.testBit i = true → b.testBit i = false := by
  refine ⟨fun h i hi => ?_, fun h => Nat.eq_of_testBit_eq (fun i => ?_)⟩
  · have := congrArg (fun x => x.testBit i) h
    simp only [Nat.testBit_and, hi, Nat.zero_testBit, Bool.true_and] at this
    exact this
  · rw [Nat.testBit_and, Nat.zero_testBit]
    cases e : a.testBit i
    · rfl
    · rw [h i e]; rfl
theorem or_sub {a b : Nat} (h : sub b a) : a ||| b = a := by
  apply Nat.eq_of_testBit_eq
  intro i
  rw [Nat.testBit_or]
  cases e : b.testBit i
  · simp
  · rw [h i e]; rfl
/-- the reference's step is the class's on what isn't guarded -/
theorem gdS_m {g r s : Nat} (hs : s &&& g = 0) : (if s &&& en D r = 0 then s else s ||| cpDf (en D r) g) = gdS D g r s := by
  unfold gdS
  rw [Nat.and_comm s (en D r)]
  by_cases h : en D r &&& s = 0
  · rw [if_pos h, if_pos h]
  · rw [if_neg h, if_neg h]
    by_cases h2 : en D r &&& g = 0
    · rw [if_pos h2]
      congr 1
      apply Nat.eq_of_testBit_eq
      intro i
      rw [df_bit]
      cases e : (en D r).testBit i
      · rfl
      · rw [and0.mp h2 i e]; rfl
    · rw [if_neg h2]
      refine or_sub (fun i hi => ?_)
      rw [df_bit] at hi
      obtain ⟨j, j1, j2⟩ : ∃ j, (en D r).testBit j = true ∧ s.testBit j = true := by
        refine Classical.byContradiction (fun q => h (and0.mpr (fun j hj => ?_)))
        cases e : s.testBit j
        · rfl
        · exact absurd ⟨j, hj, e⟩ q
      obtain ⟨k, k1, k2⟩ : ∃ j, (en D r).testBit j = true ∧ g.testBit j = true := by
        refine Classical.byContradiction (fun q => h2 (and0.mpr (fun j hj => ?_)))
        cases e : g.testBit j
        · rfl
        · exact absurd ⟨j, hj, e⟩ q
      have eb : ∀ j, (en D r).testBit j = true → j = (D.rd r).1 ∨ j = (D.rd r).2.1 := fun j hj => by
        unfold en at hj
        rw [Nat.testBit_or, Nat.testBit_two_pow, Nat.testBit_two_pow] at hj
        by_cases e1 : (D.rd r).1 = j
        · exact Or.inl e1.symm
        · by_cases e2 : (D.rd r).2.1 = j
          · exact Or.inr e2.symm
          · rw [decide_eq_false e1, decide_eq_false e2] at hj; cases hj
      have gi : g.testBit i = false := by cases e : g.testBit i; rfl; rw [e] at hi; simp at hi
      have ei : (en D r).testBit i = true := by cases e : (en D r).testBit i; rw [e] at hi; cases hi; rfl
      have jk : j ≠ k := fun e => by have := and0.mp hs j j2; rw [e, k2] at this; cases this
      have ik : i ≠ k := fun e => by rw [e, k2] at gi; cases gi
      have : i = j := by
        rcases eb i ei with e1 | e1 <;> rcases eb j j1 with e2 | e2 <;> rcases eb k k1 with e3 | e3 <;> first | (rw [e1, e2]; done) | (exact absurd (e1.trans e3.symm) ik) | (exact absurd (e2.trans e3.symm) jk)
      rw [this]; exact j2
theorem gdS_dj {g r s : Nat} (hs : s &&& g = 0) : gdS D g r s &&& g = 0 := by
  unfold gdS
  split
  · exact hs
  · split
    · rename_i h2
      rw [and0] at *
      intro i hi
      rw [Nat.testBit_or] at hi
      cases e : s.testBit i
      · rw [e, Bool.false_or] at hi; exact h2 i hi
      · exact hs i e
    · exact hs
theorem gdR_dj {g s : Nat} (hs : s &&& g = 0) : gdR D g s &&& g = 0 := up_inv (gdS D g) D.R (fun _ s => s &&& g = 0) (fun i s hi h => gdS_dj h) D.R 0 s (by omega) hs
theorem c_passed22 (hD : D.WF) (c : cA D E S) {g s : Nat} (x4 : Int32) (hg : g < 2 ^ D.K) (hs : s < 2 ^ D.K) (k : Int32 → Int32 → cpS → Option (Int32 × cpS)) : fX1_passedFrom_22 (nI g) x4 k cpFu (nI s) (nI 0) S = k (nI (gdR D g s)) (x4 + 1) S := by
  have r9 := hD.r9
  have k6 := hD.k6
  have k64 : 2 ^ D.K ≤ 64 := pow_le (n := 6) k6
  refine up_lp (F := fun n i (x : Int32) => fX1_passedFrom_22 (nI g) x4 k n x i S) (K := fun a => k (nI a) (x4 + 1) S) D.R (gdS D g) (fun _ a => a < 2 ^ D.K) nI (by omega) (fun n r a hr ok => ⟨?_, gdS_lt hD hr ok⟩) (fun n a ok => ?_) (Nat.zero_le _) hs
  · obtain ⟨w1, w2, -⟩ := hD.rd r hr
    have h1 : en D r &&& a < 2 ^ D.K := Nat.lt_of_le_of_lt Nat.and_le_right ok
    have h2 : en D r &&& g < 2 ^ D.K := Nat.lt_of_le_of_lt Nat.and_le_right hg
    rw [fX1_passedFrom_22]
    unfold gdS
    simp (disch := omega) only [lit, lm1, nI_add, pk_mul, nm_eq, nm_eq', nm_lt, nm_lt', nm_le, nm_le', x_lt, x_le, x_eq, x_in, x_cl, x_div, x_sub, x_rem, x_min, x_max, x_and, x_or, x_xor, x_df, x_shl, bI_0, bI_1, bI_bo, lg_eq, toL_inj, ls_nI, decide_eq_false_iff_not, decide_eq_true_eq, Bool.true_eq_false, Bool.false_eq_true, bq, if_pos, if_neg, if_true, if_false, lq, Nat.reduceAdd, Nat.reduceMul, Nat.reduceSub, Nat.reduceDiv, Nat.reduceMod, c.R, c.r1, c.r2]
    show (if nI (en D r &&& a) = nI 0 then _ else if nI (en D r &&& g) = nI 0 then fX1_passedFrom_22 (nI g) x4 k n (nI (a ||| en D r)) (nI (r + 1)) S else _) = _
    simp (disch := omega) only [lit, lm1, nI_add, pk_mul, nm_eq, nm_eq', nm_lt, nm_lt', nm_le, nm_le', x_lt, x_le, x_eq, x_in, x_cl, x_div, x_sub, x_rem, x_min, x_max, x_and, x_or, x_xor, x_df, x_shl, bI_0, bI_1, bI_bo, lg_eq, toL_inj, ls_nI, decide_eq_false_iff_not, decide_eq_true_eq, Bool.true_eq_false, Bool.false_eq_true, bq, if_pos, if_neg, if_true, if_false, lq, Nat.reduceAdd, Nat.reduceMul, Nat.reduceSub, Nat.reduceDiv, Nat.reduceMod]
    by_cases h3 : en D r &&& a = 0
    · rw [if_pos h3, if_pos h3]
    · rw [if_neg h3, if_neg h3]
      by_cases h4 : en D r &&& g = 0
      · rw [if_pos h4, if_pos h4]
      · rw [if_neg h4, if_neg h4]
  · rw [fX1_passedFrom_22]
    simp (disch := omega) only [lit, lm1, nI_add, pk_mul, nm_eq, nm_eq', nm_lt, nm_lt', nm_le, nm_le', x_lt, x_le, x_eq, x_in, x_cl, x_div, x_sub, x_rem, x_min, x_max, x_and, x_or, x_xor, x_df, x_shl, bI_0, bI_1, bI_bo, lg_eq, toL_inj, ls_nI, decide_eq_false_iff_not, decide_eq_true_eq, Bool.true_eq_false, Bool.false_eq_true, bq, if_pos, if_neg, if_true, if_false, lq, Nat.reduceAdd, Nat.reduceMul, Nat.reduceSub, Nat.reduceDiv, Nat.reduceMod, c.R]
theorem c_passed (hD : D.WF) (c : cA D E S) {a g : Nat} (ha : a < D.K) (hg : g < 2 ^ D.K) : fX1_passedFrom (nI a) (nI g) S = some (nI (it (gdR D g) (D.K - 1) (2 ^ a)), S) := by
  have k6 := hD.k6
  have k1 := hD.k1
  have e : it (gdR D g) (D.K - 1) (2 ^ a) = up (fun _ s => gdR D g s) (D.K - 1) 1 (2 ^ a) := by
    unfold it
    have : ∀ d i j s, up (fun _ s => gdR D g s) d i s = up (fun _ s => gdR D g s) d j s := by
      intro d
      induction d with
      | zero => intro i j s; rfl
      | succ d ih => intro i j s; exact ih (i + 1) (j + 1) _
    exact this _ _ _ _
  rw [e]
  unfold fX1_passedFrom
  simp (disch := omega) only [lit, lm1, nI_add, pk_mul, nm_eq, nm_eq', nm_lt, nm_lt', nm_le, nm_le', x_lt, x_le, x_eq, x_in, x_cl, x_div, x_sub, x_rem, x_min, x_max, x_and, x_or, x_xor, x_df, x_shl, bI_0, bI_1, bI_bo, lg_eq, toL_inj, ls_nI, decide_eq_false_iff_not, decide_eq_true_eq, Bool.true_eq_false, Bool.false_eq_true, bq, if_pos, if_neg, if_true, if_false, lq, Nat.reduceAdd, Nat.reduceMul, Nat.reduceSub, Nat.reduceDiv, Nat.reduceMod]
  refine up_lp (F := fun n i (x : Int32) => fX1_passedFrom_7 (nI g) n x i S) (K := fun a => some (nI a, S)) D.K (fun _ s => gdR D g s) (fun _ a => a < 2 ^ D.K) nI (by omega) (fun n i s hi ok => ⟨?_, gdR_lt hD ok⟩) (fun n a ok => ?_) k1 (two_lt ha)
  · rw [fX1_passedFrom_7]
    simp (disch := omega) only [lit, lm1, nI_add, pk_mul, nm_eq, nm_eq', nm_lt, nm_lt', nm_le, nm_le', x_lt, x_le, x_eq, x_in, x_cl, x_div, x_sub, x_rem, x_min, x_max, x_and, x_or, x_xor, x_df, x_shl, bI_0, bI_1, bI_bo, lg_eq, toL_inj, ls_nI, decide_eq_false_iff_not, decide_eq_true_eq, Bool.true_eq_false, Bool.false_eq_true, bq, if_pos, if_neg, if_true, if_false, lq, Nat.reduceAdd, Nat.reduceMul, Nat.reduceSub, Nat.reduceDiv, Nat.reduceMod, c.K, c_passed22 hD c _ hg ok]
  · rw [fX1_passedFrom_7]
    simp (disch := omega) only [lit, lm1, nI_add, pk_mul, nm_eq, nm_eq', nm_lt, nm_lt', nm_le, nm_le', x_lt, x_le, x_eq, x_in, x_cl, x_div, x_sub, x_rem, x_min, x_max, x_and, x_or, x_xor, x_df, x_shl, bI_0, bI_1, bI_bo, lg_eq, toL_inj, ls_nI, decide_eq_false_iff_not, decide_eq_true_eq, Bool.true_eq_false, Bool.false_eq_true, bq, if_pos, if_neg, if_true, if_false, lq, Nat.reduceAdd, Nat.reduceMul, Nat.reduceSub, Nat.reduceDiv, Nat.reduceMod, c.K]
theorem m_leads18 (hD : D.WF) (m : mA D E S) {g s : Nat} (x2 x5 : Int32) (hg : g < 2 ^ D.K) (hs : s < 2 ^ D.K) (hd : s &&& g = 0) (k : Int32 → Int32 → cpS → Option (Int32 × cpS)) : fX12_leads_18 x2 (nI g) x5 k cpFu (nI s) (nI 0) S = k (nI (gdR D g s)) (x5 + 1) S := by
  have r9 := hD.r9
  have k6 := hD.k6
  have k64 : 2 ^ D.K ≤ 64 := pow_le (n := 6) k6
  refine up_lp (F := fun n i (x : Int32) => fX12_leads_18 x2 (nI g) x5 k n x i S) (K := fun a => k (nI a) (x5 + 1) S) D.R (gdS D g) (fun _ a => a < 2 ^ D.K ∧ a &&& g = 0) nI (by omega) (fun n r a hr ok => ⟨?_, gdS_lt hD hr ok.1, gdS_dj ok.2⟩) (fun n a ok => ?_) (Nat.zero_le _) ⟨hs, hd⟩
  · obtain ⟨w1, w2, -⟩ := hD.rd r hr
    obtain ⟨o1, o2⟩ := ok
    have h1 : a &&& en D r < 2 ^ D.K := Nat.lt_of_le_of_lt Nat.and_le_left o1
    rw [fX12_leads_18, ← gdS_m o2]
    simp (disch := omega) only [lit, lm1, nI_add, pk_mul, nm_eq, nm_eq', nm_lt, nm_lt', nm_le, nm_le', x_lt, x_le, x_eq, x_in, x_cl, x_div, x_sub, x_rem, x_min, x_max, x_and, x_or, x_xor, x_df, x_shl, bI_0, bI_1, bI_bo, lg_eq, toL_inj, ls_nI, decide_eq_false_iff_not, decide_eq_true_eq, Bool.true_eq_false, Bool.false_eq_true, bq, if_pos, if_neg, if_true, if_false, lq, Nat.reduceAdd, Nat.reduceMul, Nat.reduceSub, Nat.reduceDiv, Nat.reduceMod, m.R, m.r1, m.r2]
    show (if nI (a &&& en D r) = nI 0 then _ else fX12_leads_18 x2 (nI g) x5 k n (nI (a ||| cpDf (en D r) g)) (nI (r + 1)) S) = _
    simp (disch := omega) only [lit, lm1, nI_add, pk_mul, nm_eq, nm_eq', nm_lt, nm_lt', nm_le, nm_le', x_lt, x_le, x_eq, x_in, x_cl, x_div, x_sub, x_rem, x_min, x_max, x_and, x_or, x_xor, x_df, x_shl, bI_0, bI_1, bI_bo, lg_eq, toL_inj, ls_nI, decide_eq_false_iff_not, decide_eq_true_eq, Bool.true_eq_false, Bool.false_eq_true, bq, if_pos, if_neg, if_true, if_false, lq, Nat.reduceAdd, Nat.reduceMul, Nat.reduceSub, Nat.reduceDiv, Nat.reduceMod]
    by_cases h3 : a &&& en D r = 0
    · rw [if_pos h3, if_pos h3]
    · rw [if_neg h3, if_neg h3]
  · rw [fX12_leads_18]
    simp (disch := omega) only [lit, lm1, nI_add, pk_mul, nm_eq, nm_eq', nm_lt, nm_lt', nm_le, nm_le', x_lt, x_le, x_eq, x_in, x_cl, x_div, x_sub, x_rem, x_min, x_max, x_and, x_or, x_xor, x_df, x_shl, bI_0, bI_1, bI_bo, lg_eq, toL_inj, ls_nI, decide_eq_false_iff_not, decide_eq_true_eq, Bool.true_eq_false, Bool.false_eq_true, bq, if_pos, if_neg, if_true, if_false, lq, Nat.reduceAdd, Nat.reduceMul, Nat.reduceSub, Nat.reduceDiv, Nat.reduceMod, m.R]
theorem m_leads (hD : D.WF) (m : mA D E S) {a b g : Nat} (ha : a < D.K) (hb : b < D.K) (hg : g < 2 ^ D.K) (hn : g.testBit a = false) : fX12_leads (nI a) (nI b) (nI g) S = some (bI ((it (gdR D g) (D.K - 1) (2 ^ a)).testBit b), S) := by
  have k6 := hD.k6
  have k64 : 2 ^ D.K ≤ 64 := pow_le (n := 6) k6
  have h0 : 1 ≤ cnt (2 ^ a) := by
    have : ∀ a, a < 6 → 1 ≤ cnt (2 ^ a) := by decide +kernel
    exact this a (by omega)
  rw [← it_stab (f := gdR D g) (K := D.K) (by omega) (fun s hs => ⟨gdR_lt hD hs, gdR_sub g s⟩) (two_lt ha) h0 hD.k1 6 (by omega)]
  unfold fX12_leads it
  simp (disch := omega) only [lit, lm1, nI_add, pk_mul, nm_eq, nm_eq', nm_lt, nm_lt', nm_le, nm_le', x_lt, x_le, x_eq, x_in, x_cl, x_div, x_sub, x_rem, x_min, x_max, x_and, x_or, x_xor, x_df, x_shl, bI_0, bI_1, bI_bo, lg_eq, toL_inj, ls_nI, decide_eq_false_iff_not, decide_eq_true_eq, Bool.true_eq_false, Bool.false_eq_true, bq, if_pos, if_neg, if_true, if_false, lq, Nat.reduceAdd, Nat.reduceMul, Nat.reduceSub, Nat.reduceDiv, Nat.reduceMod]
  refine up_lp (F := fun n i (x : Int32) => fX12_leads_8 (nI b) (nI g) n x i S) (K := fun s => some (bI (s.testBit b), S)) 6 (fun _ s => gdR D g s) (fun _ s => s < 2 ^ D.K ∧ s &&& g = 0) nI (by omega) (fun n i s hi ok => ⟨?_, gdR_lt hD ok.1, gdR_dj ok.2⟩) (fun n s ok => ?_) (Nat.zero_le _) ⟨two_lt ha, ?_⟩
  · rw [fX12_leads_8]
    simp (disch := omega) only [lit, lm1, nI_add, pk_mul, nm_eq, nm_eq', nm_lt, nm_lt', nm_le, nm_le', x_lt, x_le, x_eq, x_in, x_cl, x_div, x_sub, x_rem, x_min, x_max, x_and, x_or, x_xor, x_df, x_shl, bI_0, bI_1, bI_bo, lg_eq, toL_inj, ls_nI, decide_eq_false_iff_not, decide_eq_true_eq, Bool.true_eq_false, Bool.false_eq_true, bq, if_pos, if_neg, if_true, if_false, lq, Nat.reduceAdd, Nat.reduceMul, Nat.reduceSub, Nat.reduceDiv, Nat.reduceMod, m_leads18 hD m _ _ hg ok.1 ok.2]
  · obtain ⟨o1, o2⟩ := ok
    rw [fX12_leads_8]
    simp (disch := omega) only [lit, lm1, nI_add, pk_mul, nm_eq, nm_eq', nm_lt, nm_lt', nm_le, nm_le', x_lt, x_le, x_eq, x_in, x_cl, x_div, x_sub, x_rem, x_min, x_max, x_and, x_or, x_xor, x_df, x_shl, bI_0, bI_1, bI_bo, lg_eq, toL_inj, ls_nI, decide_eq_false_iff_not, decide_eq_true_eq, Bool.true_eq_false, Bool.false_eq_true, bq, if_pos, if_neg, if_true, if_false, lq, Nat.reduceAdd, Nat.reduceMul, Nat.reduceSub, Nat.reduceDiv, Nat.reduceMod, m_isIn]
  · rw [and0]
    intro i hi
    rw [Nat.testBit_two_pow] at hi
    rw [← of_decide_eq_true hi]; exact hn
/-- guards g keep the way from a to b -/
def gok (D : cpD) (a b g : Nat) : Bool := !g.testBit a && !g.testBit b && !(it (gdR D g) (D.K - 1) (2 ^ a)).testBit b
def btr (b x : Nat) : Prop := cnt b < cnt x ∨ (cnt b = cnt x ∧ b ≤ x)
def isB (D : cpD) (a b m : Nat) : Prop := m < 2 ^ D.K ∧ gok D a b m = true ∧ ∀ x, x < 2 ^ D.K → gok D a b x = true → btr m x
theorem isB_uniq {a b m n : Nat} (h : isB D a b m) (g : isB D a b n) : m = n := by
  obtain ⟨h1, h2, h3⟩ := h
  obtain ⟨g1, g2, g3⟩ := g
  rcases h3 n g1 g2 with e | e <;> rcases g3 m h1 h2 with e' | e' <;> omega
def gdF (D : cpD) (a b g : Nat) (o : Option Nat) : Option Nat := if gok D a b g then lfB g o else o
theorem c_guards24 (hD : D.WF) (c : cA D E S) {a b : Nat} (ha : a < D.K) (hb : b < D.K) : fX1_fewestGuards_24 (nI a) (nI b) cpFu nM (nI 0) S = some (oI (up (gdF D a b) (2 ^ D.K) 0 none), S) := by
  have k6 := hD.k6
  have k64 : 2 ^ D.K ≤ 64 := pow_le (n := 6) k6
  refine up_lp (F := fun n i (x : Int32) => fX1_fewestGuards_24 (nI a) (nI b) n x i S) (K := fun o => some (oI o, S)) (2 ^ D.K) (gdF D a b) (fun _ o => ∀ b, o = some b → b < 2 ^ D.K) oI (by omega) (fun n g o hg ok => ⟨?_, fun x hx => ?_⟩) (fun n o ok => ?_) (Nat.zero_le _) (s := none) (fun b hb => by cases hb)
  · have hc := cnt_le g
    have hg2 : g < 256 := by omega
    have hi := gdR_lt (D := D) hD (g := g) (s := 2 ^ a) (two_lt ha)
    have hit : ∀ n, it (gdR D g) n (2 ^ a) < 2 ^ D.K := fun n => by
      induction n with
      | zero => exact two_lt ha
      | succ n ih => rw [it_s]; exact gdR_lt hD ih
    have hit' := hit (D.K - 1)
    rw [fX1_fewestGuards_24]
    have hk : cpShl (nI 1) (nI D.K) = nI (2 ^ D.K) := x_shl (by omega)
    have f60 : ∀ (x : Int32) (y : Option Nat), x = oI y → fX1_fewestGuards_60 (nI a) (nI b) x (nI g) (nI 1) (fX1_fewestGuards_24 (nI a) (nI b) n) S = fX1_fewestGuards_24 (nI a) (nI b) n (oI (if gok D a b g then some g else y)) (nI (g + 1)) S := by
      intro x y hx
      subst hx
      unfold fX1_fewestGuards_60 gok
      simp (disch := omega) only [lit, lm1, nI_add, pk_mul, nm_eq, nm_eq', nm_lt, nm_lt', nm_le, nm_le', x_lt, x_le, x_eq, x_in, x_cl, x_div, x_sub, x_rem, x_min, x_max, x_and, x_or, x_xor, x_df, x_shl, bI_0, bI_1, bI_bo, lg_eq, toL_inj, ls_nI, decide_eq_false_iff_not, decide_eq_true_eq, Bool.true_eq_false, Bool.false_eq_true, bq, if_pos, if_neg, if_true, if_false, lq, Nat.reduceAdd, Nat.reduceMul, Nat.reduceSub, Nat.reduceDiv, Nat.reduceMod, e_isIn, c_passed hD c ha hg]
      cases g.testBit a <;> cases g.testBit b <;> cases (it (gdR D g) (D.K - 1) (2 ^ a)).testBit b <;> rfl
    have f60' : ∀ (x : Int32), fX1_fewestGuards_60 (nI a) (nI b) x (nI g) (nI 0) (fX1_fewestGuards_24 (nI a) (nI b) n) S = fX1_fewestGuards_24 (nI a) (nI b) n x (nI (g + 1)) S := by
      intro x
      unfold fX1_fewestGuards_60
      simp (disch := omega) only [lit, lm1, nI_add, pk_mul, nm_eq, nm_eq', nm_lt, nm_lt', nm_le, nm_le', x_lt, x_le, x_eq, x_in, x_cl, x_div, x_sub, x_rem, x_min, x_max, x_and, x_or, x_xor, x_df, x_shl, bI_0, bI_1, bI_bo, lg_eq, toL_inj, ls_nI, decide_eq_false_iff_not, decide_eq_true_eq, Bool.true_eq_false, Bool.false_eq_true, bq, if_pos, if_neg, if_true, if_false, lq, Nat.reduceAdd, Nat.reduceMul, Nat.reduceSub, Nat.reduceDiv, Nat.reduceMod]
    unfold gdF lfB
    cases o with
    | none =>
      simp (disch := omega) only [lit, lm1, nI_add, pk_mul, nm_eq, nm_eq', nm_lt, nm_lt', nm_le, nm_le', x_lt, x_le, x_eq, x_in, x_cl, x_div, x_sub, x_rem, x_min, x_max, x_and, x_or, x_xor, x_df, x_shl, bI_0, bI_1, bI_bo, lg_eq, toL_inj, ls_nI, decide_eq_false_iff_not, decide_eq_true_eq, Bool.true_eq_false, Bool.false_eq_true, bq, if_pos, if_neg, if_true, if_false, lq, Nat.reduceAdd, Nat.reduceMul, Nat.reduceSub, Nat.reduceDiv, Nat.reduceMod, c.K, hk, oI, eq_self, f60 nM none rfl]
    | some x =>
      have hx := ok x rfl
      have hx2 : x < 256 := by omega
      have hcx := cnt_le x
      by_cases h : cnt g < cnt x
      · simp (disch := omega) only [lit, lm1, nI_add, pk_mul, nm_eq, nm_eq', nm_lt, nm_lt', nm_le, nm_le', x_lt, x_le, x_eq, x_in, x_cl, x_div, x_sub, x_rem, x_min, x_max, x_and, x_or, x_xor, x_df, x_shl, bI_0, bI_1, bI_bo, lg_eq, toL_inj, ls_nI, decide_eq_false_iff_not, decide_eq_true_eq, Bool.true_eq_false, Bool.false_eq_true, bq, if_pos, if_neg, if_true, if_false, lq, Nat.reduceAdd, Nat.reduceMul, Nat.reduceSub, Nat.reduceDiv, Nat.reduceMod, c.K, hk, oI, c_bc hg2, c_bc hx2, h, f60 (nI x) (some x) rfl]
      · simp (disch := omega) only [lit, lm1, nI_add, pk_mul, nm_eq, nm_eq', nm_lt, nm_lt', nm_le, nm_le', x_lt, x_le, x_eq, x_in, x_cl, x_div, x_sub, x_rem, x_min, x_max, x_and, x_or, x_xor, x_df, x_shl, bI_0, bI_1, bI_bo, lg_eq, toL_inj, ls_nI, decide_eq_false_iff_not, decide_eq_true_eq, Bool.true_eq_false, Bool.false_eq_true, bq, if_pos, if_neg, if_true, if_false, lq, Nat.reduceAdd, Nat.reduceMul, Nat.reduceSub, Nat.reduceDiv, Nat.reduceMod, c.K, hk, oI, c_bc hg2, c_bc hx2, h, f60']
        cases gok D a b g <;> rfl
  · unfold gdF lfB at hx
    split at hx
    · cases o with
      | none => cases hx; exact hg
      | some y =>
        (try dsimp only at hx)
        split at hx
        · cases hx; exact hg
        · exact ok x hx
    · exact ok x hx
  · have hk : cpShl (nI 1) (nI D.K) = nI (2 ^ D.K) := x_shl (by omega)
    rw [fX1_fewestGuards_24]
    simp (disch := omega) only [lit, lm1, nI_add, pk_mul, nm_eq, nm_eq', nm_lt, nm_lt', nm_le, nm_le', x_lt, x_le, x_eq, x_in, x_cl, x_div, x_sub, x_rem, x_min, x_max, x_and, x_or, x_xor, x_df, x_shl, bI_0, bI_1, bI_bo, lg_eq, toL_inj, ls_nI, decide_eq_false_iff_not, decide_eq_true_eq, Bool.true_eq_false, Bool.false_eq_true, bq, if_pos, if_neg, if_true, if_false, lq, Nat.reduceAdd, Nat.reduceMul, Nat.reduceSub, Nat.reduceDiv, Nat.reduceMod, c.K, hk]
/-- the least of all -/
theorem gd_fold {a b : Nat} : ∀ o, o = up (gdF D a b) (2 ^ D.K) 0 none → (∃ x, x < 2 ^ D.K ∧ gok D a b x = true) → ∃ m, o = some m ∧ isB D a b m := by
  intro o ho hx
  have := up_inv (gdF D a b) (2 ^ D.K) (fun i o => match o with
    | none => ∀ x, x < i → gok D a b x = false
    | some m => m < i ∧ gok D a b m = true ∧ ∀ x, x < i → gok D a b x = true → btr m x) (fun i o hi h => ?_) (2 ^ D.K) 0 none (by omega) (fun x hx => absurd hx (by omega))
  · rw [← ho] at this
    cases o with
    | none => obtain ⟨x, x1, x2⟩ := hx; rw [this x x1] at x2; cases x2
    | some m => exact ⟨m, rfl, this⟩
  · unfold gdF lfB
    cases hg : gok D a b i
    · cases o with
      | none =>
        intro x hx
        by_cases e : x = i
        · rw [e]; exact hg
        · exact h x (by omega)
      | some m =>
        refine ⟨by have := h.1; omega, h.2.1, fun x hx hgx => ?_⟩
        by_cases e : x = i
        · rw [e, hg] at hgx; cases hgx
        · exact h.2.2 x (by omega) hgx
    · cases o with
      | none =>
        refine ⟨by omega, hg, fun x hx hgx => ?_⟩
        by_cases e : x = i
        · rw [e]; exact Or.inr ⟨rfl, Nat.le_refl _⟩
        · have := h x (by omega); rw [hgx] at this; cases this
      | some m =>
        obtain ⟨h1, h2, h3⟩ := h
        by_cases e : cnt i < cnt m
        · simp only [if_true, e]
          refine ⟨by omega, hg, fun x hx hgx => ?_⟩
          by_cases e' : x = i
          · rw [e']; exact Or.inr ⟨rfl, Nat.le_refl _⟩
          · rcases h3 x (by omega) hgx with q | q
            · exact Or.inl (by omega)
            · exact Or.inl (by omega)
        · simp only [if_true, if_false, e]
          refine ⟨by omega, h2, fun x hx hgx => ?_⟩
          by_cases e' : x = i
          · rw [e']
            by_cases e'' : cnt m < cnt i
            · exact Or.inl e''
            · exact Or.inr ⟨by omega, by omega⟩
          · exact h3 x (by omega) hgx
/-- all places but two keep any way, if no road joins these -/
theorem gok_all (hD : D.WF) {a b : Nat} (ha : a < D.K) (hb : b < D.K) (hn : a ≠ b) (hj : jnd D a b = false) : gok D a b (cpDf (2 ^ D.K - 1) (2 ^ a ||| 2 ^ b)) = true := by
  have gb : ∀ i, (cpDf (2 ^ D.K - 1) (2 ^ a ||| 2 ^ b)).testBit i = (decide (i < D.K) && !(decide (a = i) || decide (b = i))) := fun i => by
    rw [df_bit, Nat.testBit_two_pow_sub_one, Nat.testBit_or, Nat.testBit_two_pow, Nat.testBit_two_pow]
  generalize hg : cpDf (2 ^ D.K - 1) (2 ^ a ||| 2 ^ b) = g at gb
  have hj' : ∀ r, r < D.R → jn D r a b = false := by
    unfold jnd at hj
    have : ff (fun r => jn D r a b) D.R 0 = none := by
      cases e : ff (fun r => jn D r a b) D.R 0 with
      | none => rfl
      | some k => rw [e] at hj; cases hj
    intro r hr
    exact (ff_none D.R 0).mp this r (by omega) (by omega)
  have st : ∀ r, r < D.R → gdS D g r (2 ^ a) = 2 ^ a := by
    intro r hr
    obtain ⟨w1, w2, w0, -⟩ := hD.rd r hr
    have hr' := hj' r hr
    unfold gdS
    by_cases h : en D r &&& 2 ^ a = 0
    · rw [if_pos h]
    · rw [if_neg h, if_neg]
      intro h2
      apply h
      rw [and0] at *
      intro i hi
      rw [Nat.testBit_two_pow]
      by_cases e : a = i
      · exfalso
        subst e
        have q1 : ∀ j, (en D r).testBit j = (decide ((D.rd r).1 = j) || decide ((D.rd r).2.1 = j)) := fun j => by
          unfold en
          rw [Nat.testBit_or, Nat.testBit_two_pow, Nat.testBit_two_pow]
        have h3 : ∀ j, (D.rd r).1 = j ∨ (D.rd r).2.1 = j → j < D.K → j = a ∨ j = b := fun j hj hk => by
          have := h2 j (by rw [q1]; rcases hj with e | e <;> simp [e])
          rw [gb, decide_eq_true hk] at this
          by_cases e1 : a = j
          · exact Or.inl e1.symm
          · by_cases e2 : b = j
            · exact Or.inr e2.symm
            · rw [decide_eq_false e1, decide_eq_false e2] at this; cases this
        have h4 := h3 _ (Or.inl rfl) w1
        have h5 := h3 _ (Or.inr rfl) w2
        unfold jn at hr'
        rcases h4 with e1 | e1 <;> rcases h5 with e2 | e2
        · exact w0 (e1.trans e2.symm)
        · rw [e1, e2] at hr'; simp at hr'
        · rw [e1, e2] at hr'; simp at hr'
        · exact w0 (e1.trans e2.symm)
      · exact decide_eq_false e
  have rd : gdR D g (2 ^ a) = 2 ^ a := up_inv (gdS D g) D.R (fun _ s => s = 2 ^ a) (fun i s hi h => by rw [h]; exact st i hi) D.R 0 (2 ^ a) (by omega) rfl
  have ri : ∀ n, it (gdR D g) n (2 ^ a) = 2 ^ a := fun n => by
    induction n with
    | zero => rfl
    | succ n ih => rw [it_s, ih, rd]
  unfold gok
  rw [ri, gb, gb, Nat.testBit_two_pow, decide_eq_false hn]
  simp
theorem m_guardS (hD : D.WF) (m : mA D E S) {a b i x : Nat} (ha : a < D.K) (hb : b < D.K) (hi : i < 2 ^ D.K) (hx : x < 2 ^ D.K) (k : Int32) (f : Nat) : fX12_guards_78 (nI a) (nI b) k (f + 1) (nI x) (nI i) S = fX12_guards_78 (nI a) (nI b) k f (nI (if gok D a b i && decide (cnt i ≤ cnt x) then i else x)) (nI i + (-1)) S := by
  have k6 := hD.k6
  have k64 : 2 ^ D.K ≤ 64 := pow_le (n := 6) k6
  have hi2 : i < 256 := by omega
  have hx2 : x < 256 := by omega
  have c1 := cnt_le i
  have c2 := cnt_le x
  have hlt : i &&& (2 ^ a ||| 2 ^ b) < 2 ^ D.K := Nat.lt_of_le_of_lt Nat.and_le_left hi
  rw [fX12_guards_78]
  by_cases h : i &&& (2 ^ a ||| 2 ^ b) = 0
  · have hb' := and0.mp (by rw [Nat.and_comm]; exact h : (2 ^ a ||| 2 ^ b) &&& i = 0)
    have ia : i.testBit a = false := hb' a (by rw [Nat.testBit_or, Nat.testBit_two_pow]; simp)
    have ib : i.testBit b = false := hb' b (by rw [Nat.testBit_or, Nat.testBit_two_pow, Nat.testBit_two_pow]; simp)
    have hgk : gok D a b i = !(it (gdR D i) (D.K - 1) (2 ^ a)).testBit b := by unfold gok; rw [ia, ib]; rfl
    rw [hgk]
    by_cases h2 : cnt x < cnt i
    · rw [decide_eq_false (show ¬ cnt i ≤ cnt x by omega), Bool.and_false]
      simp (disch := omega) only [lit, lm1, nI_add, pk_mul, nm_eq, nm_eq', nm_lt, nm_lt', nm_le, nm_le', x_lt, x_le, x_eq, x_in, x_cl, x_div, x_sub, x_rem, x_min, x_max, x_and, x_or, x_xor, x_df, x_shl, bI_0, bI_1, bI_bo, lg_eq, toL_inj, ls_nI, decide_eq_false_iff_not, decide_eq_true_eq, Bool.true_eq_false, Bool.false_eq_true, bq, if_pos, if_neg, if_true, if_false, lq, Nat.reduceAdd, Nat.reduceMul, Nat.reduceSub, Nat.reduceDiv, Nat.reduceMod, h, m_bits hi2, m_bits hx2, h2]
    · rw [decide_eq_true (show cnt i ≤ cnt x by omega), Bool.and_true]
      simp (disch := omega) only [lit, lm1, nI_add, pk_mul, nm_eq, nm_eq', nm_lt, nm_lt', nm_le, nm_le', x_lt, x_le, x_eq, x_in, x_cl, x_div, x_sub, x_rem, x_min, x_max, x_and, x_or, x_xor, x_df, x_shl, bI_0, bI_1, bI_bo, lg_eq, toL_inj, ls_nI, decide_eq_false_iff_not, decide_eq_true_eq, Bool.true_eq_false, Bool.false_eq_true, bq, if_pos, if_neg, if_true, if_false, lq, Nat.reduceAdd, Nat.reduceMul, Nat.reduceSub, Nat.reduceDiv, Nat.reduceMod, h, m_bits hi2, m_bits hx2, h2, m_leads hD m ha hb hi ia]
      cases (it (gdR D i) (D.K - 1) (2 ^ a)).testBit b <;> rfl
  · have hgk : gok D a b i = false := by
      cases e : gok D a b i
      · rfl
      · exfalso
        apply h
        rw [Nat.and_comm, and0]
        intro j hj
        rw [Nat.testBit_or, Nat.testBit_two_pow, Nat.testBit_two_pow] at hj
        unfold gok at e
        by_cases ea : a = j
        · cases e' : i.testBit j
          · rfl
          · rw [ea, e'] at e; cases e
        · by_cases eb : b = j
          · cases e' : i.testBit j
            · rfl
            · rw [eb, e'] at e; simp at e
          · rw [decide_eq_false ea, decide_eq_false eb] at hj; cases hj
    rw [hgk]
    simp (disch := omega) only [lit, lm1, nI_add, pk_mul, nm_eq, nm_eq', nm_lt, nm_lt', nm_le, nm_le', x_lt, x_le, x_eq, x_in, x_cl, x_div, x_sub, x_rem, x_min, x_max, x_and, x_or, x_xor, x_df, x_shl, bI_0, bI_1, bI_bo, lg_eq, toL_inj, ls_nI, decide_eq_false_iff_not, decide_eq_true_eq, Bool.true_eq_false, Bool.false_eq_true, bq, if_pos, if_neg, if_true, if_false, lq, Nat.reduceAdd, Nat.reduceMul, Nat.reduceSub, Nat.reduceDiv, Nat.reduceMod, h, Bool.false_and]
theorem gd_step {a b i x : Nat} (hi : i < 2 ^ D.K) (hx : x < 2 ^ D.K) (gx : gok D a b x = true) (hy : ∀ y, i < y → y < 2 ^ D.K → gok D a b y = true → btr x y) : (if gok D a b i && decide (cnt i ≤ cnt x) then i else x) < 2 ^ D.K ∧ gok D a b (if gok D a b i && decide (cnt i ≤ cnt x) then i else x) = true ∧ ∀ y, i ≤ y → y < 2 ^ D.K → gok D a b y = true → btr (if gok D a b i && decide (cnt i ≤ cnt x) then i else x) y := by
  by_cases h : (gok D a b i && decide (cnt i ≤ cnt x)) = true
  · rw [if_pos h]
    have h1 : gok D a b i = true := by cases e : gok D a b i; rw [e] at h; cases h; rfl
    have h2 : cnt i ≤ cnt x := by rw [h1, Bool.true_and] at h; exact of_decide_eq_true h
    refine ⟨hi, h1, fun y y1 y2 y3 => ?_⟩
    by_cases e : y = i
    · rw [e]; exact Or.inr ⟨rfl, Nat.le_refl _⟩
    · rcases hy y (by omega) y2 y3 with q | q
      · exact Or.inl (by omega)
      · by_cases e2 : cnt i < cnt y
        · exact Or.inl e2
        · exact Or.inr ⟨by omega, by omega⟩
  · rw [if_neg h]
    refine ⟨hx, gx, fun y y1 y2 y3 => ?_⟩
    by_cases e : y = i
    · rw [e] at y3 ⊢
      rw [y3, Bool.true_and] at h
      have : ¬ cnt i ≤ cnt x := fun q => h (decide_eq_true q)
      exact Or.inl (by omega)
    · exact hy y (by omega) y2 y3
theorem m_guards78 (hD : D.WF) (m : mA D E S) {a b k : Nat} (ha : a < D.K) (hb : b < D.K) (hk : k < 2) : ∀ i f x, i < 2 ^ D.K → i + 1 < f → x < 2 ^ D.K → gok D a b x = true → (∀ y, i < y → y < 2 ^ D.K → gok D a b y = true → btr x y) → ∃ z, fX12_guards_78 (nI a) (nI b) (nI k) f (nI x) (nI i) S = some (szS k (some z), S) ∧ isB D a b z := by
  have k6 := hD.k6
  have k64 : 2 ^ D.K ≤ 64 := pow_le (n := 6) k6
  have e0 : nI 0 + (-1) = nM := by decide
  intro i
  induction i with
  | zero =>
    intro f x hi hf hx gx hy
    obtain ⟨f, rfl⟩ : ∃ g, f = g + 1 + 1 := ⟨f - 2, by omega⟩
    obtain ⟨s1, s2, s3⟩ := gd_step hi hx gx hy
    rw [m_guardS hD m ha hb hi hx, e0]
    generalize (if gok D a b 0 && decide (cnt 0 ≤ cnt x) then 0 else x) = z at s1 s2 s3
    have hz2 : z < 256 := by omega
    refine ⟨z, ?_, s1, s2, fun y h1 h2 => s3 y (by omega) h1 h2⟩
    rw [fX12_guards_78]
    rcases (show k = 0 ∨ k = 1 by omega) with rfl | rfl
    · simp (disch := omega) only [lit, lm1, nI_add, pk_mul, nm_eq, nm_eq', nm_lt, nm_lt', nm_le, nm_le', x_lt, x_le, x_eq, x_in, x_cl, x_div, x_sub, x_rem, x_min, x_max, x_and, x_or, x_xor, x_df, x_shl, bI_0, bI_1, bI_bo, lg_eq, toL_inj, ls_nI, decide_eq_false_iff_not, decide_eq_true_eq, Bool.true_eq_false, Bool.false_eq_true, bq, if_pos, if_neg, if_true, if_false, lq, Nat.reduceAdd, Nat.reduceMul, Nat.reduceSub, Nat.reduceDiv, Nat.reduceMod, m_bits hz2]; rfl
    · simp (disch := omega) only [lit, lm1, nI_add, pk_mul, nm_eq, nm_eq', nm_lt, nm_lt', nm_le, nm_le', x_lt, x_le, x_eq, x_in, x_cl, x_div, x_sub, x_rem, x_min, x_max, x_and, x_or, x_xor, x_df, x_shl, bI_0, bI_1, bI_bo, lg_eq, toL_inj, ls_nI, decide_eq_false_iff_not, decide_eq_true_eq, Bool.true_eq_false, Bool.false_eq_true, bq, if_pos, if_neg, if_true, if_false, lq, Nat.reduceAdd, Nat.reduceMul, Nat.reduceSub, Nat.reduceDiv, Nat.reduceMod]; rfl
  | succ i ih =>
    intro f x hi hf hx gx hy
    obtain ⟨f, rfl⟩ : ∃ g, f = g + 1 := ⟨f - 1, by omega⟩
    obtain ⟨s1, s2, s3⟩ := gd_step hi hx gx hy
    rw [m_guardS hD m ha hb hi hx, pk_m1]
    exact ih f _ (by omega) (by omega) s1 s2 (fun y y1 y2 y3 => s3 y (by omega) y2 y3)
theorem sub_le {x y : Nat} (h : sub x y) : x ≤ y := by
  have : x &&& y = x := by
    apply Nat.eq_of_testBit_eq
    intro i
    rw [Nat.testBit_and]
    cases e : x.testBit i
    · rfl
    · rw [h i e]; rfl
  rw [← this]; exact Nat.and_le_right
end GU
theorem q_guards : cpQ_guards cpRl := by
  intro x1 x2 x3 S hR
  refine q0 hR (fun D E hD hE => ?_)
  have k6 := hD.k6
  have k64 : 2 ^ D.K ≤ 64 := pow_le (n := 6) k6
  have kp : 1 ≤ 2 ^ D.K := Nat.one_le_two_pow
  have w1 := m_win 2 1 (by decide)
  rcases in_or x1 D.K with ⟨a, ha, rfl⟩ | h1
  · rcases in_or x2 D.K with ⟨b, hb, rfl⟩ | h2
    · rcases in_or x3 2 with ⟨k, hk, rfl⟩ | h3
      · have e2 : ∀ (S : cpS), cA D E S → fX11_guards (nI a) (nI b) (nI k) S = (cpB (fX1_fewestGuards (nI a) (nI b) S) fun z5 S6 => cpB (fX11_sizeOrSet z5 (nI k) S6) fun z7 S8 => some (z7, S8)) := fun S c => by
          unfold fX11_guards
          rcases (show k = 0 ∨ k = 1 by omega) with rfl | rfl
          · simp (disch := omega) only [lit, lm1, nI_add, pk_mul, nm_eq, nm_eq', nm_lt, nm_lt', nm_le, nm_le', x_lt, x_le, x_eq, x_in, x_cl, x_div, x_sub, x_rem, x_min, x_max, x_and, x_or, x_xor, x_df, x_shl, bI_0, bI_1, bI_bo, lg_eq, toL_inj, ls_nI, decide_eq_false_iff_not, decide_eq_true_eq, Bool.true_eq_false, Bool.false_eq_true, bq, if_pos, if_neg, if_true, if_false, lq, Nat.reduceAdd, Nat.reduceMul, Nat.reduceSub, Nat.reduceDiv, Nat.reduceMod, c.hasPlace hD]
          · simp (disch := omega) only [lit, lm1, nI_add, pk_mul, nm_eq, nm_eq', nm_lt, nm_lt', nm_le, nm_le', x_lt, x_le, x_eq, x_in, x_cl, x_div, x_sub, x_rem, x_min, x_max, x_and, x_or, x_xor, x_df, x_shl, bI_0, bI_1, bI_bo, lg_eq, toL_inj, ls_nI, decide_eq_false_iff_not, decide_eq_true_eq, Bool.true_eq_false, Bool.false_eq_true, bq, if_pos, if_neg, if_true, if_false, lq, Nat.reduceAdd, Nat.reduceMul, Nat.reduceSub, Nat.reduceDiv, Nat.reduceMod, c.hasPlace hD]
        have nn : ∀ S : cpS, fX11_sizeOrSet nM (nI k) S = some (nM, S) := fun S => by
          unfold fX11_sizeOrSet
          simp (disch := omega) only [lit, lm1, nI_add, pk_mul, nm_eq, nm_eq', nm_lt, nm_lt', nm_le, nm_le', x_lt, x_le, x_eq, x_in, x_cl, x_div, x_sub, x_rem, x_min, x_max, x_and, x_or, x_xor, x_df, x_shl, bI_0, bI_1, bI_bo, lg_eq, toL_inj, ls_nI, decide_eq_false_iff_not, decide_eq_true_eq, Bool.true_eq_false, Bool.false_eq_true, bq, if_pos, if_neg, if_true, if_false, lq, Nat.reduceAdd, Nat.reduceMul, Nat.reduceSub, Nat.reduceDiv, Nat.reduceMod, eq_self]
        by_cases hab : a = b
        · subst hab
          refine ⟨nM, fun S c => ?_, fun S m => ?_⟩
          · rw [e2 S c]
            unfold fX1_fewestGuards
            simp (disch := omega) only [lit, lm1, nI_add, pk_mul, nm_eq, nm_eq', nm_lt, nm_lt', nm_le, nm_le', x_lt, x_le, x_eq, x_in, x_cl, x_div, x_sub, x_rem, x_min, x_max, x_and, x_or, x_xor, x_df, x_shl, bI_0, bI_1, bI_bo, lg_eq, toL_inj, ls_nI, decide_eq_false_iff_not, decide_eq_true_eq, Bool.true_eq_false, Bool.false_eq_true, bq, if_pos, if_neg, if_true, if_false, lq, Nat.reduceAdd, Nat.reduceMul, Nat.reduceSub, Nat.reduceDiv, Nat.reduceMod, eq_self, nn]
          · unfold fX12_guards
            simp (disch := omega) only [lit, lm1, nI_add, pk_mul, nm_eq, nm_eq', nm_lt, nm_lt', nm_le, nm_le', x_lt, x_le, x_eq, x_in, x_cl, x_div, x_sub, x_rem, x_min, x_max, x_and, x_or, x_xor, x_df, x_shl, bI_0, bI_1, bI_bo, lg_eq, toL_inj, ls_nI, decide_eq_false_iff_not, decide_eq_true_eq, Bool.true_eq_false, Bool.false_eq_true, bq, if_pos, if_neg, if_true, if_false, lq, Nat.reduceAdd, Nat.reduceMul, Nat.reduceSub, Nat.reduceDiv, Nat.reduceMod, m.isPlace hD, w1, eq_self]
        · cases hj : jnd D a b
          · obtain ⟨z, hz1, hz2⟩ := gd_fold (D := D) (a := a) (b := b) _ rfl ⟨_, df_lt (show 2 ^ D.K - 1 < 2 ^ D.K by omega), gok_all hD ha hb hab hj⟩
            have zl : z < 256 := by have := hz2.1; omega
            refine ⟨szS k (some z), fun S c => ?_, fun S m => ?_⟩
            · have hg := c_guards24 hD c ha hb
              rw [hz1] at hg
              have hf : fX1_fewestGuards (nI a) (nI b) S = some (oI (some z), S) := by
                unfold fX1_fewestGuards
                simp (disch := omega) only [lit, lm1, nI_add, pk_mul, nm_eq, nm_eq', nm_lt, nm_lt', nm_le, nm_le', x_lt, x_le, x_eq, x_in, x_cl, x_div, x_sub, x_rem, x_min, x_max, x_and, x_or, x_xor, x_df, x_shl, bI_0, bI_1, bI_bo, lg_eq, toL_inj, ls_nI, decide_eq_false_iff_not, decide_eq_true_eq, Bool.true_eq_false, Bool.false_eq_true, bq, if_pos, if_neg, if_true, if_false, lq, Nat.reduceAdd, Nat.reduceMul, Nat.reduceSub, Nat.reduceDiv, Nat.reduceMod, hab, c_joined hD c (show a < 2 ^ 31 by omega) (show b < 2 ^ 31 by omega), hj]
                exact hg
              rw [e2 S c, hf, bq, c_sizeOrSet (o := some z) (fun b hb => by cases hb; exact zl) hk, bq]
            · have hB : cpDf (2 ^ D.K - 1) (2 ^ a ||| 2 ^ b) < 2 ^ D.K := df_lt (by omega)
              obtain ⟨z', g1, g2⟩ := m_guards78 hD m ha hb hk (cpDf (2 ^ D.K - 1) (2 ^ a ||| 2 ^ b)) cpFu (cpDf (2 ^ D.K - 1) (2 ^ a ||| 2 ^ b)) hB (by show _ < 5000; omega) hB (gok_all hD ha hb hab hj) (fun y y1 y2 y3 => by
                have : y ≤ cpDf (2 ^ D.K - 1) (2 ^ a ||| 2 ^ b) := sub_le (fun i hi => by
                  rw [df_bit, Nat.testBit_two_pow_sub_one, Nat.testBit_or, Nat.testBit_two_pow, Nat.testBit_two_pow]
                  unfold gok at y3
                  have i1 : i < D.K := by
                    by_cases e : i < D.K
                    · exact e
                    · rw [bit_ge y2 (by omega)] at hi; cases hi
                  have i2 : a ≠ i := fun e => by rw [e, hi] at y3; cases y3
                  have i3 : b ≠ i := fun e => by rw [e, hi] at y3; simp at y3
                  simp [i1, i2, i3])
                omega)
              rw [isB_uniq hz2 g2]
              unfold fX12_guards
              simp (disch := omega) only [lit, lm1, nI_add, pk_mul, nm_eq, nm_eq', nm_lt, nm_lt', nm_le, nm_le', x_lt, x_le, x_eq, x_in, x_cl, x_div, x_sub, x_rem, x_min, x_max, x_and, x_or, x_xor, x_df, x_shl, bI_0, bI_1, bI_bo, lg_eq, toL_inj, ls_nI, decide_eq_false_iff_not, decide_eq_true_eq, Bool.true_eq_false, Bool.false_eq_true, bq, if_pos, if_neg, if_true, if_false, lq, Nat.reduceAdd, Nat.reduceMul, Nat.reduceSub, Nat.reduceDiv, Nat.reduceMod, m.isPlace hD, w1, hab, m_joined hD m (show a < 2 ^ 31 by omega) (show b < 2 ^ 31 by omega), hj, m.K]
              exact g1
          · refine ⟨nM, fun S c => ?_, fun S m => ?_⟩
            · rw [e2 S c]
              unfold fX1_fewestGuards
              simp (disch := omega) only [lit, lm1, nI_add, pk_mul, nm_eq, nm_eq', nm_lt, nm_lt', nm_le, nm_le', x_lt, x_le, x_eq, x_in, x_cl, x_div, x_sub, x_rem, x_min, x_max, x_and, x_or, x_xor, x_df, x_shl, bI_0, bI_1, bI_bo, lg_eq, toL_inj, ls_nI, decide_eq_false_iff_not, decide_eq_true_eq, Bool.true_eq_false, Bool.false_eq_true, bq, if_pos, if_neg, if_true, if_false, lq, Nat.reduceAdd, Nat.reduceMul, Nat.reduceSub, Nat.reduceDiv, Nat.reduceMod, hab, c_joined hD c (show a < 2 ^ 31 by omega) (show b < 2 ^ 31 by omega), hj, nn]
            · unfold fX12_guards
              simp (disch := omega) only [lit, lm1, nI_add, pk_mul, nm_eq, nm_eq', nm_lt, nm_lt', nm_le, nm_le', x_lt, x_le, x_eq, x_in, x_cl, x_div, x_sub, x_rem, x_min, x_max, x_and, x_or, x_xor, x_df, x_shl, bI_0, bI_1, bI_bo, lg_eq, toL_inj, ls_nI, decide_eq_false_iff_not, decide_eq_true_eq, Bool.true_eq_false, Bool.false_eq_true, bq, if_pos, if_neg, if_true, if_false, lq, Nat.reduceAdd, Nat.reduceMul, Nat.reduceSub, Nat.reduceDiv, Nat.reduceMod, m.isPlace hD, w1, hab, m_joined hD m (show a < 2 ^ 31 by omega) (show b < 2 ^ 31 by omega), hj]
      · refine ⟨-2, fun S c => ?_, fun S m => ?_⟩
        · unfold fX11_guards
          simp (disch := omega) only [lit, lm1, nI_add, pk_mul, nm_eq, nm_eq', nm_lt, nm_lt', nm_le, nm_le', x_lt, x_le, x_eq, x_in, x_cl, x_div, x_sub, x_rem, x_min, x_max, x_and, x_or, x_xor, x_df, x_shl, bI_0, bI_1, bI_bo, lg_eq, toL_inj, ls_nI, decide_eq_false_iff_not, decide_eq_true_eq, Bool.true_eq_false, Bool.false_eq_true, bq, if_pos, if_neg, if_true, if_false, lq, Nat.reduceAdd, Nat.reduceMul, Nat.reduceSub, Nat.reduceDiv, Nat.reduceMod, c.hasPlace hD, arg_ne 0 h3 (by decide) (by decide), arg_ne 1 h3 (by decide) (by decide)]
        · unfold fX12_guards
          simp (disch := omega) only [lit, lm1, nI_add, pk_mul, nm_eq, nm_eq', nm_lt, nm_lt', nm_le, nm_le', x_lt, x_le, x_eq, x_in, x_cl, x_div, x_sub, x_rem, x_min, x_max, x_and, x_or, x_xor, x_df, x_shl, bI_0, bI_1, bI_bo, lg_eq, toL_inj, ls_nI, decide_eq_false_iff_not, decide_eq_true_eq, Bool.true_eq_false, Bool.false_eq_true, bq, if_pos, if_neg, if_true, if_false, lq, Nat.reduceAdd, Nat.reduceMul, Nat.reduceSub, Nat.reduceDiv, Nat.reduceMod, m.isPlace hD, w1, h3]
    · refine ⟨-2, fun S c => ?_, fun S m => ?_⟩
      · unfold fX11_guards
        simp (disch := omega) only [lit, lm1, nI_add, pk_mul, nm_eq, nm_eq', nm_lt, nm_lt', nm_le, nm_le', x_lt, x_le, x_eq, x_in, x_cl, x_div, x_sub, x_rem, x_min, x_max, x_and, x_or, x_xor, x_df, x_shl, bI_0, bI_1, bI_bo, lg_eq, toL_inj, ls_nI, decide_eq_false_iff_not, decide_eq_true_eq, Bool.true_eq_false, Bool.false_eq_true, bq, if_pos, if_neg, if_true, if_false, lq, Nat.reduceAdd, Nat.reduceMul, Nat.reduceSub, Nat.reduceDiv, Nat.reduceMod, c.hasPlace hD, h2]
      · unfold fX12_guards
        simp (disch := omega) only [lit, lm1, nI_add, pk_mul, nm_eq, nm_eq', nm_lt, nm_lt', nm_le, nm_le', x_lt, x_le, x_eq, x_in, x_cl, x_div, x_sub, x_rem, x_min, x_max, x_and, x_or, x_xor, x_df, x_shl, bI_0, bI_1, bI_bo, lg_eq, toL_inj, ls_nI, decide_eq_false_iff_not, decide_eq_true_eq, Bool.true_eq_false, Bool.false_eq_true, bq, if_pos, if_neg, if_true, if_false, lq, Nat.reduceAdd, Nat.reduceMul, Nat.reduceSub, Nat.reduceDiv, Nat.reduceMod, m.isPlace hD, h2]
  · refine ⟨-2, fun S c => ?_, fun S m => ?_⟩
    · unfold fX11_guards
      simp (disch := omega) only [lit, lm1, nI_add, pk_mul, nm_eq, nm_eq', nm_lt, nm_lt', nm_le, nm_le', x_lt, x_le, x_eq, x_in, x_cl, x_div, x_sub, x_rem, x_min, x_max, x_and, x_or, x_xor, x_df, x_shl, bI_0, bI_1, bI_bo, lg_eq, toL_inj, ls_nI, decide_eq_false_iff_not, decide_eq_true_eq, Bool.true_eq_false, Bool.false_eq_true, bq, if_pos, if_neg, if_true, if_false, lq, Nat.reduceAdd, Nat.reduceMul, Nat.reduceSub, Nat.reduceDiv, Nat.reduceMod, c.hasPlace hD, h1]
    · unfold fX12_guards
      simp (disch := omega) only [lit, lm1, nI_add, pk_mul, nm_eq, nm_eq', nm_lt, nm_lt', nm_le, nm_le', x_lt, x_le, x_eq, x_in, x_cl, x_div, x_sub, x_rem, x_min, x_max, x_and, x_or, x_xor, x_df, x_shl, bI_0, bI_1, bI_bo, lg_eq, toL_inj, ls_nI, decide_eq_false_iff_not, decide_eq_true_eq, Bool.true_eq_false, Bool.false_eq_true, bq, if_pos, if_neg, if_true, if_false, lq, Nat.reduceAdd, Nat.reduceMul, Nat.reduceSub, Nat.reduceDiv, Nat.reduceMod, m.isPlace hD, h1]
