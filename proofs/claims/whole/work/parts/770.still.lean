/-! the reference's fewest carryings: nearer and nearer, till nothing comes nearer -/
def dF (o : Option Nat) : Int32 := match o with
  | none => nI 268435456
  | some n => nI n
def rlC (D : cpD) (E : cpE) (k : Nat) (u : Nat → Option Nat) (a b : Nat) : Option Nat := if brX D E k a b = 0 then none else match u b with
  | none => none
  | some n => match u a with
    | none => some (n + 1)
    | some m => if n + 1 < m then some (n + 1) else none
abbrev rlT : Type := (Nat → Option Nat) × Bool
def rl (D : cpD) (E : cpE) (k a b : Nat) (s : rlT) : rlT := match rlC D E k s.1 a b with
  | none => s
  | some v => (fun x => if x = a then some v else s.1 x, true)
def rlA (D : cpD) (E : cpE) (k a : Nat) (s : rlT) : rlT := up (rl D E k a) 6 0 s
def rlP (D : cpD) (E : cpE) (k : Nat) (s : rlT) : rlT := up (rlA D E k) 6 0 s
def rIn (D : cpD) (E : cpE) (k to p : Nat) (u : Nat → Option Nat) : Prop := (∀ a n, u a = some n → ∃ m, dst D E k to a = some m ∧ m ≤ n) ∧ ∀ a n, dst D E k to a = some n → n ≤ p → u a = some n
section ST
variable {D : cpD} {E : cpE} {S : cpS}
theorem rlC_s {k a b v : Nat} {u : Nat → Option Nat} (h : rlC D E k u a b = some v) : brX D E k a b ≠ 0 ∧ ∃ n, u b = some n ∧ v = n + 1 ∧ ∀ m, u a = some m → n + 1 < m := by
  unfold rlC at h
  split at h
  · cases h
  · rename_i hb
    cases hu : u b with
    | none => rw [hu] at h; cases h
    | some n =>
      rw [hu] at h
      (try dsimp only at h)
      cases ha : u a with
      | none => rw [ha] at h; cases h; exact ⟨hb, n, rfl, rfl, fun m e => by cases e⟩
      | some m =>
        rw [ha] at h
        (try dsimp only at h)
        split at h
        · cases h; rename_i q; exact ⟨hb, n, rfl, rfl, fun m' e => by cases e; exact q⟩
        · cases h
theorem brX_go {k a b : Nat} (h : brX D E k a b ≠ 0) : a < D.K ∧ b < D.K ∧ go D E k a b = true := by
  unfold brX at h
  split at h
  · rename_i q
    exact ⟨q.1, q.2, decide_eq_true (by omega)⟩
  · exact absurd rfl h
theorem go_brX {k a b : Nat} (ha : a < D.K) (hb : b < D.K) (h : go D E k a b = true) : brX D E k a b ≠ 0 := by
  unfold brX
  rw [if_pos ⟨ha, hb⟩]
  have := of_decide_eq_true h
  omega
theorem rl_ok (hD : D.WF) {k to p a b : Nat} {s : rlT} (ht : to < D.K) (h : rIn D E k to p s.1) : rIn D E k to p (rl D E k a b s).1 := by
  unfold rl
  cases hc : rlC D E k s.1 a b with
  | none => exact h
  | some v =>
    obtain ⟨c1, n, c2, c3, c4⟩ := rlC_s hc
    obtain ⟨g1, g2, g3⟩ := brX_go c1
    obtain ⟨h1, h2⟩ := h
    obtain ⟨m, m1, m2⟩ := h1 b n c2
    obtain ⟨m', e1, e2⟩ := dst_2 hD ht g1 g2 g3 m1
    refine ⟨fun x q hx => ?_, fun x q hx hq => ?_⟩
    · (try dsimp only at hx)
      split at hx
      · rename_i ex
        cases hx
        rw [ex]
        exact ⟨m', e1, by omega⟩
      · exact h1 x q hx
    · dsimp only
      split
      · rename_i ex
        subst ex
        rw [e1] at hx
        cases hx
        have := c4 _ (h2 x m' e1 hq)
        omega
      · exact h2 x q hx hq
theorem rl_ex (hD : D.WF) {k to p a b x q : Nat} {s : rlT} (ht : to < D.K) (h : rIn D E k to p s.1) (hx : s.1 x = some q) (hd : dst D E k to x = some q) : (rl D E k a b s).1 x = some q := by
  unfold rl
  cases hc : rlC D E k s.1 a b with
  | none => exact hx
  | some v =>
    dsimp only
    split
    · rename_i ex
      subst ex
      obtain ⟨c1, n, c2, c3, c4⟩ := rlC_s hc
      obtain ⟨g1, g2, g3⟩ := brX_go c1
      obtain ⟨m, m1, m2⟩ := h.1 b n c2
      obtain ⟨m', e1, e2⟩ := dst_2 hD ht g1 g2 g3 m1
      rw [hd] at e1
      cases e1
      have := c4 _ hx
      omega
    · exact hx
theorem rlA_ok (hD : D.WF) {k to p a : Nat} {s : rlT} (ht : to < D.K) (h : rIn D E k to p s.1) : rIn D E k to p (rlA D E k a s).1 ∧ (∀ x q, s.1 x = some q → dst D E k to x = some q → (rlA D E k a s).1 x = some q) ∧ (dst D E k to a = some (p + 1) → (rlA D E k a s).1 a = some (p + 1)) := by
  have := up_inv (rl D E k a) 6 (fun i t => rIn D E k to p t.1 ∧ (∀ x q, s.1 x = some q → dst D E k to x = some q → t.1 x = some q) ∧ (dst D E k to a = some (p + 1) → ∀ b, b < i → b < D.K → go D E k a b = true → dst D E k to b = some p → t.1 a = some (p + 1))) (fun i t hi q => ?_) 6 0 s (by omega) ⟨h, fun x q h1 _ => h1, fun _ b hb => absurd hb (by omega)⟩
  · obtain ⟨t1, t2, t3⟩ := this
    refine ⟨t1, t2, fun hd => ?_⟩
    obtain ⟨ha, b, hb, hg, hb2⟩ := dst_3 hD ht hd
    have k6 := hD.k6
    exact t3 hd b (by omega) hb hg hb2
  · obtain ⟨q1, q2, q3⟩ := q
    refine ⟨rl_ok hD ht q1, fun x r h1 h2 => rl_ex hD ht q1 (q2 x r h1 h2) h2, fun hd b hb hbK hg hb2 => ?_⟩
    by_cases e : b = i
    · subst e
      have hub : t.1 b = some p := q1.2 b p hb2 (Nat.le_refl _)
      have hne := go_brX (dst_3 hD ht hd).1 hbK hg
      unfold rl rlC
      rw [if_neg hne, hub]
      cases hua : t.1 a with
      | none => simp
      | some m =>
        obtain ⟨m', e1, e2⟩ := q1.1 a m hua
        rw [hd] at e1
        cases e1
        dsimp only
        by_cases hlt : p + 1 < m
        · rw [if_pos hlt]; simp
        · rw [if_neg hlt]
          show t.1 a = _
          rw [hua, show m = p + 1 by omega]
    · exact rl_ex hD ht q1 (q3 hd b (by omega) hbK hg hb2) hd
theorem rlP_ok (hD : D.WF) {k to p : Nat} {s : rlT} (ht : to < D.K) (h : rIn D E k to p s.1) : rIn D E k to (p + 1) (rlP D E k s).1 := by
  have := up_inv (rlA D E k) 6 (fun i t => rIn D E k to p t.1 ∧ ∀ x, x < i → dst D E k to x = some (p + 1) → t.1 x = some (p + 1)) (fun i t hi q => ?_) 6 0 s (by omega) ⟨h, fun x hx => absurd hx (by omega)⟩
  · obtain ⟨t1, t2⟩ := this
    refine ⟨t1.1, fun a n hd hn => ?_⟩
    by_cases e : n ≤ p
    · exact t1.2 a n hd e
    · have k6 := hD.k6
      rw [show n = p + 1 by omega] at hd ⊢
      exact t2 a (by have := (dst_lt hD ht hd).1; omega) hd
  · obtain ⟨q1, q2⟩ := q
    obtain ⟨r1, r2, r3⟩ := rlA_ok hD (a := i) ht q1
    refine ⟨r1, fun x hx hd => ?_⟩
    by_cases e : x = i
    · rw [e] at hd ⊢; exact r3 hd
    · exact r2 x _ (q2 x (by omega) hd) hd
theorem rlP_no {k : Nat} {u : Nat → Option Nat} (h : (rlP D E k (u, false)).2 = false) : (rlP D E k (u, false)).1 = u ∧ ∀ a b, a < 6 → b < 6 → rlC D E k u a b = none := by
  have := up_inv (rlA D E k) 6 (fun i t => t.2 = false → t.1 = u ∧ ∀ a b, a < i → b < 6 → rlC D E k u a b = none) (fun i t hi q => ?_) 6 0 (u, false) (by omega) (fun _ => ⟨rfl, fun a b ha => absurd ha (by omega)⟩)
  · exact this h
  · have := up_inv (rl D E k i) 6 (fun j s => s.2 = false → s.1 = u ∧ (∀ a b, a < i → b < 6 → rlC D E k u a b = none) ∧ ∀ b, b < j → rlC D E k u i b = none) (fun j s hj r => ?_) 6 0 t (by omega) (fun hf => ⟨(q hf).1, (q hf).2, fun b hb => absurd hb (by omega)⟩)
    · intro hf
      obtain ⟨z1, z2, z3⟩ := this hf
      refine ⟨z1, fun a b ha hb => ?_⟩
      by_cases e : a = i
      · rw [e]; exact z3 b hb
      · exact z2 a b (by omega) hb
    · intro hf
      unfold rl at hf ⊢
      cases hc : rlC D E k s.1 i j with
      | some v => rw [hc] at hf; cases hf
      | none =>
        rw [hc] at hf
        obtain ⟨z1, z2, z3⟩ := r hf
        refine ⟨z1, z2, fun b hb => ?_⟩
        by_cases e : b = j
        · rw [e, ← z1]; exact hc
        · exact z3 b (by omega)
theorem closed_ex (hD : D.WF) {k to p : Nat} {u : Nat → Option Nat} (ht : to < D.K) (h : rIn D E k to p u) (hc : ∀ a b, a < 6 → b < 6 → rlC D E k u a b = none) (a : Nat) : u a = dst D E k to a := by
  have k6 := hD.k6
  have : ∀ n a, dst D E k to a = some n → u a = some n := by
    intro n
    induction n with
    | zero => intro a hd; exact h.2 a 0 hd (Nat.zero_le _)
    | succ n ih =>
      intro a hd
      obtain ⟨ha, b, hb, hg, hb2⟩ := dst_3 hD ht hd
      have hub := ih b hb2
      have hne := go_brX ha hb hg
      have := hc a b (by omega) (by omega)
      unfold rlC at this
      rw [if_neg hne, hub] at this
      (try dsimp only at this)
      cases hua : u a with
      | none => rw [hua] at this; cases this
      | some m =>
        rw [hua] at this
        (try dsimp only at this)
        obtain ⟨m', e1, e2⟩ := h.1 a m hua
        rw [hd] at e1
        cases e1
        split at this
        · cases this
        · rw [show m = n + 1 by omega]
  cases hd : dst D E k to a with
  | some n => exact this n a hd
  | none =>
    cases hu : u a with
    | none => rfl
    | some m => obtain ⟨m', e1, -⟩ := h.1 a m hu; rw [hd] at e1; cases e1
theorem ex_closed (hD : D.WF) {k to : Nat} {u : Nat → Option Nat} (ht : to < D.K) (h : ∀ a, u a = dst D E k to a) (a b : Nat) : rlC D E k u a b = none := by
  cases hc : rlC D E k u a b with
  | none => rfl
  | some v =>
    obtain ⟨c1, n, c2, c3, c4⟩ := rlC_s hc
    obtain ⟨g1, g2, g3⟩ := brX_go c1
    rw [h] at c2
    obtain ⟨m', e1, e2⟩ := dst_2 hD ht g1 g2 g3 c2
    have := c4 m' (by rw [h]; exact e1)
    omega
theorem rlP_id {k : Nat} {u : Nat → Option Nat} (h : ∀ a b, rlC D E k u a b = none) : rlP D E k (u, false) = (u, false) := by
  refine up_inv (rlA D E k) 6 (fun _ t => t = (u, false)) (fun i t hi q => ?_) 6 0 (u, false) (by omega) rfl
  rw [q]
  refine up_inv (rl D E k i) 6 (fun _ t => t = (u, false)) (fun j t hj q => ?_) 6 0 (u, false) (by omega) rfl
  rw [q]
  unfold rl
  rw [h]
/-! on the machine -/
def k160 (q _ : Nat) : Prop := q = 160
theorem k160_M {k j : Nat} (h : k160 k j) : kM k j := by
  unfold k160 at h; subst h; exact ⟨scr_c (by decide) (by decide) (by decide) j, by decide⟩
def stU (S : cpS) (u : Nat → Option Nat) (B : Nat) : Prop := (∀ x, x < 6 → S.1 160 x = dF (u x)) ∧ ∀ x n, u x = some n → n ≤ B
theorem dF_n {o : Option Nat} {B : Nat} (hb : ∀ n, o = some n → n ≤ B) (hB : B < 10000) : (dF o = nI 268435456) = (o = none) := by
  cases o with
  | none => exact propext ⟨fun _ => rfl, fun _ => rfl⟩
  | some n =>
    have := hb n rfl
    show (nI n = nI 268435456) = _
    rw [x_eq (by omega) (by decide)]
    exact propext ⟨fun h => by omega, fun h => (by cases h)⟩
theorem m_still58 (hD : D.WF) {k a B : Nat} {s : rlT} (br : brs D E k S) (ha : a < 6) (hB : B < 9000) (hu : stU S s.1 B) (x1 : Int32) (k1 : Int32 → cpS → Option (Int32 × cpS)) (k2 : Int32 → Int32 → cpS → Option (Int32 × cpS)) : ∃ T, fX12_laysStill_58 x1 (nI a) k1 k2 cpFu (bI s.2) (nI 0) S = k2 (bI (rlA D E k a s).2) (nI (a + 1)) T ∧ stU T (rlA D E k a s).1 (B + 6) ∧ Kp k160 S T := by
  have := up_lpR (F := fun n b (t : Int32 × cpS) => fX12_laysStill_58 x1 (nI a) k1 k2 n t.1 b t.2) (K := fun t => k2 t.1 (nI (a + 1)) t.2) 6 (rl D E k a) (fun i s t => t.1 = bI s.2 ∧ stU t.2 s.1 (B + i) ∧ Kp k160 S t.2) (by decide) (fun n i s t hi hI => ?_) (fun n s t hI => ?_) (i0 := 0) (s := s) (a := (bI s.2, S)) (Nat.zero_le _) ⟨rfl, hu, Kp.rf⟩
  · obtain ⟨⟨x, T⟩, t1, t2, t3, t4⟩ := this
    have t2 : x = bI (rlA D E k a s).2 := t2
    rw [t2] at t1
    exact ⟨T, t1, t3, t4⟩
  · obtain ⟨x, T⟩ := t
    obtain ⟨i1, i2, i3⟩ := hI
    have j1 : x = bI s.2 := i1
    have j2 : stU T s.1 (B + i) := i2
    have j3 : Kp k160 S T := i3
    clear i1 i2 i3
    subst j1
    obtain ⟨u1, u2⟩ := j2
    have bT := br.kp j3 (fun q j h => by unfold k160 at h; omega)
    have hle := brX_le (D := D) (E := E) hD.p8 k a i
    have mono : stU T s.1 (B + (i + 1)) := ⟨u1, fun x n h => by have := u2 x n h; omega⟩
    by_cases h0 : brX D E k a i = 0
    · have e : rl D E k a i s = s := by unfold rl rlC; rw [if_pos h0]
      rw [e]
      refine ⟨(bI s.2, T), ?_, rfl, mono, j3⟩
      rw [fX12_laysStill_58]
      simp (disch := omega) only [lit, lm1, nI_add, pk_mul, nm_eq, nm_eq', nm_lt, nm_lt', nm_le, nm_le', x_lt, x_le, x_eq, x_in, x_cl, x_div, x_sub, x_rem, x_min, x_max, x_and, x_or, x_xor, x_df, x_shl, bI_0, bI_1, bI_bo, lg_eq, toL_inj, ls_nI, decide_eq_false_iff_not, decide_eq_true_eq, Bool.true_eq_false, Bool.false_eq_true, bq, if_pos, if_neg, if_true, if_false, lq, Nat.reduceAdd, Nat.reduceMul, Nat.reduceSub, Nat.reduceDiv, Nat.reduceMod, bT a i ha hi, h0]
    · have en := dF_n (o := s.1 i) (B := B + i) (fun n h => u2 i n h) (by omega)
      cases hub : s.1 i with
      | none =>
        have e : rl D E k a i s = s := by unfold rl rlC; rw [if_neg h0, hub]
        have e1 : T.1 160 i = nI 268435456 := by rw [u1 i hi, hub]; rfl
        rw [e]
        refine ⟨(bI s.2, T), ?_, rfl, mono, j3⟩
        rw [fX12_laysStill_58]
        simp (disch := omega) only [lit, lm1, nI_add, pk_mul, nm_eq, nm_eq', nm_lt, nm_lt', nm_le, nm_le', x_lt, x_le, x_eq, x_in, x_cl, x_div, x_sub, x_rem, x_min, x_max, x_and, x_or, x_xor, x_df, x_shl, bI_0, bI_1, bI_bo, lg_eq, toL_inj, ls_nI, decide_eq_false_iff_not, decide_eq_true_eq, Bool.true_eq_false, Bool.false_eq_true, bq, if_pos, if_neg, if_true, if_false, lq, Nat.reduceAdd, Nat.reduceMul, Nat.reduceSub, Nat.reduceDiv, Nat.reduceMod, bT a i ha hi, h0, e1]
      | some m =>
        have hm := u2 i m hub
        have e1 : T.1 160 i = nI m := by rw [u1 i hi, hub]; rfl
        have hset : rlC D E k s.1 a i = some (m + 1) → (nI (m + 1) < dF (s.1 a)) = True → ∃ t' : Int32 × cpS, fX12_laysStill_58 x1 (nI a) k1 k2 (n + 1) (bI s.2) (nI i) T = fX12_laysStill_58 x1 (nI a) k1 k2 n t'.1 (nI (i + 1)) t'.2 ∧ t'.1 = bI (rl D E k a i s).2 ∧ stU t'.2 (rl D E k a i s).1 (B + (i + 1)) ∧ Kp k160 S t'.2 := fun hc hlt => by
          have e : rl D E k a i s = (fun x => if x = a then some (m + 1) else s.1 x, true) := by unfold rl; rw [hc]
          rw [e]
          refine ⟨(bI true, cpI T 160 a (nI (m + 1))), ?_, rfl, ⟨fun x hx => ?_, fun x q hq => ?_⟩, j3.I (by exact rfl)⟩
          · rw [fX12_laysStill_58]
            simp (disch := omega) only [lit, lm1, nI_add, pk_mul, nm_eq, nm_eq', nm_lt, nm_lt', nm_le, nm_le', x_lt, x_le, x_eq, x_in, x_cl, x_div, x_sub, x_rem, x_min, x_max, x_and, x_or, x_xor, x_df, x_shl, bI_0, bI_1, bI_bo, lg_eq, toL_inj, ls_nI, decide_eq_false_iff_not, decide_eq_true_eq, Bool.true_eq_false, Bool.false_eq_true, bq, if_pos, if_neg, if_true, if_false, lq, Nat.reduceAdd, Nat.reduceMul, Nat.reduceSub, Nat.reduceDiv, Nat.reduceMod, bT a i ha hi, h0, e1, u1 a ha, hlt]
            rfl
          · dsimp only
            by_cases ex : x = a
            · rw [if_pos ex, ex, sI1]; rfl
            · rw [if_neg ex, sIn (Or.inr ex)]; exact u1 x hx
          · (try dsimp only at hq)
            split at hq
            · cases hq; omega
            · have := u2 x q hq; omega
        cases hua : s.1 a with
        | none =>
          refine hset (by unfold rlC; rw [if_neg h0, hub, hua]) (eq_true ?_)
          rw [hua]
          show nI (m + 1) < nI 268435456
          exact (nI_ltI (by omega) (by decide)).mpr (by omega)
        | some q =>
          have hq := u2 a q hua
          by_cases hlt : m + 1 < q
          · refine hset (by unfold rlC; rw [if_neg h0, hub, hua]; dsimp only; rw [if_pos hlt]) (eq_true ?_)
            rw [hua]
            show nI (m + 1) < nI q
            exact (nI_ltI (by omega) (by omega)).mpr hlt
          · have e : rl D E k a i s = s := by unfold rl rlC; rw [if_neg h0, hub, hua]; dsimp only; rw [if_neg hlt]
            have e2 : T.1 160 a = nI q := by rw [u1 a ha, hua]; rfl
            rw [e]
            refine ⟨(bI s.2, T), ?_, rfl, mono, j3⟩
            rw [fX12_laysStill_58]
            simp (disch := omega) only [lit, lm1, nI_add, pk_mul, nm_eq, nm_eq', nm_lt, nm_lt', nm_le, nm_le', x_lt, x_le, x_eq, x_in, x_cl, x_div, x_sub, x_rem, x_min, x_max, x_and, x_or, x_xor, x_df, x_shl, bI_0, bI_1, bI_bo, lg_eq, toL_inj, ls_nI, decide_eq_false_iff_not, decide_eq_true_eq, Bool.true_eq_false, Bool.false_eq_true, bq, if_pos, if_neg, if_true, if_false, lq, Nat.reduceAdd, Nat.reduceMul, Nat.reduceSub, Nat.reduceDiv, Nat.reduceMod, bT a i ha hi, h0, e1, e2, hlt]
  · rw [fX12_laysStill_58]
    simp (disch := omega) only [lit, lm1, nI_add, pk_mul, nm_eq, nm_eq', nm_lt, nm_lt', nm_le, nm_le', x_lt, x_le, x_eq, x_in, x_cl, x_div, x_sub, x_rem, x_min, x_max, x_and, x_or, x_xor, x_df, x_shl, bI_0, bI_1, bI_bo, lg_eq, toL_inj, ls_nI, decide_eq_false_iff_not, decide_eq_true_eq, Bool.true_eq_false, Bool.false_eq_true, bq, if_pos, if_neg, if_true, if_false, lq, Nat.reduceAdd, Nat.reduceMul, Nat.reduceSub, Nat.reduceDiv, Nat.reduceMod]
theorem m_still48 (hD : D.WF) {k B : Nat} {s : rlT} (br : brs D E k S) (hB : B < 8000) (hu : stU S s.1 B) (x1 : Int32) (k1 : Int32 → cpS → Option (Int32 × cpS)) : ∃ T, fX12_laysStill_48 x1 k1 cpFu (bI s.2) (nI 0) S = k1 (bI (rlP D E k s).2) T ∧ stU T (rlP D E k s).1 (B + 36) ∧ Kp k160 S T := by
  have := up_lpR (F := fun n b (t : Int32 × cpS) => fX12_laysStill_48 x1 k1 n t.1 b t.2) (K := fun t => k1 t.1 t.2) 6 (rlA D E k) (fun i s t => t.1 = bI s.2 ∧ stU t.2 s.1 (B + 6 * i) ∧ Kp k160 S t.2) (by decide) (fun n i s t hi hI => ?_) (fun n s t hI => ?_) (i0 := 0) (s := s) (a := (bI s.2, S)) (Nat.zero_le _) ⟨rfl, hu, Kp.rf⟩
  · obtain ⟨⟨x, T⟩, t1, t2, t3, t4⟩ := this
    have t2 : x = bI (rlP D E k s).2 := t2
    rw [t2] at t1
    exact ⟨T, t1, t3, t4⟩
  · obtain ⟨x, T⟩ := t
    obtain ⟨i1, i2, i3⟩ := hI
    have j1 : x = bI s.2 := i1
    have j2 : stU T s.1 (B + 6 * i) := i2
    have j3 : Kp k160 S T := i3
    clear i1 i2 i3
    subst j1
    obtain ⟨U, u1, u2, u3⟩ := m_still58 hD (br.kp j3 (fun q j h => by unfold k160 at h; omega)) hi (by omega) j2 x1 k1 (fX12_laysStill_48 x1 k1 n)
    refine ⟨(bI (rlA D E k i s).2, U), ?_, rfl, ⟨u2.1, fun x q h => by have := u2.2 x q h; omega⟩, j3.tr u3⟩
    rw [fX12_laysStill_48]
    simp (disch := omega) only [lit, lm1, nI_add, pk_mul, nm_eq, nm_eq', nm_lt, nm_lt', nm_le, nm_le', x_lt, x_le, x_eq, x_in, x_cl, x_div, x_sub, x_rem, x_min, x_max, x_and, x_or, x_xor, x_df, x_shl, bI_0, bI_1, bI_bo, lg_eq, toL_inj, ls_nI, decide_eq_false_iff_not, decide_eq_true_eq, Bool.true_eq_false, Bool.false_eq_true, bq, if_pos, if_neg, if_true, if_false, lq, Nat.reduceAdd, Nat.reduceMul, Nat.reduceSub, Nat.reduceDiv, Nat.reduceMod, u1]
  · rw [fX12_laysStill_48]
    simp (disch := omega) only [lit, lm1, nI_add, pk_mul, nm_eq, nm_eq', nm_lt, nm_lt', nm_le, nm_le', x_lt, x_le, x_eq, x_in, x_cl, x_div, x_sub, x_rem, x_min, x_max, x_and, x_or, x_xor, x_df, x_shl, bI_0, bI_1, bI_bo, lg_eq, toL_inj, ls_nI, decide_eq_false_iff_not, decide_eq_true_eq, Bool.true_eq_false, Bool.false_eq_true, bq, if_pos, if_neg, if_true, if_false, lq, Nat.reduceAdd, Nat.reduceMul, Nat.reduceSub, Nat.reduceDiv, Nat.reduceMod]
theorem m_still39 (hD : D.WF) (hE : E.WF D) {k to : Nat} (hk : k < D.C) (ht : to < D.K) : ∀ d p f u (S : cpS), p + d = 6 → d + 2 < f → mA D E S → brs D E k S → rIn D E k to p u → stU S u (36 * p) → ∃ T, fX12_laysStill_39 (nI k) f (nI 1) S = some (dF (dst D E k to (E.at' k)), T) ∧ stU T (dst D E k to) 1000 ∧ Kp k160 S T := by
  have c4 := hD.c4
  have k6 := hD.k6
  have ha := hE.at' k hk
  have fin : ∀ (f p : Nat) (u : Nat → Option Nat) (S T : cpS), p ≤ 6 → mA D E T → rIn D E k to p u → (rlP D E k (u, false)).2 = false → stU T (rlP D E k (u, false)).1 (36 * p + 36) → Kp k160 S T → ∃ T', fX12_laysStill_39 (nI k) (f + 1) (nI 0) T = some (dF (dst D E k to (E.at' k)), T') ∧ stU T' (dst D E k to) 1000 ∧ Kp k160 S T' := by
    intro f p u S T hp mT hr hf hs kT
    obtain ⟨e1, e2⟩ := rlP_no hf
    have ex := closed_ex hD ht hr e2
    have eu : u = dst D E k to := funext ex
    rw [e1, eu] at hs
    refine ⟨T, ?_, ⟨hs.1, fun x n h => by have := hs.2 x n h; omega⟩, kT⟩
    rw [fX12_laysStill_39]
    simp (disch := omega) only [lit, lm1, nI_add, pk_mul, nm_eq, nm_eq', nm_lt, nm_lt', nm_le, nm_le', x_lt, x_le, x_eq, x_in, x_cl, x_div, x_sub, x_rem, x_min, x_max, x_and, x_or, x_xor, x_df, x_shl, bI_0, bI_1, bI_bo, lg_eq, toL_inj, ls_nI, decide_eq_false_iff_not, decide_eq_true_eq, Bool.true_eq_false, Bool.false_eq_true, bq, if_pos, if_neg, if_true, if_false, lq, Nat.reduceAdd, Nat.reduceMul, Nat.reduceSub, Nat.reduceDiv, Nat.reduceMod, mT.at', hs.1 (E.at' k) (by omega)]
  intro d
  induction d with
  | zero =>
    intro p f u S h hf m br hr hs
    obtain rfl : p = 6 := by omega
    obtain ⟨f, rfl⟩ : ∃ g, f = g + 1 + 1 := ⟨f - 2, by omega⟩
    obtain ⟨T, t1, t2, t3⟩ := m_still48 hD br (s := (u, false)) (by omega) hs (nI k) (fX12_laysStill_39 (nI k) (f + 1))
    have ex : ∀ a, u a = dst D E k to a := fun a => by
      cases hd : dst D E k to a with
      | some n => exact hr.2 a n hd (by have := (dst_in hd).1; omega)
      | none =>
        cases hu : u a with
        | none => rfl
        | some q => obtain ⟨m', e1, -⟩ := hr.1 a q hu; rw [hd] at e1; cases e1
    have hid := rlP_id (D := D) (E := E) (k := k) (u := u) (fun a b => ex_closed hD ht ex a b)
    have hfl : (rlP D E k (u, false)).2 = false := by rw [hid]
    obtain ⟨T', z1, z2, z3⟩ := fin f 6 u S T (by omega) (m.mm hD (t3.le (fun _ _ => k160_M))) hr hfl t2 t3
    rw [hfl] at t1
    refine ⟨T', ?_, z2, z3⟩
    rw [fX12_laysStill_39]
    simp (disch := omega) only [lit, lm1, nI_add, pk_mul, nm_eq, nm_eq', nm_lt, nm_lt', nm_le, nm_le', x_lt, x_le, x_eq, x_in, x_cl, x_div, x_sub, x_rem, x_min, x_max, x_and, x_or, x_xor, x_df, x_shl, bI_0, bI_1, bI_bo, lg_eq, toL_inj, ls_nI, decide_eq_false_iff_not, decide_eq_true_eq, Bool.true_eq_false, Bool.false_eq_true, bq, if_pos, if_neg, if_true, if_false, lq, Nat.reduceAdd, Nat.reduceMul, Nat.reduceSub, Nat.reduceDiv, Nat.reduceMod]
    exact t1.trans z1
  | succ d ih =>
    intro p f u S h hf m br hr hs
    obtain ⟨f, rfl⟩ : ∃ g, f = g + 1 + 1 := ⟨f - 2, by omega⟩
    obtain ⟨T, t1, t2, t3⟩ := m_still48 hD br (s := (u, false)) (by omega) hs (nI k) (fX12_laysStill_39 (nI k) (f + 1))
    have mT := m.mm hD (t3.le (fun _ _ => k160_M))
    cases hfl : (rlP D E k (u, false)).2
    · obtain ⟨T', z1, z2, z3⟩ := fin f p u S T (by omega) mT hr hfl t2 t3
      rw [hfl] at t1
      refine ⟨T', ?_, z2, z3⟩
      rw [fX12_laysStill_39]
      simp (disch := omega) only [lit, lm1, nI_add, pk_mul, nm_eq, nm_eq', nm_lt, nm_lt', nm_le, nm_le', x_lt, x_le, x_eq, x_in, x_cl, x_div, x_sub, x_rem, x_min, x_max, x_and, x_or, x_xor, x_df, x_shl, bI_0, bI_1, bI_bo, lg_eq, toL_inj, ls_nI, decide_eq_false_iff_not, decide_eq_true_eq, Bool.true_eq_false, Bool.false_eq_true, bq, if_pos, if_neg, if_true, if_false, lq, Nat.reduceAdd, Nat.reduceMul, Nat.reduceSub, Nat.reduceDiv, Nat.reduceMod]
      exact t1.trans z1
    · obtain ⟨T', z1, z2, z3⟩ := ih (p + 1) (f + 1) (rlP D E k (u, false)).1 T (by omega) (by omega) mT (br.kp t3 (fun q j h => by unfold k160 at h; omega)) (rlP_ok hD ht hr) ⟨t2.1, fun x n h => by have := t2.2 x n h; omega⟩
      rw [hfl] at t1
      refine ⟨T', ?_, z2, t3.tr z3⟩
      rw [fX12_laysStill_39]
      simp (disch := omega) only [lit, lm1, nI_add, pk_mul, nm_eq, nm_eq', nm_lt, nm_lt', nm_le, nm_le', x_lt, x_le, x_eq, x_in, x_cl, x_div, x_sub, x_rem, x_min, x_max, x_and, x_or, x_xor, x_df, x_shl, bI_0, bI_1, bI_bo, lg_eq, toL_inj, ls_nI, decide_eq_false_iff_not, decide_eq_true_eq, Bool.true_eq_false, Bool.false_eq_true, bq, if_pos, if_neg, if_true, if_false, lq, Nat.reduceAdd, Nat.reduceMul, Nat.reduceSub, Nat.reduceDiv, Nat.reduceMod]
      exact t1.trans z1
def kS (q j : Nat) : Prop := q = 160 ∨ kBG q j
theorem kS_M {k j : Nat} (h : kS k j) : kM k j := by
  rcases h with h | h
  · exact k160_M h
  · exact kBG_M h
theorem m_laysStill (hD : D.WF) (hE : E.WF D) (m : mA D E S) {k to : Nat} (hk : k < D.C) (ht : to < D.K) : ∃ T, fX12_laysStill (nI k) (nI to) S = some (dF (dst D E k to (E.at' k)), T) ∧ stU T (dst D E k to) 1000 ∧ brs D E k T ∧ mF D E T E.h ∧ Kp kS S T := by
  have k6 := hD.k6
  obtain ⟨A, a1, a2, a3, a4⟩ := m_laysBears hD hE m hk
  obtain ⟨B, b1, b2, b3⟩ : ∃ B, fX12_laysStill_7 (nI k) (nI to) cpFu (nI 0) A = fX12_laysStill_39 (nI k) cpFu (nI 1) B ∧ (∀ x, x < 6 → B.1 160 x = dF (if x = to then some 0 else none)) ∧ Kp k160 A B := by
    refine up_lpR (F := fun n i (T : cpS) => fX12_laysStill_7 (nI k) (nI to) n i T) (K := fun T => fX12_laysStill_39 (nI k) cpFu (nI 1) T) 6 (fun _ (s : Unit) => s) (fun i _ T => (∀ x, x < i → T.1 160 x = dF (if x = to then some 0 else none)) ∧ Kp k160 A T) (by decide) (fun n i s T hi hI => ?_) (fun n s T hI => ?_) (i0 := 0) (s := ()) (a := A) (Nat.zero_le _) ⟨fun x hx => absurd hx (by omega), Kp.rf⟩
    · obtain ⟨i1, i2⟩ := hI
      refine ⟨cpI T 160 i (dF (if i = to then some 0 else none)), ?_, fun x hx => ?_, i2.I (by exact rfl)⟩
      · rw [fX12_laysStill_7]
        by_cases e : i = to
        · simp (disch := omega) only [lit, lm1, nI_add, pk_mul, nm_eq, nm_eq', nm_lt, nm_lt', nm_le, nm_le', x_lt, x_le, x_eq, x_in, x_cl, x_div, x_sub, x_rem, x_min, x_max, x_and, x_or, x_xor, x_df, x_shl, bI_0, bI_1, bI_bo, lg_eq, toL_inj, ls_nI, decide_eq_false_iff_not, decide_eq_true_eq, Bool.true_eq_false, Bool.false_eq_true, bq, if_pos, if_neg, if_true, if_false, lq, Nat.reduceAdd, Nat.reduceMul, Nat.reduceSub, Nat.reduceDiv, Nat.reduceMod, e, dF]
        · simp (disch := omega) only [lit, lm1, nI_add, pk_mul, nm_eq, nm_eq', nm_lt, nm_lt', nm_le, nm_le', x_lt, x_le, x_eq, x_in, x_cl, x_div, x_sub, x_rem, x_min, x_max, x_and, x_or, x_xor, x_df, x_shl, bI_0, bI_1, bI_bo, lg_eq, toL_inj, ls_nI, decide_eq_false_iff_not, decide_eq_true_eq, Bool.true_eq_false, Bool.false_eq_true, bq, if_pos, if_neg, if_true, if_false, lq, Nat.reduceAdd, Nat.reduceMul, Nat.reduceSub, Nat.reduceDiv, Nat.reduceMod, e, dF]
      · by_cases e : x = i
        · rw [e, sI1]
        · rw [sIn (Or.inr e)]; exact i1 x (by omega)
    · rw [fX12_laysStill_7]
      simp (disch := omega) only [lit, lm1, nI_add, pk_mul, nm_eq, nm_eq', nm_lt, nm_lt', nm_le, nm_le', x_lt, x_le, x_eq, x_in, x_cl, x_div, x_sub, x_rem, x_min, x_max, x_and, x_or, x_xor, x_df, x_shl, bI_0, bI_1, bI_bo, lg_eq, toL_inj, ls_nI, decide_eq_false_iff_not, decide_eq_true_eq, Bool.true_eq_false, Bool.false_eq_true, bq, if_pos, if_neg, if_true, if_false, lq, Nat.reduceAdd, Nat.reduceMul, Nat.reduceSub, Nat.reduceDiv, Nat.reduceMod]
  have mB : mA D E B := a3.1.mm hD (b3.le (fun _ _ => k160_M))
  have hst := m_still39 hD hE hk ht 6 0 cpFu (fun x => if x = to then some 0 else none) B rfl (by decide) mB (a2.kp b3 (fun q j h => by unfold k160 at h; omega)) ⟨fun a n h => ?_, fun a n h hn => ?_⟩ ⟨b2, fun x n h => ?_⟩
  · obtain ⟨T, t1, t2, t3⟩ := hst
    have kAT := b3.tr t3
    refine ⟨T, ?_, t2, a2.kp kAT (fun q j h => by unfold k160 at h; omega), a3.kp hD kAT (fun q j h => by unfold k160 at h; omega), (a4.le (fun _ _ h => Or.inr h)).tr (kAT.le (fun _ _ h => Or.inl h))⟩
    unfold fX12_laysStill
    simp (disch := omega) only [lit, lm1, nI_add, pk_mul, nm_eq, nm_eq', nm_lt, nm_lt', nm_le, nm_le', x_lt, x_le, x_eq, x_in, x_cl, x_div, x_sub, x_rem, x_min, x_max, x_and, x_or, x_xor, x_df, x_shl, bI_0, bI_1, bI_bo, lg_eq, toL_inj, ls_nI, decide_eq_false_iff_not, decide_eq_true_eq, Bool.true_eq_false, Bool.false_eq_true, bq, if_pos, if_neg, if_true, if_false, lq, Nat.reduceAdd, Nat.reduceMul, Nat.reduceSub, Nat.reduceDiv, Nat.reduceMod, a1]
    exact b1.trans t1
  · (try dsimp only at h)
    split at h
    · rename_i e
      cases h
      exact ⟨0, dst_0.mpr e, Nat.le_refl _⟩
    · cases h
  · rw [show n = 0 by omega] at h ⊢
    dsimp only
    rw [if_pos (dst_0.mp h)]
  · (try dsimp only at h)
    split at h
    · cases h; omega
    · cases h
end ST
theorem q_soonest : cpQ_soonest cpRl := by
  intro x1 x2 S hR
  refine q1 hR (fun D E hD hE => ?_)
  have c4 := hD.c4
  have k6 := hD.k6
  rcases arg2 D x1 x2 with ⟨k, t, hk, ht, rfl, rfl⟩ | h
  · have ha := hE.at' k hk
    refine ⟨oI (dst D E k t (E.at' k)), fun S c => ?_, fun S m => ?_⟩
    · obtain ⟨A, a1, a2, a3⟩ := c_learn hD hE c false hk
      have a1 : fX4_learn (nI k) (nI 0) S = some ((), A) := a1
      have cA' := c.cc (a3.le (fun _ _ => kL_C))
      obtain ⟨B, b1, b2, b3⟩ := c_measureTo hD cA' a2 ht
      have cB := cA'.cc (b3.le (fun _ _ => k122_C))
      refine ⟨B, ?_, (a3.le (fun _ _ => kL_C)).tr (b3.le (fun _ _ => k122_C))⟩
      unfold fX11_soonest
      simp (disch := omega) only [lit, lm1, nI_add, pk_mul, nm_eq, nm_eq', nm_lt, nm_lt', nm_le, nm_le', x_lt, x_le, x_eq, x_in, x_cl, x_div, x_sub, x_rem, x_min, x_max, x_and, x_or, x_xor, x_df, x_shl, bI_0, bI_1, bI_bo, lg_eq, toL_inj, ls_nI, decide_eq_false_iff_not, decide_eq_true_eq, Bool.true_eq_false, Bool.false_eq_true, bq, if_pos, if_neg, if_true, if_false, lq, Nat.reduceAdd, Nat.reduceMul, Nat.reduceSub, Nat.reduceDiv, Nat.reduceMod, c_cap1 hD c hk ht, a1, b1, cB.at', b2 (E.at' k) ha]
    · have m0 := m.thr hD (nI 0)
      obtain ⟨T, t1, t2, t3, t4, t5⟩ := m_laysStill hD hE m0 hk ht
      refine ⟨T, ?_, (kM_thr S (nI 0)).tr (t5.le (fun _ _ => kS_M))⟩
      unfold fX12_soonest fX12_toldFar
      cases hd : dst D E k t (E.at' k) with
      | none =>
        rw [hd] at t1
        simp (disch := omega) only [lit, lm1, nI_add, pk_mul, nm_eq, nm_eq', nm_lt, nm_lt', nm_le, nm_le', x_lt, x_le, x_eq, x_in, x_cl, x_div, x_sub, x_rem, x_min, x_max, x_and, x_or, x_xor, x_df, x_shl, bI_0, bI_1, bI_bo, lg_eq, toL_inj, ls_nI, decide_eq_false_iff_not, decide_eq_true_eq, Bool.true_eq_false, Bool.false_eq_true, bq, if_pos, if_neg, if_true, if_false, lq, Nat.reduceAdd, Nat.reduceMul, Nat.reduceSub, Nat.reduceDiv, Nat.reduceMod, m_noCoin1 hD m0 hk ht, t1, dF, eq_self]
        rfl
      | some n =>
        have := (dst_in hd).1
        rw [hd] at t1
        simp (disch := omega) only [lit, lm1, nI_add, pk_mul, nm_eq, nm_eq', nm_lt, nm_lt', nm_le, nm_le', x_lt, x_le, x_eq, x_in, x_cl, x_div, x_sub, x_rem, x_min, x_max, x_and, x_or, x_xor, x_df, x_shl, bI_0, bI_1, bI_bo, lg_eq, toL_inj, ls_nI, decide_eq_false_iff_not, decide_eq_true_eq, Bool.true_eq_false, Bool.false_eq_true, bq, if_pos, if_neg, if_true, if_false, lq, Nat.reduceAdd, Nat.reduceMul, Nat.reduceSub, Nat.reduceDiv, Nat.reduceMod, m_noCoin1 hD m0 hk ht, t1, dF]
        rfl
  · refine ⟨-2, fun S c => ⟨S, ?_, Kp.rf⟩, fun S m => ⟨_, ?_, kM_thr S (nI 0)⟩⟩
    · unfold fX11_soonest
      simp (disch := omega) only [lit, lm1, nI_add, pk_mul, nm_eq, nm_eq', nm_lt, nm_lt', nm_le, nm_le', x_lt, x_le, x_eq, x_in, x_cl, x_div, x_sub, x_rem, x_min, x_max, x_and, x_or, x_xor, x_df, x_shl, bI_0, bI_1, bI_bo, lg_eq, toL_inj, ls_nI, decide_eq_false_iff_not, decide_eq_true_eq, Bool.true_eq_false, Bool.false_eq_true, bq, if_pos, if_neg, if_true, if_false, lq, Nat.reduceAdd, Nat.reduceMul, Nat.reduceSub, Nat.reduceDiv, Nat.reduceMod, c_coinAndPlace hD c, h]
    · have hno : fX12_noCoin x1 x2 (cpI S 150 0 (nI 0)) = some (-2, cpI S 150 0 (nI 0)) := by rw [m_noCoin hD (m.thr hD (nI 0)), h]; rfl
      unfold fX12_soonest
      simp (disch := omega) only [lit, lm1, nI_add, pk_mul, nm_eq, nm_eq', nm_lt, nm_lt', nm_le, nm_le', x_lt, x_le, x_eq, x_in, x_cl, x_div, x_sub, x_rem, x_min, x_max, x_and, x_or, x_xor, x_df, x_shl, bI_0, bI_1, bI_bo, lg_eq, toL_inj, ls_nI, decide_eq_false_iff_not, decide_eq_true_eq, Bool.true_eq_false, Bool.false_eq_true, bq, if_pos, if_neg, if_true, if_false, lq, Nat.reduceAdd, Nat.reduceMul, Nat.reduceSub, Nat.reduceDiv, Nat.reduceMod, hno]
      rfl
