/-! laws reckoned: on a stack of numbers -/
def clp (x : Int64) : Int32 := if 0 ≤ (lg_cmp x (-1000000 : Int64)) then (if (lg_cmp x (1000000 : Int64)) ≤ 0 then Int64.toInt32 x else (1000000 : Int32)) else (-1000000 : Int32)
def op2 (k : Nat) (a b : Int32) : Int32 :=
  if k = 2000 then clp (Int32.toInt64 a + Int32.toInt64 b) else if k = 2001 then clp (Int32.toInt64 a - Int32.toInt64 b) else if k = 2002 then clp (Int32.toInt64 a * Int32.toInt64 b)
  else if k = 2003 then (if a = b then nI 1 else nI 0) else if k = 2004 then (if b ≤ a then nI 0 else nI 1) else if k = 2005 then (if a ≤ b then nI 0 else nI 1) else if k = 2006 then a &&& b else a ||| b
theorem c_j173 (x : Int64) (S : cpS) : fX3_joinAbove_173 12 x S = some (clp x, S) := by
  unfold fX3_joinAbove_173 clp
  split
  · split <;> rfl
  · rfl
theorem lgm_le (x y : Int64) : lg_cmp x y ≤ 0 ↔ ¬ y < x := by
  have := lg_gt x y
  rw [i_lt] at this
  rw [i_le]
  have z : (0 : Int32).toInt = 0 := by decide
  rw [z] at this ⊢
  constructor
  · intro h k; have := this.mpr k; omega
  · intro h
    by_cases e : (lg_cmp x y).toInt ≤ 0
    · exact e
    · exact absurd (this.mp (by omega)) h
theorem lgm_ge (x y : Int64) : 0 ≤ lg_cmp x y ↔ ¬ x < y := by
  have := lg_lt x y
  rw [i_lt] at this
  rw [i_le]
  have z : (0 : Int32).toInt = 0 := by decide
  rw [z] at this ⊢
  constructor
  · intro h k; have := this.mpr k; omega
  · intro h
    by_cases e : 0 ≤ (lg_cmp x y).toInt
    · exact e
    · exact absurd (this.mp (by omega)) h
theorem m_b116 (x : Int64) (S : cpS) : fX12_between_116 x S = some (clp x, S) := by
  unfold fX12_between_116 clp
  have h1 := lgm_le x 1000000
  have h2 := lgm_ge x (-1000000)
  by_cases g1 : lg_cmp x 1000000 ≤ 0
  · rw [if_pos g1]
    by_cases g2 : 0 ≤ lg_cmp x (-1000000)
    · rw [if_pos g2, if_pos g2, if_pos g1]
    · rw [if_neg g2, if_neg g2]; rfl
  · rw [if_neg g1]
    have g2 : 0 ≤ lg_cmp x (-1000000) := by
      rw [h2]
      intro k
      apply g1
      rw [h1]
      intro q
      rw [l_lt] at k q
      have z1 : (1000000 : Int64).toInt = 1000000 := by decide
      have z2 : (-1000000 : Int64).toInt = -1000000 := by decide
      omega
    rw [if_pos g2, if_neg g1]; rfl
theorem c_joinAbove {p k : Nat} {S : cpS} (hp : p < 100) (h1 : 2000 ≤ k) (h2 : k ≤ 2007) : fX3_joinAbove 12 (nI p) (nI k) S = some (op2 k (S.1 14 p) (S.1 14 (p + 1)), S) := by
  have : k = 2000 ∨ k = 2001 ∨ k = 2002 ∨ k = 2003 ∨ k = 2004 ∨ k = 2005 ∨ k = 2006 ∨ k = 2007 := by omega
  unfold fX3_joinAbove op2
  rcases this with rfl | rfl | rfl | rfl | rfl | rfl | rfl | rfl
  · simp (disch := omega) only [lit, lm1, nI_add, pk_mul, nm_eq, nm_eq', nm_lt, nm_lt', nm_le, nm_le', x_lt, x_le, x_eq, x_in, x_cl, x_div, x_sub, x_rem, x_min, x_max, x_and, x_or, x_xor, x_df, x_shl, bI_0, bI_1, bI_bo, lg_eq, toL_inj, ls_nI, decide_eq_false_iff_not, decide_eq_true_eq, Bool.true_eq_false, Bool.false_eq_true, bq, if_pos, if_neg, if_true, if_false, lq, Nat.reduceAdd, Nat.reduceMul, Nat.reduceSub, Nat.reduceDiv, Nat.reduceMod, c_j173]
  · simp (disch := omega) only [lit, lm1, nI_add, pk_mul, nm_eq, nm_eq', nm_lt, nm_lt', nm_le, nm_le', x_lt, x_le, x_eq, x_in, x_cl, x_div, x_sub, x_rem, x_min, x_max, x_and, x_or, x_xor, x_df, x_shl, bI_0, bI_1, bI_bo, lg_eq, toL_inj, ls_nI, decide_eq_false_iff_not, decide_eq_true_eq, Bool.true_eq_false, Bool.false_eq_true, bq, if_pos, if_neg, if_true, if_false, lq, Nat.reduceAdd, Nat.reduceMul, Nat.reduceSub, Nat.reduceDiv, Nat.reduceMod, c_j173]
  · simp (disch := omega) only [lit, lm1, nI_add, pk_mul, nm_eq, nm_eq', nm_lt, nm_lt', nm_le, nm_le', x_lt, x_le, x_eq, x_in, x_cl, x_div, x_sub, x_rem, x_min, x_max, x_and, x_or, x_xor, x_df, x_shl, bI_0, bI_1, bI_bo, lg_eq, toL_inj, ls_nI, decide_eq_false_iff_not, decide_eq_true_eq, Bool.true_eq_false, Bool.false_eq_true, bq, if_pos, if_neg, if_true, if_false, lq, Nat.reduceAdd, Nat.reduceMul, Nat.reduceSub, Nat.reduceDiv, Nat.reduceMod, c_j173]
  · simp (disch := omega) only [lit, lm1, nI_add, pk_mul, nm_eq, nm_eq', nm_lt, nm_lt', nm_le, nm_le', x_lt, x_le, x_eq, x_in, x_cl, x_div, x_sub, x_rem, x_min, x_max, x_and, x_or, x_xor, x_df, x_shl, bI_0, bI_1, bI_bo, lg_eq, toL_inj, ls_nI, decide_eq_false_iff_not, decide_eq_true_eq, Bool.true_eq_false, Bool.false_eq_true, bq, if_pos, if_neg, if_true, if_false, lq, Nat.reduceAdd, Nat.reduceMul, Nat.reduceSub, Nat.reduceDiv, Nat.reduceMod]
    split <;> rfl
  · simp (disch := omega) only [lit, lm1, nI_add, pk_mul, nm_eq, nm_eq', nm_lt, nm_lt', nm_le, nm_le', x_lt, x_le, x_eq, x_in, x_cl, x_div, x_sub, x_rem, x_min, x_max, x_and, x_or, x_xor, x_df, x_shl, bI_0, bI_1, bI_bo, lg_eq, toL_inj, ls_nI, decide_eq_false_iff_not, decide_eq_true_eq, Bool.true_eq_false, Bool.false_eq_true, bq, if_pos, if_neg, if_true, if_false, lq, Nat.reduceAdd, Nat.reduceMul, Nat.reduceSub, Nat.reduceDiv, Nat.reduceMod]
    split <;> rfl
  · simp (disch := omega) only [lit, lm1, nI_add, pk_mul, nm_eq, nm_eq', nm_lt, nm_lt', nm_le, nm_le', x_lt, x_le, x_eq, x_in, x_cl, x_div, x_sub, x_rem, x_min, x_max, x_and, x_or, x_xor, x_df, x_shl, bI_0, bI_1, bI_bo, lg_eq, toL_inj, ls_nI, decide_eq_false_iff_not, decide_eq_true_eq, Bool.true_eq_false, Bool.false_eq_true, bq, if_pos, if_neg, if_true, if_false, lq, Nat.reduceAdd, Nat.reduceMul, Nat.reduceSub, Nat.reduceDiv, Nat.reduceMod]
    split <;> rfl
  · simp (disch := omega) only [lit, lm1, nI_add, pk_mul, nm_eq, nm_eq', nm_lt, nm_lt', nm_le, nm_le', x_lt, x_le, x_eq, x_in, x_cl, x_div, x_sub, x_rem, x_min, x_max, x_and, x_or, x_xor, x_df, x_shl, bI_0, bI_1, bI_bo, lg_eq, toL_inj, ls_nI, decide_eq_false_iff_not, decide_eq_true_eq, Bool.true_eq_false, Bool.false_eq_true, bq, if_pos, if_neg, if_true, if_false, lq, Nat.reduceAdd, Nat.reduceMul, Nat.reduceSub, Nat.reduceDiv, Nat.reduceMod]
  · simp (disch := omega) only [lit, lm1, nI_add, pk_mul, nm_eq, nm_eq', nm_lt, nm_lt', nm_le, nm_le', x_lt, x_le, x_eq, x_in, x_cl, x_div, x_sub, x_rem, x_min, x_max, x_and, x_or, x_xor, x_df, x_shl, bI_0, bI_1, bI_bo, lg_eq, toL_inj, ls_nI, decide_eq_false_iff_not, decide_eq_true_eq, Bool.true_eq_false, Bool.false_eq_true, bq, if_pos, if_neg, if_true, if_false, lq, Nat.reduceAdd, Nat.reduceMul, Nat.reduceSub, Nat.reduceDiv, Nat.reduceMod]
theorem c_joinNot {p : Nat} {S : cpS} (hp : p < 100) : fX3_joinAbove 12 (nI p) (nI 2008) S = some (nI 1 - S.1 14 p, S) := by
  unfold fX3_joinAbove
  simp (disch := omega) only [lit, lm1, nI_add, pk_mul, nm_eq, nm_eq', nm_lt, nm_lt', nm_le, nm_le', x_lt, x_le, x_eq, x_in, x_cl, x_div, x_sub, x_rem, x_min, x_max, x_and, x_or, x_xor, x_df, x_shl, bI_0, bI_1, bI_bo, lg_eq, toL_inj, ls_nI, decide_eq_false_iff_not, decide_eq_true_eq, Bool.true_eq_false, Bool.false_eq_true, bq, if_pos, if_neg, if_true, if_false, lq, Nat.reduceAdd, Nat.reduceMul, Nat.reduceSub, Nat.reduceDiv, Nat.reduceMod]
theorem c_joinIf {p : Nat} {S : cpS} (hp : p < 100) : fX3_joinAbove 12 (nI p) (nI 2009) S = some (if S.1 14 p = nI 0 then S.1 14 (p + 2) else S.1 14 (p + 1), S) := by
  unfold fX3_joinAbove
  simp (disch := omega) only [lit, lm1, nI_add, pk_mul, nm_eq, nm_eq', nm_lt, nm_lt', nm_le, nm_le', x_lt, x_le, x_eq, x_in, x_cl, x_div, x_sub, x_rem, x_min, x_max, x_and, x_or, x_xor, x_df, x_shl, bI_0, bI_1, bI_bo, lg_eq, toL_inj, ls_nI, decide_eq_false_iff_not, decide_eq_true_eq, Bool.true_eq_false, Bool.false_eq_true, bq, if_pos, if_neg, if_true, if_false, lq, Nat.reduceAdd, Nat.reduceMul, Nat.reduceSub, Nat.reduceDiv, Nat.reduceMod]
  split <;> rfl
theorem m_between {k : Nat} (a b : Int32) (S : cpS) (h1 : 2000 ≤ k) (h2 : k ≤ 2007) : fX12_between (nI (cpOp k)) a b S = some (op2 k a b, S) := by
  have : k = 2000 ∨ k = 2001 ∨ k = 2002 ∨ k = 2003 ∨ k = 2004 ∨ k = 2005 ∨ k = 2006 ∨ k = 2007 := by omega
  unfold fX12_between op2
  rcases this with rfl | rfl | rfl | rfl | rfl | rfl | rfl | rfl
  · rw [show cpOp 2000 = 3000 from rfl]; simp (disch := omega) only [lit, lm1, nI_add, pk_mul, nm_eq, nm_eq', nm_lt, nm_lt', nm_le, nm_le', x_lt, x_le, x_eq, x_in, x_cl, x_div, x_sub, x_rem, x_min, x_max, x_and, x_or, x_xor, x_df, x_shl, bI_0, bI_1, bI_bo, lg_eq, toL_inj, ls_nI, decide_eq_false_iff_not, decide_eq_true_eq, Bool.true_eq_false, Bool.false_eq_true, bq, if_pos, if_neg, if_true, if_false, lq, Nat.reduceAdd, Nat.reduceMul, Nat.reduceSub, Nat.reduceDiv, Nat.reduceMod, m_b116]
  · rw [show cpOp 2001 = 3001 from rfl]; simp (disch := omega) only [lit, lm1, nI_add, pk_mul, nm_eq, nm_eq', nm_lt, nm_lt', nm_le, nm_le', x_lt, x_le, x_eq, x_in, x_cl, x_div, x_sub, x_rem, x_min, x_max, x_and, x_or, x_xor, x_df, x_shl, bI_0, bI_1, bI_bo, lg_eq, toL_inj, ls_nI, decide_eq_false_iff_not, decide_eq_true_eq, Bool.true_eq_false, Bool.false_eq_true, bq, if_pos, if_neg, if_true, if_false, lq, Nat.reduceAdd, Nat.reduceMul, Nat.reduceSub, Nat.reduceDiv, Nat.reduceMod, m_b116]
  · rw [show cpOp 2002 = 3002 from rfl]; simp (disch := omega) only [lit, lm1, nI_add, pk_mul, nm_eq, nm_eq', nm_lt, nm_lt', nm_le, nm_le', x_lt, x_le, x_eq, x_in, x_cl, x_div, x_sub, x_rem, x_min, x_max, x_and, x_or, x_xor, x_df, x_shl, bI_0, bI_1, bI_bo, lg_eq, toL_inj, ls_nI, decide_eq_false_iff_not, decide_eq_true_eq, Bool.true_eq_false, Bool.false_eq_true, bq, if_pos, if_neg, if_true, if_false, lq, Nat.reduceAdd, Nat.reduceMul, Nat.reduceSub, Nat.reduceDiv, Nat.reduceMod, m_b116]
  · rw [show cpOp 2003 = 3003 from rfl]; simp (disch := omega) only [lit, lm1, nI_add, pk_mul, nm_eq, nm_eq', nm_lt, nm_lt', nm_le, nm_le', x_lt, x_le, x_eq, x_in, x_cl, x_div, x_sub, x_rem, x_min, x_max, x_and, x_or, x_xor, x_df, x_shl, bI_0, bI_1, bI_bo, lg_eq, toL_inj, ls_nI, decide_eq_false_iff_not, decide_eq_true_eq, Bool.true_eq_false, Bool.false_eq_true, bq, if_pos, if_neg, if_true, if_false, lq, Nat.reduceAdd, Nat.reduceMul, Nat.reduceSub, Nat.reduceDiv, Nat.reduceMod]
    split <;> rfl
  · rw [show cpOp 2004 = 3004 from rfl]; simp (disch := omega) only [lit, lm1, nI_add, pk_mul, nm_eq, nm_eq', nm_lt, nm_lt', nm_le, nm_le', x_lt, x_le, x_eq, x_in, x_cl, x_div, x_sub, x_rem, x_min, x_max, x_and, x_or, x_xor, x_df, x_shl, bI_0, bI_1, bI_bo, lg_eq, toL_inj, ls_nI, decide_eq_false_iff_not, decide_eq_true_eq, Bool.true_eq_false, Bool.false_eq_true, bq, if_pos, if_neg, if_true, if_false, lq, Nat.reduceAdd, Nat.reduceMul, Nat.reduceSub, Nat.reduceDiv, Nat.reduceMod]
    split <;> rfl
  · rw [show cpOp 2005 = 3005 from rfl]; simp (disch := omega) only [lit, lm1, nI_add, pk_mul, nm_eq, nm_eq', nm_lt, nm_lt', nm_le, nm_le', x_lt, x_le, x_eq, x_in, x_cl, x_div, x_sub, x_rem, x_min, x_max, x_and, x_or, x_xor, x_df, x_shl, bI_0, bI_1, bI_bo, lg_eq, toL_inj, ls_nI, decide_eq_false_iff_not, decide_eq_true_eq, Bool.true_eq_false, Bool.false_eq_true, bq, if_pos, if_neg, if_true, if_false, lq, Nat.reduceAdd, Nat.reduceMul, Nat.reduceSub, Nat.reduceDiv, Nat.reduceMod]
    split <;> rfl
  · rw [show cpOp 2006 = 3007 from rfl]; simp (disch := omega) only [lit, lm1, nI_add, pk_mul, nm_eq, nm_eq', nm_lt, nm_lt', nm_le, nm_le', x_lt, x_le, x_eq, x_in, x_cl, x_div, x_sub, x_rem, x_min, x_max, x_and, x_or, x_xor, x_df, x_shl, bI_0, bI_1, bI_bo, lg_eq, toL_inj, ls_nI, decide_eq_false_iff_not, decide_eq_true_eq, Bool.true_eq_false, Bool.false_eq_true, bq, if_pos, if_neg, if_true, if_false, lq, Nat.reduceAdd, Nat.reduceMul, Nat.reduceSub, Nat.reduceDiv, Nat.reduceMod]
  · rw [show cpOp 2007 = 3008 from rfl]; simp (disch := omega) only [lit, lm1, nI_add, pk_mul, nm_eq, nm_eq', nm_lt, nm_lt', nm_le, nm_le', x_lt, x_le, x_eq, x_in, x_cl, x_div, x_sub, x_rem, x_min, x_max, x_and, x_or, x_xor, x_df, x_shl, bI_0, bI_1, bI_bo, lg_eq, toL_inj, ls_nI, decide_eq_false_iff_not, decide_eq_true_eq, Bool.true_eq_false, Bool.false_eq_true, bq, if_pos, if_neg, if_true, if_false, lq, Nat.reduceAdd, Nat.reduceMul, Nat.reduceSub, Nat.reduceDiv, Nat.reduceMod]
/-- an operation on the stack, its top first -/
def ev1 (w : Nat → Int32) (k : Nat) (st : List Int32) : List Int32 :=
  if k < 1000 then nI k :: st else if k < 1006 then w (k - 1000) :: st
  else if k = 2008 then (match st with | a :: t => (nI 1 - a) :: t | s => s)
  else if k = 2009 then (match st with | c :: b :: a :: t => (if a = nI 0 then c else b) :: t | s => s)
  else (match st with | b :: a :: t => op2 k a b :: t | s => s)
def evL (w : Nat → Int32) (l : List Nat) (st : List Int32) : List Int32 := l.foldl (fun s k => ev1 w k s) st
def stk (S : cpS) (k : Nat) : List Int32 → Prop
  | [] => True
  | x :: t => S.1 k t.length = x ∧ stk S k t
def tru (x : Int32) : Prop := x = nI 0 ∨ x = nI 1
def ty : List Bool → List Int32 → Prop
  | [], [] => True
  | b :: bs, x :: xs => (b = true → tru x) ∧ ty bs xs
  | _, _ => False
theorem stk.st {S : cpS} {k j : Nat} {y : Int32} : ∀ {t : List Int32}, stk S k t → t.length ≤ j → stk (cpI S k j y) k t
  | [], _, _ => trivial
  | x :: t, h, hj => by
    have hj' : t.length + 1 ≤ j := hj
    exact ⟨by rw [sIn (Or.inr (by omega))]; exact h.1, stk.st h.2 (by omega)⟩
theorem stk.cg {S T : cpS} {k : Nat} (e : T.1 k = S.1 k) : ∀ {t : List Int32}, stk S k t → stk T k t
  | [], _ => trivial
  | x :: t, h => ⟨by rw [e]; exact h.1, stk.cg e h.2⟩
theorem stk.push {S : cpS} {k : Nat} {y : Int32} {t : List Int32} (h : stk S k t) : stk (cpI S k t.length y) k (y :: t) := ⟨sI1, h.st (Nat.le_refl _)⟩
theorem ty_len : ∀ {ks : List Bool} {vs : List Int32}, ty ks vs → ks.length = vs.length
  | [], [], _ => rfl
  | _ :: bs, _ :: xs, h => by rw [List.length_cons, List.length_cons, ty_len h.2]
  | [], _ :: _, h => h.elim
  | _ :: _, [], h => h.elim
def shp (k : Nat) (vs : List Int32) : Prop := k < 1006 ∨ (k = 2008 ∧ ∃ a t, vs = a :: t ∧ tru a) ∨ (k = 2009 ∧ ∃ c b a t, vs = c :: b :: a :: t ∧ tru a) ∨ (2000 ≤ k ∧ k ≤ 2007 ∧ ∃ b a t, vs = b :: a :: t)
theorem typ_cases {k : Nat} {st t : List Bool} (h : cpTyp k st = some t) : (k < 1006 ∧ t = false :: st) ∨ ((k = 2000 ∨ k = 2001 ∨ k = 2002) ∧ ∃ u, st = false :: false :: u ∧ t = false :: u) ∨ ((k = 2003 ∨ k = 2004 ∨ k = 2005) ∧ ∃ u, st = false :: false :: u ∧ t = true :: u) ∨ ((k = 2006 ∨ k = 2007) ∧ ∃ u, st = true :: true :: u ∧ t = true :: u) ∨ (k = 2008 ∧ ∃ u, st = true :: u ∧ t = true :: u) ∨ (k = 2009 ∧ ∃ u, st = false :: false :: true :: u ∧ t = false :: u) := by
  unfold cpTyp at h
  split at h
  · cases h; exact Or.inl ⟨by assumption, rfl⟩
  · split at h
    · split at h
      · cases h; exact Or.inr (Or.inl ⟨by assumption, _, rfl, rfl⟩)
      · cases h
    · split at h
      · split at h
        · cases h; exact Or.inr (Or.inr (Or.inl ⟨by assumption, _, rfl, rfl⟩))
        · cases h
      · split at h
        · split at h
          · cases h; exact Or.inr (Or.inr (Or.inr (Or.inl ⟨by assumption, _, rfl, rfl⟩)))
          · cases h
        · split at h
          · split at h
            · cases h; exact Or.inr (Or.inr (Or.inr (Or.inr (Or.inl ⟨by assumption, _, rfl, rfl⟩))))
            · cases h
          · split at h
            · split at h
              · cases h; exact Or.inr (Or.inr (Or.inr (Or.inr (Or.inr ⟨by assumption, _, rfl, rfl⟩))))
              · cases h
            · cases h
theorem ty_2 {b1 b2 : Bool} {u : List Bool} {vs : List Int32} (h : ty (b1 :: b2 :: u) vs) : ∃ b a t, vs = b :: a :: t ∧ (b1 = true → tru b) ∧ (b2 = true → tru a) ∧ ty u t := by
  match vs, h with
  | b :: a :: t, h => exact ⟨b, a, t, rfl, h.1, h.2.1, h.2.2⟩
  | [_], h => exact h.2.elim
  | [], h => exact h.elim
theorem ty_1 {b1 : Bool} {u : List Bool} {vs : List Int32} (h : ty (b1 :: u) vs) : ∃ a t, vs = a :: t ∧ (b1 = true → tru a) ∧ ty u t := by
  match vs, h with
  | a :: t, h => exact ⟨a, t, rfl, h.1, h.2⟩
  | [], h => exact h.elim
theorem ev_shape (w : Nat → Int32) {k : Nat} {ks ks' : List Bool} {vs : List Int32} (h : ty ks vs) (hk : cpTyp k ks = some ks') : shp k vs ∧ ty ks' (ev1 w k vs) := by
  rcases typ_cases hk with ⟨h1, rfl⟩ | ⟨h1, u, rfl, rfl⟩ | ⟨h1, u, rfl, rfl⟩ | ⟨h1, u, rfl, rfl⟩ | ⟨h1, u, rfl, rfl⟩ | ⟨h1, u, rfl, rfl⟩
  · refine ⟨Or.inl h1, ?_⟩
    unfold ev1
    by_cases e : k < 1000
    · rw [if_pos e]; exact ⟨fun e => (by cases e), h⟩
    · rw [if_neg e, if_pos h1]; exact ⟨fun e => (by cases e), h⟩
  · obtain ⟨b, a, t, rfl, -, -, h4⟩ := ty_2 h
    refine ⟨Or.inr (Or.inr (Or.inr ⟨by omega, by omega, b, a, t, rfl⟩)), ?_⟩
    unfold ev1
    rw [if_neg (by omega), if_neg (by omega), if_neg (by omega), if_neg (by omega)]
    exact ⟨fun e => (by cases e), h4⟩
  · obtain ⟨b, a, t, rfl, -, -, h4⟩ := ty_2 h
    refine ⟨Or.inr (Or.inr (Or.inr ⟨by omega, by omega, b, a, t, rfl⟩)), ?_⟩
    unfold ev1
    rw [if_neg (by omega), if_neg (by omega), if_neg (by omega), if_neg (by omega)]
    refine ⟨fun _ => ?_, h4⟩
    unfold op2
    rcases h1 with rfl | rfl | rfl
    · rw [if_neg (by decide), if_neg (by decide), if_neg (by decide), if_pos rfl]
      split
      · exact Or.inr rfl
      · exact Or.inl rfl
    · rw [if_neg (by decide), if_neg (by decide), if_neg (by decide), if_neg (by decide), if_pos rfl]
      split
      · exact Or.inl rfl
      · exact Or.inr rfl
    · rw [if_neg (by decide), if_neg (by decide), if_neg (by decide), if_neg (by decide), if_neg (by decide), if_pos rfl]
      split
      · exact Or.inl rfl
      · exact Or.inr rfl
  · obtain ⟨b, a, t, rfl, h2, h3, h4⟩ := ty_2 h
    refine ⟨Or.inr (Or.inr (Or.inr ⟨by omega, by omega, b, a, t, rfl⟩)), ?_⟩
    unfold ev1
    rw [if_neg (by omega), if_neg (by omega), if_neg (by omega), if_neg (by omega)]
    refine ⟨fun _ => ?_, h4⟩
    unfold op2
    rcases h1 with rfl | rfl
    · rw [if_neg (by decide), if_neg (by decide), if_neg (by decide), if_neg (by decide), if_neg (by decide), if_neg (by decide), if_pos rfl]
      rcases h2 rfl with rfl | rfl <;> rcases h3 rfl with rfl | rfl
      · exact Or.inl (by decide)
      · exact Or.inl (by decide)
      · exact Or.inl (by decide)
      · exact Or.inr (by decide)
    · rw [if_neg (by decide), if_neg (by decide), if_neg (by decide), if_neg (by decide), if_neg (by decide), if_neg (by decide), if_neg (by decide)]
      rcases h2 rfl with rfl | rfl <;> rcases h3 rfl with rfl | rfl
      · exact Or.inl (by decide)
      · exact Or.inr (by decide)
      · exact Or.inr (by decide)
      · exact Or.inr (by decide)
  · obtain ⟨a, t, rfl, h2, h4⟩ := ty_1 h
    refine ⟨Or.inr (Or.inl ⟨h1, a, t, rfl, h2 rfl⟩), ?_⟩
    unfold ev1
    rw [if_neg (by omega), if_neg (by omega), if_pos h1]
    refine ⟨fun _ => ?_, h4⟩
    rcases h2 rfl with rfl | rfl
    · exact Or.inr (by decide)
    · exact Or.inl (by decide)
  · obtain ⟨c, b, t, rfl, -, -, h4⟩ := ty_2 h
    obtain ⟨a, t, rfl, h2, h4⟩ := ty_1 h4
    refine ⟨Or.inr (Or.inr (Or.inl ⟨h1, c, b, a, t, rfl, h2 rfl⟩)), ?_⟩
    unfold ev1
    rw [if_neg (by omega), if_neg (by omega), if_neg (by omega), if_pos h1]
    exact ⟨fun e => (by cases e), h4⟩
theorem ty_one {b : Bool} {vs : List Int32} (h : ty [b] vs) : ∃ r, vs = [r] ∧ (b = true → tru r) := by
  obtain ⟨a, t, rfl, h1, h2⟩ := ty_1 h
  match t, h2 with
  | [], _ => exact ⟨a, rfl, h1⟩
  | _ :: _, h2 => exact h2.elim
def k14 (k _ : Nat) : Prop := k = 14
def k156 (k _ : Nat) : Prop := k = 156
theorem c_reckonL {w : Nat → Int32} {N : Nat} (hN : N ≤ 900) {en : List Bool} : ∀ (l : List Nat) (i : Nat) (ks : List Bool) (vs : List Int32) (f : Nat) (S : cpS), i + l.length = N → (∀ j, j < l.length → S.1 13 (i + j) = nI (l.getD j 0)) → cpSnd l ks en → ty ks vs → stk S 14 vs → (∀ j, j < 6 → S.1 118 j = w j) → l.length < f → ∃ T, fX3_reckon_39 12 (nI N) f (nI vs.length) (nI i) S = some (T.1 14 0, T) ∧ stk T 14 (evL w l vs) ∧ ty en (evL w l vs) ∧ Kp k14 S T := by
  intro l
  induction l with
  | nil =>
    intro i ks vs f S h1 h2 h3 h4 h5 h6 h7
    obtain ⟨f, rfl⟩ : ∃ g, f = g + 1 := ⟨f - 1, by omega⟩
    rw [List.length_nil] at h1
    obtain rfl : i = N := by omega
    have h3' : ks = en := h3
    subst h3'
    refine ⟨S, ?_, h5, h4, Kp.rf⟩
    rw [fX3_reckon_39]
    simp (disch := omega) only [lit, lm1, nI_add, pk_mul, nm_eq, nm_eq', nm_lt, nm_lt', nm_le, nm_le', x_lt, x_le, x_eq, x_in, x_cl, x_div, x_sub, x_rem, x_min, x_max, x_and, x_or, x_xor, x_df, x_shl, bI_0, bI_1, bI_bo, lg_eq, toL_inj, ls_nI, decide_eq_false_iff_not, decide_eq_true_eq, Bool.true_eq_false, Bool.false_eq_true, bq, if_pos, if_neg, if_true, if_false, lq, Nat.reduceAdd, Nat.reduceMul, Nat.reduceSub, Nat.reduceDiv, Nat.reduceMod]
  | cons k l ih =>
    intro i ks vs f S h1 h2 h3 h4 h5 h6 h7
    obtain ⟨f, rfl⟩ : ∃ g, f = g + 1 := ⟨f - 1, by omega⟩
    rw [List.length_cons] at h1 h2 h7
    obtain ⟨hk90, ks', hk, h3⟩ := h3
    have hlen := ty_len h4
    obtain ⟨sh, ty'⟩ := ev_shape w h4 hk
    have e0 : S.1 13 i = nI k := h2 0 (by omega)
    have fin : ∀ (y : Int32) (t : List Int32), ev1 w k vs = y :: t → stk S 14 t → fX3_reckon_39 12 (nI N) (f + 1) (nI vs.length) (nI i) S = fX3_reckon_39 12 (nI N) f (nI (t.length + 1)) (nI (i + 1)) (cpI S 14 t.length y) → ∃ T, fX3_reckon_39 12 (nI N) (f + 1) (nI vs.length) (nI i) S = some (T.1 14 0, T) ∧ stk T 14 (evL w (k :: l) vs) ∧ ty en (evL w (k :: l) vs) ∧ Kp k14 S T := by
      intro y t he ht hf
      have hS := ht.push (y := y)
      rw [he] at ty'
      obtain ⟨T, t1, t2, t3, t4⟩ := ih (i + 1) ks' (y :: t) f (cpI S 14 t.length y) (by omega) (fun j hj => by rw [sIr (by decide), show i + 1 + j = i + (j + 1) by omega, h2 (j + 1) (by omega), List.getD_cons_succ]) h3 ty' hS (fun j hj => by rw [sIr (by decide)]; exact h6 j hj) (by omega)
      rw [List.length_cons] at t1
      refine ⟨T, hf.trans t1, ?_, ?_, ((Kp.rf.I (by exact rfl)).tr t4)⟩
      · show stk T 14 (evL w l (ev1 w k vs)); rw [he]; exact t2
      · show ty en (evL w l (ev1 w k vs)); rw [he]; exact t3
    rcases sh with hlt | ⟨rfl, a, t, rfl, ha⟩ | ⟨rfl, c, b, a, t, rfl, ha⟩ | ⟨k1, k2, b, a, t, rfl⟩
    · by_cases e : k < 1000
      · refine fin (nI k) vs (by unfold ev1; rw [if_pos e]) h5 ?_
        rw [fX3_reckon_39]
        simp (disch := omega) only [lit, lm1, nI_add, pk_mul, nm_eq, nm_eq', nm_lt, nm_lt', nm_le, nm_le', x_lt, x_le, x_eq, x_in, x_cl, x_div, x_sub, x_rem, x_min, x_max, x_and, x_or, x_xor, x_df, x_shl, bI_0, bI_1, bI_bo, lg_eq, toL_inj, ls_nI, decide_eq_false_iff_not, decide_eq_true_eq, Bool.true_eq_false, Bool.false_eq_true, bq, if_pos, if_neg, if_true, if_false, lq, Nat.reduceAdd, Nat.reduceMul, Nat.reduceSub, Nat.reduceDiv, Nat.reduceMod, e0, e]
      · refine fin (w (k - 1000)) vs (by unfold ev1; rw [if_neg e, if_pos hlt]) h5 ?_
        rw [fX3_reckon_39]
        simp (disch := omega) only [lit, lm1, nI_add, pk_mul, nm_eq, nm_eq', nm_lt, nm_lt', nm_le, nm_le', x_lt, x_le, x_eq, x_in, x_cl, x_div, x_sub, x_rem, x_min, x_max, x_and, x_or, x_xor, x_df, x_shl, bI_0, bI_1, bI_bo, lg_eq, toL_inj, ls_nI, decide_eq_false_iff_not, decide_eq_true_eq, Bool.true_eq_false, Bool.false_eq_true, bq, if_pos, if_neg, if_true, if_false, lq, Nat.reduceAdd, Nat.reduceMul, Nat.reduceSub, Nat.reduceDiv, Nat.reduceMod, e0, e, h6]
    · refine fin (nI 1 - a) t (by unfold ev1; rfl) h5.2 ?_
      rw [List.length_cons] at hlen ⊢
      have q := h5.1
      rw [fX3_reckon_39]
      unfold fX3_joinedBy
      simp (disch := omega) only [lit, lm1, nI_add, pk_mul, nm_eq, nm_eq', nm_lt, nm_lt', nm_le, nm_le', x_lt, x_le, x_eq, x_in, x_cl, x_div, x_sub, x_rem, x_min, x_max, x_and, x_or, x_xor, x_df, x_shl, bI_0, bI_1, bI_bo, lg_eq, toL_inj, ls_nI, decide_eq_false_iff_not, decide_eq_true_eq, Bool.true_eq_false, Bool.false_eq_true, bq, if_pos, if_neg, if_true, if_false, lq, Nat.reduceAdd, Nat.reduceMul, Nat.reduceSub, Nat.reduceDiv, Nat.reduceMod, e0, c_joinNot, q, Nat.add_sub_cancel, Nat.zero_max]
    · refine fin (if a = nI 0 then c else b) t (by unfold ev1; rfl) h5.2.2.2 ?_
      rw [List.length_cons, List.length_cons, List.length_cons] at hlen ⊢
      have q1 : S.1 14 (t.length + 1 + 1) = c := h5.1
      have q2 : S.1 14 (t.length + 1) = b := h5.2.1
      have q3 : S.1 14 t.length = a := h5.2.2.1
      rw [Nat.add_assoc t.length 1 1] at q1
      rw [fX3_reckon_39]
      unfold fX3_joinedBy
      simp (disch := omega) only [lit, lm1, nI_add, pk_mul, nm_eq, nm_eq', nm_lt, nm_lt', nm_le, nm_le', x_lt, x_le, x_eq, x_in, x_cl, x_div, x_sub, x_rem, x_min, x_max, x_and, x_or, x_xor, x_df, x_shl, bI_0, bI_1, bI_bo, lg_eq, toL_inj, ls_nI, decide_eq_false_iff_not, decide_eq_true_eq, Bool.true_eq_false, Bool.false_eq_true, bq, if_pos, if_neg, if_true, if_false, lq, Nat.reduceAdd, Nat.reduceMul, Nat.reduceSub, Nat.reduceDiv, Nat.reduceMod, e0, c_joinIf, q1, q2, q3, show t.length + 1 + 1 + 1 - 3 = t.length by omega, Nat.zero_max]
    · refine fin (op2 k a b) t (by unfold ev1; rw [if_neg (by omega), if_neg (by omega), if_neg (by omega), if_neg (by omega)]) h5.2.2 ?_
      rw [List.length_cons, List.length_cons] at hlen ⊢
      have q2 : S.1 14 (t.length + 1) = b := h5.1
      have q3 : S.1 14 t.length = a := h5.2.1
      have hj : fX3_joinedBy (nI k) S = some (nI 2, S) := by
        unfold fX3_joinedBy
        simp (disch := omega) only [lit, lm1, nI_add, pk_mul, nm_eq, nm_eq', nm_lt, nm_lt', nm_le, nm_le', x_lt, x_le, x_eq, x_in, x_cl, x_div, x_sub, x_rem, x_min, x_max, x_and, x_or, x_xor, x_df, x_shl, bI_0, bI_1, bI_bo, lg_eq, toL_inj, ls_nI, decide_eq_false_iff_not, decide_eq_true_eq, Bool.true_eq_false, Bool.false_eq_true, bq, if_pos, if_neg, if_true, if_false, lq, Nat.reduceAdd, Nat.reduceMul, Nat.reduceSub, Nat.reduceDiv, Nat.reduceMod]
      rw [fX3_reckon_39]
      simp (disch := omega) only [lit, lm1, nI_add, pk_mul, nm_eq, nm_eq', nm_lt, nm_lt', nm_le, nm_le', x_lt, x_le, x_eq, x_in, x_cl, x_div, x_sub, x_rem, x_min, x_max, x_and, x_or, x_xor, x_df, x_shl, bI_0, bI_1, bI_bo, lg_eq, toL_inj, ls_nI, decide_eq_false_iff_not, decide_eq_true_eq, Bool.true_eq_false, Bool.false_eq_true, bq, if_pos, if_neg, if_true, if_false, lq, Nat.reduceAdd, Nat.reduceMul, Nat.reduceSub, Nat.reduceDiv, Nat.reduceMod, e0, hj, c_joinAbove, q2, q3, show t.length + 1 + 1 - 2 = t.length by omega, Nat.zero_max]
theorem cpOp_lo {k : Nat} (h : k < 2000) : cpOp k = k := if_pos h
theorem m_reckonL {w : Nat → Int32} {law fm L : Nat} (hl : law < 2) (hN : fm + L ≤ 900) {en : List Bool} : ∀ (l : List Nat) (i : Nat) (ks : List Bool) (vs : List Int32) (f : Nat) (S : cpS), i + l.length = L → S.1 151 (9 + law) = nI L → S.1 151 (7 + law) = nI fm → (∀ j, j < l.length → S.1 151 (262 + fm + (i + j)) = nI (cpOp (l.getD j 0))) → cpSnd l ks en → ty ks vs → stk S 156 vs → (∀ j, j < 6 → S.1 157 j = w j) → l.length < f → ∃ T, fX12_reckons_4 (nI law) f (nI vs.length) (nI i) S = some (T.1 156 0, T) ∧ stk T 156 (evL w l vs) ∧ ty en (evL w l vs) ∧ Kp k156 S T := by
  intro l
  induction l with
  | nil =>
    intro i ks vs f S h1 g1 g2 h2 h3 h4 h5 h6 h7
    obtain ⟨f, rfl⟩ : ∃ g, f = g + 1 := ⟨f - 1, by omega⟩
    rw [List.length_nil] at h1
    obtain rfl : i = L := by omega
    have h3' : ks = en := h3
    subst h3'
    refine ⟨S, ?_, h5, h4, Kp.rf⟩
    rw [fX12_reckons_4]
    simp (disch := omega) only [lit, lm1, nI_add, pk_mul, nm_eq, nm_eq', nm_lt, nm_lt', nm_le, nm_le', x_lt, x_le, x_eq, x_in, x_cl, x_div, x_sub, x_rem, x_min, x_max, x_and, x_or, x_xor, x_df, x_shl, bI_0, bI_1, bI_bo, lg_eq, toL_inj, ls_nI, decide_eq_false_iff_not, decide_eq_true_eq, Bool.true_eq_false, Bool.false_eq_true, bq, if_pos, if_neg, if_true, if_false, lq, Nat.reduceAdd, Nat.reduceMul, Nat.reduceSub, Nat.reduceDiv, Nat.reduceMod, g1]
  | cons k l ih =>
    intro i ks vs f S h1 g1 g2 h2 h3 h4 h5 h6 h7
    obtain ⟨f, rfl⟩ : ∃ g, f = g + 1 := ⟨f - 1, by omega⟩
    rw [List.length_cons] at h1 h2 h7
    obtain ⟨hk90, ks', hk, h3⟩ := h3
    have hlen := ty_len h4
    obtain ⟨sh, ty'⟩ := ev_shape w h4 hk
    have e0 : S.1 151 (262 + fm + i) = nI (cpOp k) := h2 0 (by omega)
    have fin : ∀ (y : Int32) (t : List Int32), ev1 w k vs = y :: t → stk S 156 t → fX12_reckons_4 (nI law) (f + 1) (nI vs.length) (nI i) S = fX12_reckons_4 (nI law) f (nI (t.length + 1)) (nI (i + 1)) (cpI S 156 t.length y) → ∃ T, fX12_reckons_4 (nI law) (f + 1) (nI vs.length) (nI i) S = some (T.1 156 0, T) ∧ stk T 156 (evL w (k :: l) vs) ∧ ty en (evL w (k :: l) vs) ∧ Kp k156 S T := by
      intro y t he ht hf
      have hS := ht.push (y := y)
      rw [he] at ty'
      obtain ⟨T, t1, t2, t3, t4⟩ := ih (i + 1) ks' (y :: t) f (cpI S 156 t.length y) (by omega) (by rw [sIr (by decide)]; exact g1) (by rw [sIr (by decide)]; exact g2) (fun j hj => by rw [sIr (by decide), show i + 1 + j = i + (j + 1) by omega, h2 (j + 1) (by omega), List.getD_cons_succ]) h3 ty' hS (fun j hj => by rw [sIr (by decide)]; exact h6 j hj) (by omega)
      rw [List.length_cons] at t1
      refine ⟨T, hf.trans t1, ?_, ?_, ((Kp.rf.I (by exact rfl)).tr t4)⟩
      · show stk T 156 (evL w l (ev1 w k vs)); rw [he]; exact t2
      · show ty en (evL w l (ev1 w k vs)); rw [he]; exact t3
    rcases sh with hlt | ⟨rfl, a, t, rfl, ha⟩ | ⟨rfl, c, b, a, t, rfl, ha⟩ | ⟨k1, k2, b, a, t, rfl⟩
    · rw [cpOp_lo (by omega)] at e0
      by_cases e : k < 1000
      · refine fin (nI k) vs (by unfold ev1; rw [if_pos e]) h5 ?_
        rw [fX12_reckons_4]
        simp (disch := omega) only [lit, lm1, nI_add, pk_mul, nm_eq, nm_eq', nm_lt, nm_lt', nm_le, nm_le', x_lt, x_le, x_eq, x_in, x_cl, x_div, x_sub, x_rem, x_min, x_max, x_and, x_or, x_xor, x_df, x_shl, bI_0, bI_1, bI_bo, lg_eq, toL_inj, ls_nI, decide_eq_false_iff_not, decide_eq_true_eq, Bool.true_eq_false, Bool.false_eq_true, bq, if_pos, if_neg, if_true, if_false, lq, Nat.reduceAdd, Nat.reduceMul, Nat.reduceSub, Nat.reduceDiv, Nat.reduceMod, g1, g2, e0, e]
      · refine fin (w (k - 1000)) vs (by unfold ev1; rw [if_neg e, if_pos hlt]) h5 ?_
        rw [fX12_reckons_4]
        simp (disch := omega) only [lit, lm1, nI_add, pk_mul, nm_eq, nm_eq', nm_lt, nm_lt', nm_le, nm_le', x_lt, x_le, x_eq, x_in, x_cl, x_div, x_sub, x_rem, x_min, x_max, x_and, x_or, x_xor, x_df, x_shl, bI_0, bI_1, bI_bo, lg_eq, toL_inj, ls_nI, decide_eq_false_iff_not, decide_eq_true_eq, Bool.true_eq_false, Bool.false_eq_true, bq, if_pos, if_neg, if_true, if_false, lq, Nat.reduceAdd, Nat.reduceMul, Nat.reduceSub, Nat.reduceDiv, Nat.reduceMod, g1, g2, e0, e, h6]
    · rw [show cpOp 2008 = 3006 from rfl] at e0
      refine fin (nI 1 - a) t (by unfold ev1; rfl) h5.2 ?_
      rw [List.length_cons] at hlen ⊢
      have q := h5.1
      rw [fX12_reckons_4]
      simp (disch := omega) only [lit, lm1, nI_add, pk_mul, nm_eq, nm_eq', nm_lt, nm_lt', nm_le, nm_le', x_lt, x_le, x_eq, x_in, x_cl, x_div, x_sub, x_rem, x_min, x_max, x_and, x_or, x_xor, x_df, x_shl, bI_0, bI_1, bI_bo, lg_eq, toL_inj, ls_nI, decide_eq_false_iff_not, decide_eq_true_eq, Bool.true_eq_false, Bool.false_eq_true, bq, if_pos, if_neg, if_true, if_false, lq, Nat.reduceAdd, Nat.reduceMul, Nat.reduceSub, Nat.reduceDiv, Nat.reduceMod, g1, g2, e0, q, Nat.add_sub_cancel]
    · rw [show cpOp 2009 = 3009 from rfl] at e0
      refine fin (if a = nI 0 then c else b) t (by unfold ev1; rfl) h5.2.2.2 ?_
      rw [List.length_cons, List.length_cons, List.length_cons] at hlen ⊢
      have q1 : S.1 156 (t.length + 1 + 1) = c := h5.1
      have q2 : S.1 156 (t.length + 1) = b := h5.2.1
      have q3 : S.1 156 t.length = a := h5.2.2.1
      have e2 : nI (t.length + 1 + 1 + 1) + -2 = nI (t.length + 1) := by
        rw [← nI_add (t.length + 1 + 1) 1, ← nI_add (t.length + 1) 1, Int32.add_assoc, Int32.add_assoc, show (nI 1 + (nI 1 + -2)) = 0 from by decide, Int32.add_zero]
      rw [fX12_reckons_4, e2]
      rcases ha with rfl | rfl
      · simp (disch := omega) only [lit, lm1, nI_add, pk_mul, nm_eq, nm_eq', nm_lt, nm_lt', nm_le, nm_le', x_lt, x_le, x_eq, x_in, x_cl, x_div, x_sub, x_rem, x_min, x_max, x_and, x_or, x_xor, x_df, x_shl, bI_0, bI_1, bI_bo, lg_eq, toL_inj, ls_nI, decide_eq_false_iff_not, decide_eq_true_eq, Bool.true_eq_false, Bool.false_eq_true, bq, if_pos, if_neg, if_true, if_false, lq, Nat.reduceAdd, Nat.reduceMul, Nat.reduceSub, Nat.reduceDiv, Nat.reduceMod, g1, g2, e0, q1, q2, q3, Nat.add_sub_cancel]
      · simp (disch := omega) only [lit, lm1, nI_add, pk_mul, nm_eq, nm_eq', nm_lt, nm_lt', nm_le, nm_le', x_lt, x_le, x_eq, x_in, x_cl, x_div, x_sub, x_rem, x_min, x_max, x_and, x_or, x_xor, x_df, x_shl, bI_0, bI_1, bI_bo, lg_eq, toL_inj, ls_nI, decide_eq_false_iff_not, decide_eq_true_eq, Bool.true_eq_false, Bool.false_eq_true, bq, if_pos, if_neg, if_true, if_false, lq, Nat.reduceAdd, Nat.reduceMul, Nat.reduceSub, Nat.reduceDiv, Nat.reduceMod, g1, g2, e0, q1, q2, q3, Nat.add_sub_cancel]
    · refine fin (op2 k a b) t (by unfold ev1; rw [if_neg (by omega), if_neg (by omega), if_neg (by omega), if_neg (by omega)]) h5.2.2 ?_
      rw [List.length_cons, List.length_cons] at hlen ⊢
      have q2 : S.1 156 (t.length + 1) = b := h5.1
      have q3 : S.1 156 t.length = a := h5.2.1
      have e2 : nI (t.length + 1 + 1) + -1 = nI (t.length + 1) := pk_m1 _
      have o1 : 3000 ≤ cpOp k ∧ cpOp k < 3010 ∧ cpOp k ≠ 3006 ∧ cpOp k ≠ 3009 := by
        have : k = 2000 ∨ k = 2001 ∨ k = 2002 ∨ k = 2003 ∨ k = 2004 ∨ k = 2005 ∨ k = 2006 ∨ k = 2007 := by omega
        rcases this with rfl | rfl | rfl | rfl | rfl | rfl | rfl | rfl <;> decide
      obtain ⟨o1, o2, o3, o4⟩ := o1
      rw [fX12_reckons_4, e2]
      simp (disch := omega) only [lit, lm1, nI_add, pk_mul, nm_eq, nm_eq', nm_lt, nm_lt', nm_le, nm_le', x_lt, x_le, x_eq, x_in, x_cl, x_div, x_sub, x_rem, x_min, x_max, x_and, x_or, x_xor, x_df, x_shl, bI_0, bI_1, bI_bo, lg_eq, toL_inj, ls_nI, decide_eq_false_iff_not, decide_eq_true_eq, Bool.true_eq_false, Bool.false_eq_true, bq, if_pos, if_neg, if_true, if_false, lq, Nat.reduceAdd, Nat.reduceMul, Nat.reduceSub, Nat.reduceDiv, Nat.reduceMod, g1, g2, e0, m_between, q2, q3, Nat.add_sub_cancel]
