/-! copies of a Now; what the reference keeps -/
theorem sR1 {S : cpS} {k : Nat} {f : Nat → Int32} : (cpRI S k f).1 k = f := by simp [cpRI]
theorem sRr {S : cpS} {k k' : Nat} {f : Nat → Int32} (h : k' ≠ k) : (cpRI S k f).1 k' = S.1 k' := by simp [cpRI, h]
theorem sR2 {S : cpS} {k : Nat} {f : Nat → Int32} : (cpRI S k f).2 = S.2 := rfl
/-- T is S, but the Now at v is as the one at k was -/
def nC (S T : cpS) (v k : Nat) : Prop := (∀ q, (q < v ∨ v + 3 < q) → T.1 q = S.1 q) ∧ T.2 = S.2 ∧ (∀ c, c < 4 → T.1 (v + 1) c = S.1 (k + 1) c) ∧ (∀ c, c < 4 → T.1 (v + 2) c = S.1 (k + 2) c) ∧ (∀ p, p < 8 → T.1 (v + 3) p = S.1 (k + 3) p) ∧ T.1 v 3 = S.1 k 3 ∧ T.1 v 4 = S.1 k 4
theorem e_copyN (v k : Nat) (S : cpS) (hd : k + 3 < v ∨ v + 3 < k) : ∃ T, fX5_copyFrom v k S = some ((), T) ∧ nC S T v k := by
  refine ⟨_, rfl, ?_, rfl, ?_, ?_, ?_, ?_, ?_⟩
  · intro q hq
    rw [sIr (by omega), sIr (by omega), sRr (by omega), sRr (by omega), sRr (by omega)]
  · intro c hc
    rw [sIr (by omega), sIr (by omega), sRr (by omega), sRr (by omega), sR1, sb_cpy0 hc]
  · intro c hc
    rw [sIr (by omega), sIr (by omega), sRr (by omega), sR1, sb_cpy0 hc, sRr (by omega)]
  · intro c hc
    rw [sIr (by omega), sIr (by omega), sR1, sb_cpy0 hc, sRr (by omega), sRr (by omega)]
  · rw [sIn (Or.inr (by decide)), sI1, sRr (by omega), sRr (by omega), sRr (by omega)]
  · rw [sI1, sIr (by omega), sRr (by omega), sRr (by omega), sRr (by omega)]
theorem nC.W {S T : cpS} {v k K P C : Nat} (h : nC S T v k) (hC : C ≤ 4) (g : nW S k K P C) : nW T v K P C := by
  obtain ⟨-, -, h1, h2, h3, h4, -⟩ := h
  obtain ⟨g1, g2, ⟨fd, g3, g4⟩, g5⟩ := g
  refine ⟨fun c hc => ?_, fun c hc hd => ?_, ⟨fd, fun p hp => by rw [h3 p hp]; exact g3 p hp, g4⟩, by rw [h4]; exact g5⟩
  · rw [h1 c (by omega)]; exact g1 c hc
  · rw [h1 c hd, h2 c hd]; exact g2 c hc hd
/-- T is S but for the places lo to hi-1 of cell k, which are as g says -/
def fI (S T : cpS) (k lo hi : Nat) (g : Nat → Int32) : Prop := T.2 = S.2 ∧ (∀ q, q ≠ k → T.1 q = S.1 q) ∧ (∀ j, lo ≤ j → j < hi → T.1 k j = g j) ∧ ∀ j, (j < lo ∨ hi ≤ j) → T.1 k j = S.1 k j
theorem fI.rf (S : cpS) (k lo : Nat) (g : Nat → Int32) : fI S S k lo lo g := ⟨rfl, fun _ _ => rfl, fun j h1 h2 => absurd h2 (by omega), fun _ _ => rfl⟩
theorem fI.nx {S T : cpS} {k lo hi : Nat} {g : Nat → Int32} {x : Int32} (h : fI S T k lo hi g) (hx : x = g hi) (hl : lo ≤ hi) : fI S (cpI T k hi x) k lo (hi + 1) g := by
  obtain ⟨h1, h2, h3, h4⟩ := h
  refine ⟨h1, fun q hq => by rw [sIr hq]; exact h2 q hq, fun j hj hk => ?_, fun j hj => ?_⟩
  · by_cases e : j = hi
    · subst e; rw [sI1]; exact hx
    · rw [sIn (Or.inr e)]; exact h3 j hj (by omega)
  · rw [sIn (Or.inr (by omega))]; exact h4 j (by omega)
theorem e_stores (S : cpS) : ∃ T, fX12_stores S = some ((), T) ∧ fI S T 158 0 18 (fun j => S.1 151 (62 + j)) := by
  unfold fX12_stores
  simp only [lit]
  refine cp_lpW (F := fX12_stores_2) 18 (fun i T => fI S T 158 0 i (fun j => S.1 151 (62 + j))) (fI.rf S 158 0 _) (by decide) ?_ ?_
  · intro n i T hi hI
    refine Or.inl ⟨cpI T 158 i (T.1 151 (62 + i)), hI.nx (by rw [hI.2.1 151 (by decide)]) (by omega), ?_⟩
    rw [fX12_stores_2]
    simp (disch := omega) only [lit, lm1, nI_add, pk_mul, nm_eq, nm_eq', nm_lt, nm_lt', nm_le, nm_le', x_lt, x_le, x_eq, x_in, x_cl, x_div, x_sub, x_rem, x_min, x_max, x_and, x_or, x_xor, x_df, x_shl, bI_0, bI_1, bI_bo, lg_eq, toL_inj, ls_nI, decide_eq_false_iff_not, decide_eq_true_eq, Bool.true_eq_false, Bool.false_eq_true, bq, if_pos, if_neg, if_true, if_false, lq, Nat.reduceAdd, Nat.reduceMul, Nat.reduceSub, Nat.reduceDiv, Nat.reduceMod]
  · intro n T hI
    exact ⟨T, by rw [fX12_stores_2]; simp (disch := omega) only [lit, lm1, nI_add, pk_mul, nm_eq, nm_eq', nm_lt, nm_lt', nm_le, nm_le', x_lt, x_le, x_eq, x_in, x_cl, x_div, x_sub, x_rem, x_min, x_max, x_and, x_or, x_xor, x_df, x_shl, bI_0, bI_1, bI_bo, lg_eq, toL_inj, ls_nI, decide_eq_false_iff_not, decide_eq_true_eq, Bool.true_eq_false, Bool.false_eq_true, bq, if_pos, if_neg, if_true, if_false, lq, Nat.reduceAdd, Nat.reduceMul, Nat.reduceSub, Nat.reduceDiv, Nat.reduceMod], hI⟩
