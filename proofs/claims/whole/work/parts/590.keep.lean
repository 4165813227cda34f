/-! what is kept: all but the places of f -/
def Kp (f : Nat → Nat → Prop) (S S' : cpS) : Prop := ∀ k j, ¬ f k j → S'.1 k j = S.1 k j ∧ S'.2 k j = S.2 k j
theorem Kp.rf {f : Nat → Nat → Prop} {S : cpS} : Kp f S S := fun _ _ _ => ⟨rfl, rfl⟩
theorem Kp.tr {f : Nat → Nat → Prop} {S T U : cpS} (h : Kp f S T) (g : Kp f T U) : Kp f S U := fun k j n => ⟨(g k j n).1.trans (h k j n).1, (g k j n).2.trans (h k j n).2⟩
theorem Kp.le {f g : Nat → Nat → Prop} {S T : cpS} (h : Kp f S T) (l : ∀ k j, f k j → g k j) : Kp g S T := fun k j n => h k j (fun q => n (l k j q))
theorem Kp.I {f : Nat → Nat → Prop} {S T : cpS} (h : Kp f S T) {k j : Nat} {x : Int32} (hf : f k j) : Kp f S (cpI T k j x) := fun q i n => by
  refine ⟨?_, (h q i n).2⟩
  rw [sIn, (h q i n).1]
  by_cases e : q = k
  · right; intro e2; subst e; subst e2; exact n hf
  · exact Or.inl e
theorem Kp.L {f : Nat → Nat → Prop} {S T : cpS} (h : Kp f S T) {k j : Nat} {x : Int64} (hf : f k j) : Kp f S (cpL T k j x) := fun q i n => by
  refine ⟨(h q i n).1, ?_⟩
  rw [sLn, (h q i n).2]
  by_cases e : q = k
  · right; intro e2; subst e; subst e2; exact n hf
  · exact Or.inl e
theorem Kp.i {f : Nat → Nat → Prop} {S T : cpS} (h : Kp f S T) {k j : Nat} (n : ¬ f k j) : T.1 k j = S.1 k j := (h k j n).1
theorem Kp.l {f : Nat → Nat → Prop} {S T : cpS} (h : Kp f S T) {k j : Nat} (n : ¬ f k j) : T.2 k j = S.2 k j := (h k j n).2
theorem nC.kp {S T : cpS} {v k : Nat} (h : nC S T v k) {f : Nat → Nat → Prop} (hf : ∀ q j, v ≤ q → q ≤ v + 3 → f q j) : Kp f S T := fun q j n => by
  obtain ⟨h1, h2, -⟩ := h
  refine ⟨?_, by rw [h2]⟩
  rw [h1 q]
  by_cases e : v ≤ q ∧ q ≤ v + 3
  · exact absurd (hf q j e.1 e.2) n
  · omega
theorem fI.kp {S T : cpS} {k lo hi : Nat} {g : Nat → Int32} (h : fI S T k lo hi g) {f : Nat → Nat → Prop} (hf : ∀ j, lo ≤ j → j < hi → f k j) : Kp f S T := fun q j n => by
  obtain ⟨h1, h2, h3, h4⟩ := h
  refine ⟨?_, by rw [h1]⟩
  by_cases e : q = k
  · subst e
    refine h4 j ?_
    by_cases e : lo ≤ j ∧ j < hi
    · exact absurd (hf j e.1 e.2) n
    · omega
  · rw [h2 q e]
theorem cL.kp {l : List Nat} {S T : cpS} {v x y : Nat} (h : cL l S v x y) {f : Nat → Nat → Prop} (g : Kp f S T) (hf : ∀ k j, v ≤ k → k ≤ v + 12 → ¬ f k j) : cL l T v x y := by
  obtain ⟨a, h1, h2, h3, h4⟩ := h
  have e := fun k j (a : v ≤ k) (b : k ≤ v + 12) => g.i (hf k j a b)
  exact ⟨a, h1, by rw [e _ _ (by omega) (by omega)]; exact h2, by rw [e _ _ (by omega) (by omega)]; exact h3, fun j hj => by rw [e _ _ (by omega) (by omega)]; exact h4 j hj⟩
theorem cW.kp {D : cpD} {S T : cpS} {v : Nat} (h : cW D S v) {f : Nat → Nat → Prop} (g : Kp f S T) (hf : ∀ k j, v ≤ k → k ≤ v + 12 → ¬ f k j) : cW D T v := by
  have e := fun k j (a : v ≤ k) (b : k ≤ v + 12) => g.i (hf k j a b)
  refine ⟨?_, ?_, ?_, ?_, ?_, fun r hr => ?_, fun r hr => ?_, fun r hr => ?_, fun a b ha hb => ?_, h.la.kp g hf, h.lb.kp g hf⟩
  · rw [e _ _ (by omega) (by omega)]; exact h.K
  · rw [e _ _ (by omega) (by omega)]; exact h.ln
  · rw [e _ _ (by omega) (by omega)]; exact h.R
  · rw [e _ _ (by omega) (by omega)]; exact h.P
  · rw [e _ _ (by omega) (by omega)]; exact h.C
  · rw [e _ _ (by omega) (by omega), e _ _ (by omega) (by omega), e _ _ (by omega) (by omega)]; exact h.rd r hr
  · rw [e _ _ (by omega) (by omega), e _ _ (by omega) (by omega)]; exact h.hm r hr
  · rw [e _ _ (by omega) (by omega), e _ _ (by omega) (by omega)]; exact h.wt r hr
  · rw [e _ _ (by omega) (by omega)]; exact h.far a b ha hb
theorem cN.kp {E : cpE} {S T : cpS} {n : Nat} (h : cN E S n) {f : Nat → Nat → Prop} (g : Kp f S T) (hf : ∀ k j, n ≤ k → k ≤ n + 3 → ¬ f k j) : cN E T n := by
  have e := fun k j (a : n ≤ k) (b : k ≤ n + 3) => g.i (hf k j a b)
  refine ⟨fun c hc => ?_, fun c hc => ?_, fun c hc => ?_, ?_, ?_⟩
  · rw [e _ _ (by omega) (by omega)]; exact h.at' c hc
  · rw [e _ _ (by omega) (by omega)]; exact h.rim c hc
  · rw [e _ _ (by omega) (by omega)]; exact h.fd c hc
  · rw [e _ _ (by omega) (by omega)]; exact h.h
  · rw [e _ _ (by omega) (by omega)]; exact h.ca
theorem mL.kp {l : List Nat} {t : Bool} {S T : cpS} {o i : Nat} (h : mL l t S o i) (hi : i ≤ 1) {f : Nat → Nat → Prop} (g : Kp f S T) (hf : ∀ j, o ≤ j → j < o + 1162 → (j < o + 62 ∨ o + 261 ≤ j) → ¬ f 151 j) : mL l t T o i := by
  obtain ⟨h1, h2⟩ := h
  have e := fun j (a : o ≤ j) (b : j < o + 1162) c => g.i (hf j a b c)
  refine ⟨by rw [e _ (by omega) (by omega) (by omega)]; exact h1, fun ht => ?_⟩
  obtain ⟨q, h3, h4, h5, h6⟩ := h2 ht
  exact ⟨q, h3, by rw [e _ (by omega) (by omega) (by omega)]; exact h4, by rw [e _ (by omega) (by omega) (by omega)]; exact h5, fun j hj => by rw [e _ (by omega) (by omega) (by omega)]; exact h6 j hj⟩
theorem mW.kp {D : cpD} {S T : cpS} {o : Nat} (h : mW D S o) (hD : D.WF) {f : Nat → Nat → Prop} (g : Kp f S T) (hf : ∀ j, o ≤ j → j < o + 1162 → (j < o + 62 ∨ o + 261 ≤ j) → ¬ f 151 j) : mW D T o := by
  have e := fun j (a : o ≤ j) (b : j < o + 1162) c => g.i (hf j a b c)
  have r9 := hD.r9
  have p8 := hD.p8
  have c4 := hD.c4
  refine ⟨?_, ?_, ?_, ?_, ?_, fun r hr => ?_, fun r hr => ?_, fun r hr => ?_, h.la.kp (by decide) g hf, h.lb.kp (by decide) g hf⟩
  · rw [e _ (by omega) (by omega) (by omega)]; exact h.ln
  · rw [e _ (by omega) (by omega) (by omega)]; exact h.K
  · rw [e _ (by omega) (by omega) (by omega)]; exact h.R
  · rw [e _ (by omega) (by omega) (by omega)]; exact h.P
  · rw [e _ (by omega) (by omega) (by omega)]; exact h.C
  · rw [e _ (by omega) (by omega) (by omega), e _ (by omega) (by omega) (by omega), e _ (by omega) (by omega) (by omega)]; exact h.rd r hr
  · rw [e _ (by omega) (by omega) (by omega), e _ (by omega) (by omega) (by omega)]; exact h.hm r hr
  · rw [e _ (by omega) (by omega) (by omega), e _ (by omega) (by omega) (by omega)]; exact h.wt r hr
theorem mN.kp {E : cpE} {S T : cpS} {w : Nat} (h : mN E S w) {f : Nat → Nat → Prop} (g : Kp f S T) (hf : ∀ j, w ≤ j → j < w + 18 → ¬ f 151 j) : mN E T w := by
  have e := fun j (a : w ≤ j) (b : j < w + 18) => g.i (hf j a b)
  refine ⟨fun c hc => ?_, fun c hc => ?_, fun c hc => ?_, ?_, ?_⟩
  · rw [e _ (by omega) (by omega)]; exact h.at' c hc
  · rw [e _ (by omega) (by omega)]; exact h.rim c hc
  · rw [e _ (by omega) (by omega)]; exact h.fd c hc
  · rw [e _ (by omega) (by omega)]; exact h.h
  · rw [e _ (by omega) (by omega)]; exact h.ca
/-- places of which the invariant says nothing -/
def cpScr (k j : Nat) : Prop := cpCore k = false ∧ (k = 115 → j ≠ 1 ∧ j ≠ 3 ∧ j ≠ 4) ∧ (k = 150 → j ≠ 5 ∧ j ≠ 13 ∧ j ≠ 14)
theorem Kp.ag {f : Nat → Nat → Prop} {S T : cpS} (h : Kp f S T) (hf : ∀ k j, f k j → cpScr k j) : cpAg cpCore S T := by
  refine ⟨fun k hk => ?_, ?_, ?_, ?_, ?_, ?_, ?_⟩
  · have e : ∀ j, ¬ f k j := fun j q => by rw [(hf k j q).1] at hk; cases hk
    exact ⟨funext fun j => (h k j (e j)).1, funext fun j => (h k j (e j)).2⟩
  · exact h.i (fun q => by have := (hf _ _ q).2.1 rfl; omega)
  · exact h.i (fun q => by have := (hf _ _ q).2.1 rfl; omega)
  · exact h.i (fun q => by have := (hf _ _ q).2.1 rfl; omega)
  · exact h.i (fun q => by have := (hf _ _ q).2.2 rfl; omega)
  · exact h.i (fun q => by have := (hf _ _ q).2.2 rfl; omega)
  · exact h.i (fun q => by have := (hf _ _ q).2.2 rfl; omega)
theorem cpRl.kp {f : Nat → Nat → Prop} {S T : cpS} (hR : cpRl S) (h : Kp f S T) (hf : ∀ k j, f k j → cpScr k j) : cpRl T := hR.ag (h.ag hf)
/-- places that a deed may change -/
def cpDed (k j : Nat) : Prop := (57 ≤ k ∧ k ≤ 60) ∨ (65 ≤ k ∧ k ≤ 104) ∨ k = 113 ∨ (k = 151 ∧ 62 ≤ j ∧ j < 261) ∨ cpScr k j
theorem ded_core {k j : Nat} (h : cpCore k = true) (h1 : ¬ (57 ≤ k ∧ k ≤ 60)) (h2 : ¬ (65 ≤ k ∧ k ≤ 104)) (h3 : k ≠ 113) (h4 : k = 151 → j < 62 ∨ 261 ≤ j) : ¬ cpDed k j := by
  intro q
  rcases q with q | q | q | q | q
  · exact h1 q
  · exact h2 q
  · exact h3 q
  · have := h4 q.1; omega
  · have := q.1; rw [h] at this; cases this
theorem core_v {i : Nat} (hi : i < 2) : ∀ k, 29 + 14 * i ≤ k → k ≤ 29 + 14 * i + 12 → cpCore k = true := by
  intro k h1 h2
  unfold cpCore
  rcases (show i = 0 ∨ i = 1 by omega) with rfl | rfl <;> simp <;> omega
theorem core_n {i : Nat} (hi : i < 2) : ∀ k, 105 + 4 * i ≤ k → k ≤ 105 + 4 * i + 3 → cpCore k = true := by
  intro k h1 h2
  unfold cpCore
  simp; omega
theorem rV.ded {S T : cpS} {i : Nat} (hi : i < 2) (h : rV S (29 + 14 * i) (105 + 4 * i) (1162 * (i + 1))) (g : Kp cpDed S T) : rV T (29 + 14 * i) (105 + 4 * i) (1162 * (i + 1)) := by
  obtain ⟨D, E, hD, hE, c, m, n, w⟩ := h.un
  refine rV.mk' hD hE (c.kp g ?_) (m.kp hD g ?_) (n.kp g ?_) (w.kp g ?_)
  · intro k j h1 h2
    exact ded_core (core_v hi k h1 h2) (by omega) (by omega) (by omega) (by omega)
  · intro j h1 h2 h3
    exact ded_core (by decide) (by omega) (by omega) (by omega) (by omega)
  · intro k j h1 h2
    exact ded_core (core_n hi k h1 h2) (by omega) (by omega) (by omega) (by omega)
  · intro j h1 h2
    exact ded_core (by decide) (by omega) (by omega) (by omega) (by omega)
theorem core_t {t : Nat} (h : t < 4) : cpCore (139 + 2 * t) = true ∧ cpCore (140 + 2 * t) = true := by
  rcases (show t = 0 ∨ t = 1 ∨ t = 2 ∨ t = 3 by omega) with rfl | rfl | rfl | rfl <;> decide
theorem scr_no {k j : Nat} (h : ¬ cpScr k j) (h1 : ¬ (57 ≤ k ∧ k ≤ 60)) (h2 : ¬ (65 ≤ k ∧ k ≤ 104)) (h3 : k ≠ 113) (h4 : k ≠ 151) : ¬ cpDed k j := by
  intro q
  rcases q with q | q | q | q | q
  · exact h1 q
  · exact h2 q
  · exact h3 q
  · exact h4 q.1
  · exact h q
theorem cpRl.deed {S T : cpS} (hR : cpRl S) (g : Kp cpDed S T) {D : cpD} {E : cpE} (hD : D.WF) (hE : E.WF D) (c : cW D S 1) (m : mW D S 0) (n : cN E T 57) (w : mN E T 62) (hP : rP T) : cpRl T := by
  obtain ⟨hT, hF, hY, hV, -, hI⟩ := hR
  have k115 : ∀ j, (j = 1 ∨ j = 3 ∨ j = 4) → T.1 115 j = S.1 115 j := fun j hj => g.i (scr_no (fun q => by have := q.2.1 rfl; omega) (by omega) (by omega) (by omega) (by omega))
  have k150 : ∀ j, (j = 5 ∨ j = 13 ∨ j = 14) → T.1 150 j = S.1 150 j := fun j hj => g.i (scr_no (fun q => by have := q.2.2 rfl; omega) (by omega) (by omega) (by omega) (by omega))
  have kc : ∀ k j, cpCore k = true → (k < 57 ∨ 105 ≤ k) → k ≠ 113 → k ≠ 151 → T.1 k j = S.1 k j ∧ T.2 k j = S.2 k j := fun k j h h1 h2 h3 => g k j (ded_core h (by omega) (by omega) (by omega) (by omega))
  refine ⟨?_, ?_, ?_, ?_, hP, ?_⟩
  · obtain ⟨n, h1, h2, h3, h4⟩ := hT
    exact ⟨n, h1, by rw [k115 1 (by omega)]; exact h2, by rw [k150 5 (by omega)]; exact h3, fun j hj => by rw [(kc 153 j (by decide) (by omega) (by omega) (by omega)).1, (kc 116 j (by decide) (by omega) (by omega) (by omega)).1]; exact h4 j hj⟩
  · exact ⟨by rw [k115 3 (by omega), k150 13 (by omega)]; exact hF.1, by rw [k115 4 (by omega), k150 14 (by omega)]; exact hF.2⟩
  · intro t ht
    have e1 := fun j => (kc (139 + 2 * t) j (core_t ht).1 (by omega) (by omega) (by omega)).1
    have e2 := fun j => (kc (140 + 2 * t) j (core_t ht).2 (by omega) (by omega) (by omega)).2
    have e3 := fun j => (kc 171 j (by decide) (by omega) (by omega) (by omega)).1
    have e4 := fun j => (kc 172 j (by decide) (by omega) (by omega) (by omega)).1
    have e5 := fun j => (kc 173 j (by decide) (by omega) (by omega) (by omega)).2
    simp only [e1, e2, e3, e4, e5]
    exact hY t ht
  · refine rV.mk' hD hE (c.kp g ?_) (m.kp hD g ?_) n w
    · intro k j h1 h2
      exact ded_core (by unfold cpCore; simp; omega) (by omega) (by omega) (by omega) (by omega)
    · intro j h1 h2 h3
      exact ded_core (by decide) (by omega) (by omega) (by omega) (by omega)
  · intro i hi
    obtain ⟨h1, h2, h3⟩ := hI i hi
    rw [(kc 149 i (by decide) (by omega) (by omega) (by omega)).1, (kc 152 i (by decide) (by omega) (by omega) (by omega)).1]
    exact ⟨h1, h2, fun h => (h3 h).ded hi g⟩
