/-! the valley read so far: the class's rows and the reference's -/
def Vy (K R P C hh : Nat) (S M : cpS) : Prop := (1 ≤ K ∧ K ≤ 6 ∧ R ≤ 9 ∧ P ≤ 8 ∧ C ≤ 4 ∧ hh ≤ 9) ∧ (S.1 15 0 = nI K) ∧ (M.1 154 1 = nI K) ∧ (S.1 15 3 = nI R) ∧ (M.1 154 2 = nI R) ∧ (S.1 15 7 = nI P) ∧ (M.1 154 3 = nI P) ∧ (S.1 15 11 = nI C) ∧ (M.1 154 4 = nI C) ∧ (S.1 15 1 = nI hh) ∧ (M.1 154 78 = nI hh) ∧ (S.1 15 2 = M.1 154 0) ∧ (∀ r, r < R → ∃ a b n, a < K ∧ b < K ∧ a ≠ b ∧ 1 ≤ n ∧ n ≤ 9 ∧ S.1 16 r = nI a ∧ S.1 17 r = nI b ∧ S.1 18 r = nI n ∧ M.1 154 (11 + 3 * r) = nI a ∧ M.1 154 (11 + 3 * r + 1) = nI b ∧ M.1 154 (11 + 3 * r + 2) = nI n) ∧ (∀ p, p < P → ∃ a b, a < K ∧ b ≤ 9 ∧ S.1 19 p = nI a ∧ S.1 20 p = nI b ∧ M.1 154 (38 + p) = nI a ∧ M.1 154 (46 + p) = nI b) ∧ (∀ c, c < C → ∃ a x y, a < K ∧ x ≤ 99 ∧ y ≤ 99 ∧ S.1 22 c = nI a ∧ S.1 23 c = nI x ∧ S.1 24 c = nI y ∧ M.1 154 (62 + c) = nI a ∧ M.1 154 (54 + c) = nI x ∧ M.1 154 (58 + c) = nI y) ∧ (∀ c, C ≤ c → c < 4 → S.1 22 c = nI 0 ∧ M.1 154 (62 + c) = nI 0) ∧ (∃ fd : Nat → Nat, (∀ p, p < 8 → S.1 21 p = nI (fd p) ∧ M.1 154 (70 + p) = nI (fd p) ∧ fd p < 2 ^ P) ∧ (∀ p q, p < 8 → q < 8 → (fd p).testBit q = (fd q).testBit p) ∧ (∀ p, p < 8 → (fd p).testBit p = false) ∧ ∀ p, P ≤ p → p < 8 → fd p = 0) ∧ (∀ j, (66 ≤ j ∧ j < 70) ∨ j = 79 ∨ j = 80 → M.1 154 j = nI 0)
theorem Vy.b {K R P C hh : Nat} {S M : cpS} (h : Vy K R P C hh S M) : 1 ≤ K ∧ K ≤ 6 ∧ R ≤ 9 ∧ P ≤ 8 ∧ C ≤ 4 ∧ hh ≤ 9 := h.1
theorem Vy.cK {K R P C hh : Nat} {S M : cpS} (h : Vy K R P C hh S M) : S.1 15 0 = nI K := h.2.1
theorem Vy.mK {K R P C hh : Nat} {S M : cpS} (h : Vy K R P C hh S M) : M.1 154 1 = nI K := h.2.2.1
theorem Vy.cR {K R P C hh : Nat} {S M : cpS} (h : Vy K R P C hh S M) : S.1 15 3 = nI R := h.2.2.2.1
theorem Vy.mR {K R P C hh : Nat} {S M : cpS} (h : Vy K R P C hh S M) : M.1 154 2 = nI R := h.2.2.2.2.1
theorem Vy.cP {K R P C hh : Nat} {S M : cpS} (h : Vy K R P C hh S M) : S.1 15 7 = nI P := h.2.2.2.2.2.1
theorem Vy.mP {K R P C hh : Nat} {S M : cpS} (h : Vy K R P C hh S M) : M.1 154 3 = nI P := h.2.2.2.2.2.2.1
theorem Vy.cC {K R P C hh : Nat} {S M : cpS} (h : Vy K R P C hh S M) : S.1 15 11 = nI C := h.2.2.2.2.2.2.2.1
theorem Vy.mC {K R P C hh : Nat} {S M : cpS} (h : Vy K R P C hh S M) : M.1 154 4 = nI C := h.2.2.2.2.2.2.2.2.1
theorem Vy.ch {K R P C hh : Nat} {S M : cpS} (h : Vy K R P C hh S M) : S.1 15 1 = nI hh := h.2.2.2.2.2.2.2.2.2.1
theorem Vy.mh {K R P C hh : Nat} {S M : cpS} (h : Vy K R P C hh S M) : M.1 154 78 = nI hh := h.2.2.2.2.2.2.2.2.2.2.1
theorem Vy.ln {K R P C hh : Nat} {S M : cpS} (h : Vy K R P C hh S M) : S.1 15 2 = M.1 154 0 := h.2.2.2.2.2.2.2.2.2.2.2.1
theorem Vy.rd {K R P C hh : Nat} {S M : cpS} (h : Vy K R P C hh S M) : ∀ r, r < R → ∃ a b n, a < K ∧ b < K ∧ a ≠ b ∧ 1 ≤ n ∧ n ≤ 9 ∧ S.1 16 r = nI a ∧ S.1 17 r = nI b ∧ S.1 18 r = nI n ∧ M.1 154 (11 + 3 * r) = nI a ∧ M.1 154 (11 + 3 * r + 1) = nI b ∧ M.1 154 (11 + 3 * r + 2) = nI n := h.2.2.2.2.2.2.2.2.2.2.2.2.1
theorem Vy.pe {K R P C hh : Nat} {S M : cpS} (h : Vy K R P C hh S M) : ∀ p, p < P → ∃ a b, a < K ∧ b ≤ 9 ∧ S.1 19 p = nI a ∧ S.1 20 p = nI b ∧ M.1 154 (38 + p) = nI a ∧ M.1 154 (46 + p) = nI b := h.2.2.2.2.2.2.2.2.2.2.2.2.2.1
theorem Vy.co {K R P C hh : Nat} {S M : cpS} (h : Vy K R P C hh S M) : ∀ c, c < C → ∃ a x y, a < K ∧ x ≤ 99 ∧ y ≤ 99 ∧ S.1 22 c = nI a ∧ S.1 23 c = nI x ∧ S.1 24 c = nI y ∧ M.1 154 (62 + c) = nI a ∧ M.1 154 (54 + c) = nI x ∧ M.1 154 (58 + c) = nI y := h.2.2.2.2.2.2.2.2.2.2.2.2.2.2.1
theorem Vy.cz {K R P C hh : Nat} {S M : cpS} (h : Vy K R P C hh S M) : ∀ c, C ≤ c → c < 4 → S.1 22 c = nI 0 ∧ M.1 154 (62 + c) = nI 0 := h.2.2.2.2.2.2.2.2.2.2.2.2.2.2.2.1
theorem Vy.fd {K R P C hh : Nat} {S M : cpS} (h : Vy K R P C hh S M) : ∃ fd : Nat → Nat, (∀ p, p < 8 → S.1 21 p = nI (fd p) ∧ M.1 154 (70 + p) = nI (fd p) ∧ fd p < 2 ^ P) ∧ (∀ p q, p < 8 → q < 8 → (fd p).testBit q = (fd q).testBit p) ∧ (∀ p, p < 8 → (fd p).testBit p = false) ∧ ∀ p, P ≤ p → p < 8 → fd p = 0 := h.2.2.2.2.2.2.2.2.2.2.2.2.2.2.2.2.1
theorem Vy.z {K R P C hh : Nat} {S M : cpS} (h : Vy K R P C hh S M) : ∀ j, (66 ≤ j ∧ j < 70) ∨ j = 79 ∨ j = 80 → M.1 154 j = nI 0 := h.2.2.2.2.2.2.2.2.2.2.2.2.2.2.2.2.2
/-- a law of the code: where the class has it, where the reference -/
def Lw1 (l : List Nat) (S M : cpS) (x y a b c : Nat) (k0 : List Nat) (t : Bool) : Prop := ∃ pre k post : List Nat, l = pre ++ k ++ post ∧ S.1 26 x = nI pre.length ∧ S.1 26 y = nI (pre.length + k.length) ∧ cpSnd k [] [t] ∧ ((M.1 154 a = nI 0 ∧ k = k0) ∨ (M.1 154 a = nI 1 ∧ 5 ≤ pre.length ∧ M.1 154 b = nI (pre.length - 5) ∧ M.1 154 c = nI k.length))
def Lw (l : List Nat) (S M : cpS) : Prop := Lw1 l S M 2 3 5 7 9 [1000, 1001, 2004, 2008] true ∧ Lw1 l S M 4 5 6 8 10 [1003] false
def Ln (t : Nat → Nat) (L s : Nat) (l : List Nat) (K R P C hh : Nat) (S M : cpS) : Prop := (Rp t L s S M) ∧ (Cd l S M) ∧ (Lw l S M) ∧ (Vy K R P C hh S M) ∧ (l.length + 1 ≤ s)
theorem Ln.rp {t : Nat → Nat} {L s : Nat} {l : List Nat} {K R P C hh : Nat} {S M : cpS} (h : Ln t L s l K R P C hh S M) : Rp t L s S M := h.1
theorem Ln.cd {t : Nat → Nat} {L s : Nat} {l : List Nat} {K R P C hh : Nat} {S M : cpS} (h : Ln t L s l K R P C hh S M) : Cd l S M := h.2.1
theorem Ln.lw {t : Nat → Nat} {L s : Nat} {l : List Nat} {K R P C hh : Nat} {S M : cpS} (h : Ln t L s l K R P C hh S M) : Lw l S M := h.2.2.1
theorem Ln.vy {t : Nat → Nat} {L s : Nat} {l : List Nat} {K R P C hh : Nat} {S M : cpS} (h : Ln t L s l K R P C hh S M) : Vy K R P C hh S M := h.2.2.2.1
theorem Ln.bg {t : Nat → Nat} {L s : Nat} {l : List Nat} {K R P C hh : Nat} {S M : cpS} (h : Ln t L s l K R P C hh S M) : l.length + 1 ≤ s := h.2.2.2.2
def Lx (t : Nat → Nat) (L s : Nat) (S M : cpS) : Prop := ∃ l K R P C hh, Ln t L s l K R P C hh S M
def kVc (q j : Nat) : Prop := (15 ≤ q ∧ q ≤ 28) ∨ (q = 115 ∧ 3 ≤ j)
def kVm (q j : Nat) : Prop := q = 154 ∨ (q = 150 ∧ 6 ≤ j)
/-- the class's places and roads, good enough to measure -/
def Rw (S : cpS) : Prop := ∃ K R : Nat, ∃ rd : Nat → Nat × Nat × Nat, K ≤ 6 ∧ R ≤ 9 ∧ S.1 15 0 = nI K ∧ S.1 15 3 = nI R ∧ ∀ r, r < R → (rd r).1 < 6 ∧ (rd r).2.1 < 6 ∧ (rd r).2.2 ≤ 9 ∧ S.1 16 r = nI (rd r).1 ∧ S.1 17 r = nI (rd r).2.1 ∧ S.1 18 r = nI (rd r).2.2
def kFc (R q j : Nat) : Prop := (q = 115 ∧ 3 ≤ j) ∨ ((q = 16 ∨ q = 17 ∨ q = 18) ∧ R ≤ j) ∨ (19 ≤ q ∧ q ≤ 28)
def Fr (S S' : cpS) : Prop := Kp kVc S S' ∧ Rw S'
/-- how a line ends -/
def Lo (t : Nat → Nat) (L s : Nat) (S M : cpS) (rc : Option (Int32 × cpS)) (rm : Option (Unit × cpS)) : Prop :=
  (∃ s' S' M', rc = some (nI 1, S') ∧ rm = some ((), M') ∧ Lx t L s' S' M' ∧ s < s' ∧ Kp kVc S S' ∧ Kp kVm M M') ∨
  (∃ S' M', rc = some (nI 0, S') ∧ rm = some ((), M') ∧ Fp S' M' ∧ Fr S S' ∧ Kp kVm M M')
section VY
variable {K R P C hh : Nat} {S M S' M' : cpS} {l : List Nat}
theorem kRc.v (h : Kp kRc S S') : Kp kVc S S' := h.le (fun q j h => Or.inr ⟨h.1, h.2.1⟩)
theorem kRm.v (h : Kp kRm M M') : Kp kVm M M' := h.le (fun q j h => Or.inr ⟨h.1, h.2.1⟩)
theorem kRc.f (h : Kp kRc S S') : Kp (kFc R) S S' := h.le (fun q j h => Or.inl ⟨h.1, h.2.1⟩)
theorem kLc.v (h : Kp kLc S S') : Kp kVc S S' := h.le (fun q j h => by
  rcases h with h | h | h
  · exact Or.inr ⟨h.1, h.2.1⟩
  · exact Or.inl (by omega)
  · exact Or.inl (by omega))
theorem kLc.f (h : Kp kLc S S') : Kp (kFc R) S S' := h.le (fun q j h => by
  rcases h with h | h | h
  · exact Or.inl ⟨h.1, h.2.1⟩
  · exact Or.inr (Or.inr (by omega))
  · exact Or.inr (Or.inr (by omega)))
theorem kLm.v (h : Kp kLm M M') : Kp kVm M M' := h.le (fun q j h => by
  rcases h with h | h
  · exact Or.inr ⟨h.1, h.2.1⟩
  · exact Or.inl h.1)
theorem Vy.kp {f g : Nat → Nat → Prop} (v : Vy K R P C hh S M) (a : Kp f S S') (b : Kp g M M') (hf : ∀ q j, 15 ≤ q → q ≤ 24 → ¬ f q j) (hg : ∀ j, j ≤ 80 → ¬ (5 ≤ j ∧ j ≤ 10) → ¬ g 154 j) : Vy K R P C hh S' M' := by
  obtain ⟨vb, h1, h2, h3, h4, h5, h6, h7, h8, h9, h10, h11, h12, h13, h14, h15, h16, h17⟩ := v
  have ec : ∀ q j, 15 ≤ q → q ≤ 24 → S'.1 q j = S.1 q j := fun q j x y => a.i (hf q j x y)
  have em : ∀ j, j ≤ 80 → ¬ (5 ≤ j ∧ j ≤ 10) → M'.1 154 j = M.1 154 j := fun j x y => b.i (hg j x y)
  refine ⟨vb, ?_, ?_, ?_, ?_, ?_, ?_, ?_, ?_, ?_, ?_, ?_, fun r hr => ?_, fun p hp => ?_, fun c hc => ?_, fun c c1 c2 => ?_, ?_, fun j hj => ?_⟩
  · rw [ec _ _ (by decide) (by decide)]; exact h1
  · rw [em _ (by decide) (by decide)]; exact h2
  · rw [ec _ _ (by decide) (by decide)]; exact h3
  · rw [em _ (by decide) (by decide)]; exact h4
  · rw [ec _ _ (by decide) (by decide)]; exact h5
  · rw [em _ (by decide) (by decide)]; exact h6
  · rw [ec _ _ (by decide) (by decide)]; exact h7
  · rw [em _ (by decide) (by decide)]; exact h8
  · rw [ec _ _ (by decide) (by decide)]; exact h9
  · rw [em _ (by decide) (by decide)]; exact h10
  · rw [ec _ _ (by decide) (by decide), em _ (by decide) (by decide)]; exact h11
  · rw [ec _ _ (by decide) (by decide), ec _ _ (by decide) (by decide), ec _ _ (by decide) (by decide), em _ (by omega) (by omega), em _ (by omega) (by omega), em _ (by omega) (by omega)]; exact h12 r hr
  · rw [ec _ _ (by decide) (by decide), ec _ _ (by decide) (by decide), em _ (by omega) (by omega), em _ (by omega) (by omega)]; exact h13 p hp
  · rw [ec _ _ (by decide) (by decide), ec _ _ (by decide) (by decide), ec _ _ (by decide) (by decide), em _ (by omega) (by omega), em _ (by omega) (by omega), em _ (by omega) (by omega)]; exact h14 c hc
  · rw [ec _ _ (by decide) (by decide), em _ (by omega) (by omega)]; exact h15 c c1 c2
  · obtain ⟨fd, f1, f2⟩ := h16
    refine ⟨fd, fun p hp => ?_, f2⟩
    rw [ec _ _ (by decide) (by decide), em _ (by omega) (by omega)]; exact f1 p hp
  · rw [em _ (by omega) (by omega)]; exact h17 j hj
theorem rd_fun {R : Nat} {Q : Nat → Nat → Nat → Nat → Prop} (h : ∀ r, r < R → ∃ a b n, Q r a b n) : ∃ rd : Nat → Nat × Nat × Nat, ∀ r, r < R → Q r (rd r).1 (rd r).2.1 (rd r).2.2 := by
  have : ∀ r, ∃ x : Nat × Nat × Nat, r < R → Q r x.1 x.2.1 x.2.2 := fun r => by
    by_cases hr : r < R
    · obtain ⟨a, b, n, h⟩ := h r hr
      exact ⟨(a, b, n), fun _ => h⟩
    · exact ⟨(0, 0, 0), fun k => absurd k hr⟩
  exact Classical.axiomOfChoice this
theorem Vy.fl (v : Vy K R P C hh S M) (k : Kp (kFc R) S S') : Fr S S' := by
  obtain ⟨k1, k6, r9, p8, c4, h9⟩ := v.b
  obtain ⟨rd, hrd⟩ := rd_fun v.rd
  refine ⟨k.le (fun q j h => by unfold kFc at h; unfold kVc; omega), K, R, rd, k6, r9, ?_, ?_, fun r hr => ?_⟩
  · rw [k.i (by unfold kFc; omega)]; exact v.cK
  · rw [k.i (by unfold kFc; omega)]; exact v.cR
  · obtain ⟨a, b, -, -, d, e, f, g, -⟩ := hrd r hr
    refine ⟨by omega, by omega, d, ?_, ?_, ?_⟩
    · rw [k.i (by unfold kFc; omega)]; exact e
    · rw [k.i (by unfold kFc; omega)]; exact f
    · rw [k.i (by unfold kFc; omega)]; exact g
theorem Lw1.kp {x y a b c : Nat} {k0 : List Nat} {t : Bool} {f g : Nat → Nat → Prop} (v : Lw1 l S M x y a b c k0 t) (kc : Kp f S S') (km : Kp g M M') (f1 : ¬ f 26 x) (f2 : ¬ f 26 y) (g1 : ¬ g 154 a) (g2 : ¬ g 154 b) (g3 : ¬ g 154 c) (k' : List Nat) : Lw1 (l ++ k') S' M' x y a b c k0 t := by
  obtain ⟨pre, k, post, h1, h2, h3, h4, h5⟩ := v
  refine ⟨pre, k, post ++ k', by rw [h1, List.append_assoc], ?_, ?_, h4, ?_⟩
  · rw [kc.i f1]; exact h2
  · rw [kc.i f2]; exact h3
  · rw [km.i g1, km.i g2, km.i g3]; exact h5
theorem Lw.kp {f g : Nat → Nat → Prop} (v : Lw l S M) (kc : Kp f S S') (km : Kp g M M') (hf : ∀ j, 2 ≤ j → j ≤ 5 → ¬ f 26 j) (hg : ∀ j, 5 ≤ j → j ≤ 10 → ¬ g 154 j) (k' : List Nat) : Lw (l ++ k') S' M' :=
  ⟨v.1.kp kc km (hf _ (by decide) (by decide)) (hf _ (by decide) (by decide)) (hg _ (by decide) (by decide)) (hg _ (by decide) (by decide)) (hg _ (by decide) (by decide)) k', v.2.kp kc km (hf _ (by decide) (by decide)) (hf _ (by decide) (by decide)) (hg _ (by decide) (by decide)) (hg _ (by decide) (by decide)) (hg _ (by decide) (by decide)) k'⟩
theorem Lw.kp0 {f g : Nat → Nat → Prop} (v : Lw l S M) (kc : Kp f S S') (km : Kp g M M') (hf : ∀ j, 2 ≤ j → j ≤ 5 → ¬ f 26 j) (hg : ∀ j, 5 ≤ j → j ≤ 10 → ¬ g 154 j) : Lw l S' M' := by
  have := v.kp kc km hf hg []
  rw [List.append_nil] at this
  exact this
theorem Fm.w {j : Nat} {x : Int32} (h : Fm M) : Fm (cpI M 154 j x) := by
  unfold Fm
  rw [sIn (Or.inl (by decide))]
  exact h
theorem Fp.w {j : Nat} {x : Int32} (h : Fp S M) : Fp S (cpI M 154 j x) := by
  obtain ⟨f, h1, h2, h3, h4, h5⟩ := h
  refine ⟨f, h1, h2, h3, ?_, ?_⟩
  · rw [sIn (Or.inl (by decide))]; exact h4
  · rw [sIn (Or.inl (by decide))]; exact h5
theorem Rp.wS {t : Nat → Nat} {L s q j : Nat} {x : Int32} (h : Rp t L s S M) (hq : q ≤ 28) : Rp t L s (cpI S q j x) M :=
  h.kp (f := fun a b => a = q) (g := fun _ _ => False) (Kp.rf.I (by exact rfl)) Kp.rf (fun j z => by omega) (fun j _ _ z => by omega) (fun _ z => z) (fun _ _ _ z => z)
theorem Rp.wM {t : Nat → Nat} {L s j : Nat} {x : Int32} (h : Rp t L s S M) : Rp t L s S (cpI M 154 j x) :=
  h.kp (f := fun _ _ => False) (g := fun a b => a = 154) Kp.rf (Kp.rf.I (by exact rfl)) (fun _ z => z) (fun _ _ _ z => z) (fun j z => by omega) (fun j _ _ z => by omega)
end VY
