/-! what a valley tells, and how things are now: as numbers; the class's side and the reference's -/
abbrev cpD : Type := (Nat) × (Nat) × (Nat) × (Nat) × (Int32) × (Nat → Nat × Nat × Nat) × (Nat → Nat) × (Nat → Nat) × (Nat → Nat) × (Nat → Nat) × (List Nat) × (List Nat) × (Bool) × (Bool)
def cpD.K (D : cpD) : Nat := D.1
def cpD.R (D : cpD) : Nat := D.2.1
def cpD.P (D : cpD) : Nat := D.2.2.1
def cpD.C (D : cpD) : Nat := D.2.2.2.1
def cpD.ln (D : cpD) : Int32 := D.2.2.2.2.1
def cpD.rd (D : cpD) : Nat → Nat × Nat × Nat := D.2.2.2.2.2.1
def cpD.hm (D : cpD) : Nat → Nat := D.2.2.2.2.2.2.1
def cpD.st (D : cpD) : Nat → Nat := D.2.2.2.2.2.2.2.1
def cpD.wt (D : cpD) : Nat → Nat := D.2.2.2.2.2.2.2.2.1
def cpD.wo (D : cpD) : Nat → Nat := D.2.2.2.2.2.2.2.2.2.1
def cpD.la (D : cpD) : List Nat := D.2.2.2.2.2.2.2.2.2.2.1
def cpD.lb (D : cpD) : List Nat := D.2.2.2.2.2.2.2.2.2.2.2.1
def cpD.ta (D : cpD) : Bool := D.2.2.2.2.2.2.2.2.2.2.2.2.1
def cpD.tb (D : cpD) : Bool := D.2.2.2.2.2.2.2.2.2.2.2.2.2
abbrev cpE : Type := (Nat → Nat) × (Nat → Int32) × (Nat → Nat) × (Nat) × (Int32)
def cpE.at' (D : cpE) : Nat → Nat := D.1
def cpE.rim (D : cpE) : Nat → Int32 := D.2.1
def cpE.fd (D : cpE) : Nat → Nat := D.2.2.1
def cpE.h (D : cpE) : Nat := D.2.2.2.1
def cpE.ca (D : cpE) : Int32 := D.2.2.2.2
def cpD.WF (D : cpD) : Prop := (1 ≤ D.K) ∧ (D.K ≤ 6) ∧ (D.R ≤ 9) ∧ (D.P ≤ 8) ∧ (D.C ≤ 4) ∧ (∀ r, r < D.R → (D.rd r).1 < D.K ∧ (D.rd r).2.1 < D.K ∧ (D.rd r).1 ≠ (D.rd r).2.1 ∧ 1 ≤ (D.rd r).2.2 ∧ (D.rd r).2.2 ≤ 9) ∧ (∀ p, p < D.P → D.hm p < D.K ∧ D.st p ≤ 9) ∧ (∀ c, c < D.C → D.wt c ≤ 99 ∧ D.wo c ≤ 99) ∧ (D.la ≠ [] ∧ D.la.length ≤ 900 ∧ (∀ j, j < D.la.length → D.la.getD j 0 < 2010) ∧ cpSnd D.la [] [true] ∧ (D.ta = false → D.la = [1000, 1001, 2004, 2008])) ∧ (D.lb ≠ [] ∧ D.lb.length ≤ 900 ∧ (∀ j, j < D.lb.length → D.lb.getD j 0 < 2010) ∧ cpSnd D.lb [] [false] ∧ (D.tb = false → D.lb = [1003]))
theorem cpD.WF.k1 {D : cpD} (h : cpD.WF D) : 1 ≤ D.K := h.1
theorem cpD.WF.k6 {D : cpD} (h : cpD.WF D) : D.K ≤ 6 := h.2.1
theorem cpD.WF.r9 {D : cpD} (h : cpD.WF D) : D.R ≤ 9 := h.2.2.1
theorem cpD.WF.p8 {D : cpD} (h : cpD.WF D) : D.P ≤ 8 := h.2.2.2.1
theorem cpD.WF.c4 {D : cpD} (h : cpD.WF D) : D.C ≤ 4 := h.2.2.2.2.1
theorem cpD.WF.rd {D : cpD} (h : cpD.WF D) : ∀ r, r < D.R → (D.rd r).1 < D.K ∧ (D.rd r).2.1 < D.K ∧ (D.rd r).1 ≠ (D.rd r).2.1 ∧ 1 ≤ (D.rd r).2.2 ∧ (D.rd r).2.2 ≤ 9 := h.2.2.2.2.2.1
theorem cpD.WF.hm {D : cpD} (h : cpD.WF D) : ∀ p, p < D.P → D.hm p < D.K ∧ D.st p ≤ 9 := h.2.2.2.2.2.2.1
theorem cpD.WF.wt {D : cpD} (h : cpD.WF D) : ∀ c, c < D.C → D.wt c ≤ 99 ∧ D.wo c ≤ 99 := h.2.2.2.2.2.2.2.1
theorem cpD.WF.la {D : cpD} (h : cpD.WF D) : D.la ≠ [] ∧ D.la.length ≤ 900 ∧ (∀ j, j < D.la.length → D.la.getD j 0 < 2010) ∧ cpSnd D.la [] [true] ∧ (D.ta = false → D.la = [1000, 1001, 2004, 2008]) := h.2.2.2.2.2.2.2.2.1
theorem cpD.WF.lb {D : cpD} (h : cpD.WF D) : D.lb ≠ [] ∧ D.lb.length ≤ 900 ∧ (∀ j, j < D.lb.length → D.lb.getD j 0 < 2010) ∧ cpSnd D.lb [] [false] ∧ (D.tb = false → D.lb = [1003]) := h.2.2.2.2.2.2.2.2.2
def cpE.WF (E : cpE) (D : cpD) : Prop := (∀ c, c < D.C → E.at' c < D.K) ∧ (∀ c, D.C ≤ c → c < 4 → E.at' c = 0 ∧ E.rim c = 0) ∧ (∀ p, p < 8 → E.fd p < 2 ^ D.P) ∧ (∀ p q, p < 8 → q < 8 → (E.fd p).testBit q = (E.fd q).testBit p) ∧ (∀ p, p < 8 → (E.fd p).testBit p = false) ∧ (∀ p, D.P ≤ p → p < 8 → E.fd p = 0) ∧ (E.h ≤ 9)
theorem cpE.WF.at' {E : cpE} {D : cpD} (h : cpE.WF E D) : ∀ c, c < D.C → E.at' c < D.K := h.1
theorem cpE.WF.no {E : cpE} {D : cpD} (h : cpE.WF E D) : ∀ c, D.C ≤ c → c < 4 → E.at' c = 0 ∧ E.rim c = 0 := h.2.1
theorem cpE.WF.fd {E : cpE} {D : cpD} (h : cpE.WF E D) : ∀ p, p < 8 → E.fd p < 2 ^ D.P := h.2.2.1
theorem cpE.WF.sy {E : cpE} {D : cpD} (h : cpE.WF E D) : ∀ p q, p < 8 → q < 8 → (E.fd p).testBit q = (E.fd q).testBit p := h.2.2.2.1
theorem cpE.WF.ir {E : cpE} {D : cpD} (h : cpE.WF E D) : ∀ p, p < 8 → (E.fd p).testBit p = false := h.2.2.2.2.1
theorem cpE.WF.fz {E : cpE} {D : cpD} (h : cpE.WF E D) : ∀ p, D.P ≤ p → p < 8 → E.fd p = 0 := h.2.2.2.2.2.1
theorem cpE.WF.h9 {E : cpE} {D : cpD} (h : cpE.WF E D) : E.h ≤ 9 := h.2.2.2.2.2.2
def cL (l : List Nat) (S : cpS) (v x y : Nat) : Prop := ∃ a, a + l.length ≤ 900 ∧ S.1 (v + 11) x = nI a ∧ S.1 (v + 11) y = nI (a + l.length) ∧ ∀ j, j < l.length → S.1 (v + 12) (a + j) = nI (l.getD j 0)
def mL (l : List Nat) (t : Bool) (S : cpS) (o i : Nat) : Prop := S.1 151 (o + 5 + i) = (if t then 1 else 0) ∧ (t = true → ∃ f, f + l.length ≤ 900 ∧ S.1 151 (o + 7 + i) = nI f ∧ S.1 151 (o + 9 + i) = nI l.length ∧ ∀ j, j < l.length → S.1 151 (o + 262 + f + j) = nI (cpOp (l.getD j 0)))
def cW (D : cpD) (S : cpS) (v : Nat) : Prop := (S.1 v 0 = nI D.K) ∧ (S.1 v 2 = D.ln) ∧ (S.1 v 3 = nI D.R) ∧ (S.1 v 7 = nI D.P) ∧ (S.1 v 11 = nI D.C) ∧ (∀ r, r < D.R → S.1 (v + 1) r = nI (D.rd r).1 ∧ S.1 (v + 2) r = nI (D.rd r).2.1 ∧ S.1 (v + 3) r = nI (D.rd r).2.2) ∧ (∀ p, p < D.P → S.1 (v + 4) p = nI (D.hm p) ∧ S.1 (v + 5) p = nI (D.st p)) ∧ (∀ c, c < D.C → S.1 (v + 8) c = nI (D.wt c) ∧ S.1 (v + 9) c = nI (D.wo c)) ∧ (∀ a b, a < D.K → b < D.K → S.1 (v + 10) (6 * a + b) = nI (cpFar D.rd D.R a b)) ∧ (cL D.la S v 2 3) ∧ (cL D.lb S v 4 5)
theorem cW.K {D : cpD} {S : cpS} {v : Nat} (h : cW D S v) : S.1 v 0 = nI D.K := h.1
theorem cW.ln {D : cpD} {S : cpS} {v : Nat} (h : cW D S v) : S.1 v 2 = D.ln := h.2.1
theorem cW.R {D : cpD} {S : cpS} {v : Nat} (h : cW D S v) : S.1 v 3 = nI D.R := h.2.2.1
theorem cW.P {D : cpD} {S : cpS} {v : Nat} (h : cW D S v) : S.1 v 7 = nI D.P := h.2.2.2.1
theorem cW.C {D : cpD} {S : cpS} {v : Nat} (h : cW D S v) : S.1 v 11 = nI D.C := h.2.2.2.2.1
theorem cW.rd {D : cpD} {S : cpS} {v : Nat} (h : cW D S v) : ∀ r, r < D.R → S.1 (v + 1) r = nI (D.rd r).1 ∧ S.1 (v + 2) r = nI (D.rd r).2.1 ∧ S.1 (v + 3) r = nI (D.rd r).2.2 := h.2.2.2.2.2.1
theorem cW.hm {D : cpD} {S : cpS} {v : Nat} (h : cW D S v) : ∀ p, p < D.P → S.1 (v + 4) p = nI (D.hm p) ∧ S.1 (v + 5) p = nI (D.st p) := h.2.2.2.2.2.2.1
theorem cW.wt {D : cpD} {S : cpS} {v : Nat} (h : cW D S v) : ∀ c, c < D.C → S.1 (v + 8) c = nI (D.wt c) ∧ S.1 (v + 9) c = nI (D.wo c) := h.2.2.2.2.2.2.2.1
theorem cW.far {D : cpD} {S : cpS} {v : Nat} (h : cW D S v) : ∀ a b, a < D.K → b < D.K → S.1 (v + 10) (6 * a + b) = nI (cpFar D.rd D.R a b) := h.2.2.2.2.2.2.2.2.1
theorem cW.la {D : cpD} {S : cpS} {v : Nat} (h : cW D S v) : cL D.la S v 2 3 := h.2.2.2.2.2.2.2.2.2.1
theorem cW.lb {D : cpD} {S : cpS} {v : Nat} (h : cW D S v) : cL D.lb S v 4 5 := h.2.2.2.2.2.2.2.2.2.2
def mW (D : cpD) (S : cpS) (o : Nat) : Prop := (S.1 151 (o + 0) = D.ln) ∧ (S.1 151 (o + 1) = nI D.K) ∧ (S.1 151 (o + 2) = nI D.R) ∧ (S.1 151 (o + 3) = nI D.P) ∧ (S.1 151 (o + 4) = nI D.C) ∧ (∀ r, r < D.R → S.1 151 (o + 11 + 3 * r) = nI (D.rd r).1 ∧ S.1 151 (o + 11 + 3 * r + 1) = nI (D.rd r).2.1 ∧ S.1 151 (o + 11 + 3 * r + 2) = nI (D.rd r).2.2) ∧ (∀ p, p < D.P → S.1 151 (o + 38 + p) = nI (D.hm p) ∧ S.1 151 (o + 46 + p) = nI (D.st p)) ∧ (∀ c, c < D.C → S.1 151 (o + 54 + c) = nI (D.wt c) ∧ S.1 151 (o + 58 + c) = nI (D.wo c)) ∧ (mL D.la D.ta S o 0) ∧ (mL D.lb D.tb S o 1)
theorem mW.ln {D : cpD} {S : cpS} {o : Nat} (h : mW D S o) : S.1 151 (o + 0) = D.ln := h.1
theorem mW.K {D : cpD} {S : cpS} {o : Nat} (h : mW D S o) : S.1 151 (o + 1) = nI D.K := h.2.1
theorem mW.R {D : cpD} {S : cpS} {o : Nat} (h : mW D S o) : S.1 151 (o + 2) = nI D.R := h.2.2.1
theorem mW.P {D : cpD} {S : cpS} {o : Nat} (h : mW D S o) : S.1 151 (o + 3) = nI D.P := h.2.2.2.1
theorem mW.C {D : cpD} {S : cpS} {o : Nat} (h : mW D S o) : S.1 151 (o + 4) = nI D.C := h.2.2.2.2.1
theorem mW.rd {D : cpD} {S : cpS} {o : Nat} (h : mW D S o) : ∀ r, r < D.R → S.1 151 (o + 11 + 3 * r) = nI (D.rd r).1 ∧ S.1 151 (o + 11 + 3 * r + 1) = nI (D.rd r).2.1 ∧ S.1 151 (o + 11 + 3 * r + 2) = nI (D.rd r).2.2 := h.2.2.2.2.2.1
theorem mW.hm {D : cpD} {S : cpS} {o : Nat} (h : mW D S o) : ∀ p, p < D.P → S.1 151 (o + 38 + p) = nI (D.hm p) ∧ S.1 151 (o + 46 + p) = nI (D.st p) := h.2.2.2.2.2.2.1
theorem mW.wt {D : cpD} {S : cpS} {o : Nat} (h : mW D S o) : ∀ c, c < D.C → S.1 151 (o + 54 + c) = nI (D.wt c) ∧ S.1 151 (o + 58 + c) = nI (D.wo c) := h.2.2.2.2.2.2.2.1
theorem mW.la {D : cpD} {S : cpS} {o : Nat} (h : mW D S o) : mL D.la D.ta S o 0 := h.2.2.2.2.2.2.2.2.1
theorem mW.lb {D : cpD} {S : cpS} {o : Nat} (h : mW D S o) : mL D.lb D.tb S o 1 := h.2.2.2.2.2.2.2.2.2
def cN (E : cpE) (S : cpS) (n : Nat) : Prop := (∀ c, c < 4 → S.1 (n + 1) c = nI (E.at' c)) ∧ (∀ c, c < 4 → S.1 (n + 2) c = E.rim c) ∧ (∀ p, p < 8 → S.1 (n + 3) p = nI (E.fd p)) ∧ (S.1 n 3 = nI E.h) ∧ (S.1 n 4 = E.ca)
theorem cN.at' {E : cpE} {S : cpS} {n : Nat} (h : cN E S n) : ∀ c, c < 4 → S.1 (n + 1) c = nI (E.at' c) := h.1
theorem cN.rim {E : cpE} {S : cpS} {n : Nat} (h : cN E S n) : ∀ c, c < 4 → S.1 (n + 2) c = E.rim c := h.2.1
theorem cN.fd {E : cpE} {S : cpS} {n : Nat} (h : cN E S n) : ∀ p, p < 8 → S.1 (n + 3) p = nI (E.fd p) := h.2.2.1
theorem cN.h {E : cpE} {S : cpS} {n : Nat} (h : cN E S n) : S.1 n 3 = nI E.h := h.2.2.2.1
theorem cN.ca {E : cpE} {S : cpS} {n : Nat} (h : cN E S n) : S.1 n 4 = E.ca := h.2.2.2.2
def mN (E : cpE) (S : cpS) (w : Nat) : Prop := (∀ c, c < 4 → S.1 151 (w + c) = nI (E.at' c)) ∧ (∀ c, c < 4 → S.1 151 (w + 4 + c) = E.rim c) ∧ (∀ p, p < 8 → S.1 151 (w + 8 + p) = nI (E.fd p)) ∧ (S.1 151 (w + 16) = nI E.h) ∧ (S.1 151 (w + 17) = E.ca)
theorem mN.at' {E : cpE} {S : cpS} {w : Nat} (h : mN E S w) : ∀ c, c < 4 → S.1 151 (w + c) = nI (E.at' c) := h.1
theorem mN.rim {E : cpE} {S : cpS} {w : Nat} (h : mN E S w) : ∀ c, c < 4 → S.1 151 (w + 4 + c) = E.rim c := h.2.1
theorem mN.fd {E : cpE} {S : cpS} {w : Nat} (h : mN E S w) : ∀ p, p < 8 → S.1 151 (w + 8 + p) = nI (E.fd p) := h.2.2.1
theorem mN.h {E : cpE} {S : cpS} {w : Nat} (h : mN E S w) : S.1 151 (w + 16) = nI E.h := h.2.2.2.1
theorem mN.ca {E : cpE} {S : cpS} {w : Nat} (h : mN E S w) : S.1 151 (w + 17) = E.ca := h.2.2.2.2
theorem nW.un {S : cpS} {n w : Nat} {D : cpD} (hC : D.C ≤ 4) (h : nW S n D.K D.P D.C) (g : rN S n w) : ∃ E : cpE, E.WF D ∧ cN E S n ∧ mN E S w := by
  obtain ⟨h1, h2, ⟨fd, h3, h4, h5, h6⟩, t, ht, h7⟩ := h
  obtain ⟨g1, g2, g3, g4, g5⟩ := g
  have h1' : ∀ c, ∃ a, c < 4 → (c < D.C → a < D.K) ∧ (D.C ≤ c → a = 0) ∧ S.1 (n + 1) c = nI a := by
    intro c
    by_cases hc : c < D.C
    · obtain ⟨a, ha, e⟩ := h1 c hc
      exact ⟨a, fun _ => ⟨fun _ => ha, fun k => by omega, e⟩⟩
    · exact ⟨0, fun k => ⟨fun z => by omega, fun _ => rfl, by rw [(h2 c (by omega) k).1]; rfl⟩⟩
  obtain ⟨a, ha⟩ := Classical.axiomOfChoice h1'
  refine ⟨⟨a, fun c => S.1 (n + 2) c, fd, t, S.1 n 4⟩, ⟨fun c hc => (ha c (by omega)).1 hc, fun c hc hd => ⟨(ha c hd).2.1 hc, (h2 c hc hd).2⟩, fun p hp => (h3 p hp).2, h4, h5, h6, ht⟩, ⟨fun c hc => (ha c hc).2.2, fun c _ => rfl, fun p hp => (h3 p hp).1, h7, rfl⟩, ⟨fun c hc => ?_, fun c hc => (g2 c hc).symm, fun p hp => ?_, ?_, g5.symm⟩⟩
  · rw [← g1 c hc]; exact (ha c hc).2.2
  · rw [← g3 p hp]; exact (h3 p hp).1
  · rw [← g4]; exact h7
theorem cN.mk {S : cpS} {n w : Nat} {D : cpD} {E : cpE} (hE : E.WF D) (hC : D.C ≤ 4) (hc : cN E S n) (hm : mN E S w) : nW S n D.K D.P D.C ∧ rN S n w := by
  refine ⟨⟨fun c h => ⟨E.at' c, hE.at' c h, hc.at' c (by omega)⟩, fun c h h4 => ?_, ⟨E.fd, fun p hp => ⟨hc.fd p hp, hE.fd p hp⟩, hE.sy, hE.ir, hE.fz⟩, E.h, hE.h9, hc.h⟩, fun c h => ?_, fun c h => ?_, fun p h => ?_, ?_, ?_⟩
  · rw [hc.at' c h4, hc.rim c h4, (hE.no c h h4).1, (hE.no c h h4).2]; exact ⟨rfl, rfl⟩
  · rw [hc.at' c h, hm.at' c h]
  · rw [hc.rim c h, hm.rim c h]
  · rw [hc.fd p h, hm.fd p h]
  · rw [hc.h, hm.h]
  · rw [hc.ca, hm.ca]
theorem rV.un {S : cpS} {v n o : Nat} (h : rV S v n o) : ∃ (D : cpD) (E : cpE), D.WF ∧ E.WF D ∧ cW D S v ∧ mW D S o ∧ cN E S n ∧ mN E S (o + 62) := by
  obtain ⟨K, R, P, C, rd, ⟨hK1, hK6⟩, hR9, hP8, hC4, hK, hRr, hP, hC, hln, hroad, hpeo, hcoi, hdis, hl1, hl2, hnw, hrn⟩ := h
  have q1 : ∀ p, ∃ x : Nat × Nat, p < P → (x.1 < K ∧ S.1 (v + 4) p = nI x.1 ∧ S.1 151 (o + 38 + p) = nI x.1) ∧ (x.2 ≤ 9 ∧ S.1 (v + 5) p = nI x.2 ∧ S.1 151 (o + 46 + p) = nI x.2) := by
    intro p
    by_cases hp : p < P
    · obtain ⟨⟨a, ha⟩, b, hb⟩ := hpeo p hp
      exact ⟨(a, b), fun _ => ⟨ha, hb⟩⟩
    · exact ⟨(0, 0), fun k => absurd k hp⟩
  have q2 : ∀ p, ∃ x : Nat × Nat, p < C → (x.1 ≤ 99 ∧ S.1 (v + 8) p = nI x.1 ∧ S.1 151 (o + 54 + p) = nI x.1) ∧ (x.2 ≤ 99 ∧ S.1 (v + 9) p = nI x.2 ∧ S.1 151 (o + 58 + p) = nI x.2) := by
    intro p
    by_cases hp : p < C
    · obtain ⟨⟨a, ha⟩, b, hb⟩ := hcoi p hp
      exact ⟨(a, b), fun _ => ⟨ha, hb⟩⟩
    · exact ⟨(0, 0), fun k => absurd k hp⟩
  obtain ⟨f1, hf1⟩ := Classical.axiomOfChoice q1
  obtain ⟨f2, hf2⟩ := Classical.axiomOfChoice q2
  obtain ⟨l1, a1, u1, u2, u3, u4, u5, u6, u7, u8⟩ := hl1
  obtain ⟨l2, a2, w1, w2, w3, w4, w5, w6, w7, w8⟩ := hl2
  have t1 : ∃ t : Bool, mL l1 t S o 0 ∧ (t = false → l1 = [1000, 1001, 2004, 2008]) := by
    rcases u8 with ⟨e, e'⟩ | ⟨e, f, e'⟩
    · exact ⟨false, ⟨e, fun k => by cases k⟩, fun _ => e'⟩
    · exact ⟨true, ⟨e, fun _ => ⟨f, e'⟩⟩, fun k => by cases k⟩
  have t2 : ∃ t : Bool, mL l2 t S o 1 ∧ (t = false → l2 = [1003]) := by
    rcases w8 with ⟨e, e'⟩ | ⟨e, f, e'⟩
    · exact ⟨false, ⟨e, fun k => by cases k⟩, fun _ => e'⟩
    · exact ⟨true, ⟨e, fun _ => ⟨f, e'⟩⟩, fun k => by cases k⟩
  obtain ⟨b1, m1, m1'⟩ := t1
  obtain ⟨b2, m2, m2'⟩ := t2
  have hD : cpD.WF ⟨K, R, P, C, S.1 v 2, rd, fun p => (f1 p).1, fun p => (f1 p).2, fun p => (f2 p).1, fun p => (f2 p).2, l1, l2, b1, b2⟩ :=
    ⟨hK1, hK6, hR9, hP8, hC4, fun r hr => ⟨(hroad r hr).1, (hroad r hr).2.1, (hroad r hr).2.2.1, (hroad r hr).2.2.2.1, (hroad r hr).2.2.2.2.1⟩, fun p hp => ⟨(hf1 p hp).1.1, (hf1 p hp).2.1⟩, fun p hp => ⟨(hf2 p hp).1.1, (hf2 p hp).2.1⟩, ⟨u2, by show l1.length ≤ 900; omega, u6, u7, m1'⟩, ⟨w2, by show l2.length ≤ 900; omega, w6, w7, m2'⟩⟩
  obtain ⟨E, hE, hc, hm⟩ := nW.un (D := ⟨K, R, P, C, S.1 v 2, rd, fun p => (f1 p).1, fun p => (f1 p).2, fun p => (f2 p).1, fun p => (f2 p).2, l1, l2, b1, b2⟩) hC4 hnw hrn
  refine ⟨_, E, hD, hE, ?_, ?_, hc, hm⟩
  · exact ⟨hK.1, rfl, hRr.1, hP.1, hC.1, fun r hr => ⟨(hroad r hr).2.2.2.2.2.1, (hroad r hr).2.2.2.2.2.2.1, (hroad r hr).2.2.2.2.2.2.2.1⟩, fun p hp => ⟨(hf1 p hp).1.2.1, (hf1 p hp).2.2.1⟩, fun p hp => ⟨(hf2 p hp).1.2.1, (hf2 p hp).2.2.1⟩, hdis, ⟨a1, u1, u3, u4, u5⟩, ⟨a2, w1, w3, w4, w5⟩⟩
  · exact ⟨hln.symm, hK.2, hRr.2, hP.2, hC.2, fun r hr => ⟨(hroad r hr).2.2.2.2.2.2.2.2.1, (hroad r hr).2.2.2.2.2.2.2.2.2.1, (hroad r hr).2.2.2.2.2.2.2.2.2.2⟩, fun p hp => ⟨(hf1 p hp).1.2.2, (hf1 p hp).2.2.2⟩, fun p hp => ⟨(hf2 p hp).1.2.2, (hf2 p hp).2.2.2⟩, m1, m2⟩
theorem rV.mk' {S : cpS} {v n o : Nat} {D : cpD} {E : cpE} (hD : D.WF) (hE : E.WF D) (c : cW D S v) (m : mW D S o) (hc : cN E S n) (hm : mN E S (o + 62)) : rV S v n o := by
  obtain ⟨h16, h17⟩ := cN.mk hE hD.c4 hc hm
  refine ⟨D.K, D.R, D.P, D.C, D.rd, ⟨hD.k1, hD.k6⟩, hD.r9, hD.p8, hD.c4, ⟨c.K, m.K⟩, ⟨c.R, m.R⟩, ⟨c.P, m.P⟩, ⟨c.C, m.C⟩, by rw [c.ln, m.ln], fun r hr => ?_, fun p hp => ⟨⟨_, (hD.hm p hp).1, (c.hm p hp).1, (m.hm p hp).1⟩, _, (hD.hm p hp).2, (c.hm p hp).2, (m.hm p hp).2⟩, fun p hp => ⟨⟨_, (hD.wt p hp).1, (c.wt p hp).1, (m.wt p hp).1⟩, _, (hD.wt p hp).2, (c.wt p hp).2, (m.wt p hp).2⟩, c.far, ?_, ?_, h16, h17⟩
  · obtain ⟨x1, x2, x3, x4, x5⟩ := hD.rd r hr
    obtain ⟨y1, y2, y3⟩ := c.rd r hr
    obtain ⟨z1, z2, z3⟩ := m.rd r hr
    exact ⟨x1, x2, x3, x4, x5, y1, y2, y3, z1, z2, z3⟩
  · obtain ⟨a, x1, x2, x3, x4⟩ := c.la
    obtain ⟨y1, y2, y3, y4, y5⟩ := hD.la
    refine ⟨D.la, a, x1, y1, x2, x3, x4, y3, y4, ?_⟩
    cases ht : D.ta with
    | false => exact Or.inl ⟨by have := m.la.1; rw [ht] at this; exact this, y5 ht⟩
    | true => exact Or.inr ⟨by have := m.la.1; rw [ht] at this; exact this, m.la.2 ht⟩
  · obtain ⟨a, x1, x2, x3, x4⟩ := c.lb
    obtain ⟨y1, y2, y3, y4, y5⟩ := hD.lb
    refine ⟨D.lb, a, x1, y1, x2, x3, x4, y3, y4, ?_⟩
    cases ht : D.tb with
    | false => exact Or.inl ⟨by have := m.lb.1; rw [ht] at this; exact this, y5 ht⟩
    | true => exact Or.inr ⟨by have := m.lb.1; rw [ht] at this; exact this, m.lb.2 ht⟩
