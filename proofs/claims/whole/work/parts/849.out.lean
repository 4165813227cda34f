/-! what has been read, as a valley -/
theorem snd_lt : ∀ (k : List Nat) {a b : List Bool}, cpSnd k a b → ∀ j, j < k.length → k.getD j 0 < 2010 := by
  intro k
  induction k with
  | nil => intro a b _ j hj; exact absurd hj (Nat.not_lt_zero j)
  | cons x k ih =>
    intro a b h j hj
    obtain ⟨h1, u, h2, h3⟩ := h
    cases j with
    | zero =>
      show x < 2010
      unfold cpTyp at h2
      by_cases e1 : x < 1006
      · omega
      · rw [if_neg e1] at h2
        by_cases e2 : x = 2000 ∨ x = 2001 ∨ x = 2002
        · omega
        · rw [if_neg e2] at h2
          by_cases e3 : x = 2003 ∨ x = 2004 ∨ x = 2005
          · omega
          · rw [if_neg e3] at h2
            by_cases e4 : x = 2006 ∨ x = 2007
            · omega
            · rw [if_neg e4] at h2
              by_cases e5 : x = 2008
              · omega
              · rw [if_neg e5] at h2
                by_cases e6 : x = 2009
                · omega
                · rw [if_neg e6] at h2; cases h2
    | succ j => exact ih h3 j (Nat.lt_of_succ_lt_succ hj)
theorem gD_mid (pre k post : List Nat) {j : Nat} (hj : j < k.length) : (pre ++ k ++ post).getD (pre.length + j) 0 = k.getD j 0 := by
  rw [List.getD_eq_getElem?_getD, List.getD_eq_getElem?_getD, List.getElem?_append_left (by rw [List.length_append]; omega), List.getElem?_append_right (Nat.le_add_right _ _), Nat.add_sub_cancel_left]
section OU
variable {l : List Nat} {K R P C hh : Nat} {A M U : cpS}
theorem lw_out {x y a b c i : Nat} {k0 : List Nat} {t : Bool} (cd : Cd l A M) (hl : l.length ≤ 900) (h : Lw1 l A M x y (5 + i) (7 + i) (9 + i) k0 t) :
    ∃ (k : List Nat) (tt : Bool), (k ≠ [] ∧ k.length ≤ 900 ∧ (∀ j, j < k.length → k.getD j 0 < 2010) ∧ cpSnd k [] [t] ∧ (tt = false → k = k0)) ∧ cL k A 15 x y ∧ ∀ U : cpS, (∀ j, j < 1162 → U.1 151 (0 + j) = M.1 154 j) → i ≤ 1 → mL k tt U 0 i := by
  obtain ⟨pre, k, post, h1, h2, h3, h4, h5⟩ := h
  have ll : l.length = pre.length + k.length + post.length := by rw [h1, List.length_append, List.length_append]
  have ne : k ≠ [] := fun q => by
    rw [q] at h4
    have h4 : ([] : List Bool) = [t] := h4
    cases h4
  have cl : cL k A 15 x y := ⟨pre.length, by omega, h2, h3, fun j hj => by
    have := cd.cc (pre.length + j) (by omega)
    rw [h1, gD_mid pre k post hj] at this
    exact this⟩
  rcases h5 with ⟨g1, g2⟩ | ⟨g1, g2, g3, g4⟩
  · refine ⟨k, false, ⟨ne, by omega, snd_lt k h4, h4, fun _ => g2⟩, cl, fun U hU hi => ⟨?_, fun q => by cases q⟩⟩
    rw [Nat.add_assoc 0, hU _ (by omega)]; exact g1
  · refine ⟨k, true, ⟨ne, by omega, snd_lt k h4, h4, fun q => by cases q⟩, cl, fun U hU hi => ⟨?_, fun _ => ⟨pre.length - 5, by omega, ?_, ?_, fun j hj => ?_⟩⟩⟩
    · rw [Nat.add_assoc 0, hU _ (by omega)]; exact g1
    · rw [Nat.add_assoc 0, hU _ (by omega)]; exact g3
    · rw [Nat.add_assoc 0, hU _ (by omega)]; exact g4
    · have := cd.mc (pre.length - 5 + j) (by omega)
      rw [show 5 + (pre.length - 5 + j) = pre.length + j by omega, h1, gD_mid pre k post hj] at this
      rw [show 0 + 262 + (pre.length - 5) + j = 0 + (262 + (pre.length - 5 + j)) by omega, hU _ (by omega)]
      exact this
theorem v_out (vy : Vy K R P C hh A M) (cd : Cd l A M) (lw : Lw l A M) (hl : l.length ≤ 900)
    (hm : ∀ rd : Nat → Nat × Nat × Nat, (∀ r, r < R → (rd r).1 < 6 ∧ (rd r).2.1 < 6 ∧ (rd r).2.2 ≤ 9 ∧ A.1 16 r = nI (rd r).1 ∧ A.1 17 r = nI (rd r).2.1 ∧ A.1 18 r = nI (rd r).2.2) → Dmx (up (stK K) K 0 (up (stR rd) R 0 cpFar0)) A) :
    ∃ (D : cpD) (E : cpE), D.WF ∧ E.WF D ∧ cW D A 15 ∧ (∀ j, j < 8 → A.1 21 j = nI (E.fd j)) ∧ (∀ c, c < 4 → A.1 22 c = nI (E.at' c)) ∧ A.1 15 1 = nI E.h ∧ E.ca = nI 0 ∧ (∀ c, E.rim c = nI 0) ∧ ∀ U : cpS, (∀ j, j < 1162 → U.1 151 (0 + j) = M.1 154 j) → mW D U 0 ∧ mN E U (0 + 62) := by
  obtain ⟨k1, k6, r9, p8, c4, h9⟩ := vy.b
  obtain ⟨rd, hrd⟩ := rd_fun vy.rd
  obtain ⟨pf, hpf⟩ := rd_fun (R := P) (Q := fun p a b n => a < K ∧ b ≤ 9 ∧ A.1 19 p = nI a ∧ A.1 20 p = nI b ∧ M.1 154 (38 + p) = nI a ∧ M.1 154 (46 + p) = nI b) (fun p hp => by
    obtain ⟨a, b, h⟩ := vy.pe p hp
    exact ⟨a, b, 0, h⟩)
  obtain ⟨cf, hcf⟩ := rd_fun vy.co
  obtain ⟨fd, y1, y2, y3, y4⟩ := vy.fd
  have lw1 : Lw1 l A M 2 3 (5 + 0) (7 + 0) (9 + 0) [1000, 1001, 2004, 2008] true := lw.1
  have lw2 : Lw1 l A M 4 5 (5 + 1) (7 + 1) (9 + 1) [1003] false := lw.2
  obtain ⟨la, ta, a1, a2, a3⟩ := lw_out (a := 0) (b := 0) (c := 0) cd hl lw1
  obtain ⟨lb, tb, b1, b2, b3⟩ := lw_out (a := 0) (b := 0) (c := 0) cd hl lw2
  have dm := hm rd (fun r hr => by
    obtain ⟨q1, q2, -, -, q5, q6, q7, q8, -⟩ := hrd r hr
    exact ⟨by omega, by omega, q5, q6, q7, q8⟩)
  have hD : cpD.WF ⟨K, R, P, C, A.1 15 2, rd, fun p => (pf p).1, fun p => (pf p).2.1, fun c => (cf c).2.1, fun c => (cf c).2.2, la, lb, ta, tb⟩ :=
    ⟨k1, k6, r9, p8, c4, fun r hr => by
      obtain ⟨q1, q2, q3, q4, q5, -⟩ := hrd r hr
      exact ⟨q1, q2, q3, q4, q5⟩, fun p hp => ⟨(hpf p hp).1, (hpf p hp).2.1⟩, fun c hc => ⟨(hcf c hc).2.1, (hcf c hc).2.2.1⟩, a1, b1⟩
  refine ⟨⟨K, R, P, C, A.1 15 2, rd, fun p => (pf p).1, fun p => (pf p).2.1, fun c => (cf c).2.1, fun c => (cf c).2.2, la, lb, ta, tb⟩, ⟨fun c => if c < C then (cf c).1 else 0, fun _ => nI 0, fd, hh, nI 0⟩, hD, ?_, ?_, fun j hj => (y1 j hj).1, fun c hc => ?_, vy.ch, rfl, fun _ => rfl, fun U hU => ⟨?_, ?_⟩⟩
  · refine ⟨fun c hc => ?_, fun c h1 h2 => ⟨?_, rfl⟩, fun p hp => (y1 p hp).2.2, y2, y3, y4, h9⟩
    · have hc : c < C := hc
      show (if c < C then (cf c).1 else 0) < K
      rw [if_pos hc]; exact (hcf c hc).1
    · show (if c < C then (cf c).1 else 0) = 0
      have h1 : C ≤ c := h1
      rw [if_neg (by omega)]
  · refine ⟨vy.cK, rfl, vy.cR, vy.cP, vy.cC, fun r hr => ?_, fun p hp => ⟨(hpf p hp).2.2.1, (hpf p hp).2.2.2.1⟩, fun c hc => ⟨(hcf c hc).2.2.2.2.1, (hcf c hc).2.2.2.2.2.1⟩, fun a b ha hb => ?_, a2, b2⟩
    · obtain ⟨-, -, -, -, -, q6, q7, q8, -⟩ := hrd r hr
      exact ⟨q6, q7, q8⟩
    · have ha : a < K := ha
      have hb : b < K := hb
      have := (dm a b (by omega) (by omega)).1
      rw [stR_eq, stK_eq k6 (fun k => farR_z rd k R) K (Nat.le_refl _) a b ha hb, far_K k6 (fun r hr => ⟨(hrd r hr).1, (hrd r hr).2.1⟩) ha hb] at this
      exact this
  · show A.1 22 c = nI (if c < C then (cf c).1 else 0)
    by_cases h : c < C
    · rw [if_pos h]; exact (hcf c h).2.2.2.1
    · rw [if_neg h]; exact (vy.cz c (by omega) hc).1
  · refine ⟨?_, ?_, ?_, ?_, ?_, fun r hr => ?_, fun p hp => ?_, fun c hc => ?_, a3 U hU (by decide), b3 U hU (by decide)⟩
    · rw [hU 0 (by decide)]; exact vy.ln.symm
    · rw [hU 1 (by decide)]; exact vy.mK
    · rw [hU 2 (by decide)]; exact vy.mR
    · rw [hU 3 (by decide)]; exact vy.mP
    · rw [hU 4 (by decide)]; exact vy.mC
    · have hr : r < R := hr
      obtain ⟨-, -, -, -, -, -, -, -, q9, q10, q11⟩ := hrd r hr
      rw [show 0 + 11 + 3 * r = 0 + (11 + 3 * r) by omega, show 0 + (11 + 3 * r) + 1 = 0 + (11 + 3 * r + 1) by omega, show 0 + (11 + 3 * r) + 2 = 0 + (11 + 3 * r + 2) by omega, hU _ (by omega), hU _ (by omega), hU _ (by omega)]
      exact ⟨q9, q10, q11⟩
    · have hp : p < P := hp
      rw [Nat.add_assoc 0, Nat.add_assoc 0, hU _ (by omega), hU _ (by omega)]
      exact ⟨(hpf p hp).2.2.2.2.1, (hpf p hp).2.2.2.2.2⟩
    · have hc : c < C := hc
      rw [Nat.add_assoc 0, Nat.add_assoc 0, hU _ (by omega), hU _ (by omega)]
      exact ⟨(hcf c hc).2.2.2.2.2.2.2.1, (hcf c hc).2.2.2.2.2.2.2.2⟩
  · refine ⟨fun c hc => ?_, fun c hc => ?_, fun p hp => ?_, ?_, ?_⟩
    · show U.1 151 (0 + 62 + c) = nI (if c < C then (cf c).1 else 0)
      rw [Nat.add_assoc 0, hU _ (by omega)]
      by_cases h : c < C
      · rw [if_pos h]; exact (hcf c h).2.2.2.2.2.2.1
      · rw [if_neg h]; exact (vy.cz c (by omega) hc).2
    · rw [show 0 + 62 + 4 + c = 0 + (66 + c) by omega, hU _ (by omega)]; exact vy.z _ (Or.inl (by omega))
    · rw [show 0 + 62 + 8 + p = 0 + (70 + p) by omega, hU _ (by omega)]; exact (y1 p hp).2.1
    · rw [show 0 + 62 + 16 = 0 + 78 by omega, hU _ (by decide)]; exact vy.mh
    · rw [show 0 + 62 + 17 = 0 + 79 by omega, hU _ (by decide)]; exact vy.z _ (Or.inr (Or.inl rfl))
end OU
section TX
variable {S M : cpS} {t : Nat → Nat} {L : Nat}
def kXc (q j : Nat) : Prop := (15 ≤ q ∧ q ≤ 28) ∨ q = 115
def kXm (q j : Nat) : Prop := q = 154 ∨ q = 150
theorem kVc.x {S S' : cpS} (h : Kp kVc S S') : Kp kXc S S' := h.le (fun q j h => by
  rcases h with h | h
  · exact Or.inl h
  · exact Or.inr h.1)
theorem kVm.x {S S' : cpS} (h : Kp kVm S S') : Kp kXm S S' := h.le (fun q j h => by
  rcases h with h | h
  · exact Or.inl h
  · exact Or.inr h.1)
/-- the end of a text in the class -/
theorem e_endT {z : Nat} (hz : z ≤ 1) (h : Rw S) : ∃ A, endT (nI z) S = some (nI z, A) ∧ A.1 115 1 = nI 0 ∧ (∀ rd : Nat → Nat × Nat × Nat, ∀ K R : Nat, S.1 15 0 = nI K → S.1 15 3 = nI R → K ≤ 6 → R ≤ 9 → (∀ r, r < R → (rd r).1 < 6 ∧ (rd r).2.1 < 6 ∧ (rd r).2.2 ≤ 9 ∧ S.1 16 r = nI (rd r).1 ∧ S.1 17 r = nI (rd r).2.1 ∧ S.1 18 r = nI (rd r).2.2) → Dmx (up (stK K) K 0 (up (stR rd) R 0 cpFar0)) A) ∧ Kp (fun q j => q = 25 ∨ (q = 115 ∧ j = 1)) S A := by
  obtain ⟨K, R, rd, k6, r9, cK, cR, hrd⟩ := h
  obtain ⟨B, b1, b2, b3⟩ := e_measure k6 r9 cK cR hrd
  have hb : cpBo (nI z) = true := by
    rcases (by omega : z = 0 ∨ z = 1) with rfl | rfl <;> decide
  refine ⟨cpI B 115 1 (nI 0), ?_, sI1, fun rd' K' R' cK' cR' k6' r9' hrd' => ?_, (b3.le (fun q j h => Or.inl h)).I (by exact Or.inr ⟨rfl, rfl⟩)⟩
  · unfold endT
    simp (disch := omega) only [lit, lm1, nI_add, pk_mul, nm_eq, nm_eq', nm_lt, nm_lt', nm_le, nm_le', x_lt, x_le, x_eq, x_in, x_cl, x_div, x_sub, x_rem, x_min, x_max, x_and, x_or, x_xor, x_df, x_shl, bI_0, bI_1, bI_bo, lg_eq, toL_inj, ls_nI, decide_eq_false_iff_not, decide_eq_true_eq, Bool.true_eq_false, Bool.false_eq_true, bq, if_pos, if_neg, if_true, if_false, lq, Nat.reduceAdd, Nat.reduceMul, Nat.reduceSub, Nat.reduceDiv, Nat.reduceMod, b1, hb]
  · obtain ⟨B', b1', b2', b3'⟩ := e_measure k6' r9' cK' cR' hrd'
    rw [b1] at b1'
    have e : B = B' := by cases b1'; rfl
    subst e
    intro a b ha hb
    rw [sIn (Or.inl (by decide))]
    exact b2' a b ha hb
theorem t_all (l9 : L ≤ 900) {n : Nat} (hn : n ≤ 900) (hLn : L ≤ n) (hS : ∀ x, x < L → S.1 116 x = nI (t x) ∧ t x < 256) (hM : ∀ x, x < L → M.1 153 x = nI (t x)) (h5 : M.1 150 5 = nI n) :
    (∃ A M', fX7_readText (nI L) S = some (nI 1, A) ∧ fX12_valley (nI L) M = fX12_valley_126 M' ∧ (∃ l K R P C hh, Vy K R P C hh A M' ∧ Cd l A M' ∧ Lw l A M' ∧ l.length ≤ 900 ∧ ∀ rd : Nat → Nat × Nat × Nat, (∀ r, r < R → (rd r).1 < 6 ∧ (rd r).2.1 < 6 ∧ (rd r).2.2 ≤ 9 ∧ A.1 16 r = nI (rd r).1 ∧ A.1 17 r = nI (rd r).2.1 ∧ A.1 18 r = nI (rd r).2.2) → Dmx (up (stK K) K 0 (up (stR rd) R 0 cpFar0)) A) ∧ A.1 115 1 = nI 0 ∧ A.1 115 3 = nI 0 ∧ A.1 115 4 = nM ∧ M'.1 150 11 = nI 0 ∧ M'.1 150 5 = nI 0 ∧ Kp kXc S A ∧ Kp kXm M M') ∨
    (∃ A M', fX7_readText (nI L) S = some (nI 0, A) ∧ fX12_valley (nI L) M = fX12_valley_126 M' ∧ Fp A M' ∧ A.1 115 1 = nI 0 ∧ M'.1 150 5 = nI 0 ∧ Kp kXc S A ∧ Kp kXm M M') := by
  obtain ⟨s, S8, M8, u1, u2, u3, u4, u5, u6, u7, u8, u9⟩ := t_begin l9 hn hLn hS hM h5
  have ux : Kp kXm M M8 := u9
  have fin : ∀ T N, fX7_readText (nI L) S = endT (nI 0) T → fX12_valley (nI L) M = fX12_valley_126 N → Fp T N → Fr S8 T → Kp kVm M8 N → (∃ A M', fX7_readText (nI L) S = some (nI 0, A) ∧ fX12_valley (nI L) M = fX12_valley_126 M' ∧ Fp A M' ∧ A.1 115 1 = nI 0 ∧ M'.1 150 5 = nI 0 ∧ Kp kXc S A ∧ Kp kXm M M') := by
    intro T N e1 e2 f1 f2 f3
    obtain ⟨A, a1, a2, -, a4⟩ := e_endT (z := 0) (by decide) f2.2
    refine ⟨A, N, e1.trans a1, e2, ?_, a2, ?_, ((kVc.x u8).tr (kVc.x f2.1)).tr (a4.le (fun q j h => by unfold kXc; omega)), ux.tr (kVm.x f3)⟩
    · obtain ⟨f, h1, h2, h3, h4, h5⟩ := f1
      exact ⟨f, h1, h2, by rw [a4.i (by omega)]; exact h3, h4, by rw [a4.i (by omega)]; exact h5⟩
    · rw [f3.i (by unfold kVm; omega)]; exact u7
  rcases l_head u3 u4 u5 u6 with ⟨s1, S1, M1, a1, a2, a3, a4, a5⟩ | ⟨S1, M1, a1, a2, a3, a4, a5⟩
  · rcases l_all (t := t) (L := L) 900 cpFu cpFu 0 s1 S1 M1 (by omega) (by decide) (by decide) (by omega) (by omega) a3 with ⟨s2, S2, M2, b1, b2, b3, b4, b5⟩ | ⟨S2, M2, b1, b2, b3, b4, b5⟩
    · left
      obtain ⟨l, K, R, P, C, hh, hl⟩ := b3
      have vy := hl.vy
      obtain ⟨k1, k6, r9, p8, c4, h9⟩ := vy.b
      obtain ⟨A, c1, c2, c3, c4'⟩ := e_endT (z := 1) (by decide) (vy.fl (Kp.rf)).2
      have kf : Kp (fun _ _ => False) M2 M2 := Kp.rf
      have bg := hl.bg
      have sl := hl.rp.sl
      have vyA : Vy K R P C hh A M2 := by
        have kc5 : ∀ q j, 15 ≤ q → q ≤ 24 → ¬ (q = 25 ∨ (q = 115 ∧ j = 1)) := fun q j _ _ h => by omega
        exact vy.kp c4' kf kc5 (fun j _ _ h => h)
      refine ⟨A, M2, (u1 _ _ a1).trans (b1.trans c1), u2.trans (a2.trans b2), ⟨l, K, R, P, C, hh, vyA, hl.cd.kp c4' kf (by omega) (fun j => by omega) (fun j _ h => h), hl.lw.kp0 c4' kf (fun j _ _ => by omega) (fun j _ _ h => h), by omega, fun rd hrd => c3 rd K R vy.cK vy.cR k6 r9 (fun r hr => ?_)⟩, c2, ?_, ?_, hl.rp.m11, ?_, (((kVc.x u8).tr (kVc.x a4)).tr (kVc.x b4)).tr (c4'.le (fun q j h => by unfold kXc; omega)), (ux.tr (kVm.x a5)).tr (kVm.x b5)⟩
      · have := hrd r hr
        rw [c4'.i (by omega), c4'.i (by omega), c4'.i (by omega)] at this
        exact this
      · rw [c4'.i (by omega)]; exact hl.rp.c3
      · rw [c4'.i (by omega)]; exact hl.rp.c4
      · rw [b5.i (by unfold kVm; omega), a5.i (by unfold kVm; omega)]; exact u7
    · right
      exact fin S2 M2 ((u1 _ _ a1).trans b1) (u2.trans (a2.trans b2)) b3 ⟨a4.tr b4.1, b4.2⟩ (a5.tr b5)
  · right
    have e1 : fX7_readText (nI L) S = endT (nI 0) S1 := (u1 _ _ a1).trans (c_stop 4999 (nI 0) S1)
    have e2 : fX12_valley_99 cpFu M1 = fX12_valley_126 M1 := m_stop 4999 a3.fm
    exact fin S1 M1 e1 (u2.trans (a2.trans e2)) a3 a4 a5
end TX
