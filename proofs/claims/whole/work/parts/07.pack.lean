/-! what the walks name -/
def cpFu : Nat := 5000
def cpLt {α ρ : Type} (x : α) (g : α → Option ρ) : Option ρ := g x
def cpShl (x y : Int32) : Int32 := x <<< (y &&& 31)
def cpShr (x y : Int32) : Int32 := x >>> (y &&& 31)
def cpUsh (x y : Int32) : Int32 := (x.toUInt32 >>> (y.toUInt32 &&& Int32.toUInt32 31)).toInt32
def cpRem (x y : Int32) : Int32 := x - x / y * y
def cpReml (x y : Int64) : Int64 := x - x / y * y
def cpShll (x : Int64) (y : Int32) : Int64 := x <<< (y.toInt64 &&& 63)
def cpShrl (x : Int64) (y : Int32) : Int64 := x >>> (y.toInt64 &&& 63)
def cpMax (x y : Int32) : Int32 := if x < y then y else x
def cpMin (x y : Int32) : Int32 := if y < x then y else x
def cpi2b (x : Int32) : Int32 := x.toInt8.toInt32
def cpi2s (x : Int32) : Int32 := x.toInt16.toInt32
def cpi2c (x : Int32) : Int32 := (x.toUInt32 % 65536).toInt32
def cpCh (v : Int32) : Bool := decide (cpi2c v = v)
abbrev cpSg (v : Nat) : Prop := v < 25
theorem cpCh_n {v : Int32} (h : cpCh v = true) : narrow .char (.int v) = .int v := by
  have h1 : cpi2c v = v := of_decide_eq_true h
  have h2 := pk_nc v
  rw [show (v.toUInt32 % 65536).toInt32 = v from h1] at h2
  exact h2
def cpCp (n : Int32) (n0 n1 : Nat) : Bool := decide (¬ n < 0 ∧ n.toNatClampNeg ≤ n0 ∧ n.toNatClampNeg ≤ n1)
theorem cpGuardN {α ρ : Type} [DecidableEq α] {y z : α} {a : Option ρ} {r : ρ} (h : (if y = z then none else a) = some r) : ¬ y = z ∧ a = some r := by
  by_cases hp : y = z
  · rw [if_pos hp] at h; cases h
  · rw [if_neg hp] at h; exact ⟨hp, h⟩
theorem cpBo_f {v : Int32} (h : cpBo v = true) : fits .boolean (.int v) = true := by
  unfold cpBo at h
  rcases (Bool.or_eq_true _ _).mp h with h | h
  · rw [eq_of_beq h]; rfl
  · rw [eq_of_beq h]; rfl
theorem cpOut {x : Int32} {lo hi : Int} (h1 : -2 ^ 31 ≤ lo) (h2 : hi < 2 ^ 31) (h : ∀ k : Int, lo ≤ k → k ≤ hi → ¬ x = Int32.ofInt k) : x.toInt < lo ∨ hi < x.toInt := by
  by_cases ha : x.toInt < lo
  · exact Or.inl ha
  · by_cases hb : hi < x.toInt
    · exact Or.inr hb
    · exact absurd (by rw [Int32.ofInt_toInt]) (h x.toInt (by omega) (by omega))
theorem cpSub_nil {lv : List (Option Value)} : ∀ (i : Nat) (v : Value), ([] : List (Option Value))[i]? = some (some v) → lv[i]? = some (some v) := fun i v h => by simp at h
theorem cpSub_n {a b : List (Option Value)} {o : Option Value} (h : ∀ (i : Nat) (v : Value), a[i]? = some (some v) → b[i]? = some (some v)) : ∀ (i : Nat) (v : Value), (none :: a)[i]? = some (some v) → (o :: b)[i]? = some (some v) := fun i v hi => by
  cases i with
  | zero => simp at hi
  | succ i => simpa using h i v (by simpa using hi)
theorem cpSub_s {a b : List (Option Value)} {o : Option Value} (h : ∀ (i : Nat) (v : Value), a[i]? = some (some v) → b[i]? = some (some v)) : ∀ (i : Nat) (v : Value), (o :: a)[i]? = some (some v) → (o :: b)[i]? = some (some v) := fun i v hi => by
  cases i with
  | zero => simpa using hi
  | succ i => simpa using h i v (by simpa using hi)
section CPP
variable {p : Program} {l : Launch} {e : Env} {R : Room} {s : State} {m : MethodId} {args : Array Value} {below : List Frame} {meth : Method} {c : Code} {Q : State → Prop} {w : cpW} {A : Nat → Prop} {cc : ByteArray} {own : String} {nL : Nat}
theorem cj_let {pc : Nat} {lv : List (Option Value)} {st : List Value} {S : cpS} {x : Int32} {ρ : Type} {g : Int32 → Option ρ} {r : ρ} (h : cpLt x g = some r) (kk : ∀ x1, g x1 = some r → cpJ p l e R s m args below meth c Q w A nL pc lv (.int x1 :: st) S) : cpJ p l e R s m args below meth c Q w A nL pc lv (.int x :: st) S := kk x h
theorem cj_letl {pc : Nat} {lv : List (Option Value)} {st : List Value} {S : cpS} {x : Int64} {ρ : Type} {g : Int64 → Option ρ} {r : ρ} (h : cpLt x g = some r) (kk : ∀ x1, g x1 = some r → cpJ p l e R s m args below meth c Q w A nL pc lv (.long x1 :: st) S) : cpJ p l e R s m args below meth c Q w A nL pc lv (.long x :: st) S := kk x h
theorem cj_lets {pc : Nat} {lv : List (Option Value)} {st : List Value} {S : cpS} {ρ : Type} {g : cpS → Option ρ} {r : ρ} (h : cpLt S g = some r) (kk : ∀ S1, g S1 = some r → cpJ p l e R s m args below meth c Q w A nL pc lv st S1) : cpJ p l e R s m args below meth c Q w A nL pc lv st S := kk S h
theorem ck_ishl (C : cpCx p s m args meth c w A cc own nL) {pc : Nat} {lv : List (Option Value)} {st : List Value} {S : cpS} {x y : Int32} (hdg : decode cc pc = .ok (.ishl, 1)) (kk : cpJ p l e R s m args below meth c Q w A nL (pc + 1) lv (.int (cpShl x y) :: st) S) : cpJ p l e R s m args below meth c Q w A nL pc lv (.int y :: .int x :: st) S := cj_ishl C hdg kk
theorem ck_ishr (C : cpCx p s m args meth c w A cc own nL) {pc : Nat} {lv : List (Option Value)} {st : List Value} {S : cpS} {x y : Int32} (hdg : decode cc pc = .ok (.ishr, 1)) (kk : cpJ p l e R s m args below meth c Q w A nL (pc + 1) lv (.int (cpShr x y) :: st) S) : cpJ p l e R s m args below meth c Q w A nL pc lv (.int y :: .int x :: st) S := cj_ishr C hdg kk
theorem ck_iushr (C : cpCx p s m args meth c w A cc own nL) {pc : Nat} {lv : List (Option Value)} {st : List Value} {S : cpS} {x y : Int32} (hdg : decode cc pc = .ok (.iushr, 1)) (kk : cpJ p l e R s m args below meth c Q w A nL (pc + 1) lv (.int (cpUsh x y) :: st) S) : cpJ p l e R s m args below meth c Q w A nL pc lv (.int y :: .int x :: st) S := cj_iushr C hdg kk
theorem ck_irem (C : cpCx p s m args meth c w A cc own nL) {pc : Nat} {lv : List (Option Value)} {st : List Value} {S : cpS} {x y : Int32} (hdg : decode cc pc = .ok (.irem, 1)) (hne : ¬ y = 0) (kk : cpJ p l e R s m args below meth c Q w A nL (pc + 1) lv (.int (cpRem x y) :: st) S) : cpJ p l e R s m args below meth c Q w A nL pc lv (.int y :: .int x :: st) S := cj_irem C hdg hne kk
theorem ck_lrem (C : cpCx p s m args meth c w A cc own nL) {pc : Nat} {lv : List (Option Value)} {st : List Value} {S : cpS} {x y : Int64} (hdg : decode cc pc = .ok (.lrem, 1)) (hne : ¬ y = 0) (kk : cpJ p l e R s m args below meth c Q w A nL (pc + 1) lv (.long (cpReml x y) :: st) S) : cpJ p l e R s m args below meth c Q w A nL pc lv (.long y :: .long x :: st) S := cj_lrem C hdg hne kk
theorem ck_lshl (C : cpCx p s m args meth c w A cc own nL) {pc : Nat} {lv : List (Option Value)} {st : List Value} {S : cpS} {x : Int64} {y : Int32} (hdg : decode cc pc = .ok (.lshl, 1)) (kk : cpJ p l e R s m args below meth c Q w A nL (pc + 1) lv (.long (cpShll x y) :: st) S) : cpJ p l e R s m args below meth c Q w A nL pc lv (.int y :: .long x :: st) S := cj_lshl C hdg kk
theorem ck_lshr (C : cpCx p s m args meth c w A cc own nL) {pc : Nat} {lv : List (Option Value)} {st : List Value} {S : cpS} {x : Int64} {y : Int32} (hdg : decode cc pc = .ok (.lshr, 1)) (kk : cpJ p l e R s m args below meth c Q w A nL (pc + 1) lv (.long (cpShrl x y) :: st) S) : cpJ p l e R s m args below meth c Q w A nL pc lv (.int y :: .long x :: st) S := cj_lshr C hdg kk
theorem ck_i2b (C : cpCx p s m args meth c w A cc own nL) {pc : Nat} {lv : List (Option Value)} {st : List Value} {S : cpS} {x : Int32} (hdg : decode cc pc = .ok (.i2b, 1)) (kk : cpJ p l e R s m args below meth c Q w A nL (pc + 1) lv (.int (cpi2b x) :: st) S) : cpJ p l e R s m args below meth c Q w A nL pc lv (.int x :: st) S := cj_i2b C hdg kk
theorem ck_i2s (C : cpCx p s m args meth c w A cc own nL) {pc : Nat} {lv : List (Option Value)} {st : List Value} {S : cpS} {x : Int32} (hdg : decode cc pc = .ok (.i2s, 1)) (kk : cpJ p l e R s m args below meth c Q w A nL (pc + 1) lv (.int (cpi2s x) :: st) S) : cpJ p l e R s m args below meth c Q w A nL pc lv (.int x :: st) S := cj_i2s C hdg kk
theorem ck_i2c (C : cpCx p s m args meth c w A cc own nL) {pc : Nat} {lv : List (Option Value)} {st : List Value} {S : cpS} {x : Int32} (hdg : decode cc pc = .ok (.i2c, 1)) (kk : cpJ p l e R s m args below meth c Q w A nL (pc + 1) lv (.int (cpi2c x) :: st) S) : cpJ p l e R s m args below meth c Q w A nL pc lv (.int x :: st) S := cj_i2c C hdg kk
theorem ck_mmax (C : cpCx p s m args meth c w A cc own nL) {pc : Nat} {lv : List (Option Value)} {st : List Value} {S : cpS} {idx : Nat} {x y : Int32} (hl : Cond.methodLink own idx Lib.Math.max.name ∈ wsL_law) (hs : Cond.static Lib.Math.max.name ∈ wsL_law) (hi : Cond.initialized "java/lang/Math" ∈ wsL_law) (hc : Cond.code Lib.Math.max.name Lib.Math.max.code 2 (some .int) ∈ wsL_law) (hf : 1 ≤ R.frames) (hr : (st.map fun v => v.category).sum + 13 ≤ R.locals) (hdg : decode cc pc = .ok (.invokestatic idx, 3)) (kk : cpJ p l e R s m args below meth c Q w A nL (pc + 3) lv (.int (cpMax x y) :: st) S) : cpJ p l e R s m args below meth c Q w A nL pc lv (.int y :: .int x :: st) S := cj_mmax C hl hs hi hc hf hr hdg kk
theorem ck_mmin (C : cpCx p s m args meth c w A cc own nL) {pc : Nat} {lv : List (Option Value)} {st : List Value} {S : cpS} {idx : Nat} {x y : Int32} (hl : Cond.methodLink own idx Lib.Math.min.name ∈ wsL_law) (hs : Cond.static Lib.Math.min.name ∈ wsL_law) (hi : Cond.initialized "java/lang/Math" ∈ wsL_law) (hc : Cond.code Lib.Math.min.name Lib.Math.min.code 2 (some .int) ∈ wsL_law) (hf : 1 ≤ R.frames) (hr : (st.map fun v => v.category).sum + 13 ≤ R.locals) (hdg : decode cc pc = .ok (.invokestatic idx, 3)) (kk : cpJ p l e R s m args below meth c Q w A nL (pc + 3) lv (.int (cpMin x y) :: st) S) : cpJ p l e R s m args below meth c Q w A nL pc lv (.int y :: .int x :: st) S := cj_mmin C hl hs hi hc hf hr hdg kk
theorem ck_copyi (C : cpCx p s m args meth c w A cc own nL) {pc : Nat} {lv : List (Option Value)} {st : List Value} {S : cpS} {k0 k1 n0 n1 idx sp' dp' n' : Nat} {lo0 lo1 : List (Option Nat)} {sp dp n : Int32} (hO0 : cpO k0 1 n0 lo0) (hO1 : cpO k1 1 n1 lo1) (hl : Cond.methodLink own idx arraycopyName ∈ wsL_law) (hnat : Cond.native arraycopyName ∈ wsL_law) (hst : Cond.static arraycopyName ∈ wsL_law) (hini : Cond.initialized "java/lang/System" ∈ wsL_law) (h1 : ¬ sp < 0) (h2 : ¬ dp < 0) (h3 : ¬ n < 0) (h4 : sp.toNatClampNeg + n.toNatClampNeg ≤ n0) (h5 : dp.toNatClampNeg + n.toNatClampNeg ≤ n1) (e1 : sp.toNatClampNeg = sp') (e2 : dp.toNatClampNeg = dp') (e3 : n.toNatClampNeg = n') (hf : 1 ≤ R.frames) (hr : (st.map fun v => v.category).sum + (nativeFrameWords "java/lang/System" "arraycopy" 5 + 11) ≤ R.locals) (hdg : decode cc pc = .ok (.invokestatic idx, 3)) (kk : cpJ p l e R s m args below meth c Q w A nL (pc + 3) lv st (cpRI S k1 (va_cpy (S.1 k0) (S.1 k1) sp' dp' n'))) : cpJ p l e R s m args below meth c Q w A nL pc lv (.int n :: .int dp :: .ref (w.2.1 k1) :: .int sp :: .ref (w.2.1 k0) :: st) S := by
  subst e1; subst e2; subst e3
  exact cj_copyi C hO0 hO1 hl hnat hst hini h1 h2 h3 h4 h5 hf hr hdg kk
theorem ck_copyl (C : cpCx p s m args meth c w A cc own nL) {pc : Nat} {lv : List (Option Value)} {st : List Value} {S : cpS} {k0 k1 n0 n1 idx : Nat} {lo0 lo1 : List (Option Nat)} {sp dp n : Int32} {ρ : Type} {a : Option ρ} {r : ρ} (e1 : sp = 0) (e2 : dp = 0) (hO0 : cpO k0 4 n0 lo0) (hO1 : cpO k1 4 n1 lo1) (hl : Cond.methodLink own idx arraycopyName ∈ wsL_law) (hnat : Cond.native arraycopyName ∈ wsL_law) (hst : Cond.static arraycopyName ∈ wsL_law) (hini : Cond.initialized "java/lang/System" ∈ wsL_law) (h : (if cpCp n n0 n1 then a else none) = some r) (hf : 1 ≤ R.frames) (hr : (st.map fun v => v.category).sum + (nativeFrameWords "java/lang/System" "arraycopy" 5 + 11) ≤ R.locals) (hdg : decode cc pc = .ok (.invokestatic idx, 3)) (kk : a = some r → cpJ p l e R s m args below meth c Q w A nL (pc + 3) lv st (cpRL S k1 (va_cpy (S.2 k0) (S.2 k1) 0 0 n.toNatClampNeg))) : cpJ p l e R s m args below meth c Q w A nL pc lv (.int n :: .int dp :: .ref (w.2.1 k1) :: .int sp :: .ref (w.2.1 k0) :: st) S := fun H locs ls hP hS hL => by
  subst e1; subst e2
  by_cases hi : cpCp n n0 n1 = true
  · rw [if_pos hi] at h
    have hq : ¬ n < 0 ∧ n.toNatClampNeg ≤ n0 ∧ n.toNatClampNeg ≤ n1 := of_decide_eq_true hi
    have z0 : (0 : Int32).toNatClampNeg = 0 := by decide
    refine va_copyl C.1 C.2.1 (C.2.2.1.trans hL.1.symm) C.2.2.2.1 (C.2.2.2.2.1 _ hl) (C.2.2.2.2.1 _ hnat) (C.2.2.2.2.1 _ hst) (C.2.2.2.2.1 _ hini) C.2.2.2.2.2.1.1 hP (C.2.2.2.2.2.2.1.D S) hS k0 k1 4 4 (hO0.longs w S) (hO1.longs w S) rfl rfl rfl (by decide) (by decide) hq.1 (by rw [z0]; omega) (by rw [z0]; omega) (fun _ _ => rfl) hf hr hdg (fun H1 locs1 hP1 _ hS1 => ?_)
    rw [cpWd_rowL hO1] at hP1
    exact kk h H1 locs1 ls hP1 hS1 hL
  · rw [if_neg hi] at h; cases h
theorem cj_alen1 (C : cpCx p s m args meth c w A cc own nL) {pc : Nat} {lv : List (Option Value)} {st : List Value} {S : cpS} {k n : Nat} {lo : List (Option Nat)} (hO : cpO k 1 n lo) (hdg : decode cc pc = .ok (.arraylength, 1)) (kk : cpJ p l e R s m args below meth c Q w A nL (pc + 1) lv (.int (nI n) :: st) S) : cpJ p l e R s m args below meth c Q w A nL pc lv (.ref (w.2.1 k) :: st) S := fun H locs ls hP hS hL => va_alen C.1 C.2.1 C.2.2.2.2.2.1.1 hP k 1 (hO.ints (by decide) w S) rfl rfl hdg (kk H locs ls hP hS hL)
theorem cj_alen4 (C : cpCx p s m args meth c w A cc own nL) {pc : Nat} {lv : List (Option Value)} {st : List Value} {S : cpS} {k n : Nat} {lo : List (Option Nat)} (hO : cpO k 4 n lo) (hdg : decode cc pc = .ok (.arraylength, 1)) (kk : cpJ p l e R s m args below meth c Q w A nL (pc + 1) lv (.int (nI n) :: st) S) : cpJ p l e R s m args below meth c Q w A nL pc lv (.ref (w.2.1 k) :: st) S := fun H locs ls hP hS hL => va_alen C.1 C.2.1 C.2.2.2.2.2.1.1 hP k 4 (hO.longs w S) rfl rfl hdg (kk H locs ls hP hS hL)
end CPP
theorem o_0 : cpO 0 0 11 [some 1, some 57, some 61, some 113, some 115, some 117, some 119, some 127, some 130, some 134, some 138, some 147, some 148, some 149, none] := ⟨by decide, rfl⟩
theorem o_1 : cpO 1 0 10 [none, none, none, none, some 2, some 3, some 4, none, some 5, some 6, some 7, none, some 8, some 9, some 10, some 11, some 12] := ⟨by decide, rfl⟩
theorem o_2 : cpO 2 1 9 [] := ⟨by decide, rfl⟩
theorem o_3 : cpO 3 1 9 [] := ⟨by decide, rfl⟩
theorem o_4 : cpO 4 1 9 [] := ⟨by decide, rfl⟩
theorem o_5 : cpO 5 1 8 [] := ⟨by decide, rfl⟩
theorem o_6 : cpO 6 1 8 [] := ⟨by decide, rfl⟩
theorem o_7 : cpO 7 1 8 [] := ⟨by decide, rfl⟩
theorem o_8 : cpO 8 1 4 [] := ⟨by decide, rfl⟩
theorem o_9 : cpO 9 1 4 [] := ⟨by decide, rfl⟩
theorem o_10 : cpO 10 1 4 [] := ⟨by decide, rfl⟩
theorem o_11 : cpO 11 1 36 [] := ⟨by decide, rfl⟩
theorem o_12 : cpO 12 0 3 [some 13, none, none, none, none, none, some 14] := ⟨by decide, rfl⟩
theorem o_13 : cpO 13 1 900 [] := ⟨by decide, rfl⟩
theorem o_14 : cpO 14 1 102 [] := ⟨by decide, rfl⟩
theorem o_15 : cpO 15 0 10 [none, none, none, none, some 16, some 17, some 18, none, some 19, some 20, some 21, none, some 22, some 23, some 24, some 25, some 26] := ⟨by decide, rfl⟩
theorem o_16 : cpO 16 1 9 [] := ⟨by decide, rfl⟩
theorem o_17 : cpO 17 1 9 [] := ⟨by decide, rfl⟩
theorem o_18 : cpO 18 1 9 [] := ⟨by decide, rfl⟩
theorem o_19 : cpO 19 1 8 [] := ⟨by decide, rfl⟩
theorem o_20 : cpO 20 1 8 [] := ⟨by decide, rfl⟩
theorem o_21 : cpO 21 1 8 [] := ⟨by decide, rfl⟩
theorem o_22 : cpO 22 1 4 [] := ⟨by decide, rfl⟩
theorem o_23 : cpO 23 1 4 [] := ⟨by decide, rfl⟩
theorem o_24 : cpO 24 1 4 [] := ⟨by decide, rfl⟩
theorem o_25 : cpO 25 1 36 [] := ⟨by decide, rfl⟩
theorem o_26 : cpO 26 0 3 [some 27, none, none, none, none, none, some 28] := ⟨by decide, rfl⟩
theorem o_27 : cpO 27 1 900 [] := ⟨by decide, rfl⟩
theorem o_28 : cpO 28 1 102 [] := ⟨by decide, rfl⟩
theorem o_29 : cpO 29 0 10 [none, none, none, none, some 30, some 31, some 32, none, some 33, some 34, some 35, none, some 36, some 37, some 38, some 39, some 40] := ⟨by decide, rfl⟩
theorem o_30 : cpO 30 1 9 [] := ⟨by decide, rfl⟩
theorem o_31 : cpO 31 1 9 [] := ⟨by decide, rfl⟩
theorem o_32 : cpO 32 1 9 [] := ⟨by decide, rfl⟩
theorem o_33 : cpO 33 1 8 [] := ⟨by decide, rfl⟩
theorem o_34 : cpO 34 1 8 [] := ⟨by decide, rfl⟩
theorem o_35 : cpO 35 1 8 [] := ⟨by decide, rfl⟩
theorem o_36 : cpO 36 1 4 [] := ⟨by decide, rfl⟩
theorem o_37 : cpO 37 1 4 [] := ⟨by decide, rfl⟩
theorem o_38 : cpO 38 1 4 [] := ⟨by decide, rfl⟩
theorem o_39 : cpO 39 1 36 [] := ⟨by decide, rfl⟩
theorem o_40 : cpO 40 0 3 [some 41, none, none, none, none, none, some 42] := ⟨by decide, rfl⟩
theorem o_41 : cpO 41 1 900 [] := ⟨by decide, rfl⟩
theorem o_42 : cpO 42 1 102 [] := ⟨by decide, rfl⟩
theorem o_43 : cpO 43 0 10 [none, none, none, none, some 44, some 45, some 46, none, some 47, some 48, some 49, none, some 50, some 51, some 52, some 53, some 54] := ⟨by decide, rfl⟩
theorem o_44 : cpO 44 1 9 [] := ⟨by decide, rfl⟩
theorem o_45 : cpO 45 1 9 [] := ⟨by decide, rfl⟩
theorem o_46 : cpO 46 1 9 [] := ⟨by decide, rfl⟩
theorem o_47 : cpO 47 1 8 [] := ⟨by decide, rfl⟩
theorem o_48 : cpO 48 1 8 [] := ⟨by decide, rfl⟩
theorem o_49 : cpO 49 1 8 [] := ⟨by decide, rfl⟩
theorem o_50 : cpO 50 1 4 [] := ⟨by decide, rfl⟩
theorem o_51 : cpO 51 1 4 [] := ⟨by decide, rfl⟩
theorem o_52 : cpO 52 1 4 [] := ⟨by decide, rfl⟩
theorem o_53 : cpO 53 1 36 [] := ⟨by decide, rfl⟩
theorem o_54 : cpO 54 0 3 [some 55, none, none, none, none, none, some 56] := ⟨by decide, rfl⟩
theorem o_55 : cpO 55 1 900 [] := ⟨by decide, rfl⟩
theorem o_56 : cpO 56 1 102 [] := ⟨by decide, rfl⟩
theorem o_57 : cpO 57 0 5 [some 58, some 59, some 60, none, none] := ⟨by decide, rfl⟩
theorem o_58 : cpO 58 1 4 [] := ⟨by decide, rfl⟩
theorem o_59 : cpO 59 1 4 [] := ⟨by decide, rfl⟩
theorem o_60 : cpO 60 1 8 [] := ⟨by decide, rfl⟩
theorem o_61 : cpO 61 0 5 [some 62, some 63, some 64, none, none] := ⟨by decide, rfl⟩
theorem o_62 : cpO 62 1 4 [] := ⟨by decide, rfl⟩
theorem o_63 : cpO 63 1 4 [] := ⟨by decide, rfl⟩
theorem o_64 : cpO 64 1 8 [] := ⟨by decide, rfl⟩
theorem o_65 : cpO 65 0 5 [some 66, some 67, some 68, none, none] := ⟨by decide, rfl⟩
theorem o_66 : cpO 66 1 4 [] := ⟨by decide, rfl⟩
theorem o_67 : cpO 67 1 4 [] := ⟨by decide, rfl⟩
theorem o_68 : cpO 68 1 8 [] := ⟨by decide, rfl⟩
theorem o_69 : cpO 69 0 5 [some 70, some 71, some 72, none, none] := ⟨by decide, rfl⟩
theorem o_70 : cpO 70 1 4 [] := ⟨by decide, rfl⟩
theorem o_71 : cpO 71 1 4 [] := ⟨by decide, rfl⟩
theorem o_72 : cpO 72 1 8 [] := ⟨by decide, rfl⟩
theorem o_73 : cpO 73 0 5 [some 74, some 75, some 76, none, none] := ⟨by decide, rfl⟩
theorem o_74 : cpO 74 1 4 [] := ⟨by decide, rfl⟩
theorem o_75 : cpO 75 1 4 [] := ⟨by decide, rfl⟩
theorem o_76 : cpO 76 1 8 [] := ⟨by decide, rfl⟩
theorem o_77 : cpO 77 0 5 [some 78, some 79, some 80, none, none] := ⟨by decide, rfl⟩
theorem o_78 : cpO 78 1 4 [] := ⟨by decide, rfl⟩
theorem o_79 : cpO 79 1 4 [] := ⟨by decide, rfl⟩
theorem o_80 : cpO 80 1 8 [] := ⟨by decide, rfl⟩
theorem o_81 : cpO 81 0 5 [some 82, some 83, some 84, none, none] := ⟨by decide, rfl⟩
theorem o_82 : cpO 82 1 4 [] := ⟨by decide, rfl⟩
theorem o_83 : cpO 83 1 4 [] := ⟨by decide, rfl⟩
theorem o_84 : cpO 84 1 8 [] := ⟨by decide, rfl⟩
theorem o_85 : cpO 85 0 5 [some 86, some 87, some 88, none, none] := ⟨by decide, rfl⟩
theorem o_86 : cpO 86 1 4 [] := ⟨by decide, rfl⟩
theorem o_87 : cpO 87 1 4 [] := ⟨by decide, rfl⟩
theorem o_88 : cpO 88 1 8 [] := ⟨by decide, rfl⟩
theorem o_89 : cpO 89 0 5 [some 90, some 91, some 92, none, none] := ⟨by decide, rfl⟩
theorem o_90 : cpO 90 1 4 [] := ⟨by decide, rfl⟩
theorem o_91 : cpO 91 1 4 [] := ⟨by decide, rfl⟩
theorem o_92 : cpO 92 1 8 [] := ⟨by decide, rfl⟩
theorem o_93 : cpO 93 0 5 [some 94, some 95, some 96, none, none] := ⟨by decide, rfl⟩
theorem o_94 : cpO 94 1 4 [] := ⟨by decide, rfl⟩
theorem o_95 : cpO 95 1 4 [] := ⟨by decide, rfl⟩
theorem o_96 : cpO 96 1 8 [] := ⟨by decide, rfl⟩
theorem o_97 : cpO 97 0 5 [some 98, some 99, some 100, none, none] := ⟨by decide, rfl⟩
theorem o_98 : cpO 98 1 4 [] := ⟨by decide, rfl⟩
theorem o_99 : cpO 99 1 4 [] := ⟨by decide, rfl⟩
theorem o_100 : cpO 100 1 8 [] := ⟨by decide, rfl⟩
theorem o_101 : cpO 101 0 5 [some 102, some 103, some 104, none, none] := ⟨by decide, rfl⟩
theorem o_102 : cpO 102 1 4 [] := ⟨by decide, rfl⟩
theorem o_103 : cpO 103 1 4 [] := ⟨by decide, rfl⟩
theorem o_104 : cpO 104 1 8 [] := ⟨by decide, rfl⟩
theorem o_105 : cpO 105 0 5 [some 106, some 107, some 108, none, none] := ⟨by decide, rfl⟩
theorem o_106 : cpO 106 1 4 [] := ⟨by decide, rfl⟩
theorem o_107 : cpO 107 1 4 [] := ⟨by decide, rfl⟩
theorem o_108 : cpO 108 1 8 [] := ⟨by decide, rfl⟩
theorem o_109 : cpO 109 0 5 [some 110, some 111, some 112, none, none] := ⟨by decide, rfl⟩
theorem o_110 : cpO 110 1 4 [] := ⟨by decide, rfl⟩
theorem o_111 : cpO 111 1 4 [] := ⟨by decide, rfl⟩
theorem o_112 : cpO 112 1 8 [] := ⟨by decide, rfl⟩
theorem o_113 : cpO 113 0 6 [some 114, none, none] := ⟨by decide, rfl⟩
theorem o_114 : cpO 114 5 10 [some 65, some 69, some 73, some 77, some 81, some 85, some 89, some 93, some 97, some 101] := ⟨by decide, rfl⟩
theorem o_115 : cpO 115 0 7 [some 116, none, some 15, none, none, none, none, none, none, none, none, none] := ⟨by decide, rfl⟩
theorem o_116 : cpO 116 2 900 [] := ⟨by decide, rfl⟩
theorem o_117 : cpO 117 0 0 [some 1, some 57, some 118] := ⟨by decide, rfl⟩
theorem o_118 : cpO 118 1 6 [] := ⟨by decide, rfl⟩
theorem o_119 : cpO 119 0 4 [some 117, some 120, some 121, some 122, some 123, some 124, some 125, some 126] := ⟨by decide, rfl⟩
theorem o_120 : cpO 120 1 1008 [] := ⟨by decide, rfl⟩
theorem o_121 : cpO 121 1 36 [] := ⟨by decide, rfl⟩
theorem o_122 : cpO 122 1 6 [] := ⟨by decide, rfl⟩
theorem o_123 : cpO 123 4 6 [] := ⟨by decide, rfl⟩
theorem o_124 : cpO 124 4 6 [] := ⟨by decide, rfl⟩
theorem o_125 : cpO 125 1 4 [] := ⟨by decide, rfl⟩
theorem o_126 : cpO 126 1 4 [] := ⟨by decide, rfl⟩
theorem o_127 : cpO 127 0 1 [some 1, some 57, some 128, some 129, none, none, none] := ⟨by decide, rfl⟩
theorem o_128 : cpO 128 1 256 [] := ⟨by decide, rfl⟩
theorem o_129 : cpO 129 1 8 [] := ⟨by decide, rfl⟩
theorem o_130 : cpO 130 0 8 [some 119, some 117, some 131, some 132, some 133] := ⟨by decide, rfl⟩
theorem o_131 : cpO 131 4 54 [] := ⟨by decide, rfl⟩
theorem o_132 : cpO 132 1 11 [] := ⟨by decide, rfl⟩
theorem o_133 : cpO 133 4 8 [] := ⟨by decide, rfl⟩
theorem o_134 : cpO 134 0 2 [some 119, some 1, some 135, some 136, some 137, none] := ⟨by decide, rfl⟩
theorem o_135 : cpO 135 1 6 [] := ⟨by decide, rfl⟩
theorem o_136 : cpO 136 1 36 [] := ⟨by decide, rfl⟩
theorem o_137 : cpO 137 3 18 [] := ⟨by decide, rfl⟩
theorem o_138 : cpO 138 6 4 [some 139, some 141, some 143, some 145] := ⟨by decide, rfl⟩
theorem o_139 : cpO 139 0 9 [some 140, none, none] := ⟨by decide, rfl⟩
theorem o_140 : cpO 140 4 40 [] := ⟨by decide, rfl⟩
theorem o_141 : cpO 141 0 9 [some 142, none, none] := ⟨by decide, rfl⟩
theorem o_142 : cpO 142 4 40 [] := ⟨by decide, rfl⟩
theorem o_143 : cpO 143 0 9 [some 144, none, none] := ⟨by decide, rfl⟩
theorem o_144 : cpO 144 4 40 [] := ⟨by decide, rfl⟩
theorem o_145 : cpO 145 0 9 [some 146, none, none] := ⟨by decide, rfl⟩
theorem o_146 : cpO 146 4 40 [] := ⟨by decide, rfl⟩
theorem o_147 : cpO 147 7 2 [some 29, some 43] := ⟨by decide, rfl⟩
theorem o_148 : cpO 148 5 2 [some 105, some 109] := ⟨by decide, rfl⟩
theorem o_149 : cpO 149 3 2 [] := ⟨by decide, rfl⟩
theorem o_150 : cpO 150 0 12 [none, some 151, some 152, some 153, some 154, none, none, none, none, none, none, none, none, none, none, none, some 155, some 156, some 157, none, some 158, none, none, some 159, some 160, some 161, some 162, some 163, some 164, some 165, some 166, some 167, some 168, none, some 169, some 170, some 171, some 172, some 173] := ⟨by decide, rfl⟩
theorem o_151 : cpO 151 1 3486 [] := ⟨by decide, rfl⟩
theorem o_152 : cpO 152 3 2 [] := ⟨by decide, rfl⟩
theorem o_153 : cpO 153 1 900 [] := ⟨by decide, rfl⟩
theorem o_154 : cpO 154 1 1162 [] := ⟨by decide, rfl⟩
theorem o_155 : cpO 155 1 36 [] := ⟨by decide, rfl⟩
theorem o_156 : cpO 156 1 900 [] := ⟨by decide, rfl⟩
theorem o_157 : cpO 157 1 6 [] := ⟨by decide, rfl⟩
theorem o_158 : cpO 158 1 18 [] := ⟨by decide, rfl⟩
theorem o_159 : cpO 159 1 36 [] := ⟨by decide, rfl⟩
theorem o_160 : cpO 160 1 6 [] := ⟨by decide, rfl⟩
theorem o_161 : cpO 161 1 6 [] := ⟨by decide, rfl⟩
theorem o_162 : cpO 162 4 6 [] := ⟨by decide, rfl⟩
theorem o_163 : cpO 163 4 6 [] := ⟨by decide, rfl⟩
theorem o_164 : cpO 164 1 4 [] := ⟨by decide, rfl⟩
theorem o_165 : cpO 165 1 4 [] := ⟨by decide, rfl⟩
theorem o_166 : cpO 166 1 256 [] := ⟨by decide, rfl⟩
theorem o_167 : cpO 167 4 54 [] := ⟨by decide, rfl⟩
theorem o_168 : cpO 168 1 168 [] := ⟨by decide, rfl⟩
theorem o_169 : cpO 169 1 11 [] := ⟨by decide, rfl⟩
theorem o_170 : cpO 170 4 36 [] := ⟨by decide, rfl⟩
theorem o_171 : cpO 171 1 4 [] := ⟨by decide, rfl⟩
theorem o_172 : cpO 172 1 4 [] := ⟨by decide, rfl⟩
theorem o_173 : cpO 173 4 160 [] := ⟨by decide, rfl⟩
def cpVy (v : Nat) : Prop := v = 1 ∨ v = 15 ∨ v = 29 ∨ v = 43
theorem cpVy_o0 {v : Nat} (h : cpVy v) : cpO v 0 10 [none, none, none, none, some (v + 1), some (v + 2), some (v + 3), none, some (v + 4), some (v + 5), some (v + 6), none, some (v + 7), some (v + 8), some (v + 9), some (v + 10), some (v + 11)] := by
  unfold cpVy at h; rcases h with rfl | rfl | rfl | rfl <;> exact ⟨by decide, rfl⟩
theorem cpVy_o1 {v : Nat} (h : cpVy v) : cpO (v + 1) 1 9 [] := by
  unfold cpVy at h; rcases h with rfl | rfl | rfl | rfl <;> exact ⟨by decide, rfl⟩
theorem cpVy_o2 {v : Nat} (h : cpVy v) : cpO (v + 2) 1 9 [] := by
  unfold cpVy at h; rcases h with rfl | rfl | rfl | rfl <;> exact ⟨by decide, rfl⟩
theorem cpVy_o3 {v : Nat} (h : cpVy v) : cpO (v + 3) 1 9 [] := by
  unfold cpVy at h; rcases h with rfl | rfl | rfl | rfl <;> exact ⟨by decide, rfl⟩
theorem cpVy_o4 {v : Nat} (h : cpVy v) : cpO (v + 4) 1 8 [] := by
  unfold cpVy at h; rcases h with rfl | rfl | rfl | rfl <;> exact ⟨by decide, rfl⟩
theorem cpVy_o5 {v : Nat} (h : cpVy v) : cpO (v + 5) 1 8 [] := by
  unfold cpVy at h; rcases h with rfl | rfl | rfl | rfl <;> exact ⟨by decide, rfl⟩
theorem cpVy_o6 {v : Nat} (h : cpVy v) : cpO (v + 6) 1 8 [] := by
  unfold cpVy at h; rcases h with rfl | rfl | rfl | rfl <;> exact ⟨by decide, rfl⟩
theorem cpVy_o7 {v : Nat} (h : cpVy v) : cpO (v + 7) 1 4 [] := by
  unfold cpVy at h; rcases h with rfl | rfl | rfl | rfl <;> exact ⟨by decide, rfl⟩
theorem cpVy_o8 {v : Nat} (h : cpVy v) : cpO (v + 8) 1 4 [] := by
  unfold cpVy at h; rcases h with rfl | rfl | rfl | rfl <;> exact ⟨by decide, rfl⟩
theorem cpVy_o9 {v : Nat} (h : cpVy v) : cpO (v + 9) 1 4 [] := by
  unfold cpVy at h; rcases h with rfl | rfl | rfl | rfl <;> exact ⟨by decide, rfl⟩
theorem cpVy_o10 {v : Nat} (h : cpVy v) : cpO (v + 10) 1 36 [] := by
  unfold cpVy at h; rcases h with rfl | rfl | rfl | rfl <;> exact ⟨by decide, rfl⟩
theorem cpVy_o11 {v : Nat} (h : cpVy v) : cpO (v + 11) 0 3 [some (v + 12), none, none, none, none, none, some (v + 13)] := by
  unfold cpVy at h; rcases h with rfl | rfl | rfl | rfl <;> exact ⟨by decide, rfl⟩
theorem cpVy_o12 {v : Nat} (h : cpVy v) : cpO (v + 12) 1 900 [] := by
  unfold cpVy at h; rcases h with rfl | rfl | rfl | rfl <;> exact ⟨by decide, rfl⟩
theorem cpVy_o13 {v : Nat} (h : cpVy v) : cpO (v + 13) 1 102 [] := by
  unfold cpVy at h; rcases h with rfl | rfl | rfl | rfl <;> exact ⟨by decide, rfl⟩
theorem kVy_1 : cpVy 1 := by unfold cpVy; decide
theorem kVy_15 : cpVy 15 := by unfold cpVy; decide
theorem kVy_29 : cpVy 29 := by unfold cpVy; decide
theorem kVy_43 : cpVy 43 := by unfold cpVy; decide
def cpLw (v : Nat) : Prop := v = 12 ∨ v = 26 ∨ v = 40 ∨ v = 54
theorem cpLw_o0 {v : Nat} (h : cpLw v) : cpO v 0 3 [some (v + 1), none, none, none, none, none, some (v + 2)] := by
  unfold cpLw at h; rcases h with rfl | rfl | rfl | rfl <;> exact ⟨by decide, rfl⟩
theorem cpLw_o1 {v : Nat} (h : cpLw v) : cpO (v + 1) 1 900 [] := by
  unfold cpLw at h; rcases h with rfl | rfl | rfl | rfl <;> exact ⟨by decide, rfl⟩
theorem cpLw_o2 {v : Nat} (h : cpLw v) : cpO (v + 2) 1 102 [] := by
  unfold cpLw at h; rcases h with rfl | rfl | rfl | rfl <;> exact ⟨by decide, rfl⟩
theorem kLw_12 : cpLw 12 := by unfold cpLw; decide
theorem kLw_26 : cpLw 26 := by unfold cpLw; decide
theorem kLw_40 : cpLw 40 := by unfold cpLw; decide
theorem kLw_54 : cpLw 54 := by unfold cpLw; decide
def cpNw (v : Nat) : Prop := v = 57 ∨ v = 61 ∨ v = 65 ∨ v = 69 ∨ v = 73 ∨ v = 77 ∨ v = 81 ∨ v = 85 ∨ v = 89 ∨ v = 93 ∨ v = 97 ∨ v = 101 ∨ v = 105 ∨ v = 109
theorem cpNw_o0 {v : Nat} (h : cpNw v) : cpO v 0 5 [some (v + 1), some (v + 2), some (v + 3), none, none] := by
  unfold cpNw at h; rcases h with rfl | rfl | rfl | rfl | rfl | rfl | rfl | rfl | rfl | rfl | rfl | rfl | rfl | rfl <;> exact ⟨by decide, rfl⟩
theorem cpNw_o1 {v : Nat} (h : cpNw v) : cpO (v + 1) 1 4 [] := by
  unfold cpNw at h; rcases h with rfl | rfl | rfl | rfl | rfl | rfl | rfl | rfl | rfl | rfl | rfl | rfl | rfl | rfl <;> exact ⟨by decide, rfl⟩
theorem cpNw_o2 {v : Nat} (h : cpNw v) : cpO (v + 2) 1 4 [] := by
  unfold cpNw at h; rcases h with rfl | rfl | rfl | rfl | rfl | rfl | rfl | rfl | rfl | rfl | rfl | rfl | rfl | rfl <;> exact ⟨by decide, rfl⟩
theorem cpNw_o3 {v : Nat} (h : cpNw v) : cpO (v + 3) 1 8 [] := by
  unfold cpNw at h; rcases h with rfl | rfl | rfl | rfl | rfl | rfl | rfl | rfl | rfl | rfl | rfl | rfl | rfl | rfl <;> exact ⟨by decide, rfl⟩
theorem kNw_57 : cpNw 57 := by unfold cpNw; decide
theorem kNw_61 : cpNw 61 := by unfold cpNw; decide
theorem kNw_65 : cpNw 65 := by unfold cpNw; decide
theorem kNw_69 : cpNw 69 := by unfold cpNw; decide
theorem kNw_73 : cpNw 73 := by unfold cpNw; decide
theorem kNw_77 : cpNw 77 := by unfold cpNw; decide
theorem kNw_81 : cpNw 81 := by unfold cpNw; decide
theorem kNw_85 : cpNw 85 := by unfold cpNw; decide
theorem kNw_89 : cpNw 89 := by unfold cpNw; decide
theorem kNw_93 : cpNw 93 := by unfold cpNw; decide
theorem kNw_97 : cpNw 97 := by unfold cpNw; decide
theorem kNw_101 : cpNw 101 := by unfold cpNw; decide
theorem kNw_105 : cpNw 105 := by unfold cpNw; decide
theorem kNw_109 : cpNw 109 := by unfold cpNw; decide
def cpTy (v : Nat) : Prop := v = 139 ∨ v = 141 ∨ v = 143 ∨ v = 145
theorem cpTy_o0 {v : Nat} (h : cpTy v) : cpO v 0 9 [some (v + 1), none, none] := by
  unfold cpTy at h; rcases h with rfl | rfl | rfl | rfl <;> exact ⟨by decide, rfl⟩
theorem cpTy_o1 {v : Nat} (h : cpTy v) : cpO (v + 1) 4 40 [] := by
  unfold cpTy at h; rcases h with rfl | rfl | rfl | rfl <;> exact ⟨by decide, rfl⟩
theorem kTy_139 : cpTy 139 := by unfold cpTy; decide
theorem kTy_141 : cpTy 141 := by unfold cpTy; decide
theorem kTy_143 : cpTy 143 := by unfold cpTy; decide
theorem kTy_145 : cpTy 145 := by unfold cpTy; decide
theorem cpVy_l {v : Nat} (h : cpVy v) : cpLw (v + 11) := by
  unfold cpVy at h; unfold cpLw; rcases h with rfl | rfl | rfl | rfl <;> decide
theorem cpIn_lt {i : Int32} {n : Nat} (h : cpIn i n = true) : i.toNatClampNeg < n := by
  have h2 := cpIn_vp h
  unfold vp_in at h2
  omega
theorem tr_138 {i : Int32} (h : cpIn i 4 = true) : ([some 139, some 141, some 143, some 145] : List (Option Nat)).getD i.toNatClampNeg none = some (139 + 2 * i.toNatClampNeg) := by
  have hj := cpIn_lt h
  generalize i.toNatClampNeg = j at hj ⊢
  rcases (show j = 0 ∨ j = 1 ∨ j = 2 ∨ j = 3 by omega) with rfl | rfl | rfl | rfl <;> rfl
theorem tk_138 {i : Int32} (h : cpIn i 4 = true) : cpTy (139 + 2 * i.toNatClampNeg) := by
  have hj := cpIn_lt h
  generalize i.toNatClampNeg = j at hj ⊢
  unfold cpTy
  rcases (show j = 0 ∨ j = 1 ∨ j = 2 ∨ j = 3 by omega) with rfl | rfl | rfl | rfl <;> decide
theorem tr_114 {i : Int32} (h : cpIn i 10 = true) : ([some 65, some 69, some 73, some 77, some 81, some 85, some 89, some 93, some 97, some 101] : List (Option Nat)).getD i.toNatClampNeg none = some (65 + 4 * i.toNatClampNeg) := by
  have hj := cpIn_lt h
  generalize i.toNatClampNeg = j at hj ⊢
  rcases (show j = 0 ∨ j = 1 ∨ j = 2 ∨ j = 3 ∨ j = 4 ∨ j = 5 ∨ j = 6 ∨ j = 7 ∨ j = 8 ∨ j = 9 by omega) with rfl | rfl | rfl | rfl | rfl | rfl | rfl | rfl | rfl | rfl <;> rfl
theorem tk_114 {i : Int32} (h : cpIn i 10 = true) : cpNw (65 + 4 * i.toNatClampNeg) := by
  have hj := cpIn_lt h
  generalize i.toNatClampNeg = j at hj ⊢
  unfold cpNw
  rcases (show j = 0 ∨ j = 1 ∨ j = 2 ∨ j = 3 ∨ j = 4 ∨ j = 5 ∨ j = 6 ∨ j = 7 ∨ j = 8 ∨ j = 9 by omega) with rfl | rfl | rfl | rfl | rfl | rfl | rfl | rfl | rfl | rfl <;> decide
theorem tr_147 {i : Int32} (h : cpIn i 2 = true) : ([some 29, some 43] : List (Option Nat)).getD i.toNatClampNeg none = some (29 + 14 * i.toNatClampNeg) := by
  have hj := cpIn_lt h
  generalize i.toNatClampNeg = j at hj ⊢
  rcases (show j = 0 ∨ j = 1 by omega) with rfl | rfl <;> rfl
theorem tk_147 {i : Int32} (h : cpIn i 2 = true) : cpVy (29 + 14 * i.toNatClampNeg) := by
  have hj := cpIn_lt h
  generalize i.toNatClampNeg = j at hj ⊢
  unfold cpVy
  rcases (show j = 0 ∨ j = 1 by omega) with rfl | rfl <;> decide
theorem tr_148 {i : Int32} (h : cpIn i 2 = true) : ([some 105, some 109] : List (Option Nat)).getD i.toNatClampNeg none = some (105 + 4 * i.toNatClampNeg) := by
  have hj := cpIn_lt h
  generalize i.toNatClampNeg = j at hj ⊢
  rcases (show j = 0 ∨ j = 1 by omega) with rfl | rfl <;> rfl
theorem tk_148 {i : Int32} (h : cpIn i 2 = true) : cpNw (105 + 4 * i.toNatClampNeg) := by
  have hj := cpIn_lt h
  generalize i.toNatClampNeg = j at hj ⊢
  unfold cpNw
  rcases (show j = 0 ∨ j = 1 by omega) with rfl | rfl <;> decide
set_option maxRecDepth 20000 in
theorem mr_1 : ∀ q ∈ wsL_law_r1, q ∈ wsL_law := fun _ h => List.mem_append_left _ (List.mem_append_left _ (List.mem_append_left _ (List.mem_append_left _ (List.mem_append_left _ (List.mem_append_left _ (List.mem_append_left _ (List.mem_append_left _ (List.mem_append_left _ (List.mem_append_left _ (List.mem_append_left _ (List.mem_append_left _ (List.mem_append_left _ (List.mem_append_left _ (List.mem_append_left _ h))))))))))))))
set_option maxRecDepth 20000 in
theorem mr_2 : ∀ q ∈ wsL_law_r2, q ∈ wsL_law := fun _ h => List.mem_append_left _ (List.mem_append_left _ (List.mem_append_left _ (List.mem_append_left _ (List.mem_append_left _ (List.mem_append_left _ (List.mem_append_left _ (List.mem_append_left _ (List.mem_append_left _ (List.mem_append_left _ (List.mem_append_left _ (List.mem_append_left _ (List.mem_append_left _ (List.mem_append_left _ (List.mem_append_right _ (List.mem_append_left _ h)))))))))))))))
set_option maxRecDepth 20000 in
theorem mr_3 : ∀ q ∈ wsL_law_r3, q ∈ wsL_law := fun _ h => List.mem_append_left _ (List.mem_append_left _ (List.mem_append_left _ (List.mem_append_left _ (List.mem_append_left _ (List.mem_append_left _ (List.mem_append_left _ (List.mem_append_left _ (List.mem_append_left _ (List.mem_append_left _ (List.mem_append_left _ (List.mem_append_left _ (List.mem_append_left _ (List.mem_append_left _ (List.mem_append_right _ (List.mem_append_right _ (List.mem_append_left _ h))))))))))))))))
set_option maxRecDepth 20000 in
theorem mr_4 : ∀ q ∈ wsL_law_r4, q ∈ wsL_law := fun _ h => List.mem_append_left _ (List.mem_append_left _ (List.mem_append_left _ (List.mem_append_left _ (List.mem_append_left _ (List.mem_append_left _ (List.mem_append_left _ (List.mem_append_left _ (List.mem_append_left _ (List.mem_append_left _ (List.mem_append_left _ (List.mem_append_left _ (List.mem_append_left _ (List.mem_append_left _ (List.mem_append_right _ (List.mem_append_right _ (List.mem_append_right _ (List.mem_append_left _ h)))))))))))))))))
set_option maxRecDepth 20000 in
theorem mr_5 : ∀ q ∈ wsL_law_r5, q ∈ wsL_law := fun _ h => List.mem_append_left _ (List.mem_append_left _ (List.mem_append_left _ (List.mem_append_left _ (List.mem_append_left _ (List.mem_append_left _ (List.mem_append_left _ (List.mem_append_left _ (List.mem_append_left _ (List.mem_append_left _ (List.mem_append_left _ (List.mem_append_left _ (List.mem_append_left _ (List.mem_append_left _ (List.mem_append_right _ (List.mem_append_right _ (List.mem_append_right _ (List.mem_append_right _ (List.mem_append_left _ h))))))))))))))))))
set_option maxRecDepth 20000 in
theorem mr_6 : ∀ q ∈ wsL_law_r6, q ∈ wsL_law := fun _ h => List.mem_append_left _ (List.mem_append_left _ (List.mem_append_left _ (List.mem_append_left _ (List.mem_append_left _ (List.mem_append_left _ (List.mem_append_left _ (List.mem_append_left _ (List.mem_append_left _ (List.mem_append_left _ (List.mem_append_left _ (List.mem_append_left _ (List.mem_append_left _ (List.mem_append_left _ (List.mem_append_right _ (List.mem_append_right _ (List.mem_append_right _ (List.mem_append_right _ (List.mem_append_right _ (List.mem_append_left _ h)))))))))))))))))))
set_option maxRecDepth 20000 in
theorem mr_7 : ∀ q ∈ wsL_law_r7, q ∈ wsL_law := fun _ h => List.mem_append_left _ (List.mem_append_left _ (List.mem_append_left _ (List.mem_append_left _ (List.mem_append_left _ (List.mem_append_left _ (List.mem_append_left _ (List.mem_append_left _ (List.mem_append_left _ (List.mem_append_left _ (List.mem_append_left _ (List.mem_append_left _ (List.mem_append_left _ (List.mem_append_left _ (List.mem_append_right _ (List.mem_append_right _ (List.mem_append_right _ (List.mem_append_right _ (List.mem_append_right _ (List.mem_append_right _ (List.mem_append_left _ h))))))))))))))))))))
set_option maxRecDepth 20000 in
theorem mr_8 : ∀ q ∈ wsL_law_r8, q ∈ wsL_law := fun _ h => List.mem_append_left _ (List.mem_append_left _ (List.mem_append_left _ (List.mem_append_left _ (List.mem_append_left _ (List.mem_append_left _ (List.mem_append_left _ (List.mem_append_left _ (List.mem_append_left _ (List.mem_append_left _ (List.mem_append_left _ (List.mem_append_left _ (List.mem_append_left _ (List.mem_append_left _ (List.mem_append_right _ (List.mem_append_right _ (List.mem_append_right _ (List.mem_append_right _ (List.mem_append_right _ (List.mem_append_right _ (List.mem_append_right _ (List.mem_append_left _ h)))))))))))))))))))))
set_option maxRecDepth 20000 in
theorem mr_9 : ∀ q ∈ wsL_law_r9, q ∈ wsL_law := fun _ h => List.mem_append_left _ (List.mem_append_left _ (List.mem_append_left _ (List.mem_append_left _ (List.mem_append_left _ (List.mem_append_left _ (List.mem_append_left _ (List.mem_append_left _ (List.mem_append_left _ (List.mem_append_left _ (List.mem_append_left _ (List.mem_append_left _ (List.mem_append_left _ (List.mem_append_left _ (List.mem_append_right _ (List.mem_append_right _ (List.mem_append_right _ (List.mem_append_right _ (List.mem_append_right _ (List.mem_append_right _ (List.mem_append_right _ (List.mem_append_right _ (List.mem_append_left _ h))))))))))))))))))))))
set_option maxRecDepth 20000 in
theorem mr_10 : ∀ q ∈ wsL_law_r10, q ∈ wsL_law := fun _ h => List.mem_append_left _ (List.mem_append_left _ (List.mem_append_left _ (List.mem_append_left _ (List.mem_append_left _ (List.mem_append_left _ (List.mem_append_left _ (List.mem_append_left _ (List.mem_append_left _ (List.mem_append_left _ (List.mem_append_left _ (List.mem_append_left _ (List.mem_append_left _ (List.mem_append_left _ (List.mem_append_right _ (List.mem_append_right _ (List.mem_append_right _ (List.mem_append_right _ (List.mem_append_right _ (List.mem_append_right _ (List.mem_append_right _ (List.mem_append_right _ (List.mem_append_right _ (List.mem_append_left _ h)))))))))))))))))))))))
set_option maxRecDepth 20000 in
theorem mr_11 : ∀ q ∈ wsL_law_r11, q ∈ wsL_law := fun _ h => List.mem_append_left _ (List.mem_append_left _ (List.mem_append_left _ (List.mem_append_left _ (List.mem_append_left _ (List.mem_append_left _ (List.mem_append_left _ (List.mem_append_left _ (List.mem_append_left _ (List.mem_append_left _ (List.mem_append_left _ (List.mem_append_left _ (List.mem_append_left _ (List.mem_append_left _ (List.mem_append_right _ (List.mem_append_right _ (List.mem_append_right _ (List.mem_append_right _ (List.mem_append_right _ (List.mem_append_right _ (List.mem_append_right _ (List.mem_append_right _ (List.mem_append_right _ (List.mem_append_right _ (List.mem_append_left _ h))))))))))))))))))))))))
set_option maxRecDepth 20000 in
theorem mr_12 : ∀ q ∈ wsL_law_r12, q ∈ wsL_law := fun _ h => List.mem_append_left _ (List.mem_append_left _ (List.mem_append_left _ (List.mem_append_left _ (List.mem_append_left _ (List.mem_append_left _ (List.mem_append_left _ (List.mem_append_left _ (List.mem_append_left _ (List.mem_append_left _ (List.mem_append_left _ (List.mem_append_left _ (List.mem_append_left _ (List.mem_append_left _ (List.mem_append_right _ (List.mem_append_right _ (List.mem_append_right _ (List.mem_append_right _ (List.mem_append_right _ (List.mem_append_right _ (List.mem_append_right _ (List.mem_append_right _ (List.mem_append_right _ (List.mem_append_right _ (List.mem_append_right _ (List.mem_append_left _ h)))))))))))))))))))))))))
set_option maxRecDepth 20000 in
theorem mr_13 : ∀ q ∈ wsL_law_r13, q ∈ wsL_law := fun _ h => List.mem_append_left _ (List.mem_append_left _ (List.mem_append_left _ (List.mem_append_left _ (List.mem_append_left _ (List.mem_append_left _ (List.mem_append_left _ (List.mem_append_left _ (List.mem_append_left _ (List.mem_append_left _ (List.mem_append_left _ (List.mem_append_left _ (List.mem_append_left _ (List.mem_append_left _ (List.mem_append_right _ (List.mem_append_right _ (List.mem_append_right _ (List.mem_append_right _ (List.mem_append_right _ (List.mem_append_right _ (List.mem_append_right _ (List.mem_append_right _ (List.mem_append_right _ (List.mem_append_right _ (List.mem_append_right _ (List.mem_append_right _ (List.mem_append_left _ h))))))))))))))))))))))))))
set_option maxRecDepth 20000 in
theorem mr_15 : ∀ q ∈ wsL_law_r15, q ∈ wsL_law := fun _ h => List.mem_append_left _ (List.mem_append_left _ (List.mem_append_left _ (List.mem_append_left _ (List.mem_append_left _ (List.mem_append_left _ (List.mem_append_left _ (List.mem_append_left _ (List.mem_append_left _ (List.mem_append_left _ (List.mem_append_left _ (List.mem_append_left _ (List.mem_append_left _ (List.mem_append_left _ (List.mem_append_right _ (List.mem_append_right _ (List.mem_append_right _ (List.mem_append_right _ (List.mem_append_right _ (List.mem_append_right _ (List.mem_append_right _ (List.mem_append_right _ (List.mem_append_right _ (List.mem_append_right _ (List.mem_append_right _ (List.mem_append_right _ (List.mem_append_right _ (List.mem_append_right _ (List.mem_append_left _ h))))))))))))))))))))))))))))
set_option maxRecDepth 20000 in
theorem mr_16 : ∀ q ∈ wsL_law_r16, q ∈ wsL_law := fun _ h => List.mem_append_left _ (List.mem_append_left _ (List.mem_append_left _ (List.mem_append_left _ (List.mem_append_left _ (List.mem_append_left _ (List.mem_append_left _ (List.mem_append_left _ (List.mem_append_left _ (List.mem_append_left _ (List.mem_append_left _ (List.mem_append_left _ (List.mem_append_left _ (List.mem_append_left _ (List.mem_append_right _ (List.mem_append_right _ (List.mem_append_right _ (List.mem_append_right _ (List.mem_append_right _ (List.mem_append_right _ (List.mem_append_right _ (List.mem_append_right _ (List.mem_append_right _ (List.mem_append_right _ (List.mem_append_right _ (List.mem_append_right _ (List.mem_append_right _ (List.mem_append_right _ (List.mem_append_right _ (List.mem_append_left _ h)))))))))))))))))))))))))))))
set_option maxRecDepth 20000 in
theorem mr_17 : ∀ q ∈ wsL_law_r17, q ∈ wsL_law := fun _ h => List.mem_append_left _ (List.mem_append_left _ (List.mem_append_left _ (List.mem_append_left _ (List.mem_append_left _ (List.mem_append_left _ (List.mem_append_left _ (List.mem_append_left _ (List.mem_append_left _ (List.mem_append_left _ (List.mem_append_left _ (List.mem_append_left _ (List.mem_append_left _ (List.mem_append_left _ (List.mem_append_right _ (List.mem_append_right _ (List.mem_append_right _ (List.mem_append_right _ (List.mem_append_right _ (List.mem_append_right _ (List.mem_append_right _ (List.mem_append_right _ (List.mem_append_right _ (List.mem_append_right _ (List.mem_append_right _ (List.mem_append_right _ (List.mem_append_right _ (List.mem_append_right _ (List.mem_append_right _ (List.mem_append_right _ (List.mem_append_left _ h))))))))))))))))))))))))))))))
set_option maxRecDepth 20000 in
theorem mr_18 : ∀ q ∈ wsL_law_r18, q ∈ wsL_law := fun _ h => List.mem_append_left _ (List.mem_append_left _ (List.mem_append_left _ (List.mem_append_left _ (List.mem_append_left _ (List.mem_append_left _ (List.mem_append_left _ (List.mem_append_left _ (List.mem_append_left _ (List.mem_append_left _ (List.mem_append_left _ (List.mem_append_left _ (List.mem_append_left _ (List.mem_append_left _ (List.mem_append_right _ (List.mem_append_right _ (List.mem_append_right _ (List.mem_append_right _ (List.mem_append_right _ (List.mem_append_right _ (List.mem_append_right _ (List.mem_append_right _ (List.mem_append_right _ (List.mem_append_right _ (List.mem_append_right _ (List.mem_append_right _ (List.mem_append_right _ (List.mem_append_right _ (List.mem_append_right _ (List.mem_append_right _ (List.mem_append_right _ (List.mem_append_left _ h)))))))))))))))))))))))))))))))
set_option maxRecDepth 20000 in
theorem mr_19 : ∀ q ∈ wsL_law_r19, q ∈ wsL_law := fun _ h => List.mem_append_left _ (List.mem_append_left _ (List.mem_append_left _ (List.mem_append_left _ (List.mem_append_left _ (List.mem_append_left _ (List.mem_append_left _ (List.mem_append_left _ (List.mem_append_left _ (List.mem_append_left _ (List.mem_append_left _ (List.mem_append_left _ (List.mem_append_left _ (List.mem_append_left _ (List.mem_append_right _ (List.mem_append_right _ (List.mem_append_right _ (List.mem_append_right _ (List.mem_append_right _ (List.mem_append_right _ (List.mem_append_right _ (List.mem_append_right _ (List.mem_append_right _ (List.mem_append_right _ (List.mem_append_right _ (List.mem_append_right _ (List.mem_append_right _ (List.mem_append_right _ (List.mem_append_right _ (List.mem_append_right _ (List.mem_append_right _ (List.mem_append_right _ (List.mem_append_left _ h))))))))))))))))))))))))))))))))
set_option maxRecDepth 20000 in
theorem mr_20 : ∀ q ∈ wsL_law_r20, q ∈ wsL_law := fun _ h => List.mem_append_left _ (List.mem_append_left _ (List.mem_append_left _ (List.mem_append_left _ (List.mem_append_left _ (List.mem_append_left _ (List.mem_append_left _ (List.mem_append_left _ (List.mem_append_left _ (List.mem_append_left _ (List.mem_append_left _ (List.mem_append_left _ (List.mem_append_left _ (List.mem_append_left _ (List.mem_append_right _ (List.mem_append_right _ (List.mem_append_right _ (List.mem_append_right _ (List.mem_append_right _ (List.mem_append_right _ (List.mem_append_right _ (List.mem_append_right _ (List.mem_append_right _ (List.mem_append_right _ (List.mem_append_right _ (List.mem_append_right _ (List.mem_append_right _ (List.mem_append_right _ (List.mem_append_right _ (List.mem_append_right _ (List.mem_append_right _ (List.mem_append_right _ (List.mem_append_right _ (List.mem_append_left _ h)))))))))))))))))))))))))))))))))
set_option maxRecDepth 20000 in
theorem mr_21 : ∀ q ∈ wsL_law_r21, q ∈ wsL_law := fun _ h => List.mem_append_left _ (List.mem_append_left _ (List.mem_append_left _ (List.mem_append_left _ (List.mem_append_left _ (List.mem_append_left _ (List.mem_append_left _ (List.mem_append_left _ (List.mem_append_left _ (List.mem_append_left _ (List.mem_append_left _ (List.mem_append_left _ (List.mem_append_left _ (List.mem_append_left _ (List.mem_append_right _ (List.mem_append_right _ (List.mem_append_right _ (List.mem_append_right _ (List.mem_append_right _ (List.mem_append_right _ (List.mem_append_right _ (List.mem_append_right _ (List.mem_append_right _ (List.mem_append_right _ (List.mem_append_right _ (List.mem_append_right _ (List.mem_append_right _ (List.mem_append_right _ (List.mem_append_right _ (List.mem_append_right _ (List.mem_append_right _ (List.mem_append_right _ (List.mem_append_right _ (List.mem_append_right _ (List.mem_append_left _ h))))))))))))))))))))))))))))))))))
set_option maxRecDepth 20000 in
theorem mr_22 : ∀ q ∈ wsL_law_r22, q ∈ wsL_law := fun _ h => List.mem_append_left _ (List.mem_append_left _ (List.mem_append_left _ (List.mem_append_left _ (List.mem_append_left _ (List.mem_append_left _ (List.mem_append_left _ (List.mem_append_left _ (List.mem_append_left _ (List.mem_append_left _ (List.mem_append_left _ (List.mem_append_left _ (List.mem_append_left _ (List.mem_append_left _ (List.mem_append_right _ (List.mem_append_right _ (List.mem_append_right _ (List.mem_append_right _ (List.mem_append_right _ (List.mem_append_right _ (List.mem_append_right _ (List.mem_append_right _ (List.mem_append_right _ (List.mem_append_right _ (List.mem_append_right _ (List.mem_append_right _ (List.mem_append_right _ (List.mem_append_right _ (List.mem_append_right _ (List.mem_append_right _ (List.mem_append_right _ (List.mem_append_right _ (List.mem_append_right _ (List.mem_append_right _ (List.mem_append_right _ (List.mem_append_left _ h)))))))))))))))))))))))))))))))))))
set_option maxRecDepth 20000 in
theorem mr_23 : ∀ q ∈ wsL_law_r23, q ∈ wsL_law := fun _ h => List.mem_append_left _ (List.mem_append_left _ (List.mem_append_left _ (List.mem_append_left _ (List.mem_append_left _ (List.mem_append_left _ (List.mem_append_left _ (List.mem_append_left _ (List.mem_append_left _ (List.mem_append_left _ (List.mem_append_left _ (List.mem_append_left _ (List.mem_append_left _ (List.mem_append_left _ (List.mem_append_right _ (List.mem_append_right _ (List.mem_append_right _ (List.mem_append_right _ (List.mem_append_right _ (List.mem_append_right _ (List.mem_append_right _ (List.mem_append_right _ (List.mem_append_right _ (List.mem_append_right _ (List.mem_append_right _ (List.mem_append_right _ (List.mem_append_right _ (List.mem_append_right _ (List.mem_append_right _ (List.mem_append_right _ (List.mem_append_right _ (List.mem_append_right _ (List.mem_append_right _ (List.mem_append_right _ (List.mem_append_right _ (List.mem_append_right _ (List.mem_append_left _ h))))))))))))))))))))))))))))))))))))
set_option maxRecDepth 20000 in
theorem mr_24 : ∀ q ∈ wsL_law_r24, q ∈ wsL_law := fun _ h => List.mem_append_left _ (List.mem_append_left _ (List.mem_append_left _ (List.mem_append_left _ (List.mem_append_left _ (List.mem_append_left _ (List.mem_append_left _ (List.mem_append_left _ (List.mem_append_left _ (List.mem_append_left _ (List.mem_append_left _ (List.mem_append_left _ (List.mem_append_left _ (List.mem_append_left _ (List.mem_append_right _ (List.mem_append_right _ (List.mem_append_right _ (List.mem_append_right _ (List.mem_append_right _ (List.mem_append_right _ (List.mem_append_right _ (List.mem_append_right _ (List.mem_append_right _ (List.mem_append_right _ (List.mem_append_right _ (List.mem_append_right _ (List.mem_append_right _ (List.mem_append_right _ (List.mem_append_right _ (List.mem_append_right _ (List.mem_append_right _ (List.mem_append_right _ (List.mem_append_right _ (List.mem_append_right _ (List.mem_append_right _ (List.mem_append_right _ (List.mem_append_right _ (List.mem_append_left _ h)))))))))))))))))))))))))))))))))))))
set_option maxRecDepth 20000 in
theorem mr_25 : ∀ q ∈ wsL_law_r25, q ∈ wsL_law := fun _ h => List.mem_append_left _ (List.mem_append_left _ (List.mem_append_left _ (List.mem_append_left _ (List.mem_append_left _ (List.mem_append_left _ (List.mem_append_left _ (List.mem_append_left _ (List.mem_append_left _ (List.mem_append_left _ (List.mem_append_left _ (List.mem_append_left _ (List.mem_append_left _ (List.mem_append_left _ (List.mem_append_right _ (List.mem_append_right _ (List.mem_append_right _ (List.mem_append_right _ (List.mem_append_right _ (List.mem_append_right _ (List.mem_append_right _ (List.mem_append_right _ (List.mem_append_right _ (List.mem_append_right _ (List.mem_append_right _ (List.mem_append_right _ (List.mem_append_right _ (List.mem_append_right _ (List.mem_append_right _ (List.mem_append_right _ (List.mem_append_right _ (List.mem_append_right _ (List.mem_append_right _ (List.mem_append_right _ (List.mem_append_right _ (List.mem_append_right _ (List.mem_append_right _ (List.mem_append_right _ (List.mem_append_left _ h))))))))))))))))))))))))))))))))))))))
set_option maxRecDepth 20000 in
theorem mr_26 : ∀ q ∈ wsL_law_r26, q ∈ wsL_law := fun _ h => List.mem_append_left _ (List.mem_append_left _ (List.mem_append_left _ (List.mem_append_left _ (List.mem_append_left _ (List.mem_append_left _ (List.mem_append_left _ (List.mem_append_left _ (List.mem_append_left _ (List.mem_append_left _ (List.mem_append_left _ (List.mem_append_left _ (List.mem_append_left _ (List.mem_append_left _ (List.mem_append_right _ (List.mem_append_right _ (List.mem_append_right _ (List.mem_append_right _ (List.mem_append_right _ (List.mem_append_right _ (List.mem_append_right _ (List.mem_append_right _ (List.mem_append_right _ (List.mem_append_right _ (List.mem_append_right _ (List.mem_append_right _ (List.mem_append_right _ (List.mem_append_right _ (List.mem_append_right _ (List.mem_append_right _ (List.mem_append_right _ (List.mem_append_right _ (List.mem_append_right _ (List.mem_append_right _ (List.mem_append_right _ (List.mem_append_right _ (List.mem_append_right _ (List.mem_append_right _ (List.mem_append_right _ (List.mem_append_left _ h)))))))))))))))))))))))))))))))))))))))
set_option maxRecDepth 20000 in
theorem mr_27 : ∀ q ∈ wsL_law_r27, q ∈ wsL_law := fun _ h => List.mem_append_left _ (List.mem_append_left _ (List.mem_append_left _ (List.mem_append_left _ (List.mem_append_left _ (List.mem_append_left _ (List.mem_append_left _ (List.mem_append_left _ (List.mem_append_left _ (List.mem_append_left _ (List.mem_append_left _ (List.mem_append_left _ (List.mem_append_left _ (List.mem_append_left _ (List.mem_append_right _ (List.mem_append_right _ (List.mem_append_right _ (List.mem_append_right _ (List.mem_append_right _ (List.mem_append_right _ (List.mem_append_right _ (List.mem_append_right _ (List.mem_append_right _ (List.mem_append_right _ (List.mem_append_right _ (List.mem_append_right _ (List.mem_append_right _ (List.mem_append_right _ (List.mem_append_right _ (List.mem_append_right _ (List.mem_append_right _ (List.mem_append_right _ (List.mem_append_right _ (List.mem_append_right _ (List.mem_append_right _ (List.mem_append_right _ (List.mem_append_right _ (List.mem_append_right _ (List.mem_append_right _ (List.mem_append_right _ (List.mem_append_left _ h))))))))))))))))))))))))))))))))))))))))
set_option maxRecDepth 20000 in
theorem mr_28 : ∀ q ∈ wsL_law_r28, q ∈ wsL_law := fun _ h => List.mem_append_left _ (List.mem_append_left _ (List.mem_append_left _ (List.mem_append_left _ (List.mem_append_left _ (List.mem_append_left _ (List.mem_append_left _ (List.mem_append_left _ (List.mem_append_left _ (List.mem_append_left _ (List.mem_append_left _ (List.mem_append_left _ (List.mem_append_left _ (List.mem_append_left _ (List.mem_append_right _ (List.mem_append_right _ (List.mem_append_right _ (List.mem_append_right _ (List.mem_append_right _ (List.mem_append_right _ (List.mem_append_right _ (List.mem_append_right _ (List.mem_append_right _ (List.mem_append_right _ (List.mem_append_right _ (List.mem_append_right _ (List.mem_append_right _ (List.mem_append_right _ (List.mem_append_right _ (List.mem_append_right _ (List.mem_append_right _ (List.mem_append_right _ (List.mem_append_right _ (List.mem_append_right _ (List.mem_append_right _ (List.mem_append_right _ (List.mem_append_right _ (List.mem_append_right _ (List.mem_append_right _ (List.mem_append_right _ (List.mem_append_right _ (List.mem_append_left _ h)))))))))))))))))))))))))))))))))))))))))
set_option maxRecDepth 20000 in
theorem mr_29 : ∀ q ∈ wsL_law_r29, q ∈ wsL_law := fun _ h => List.mem_append_left _ (List.mem_append_left _ (List.mem_append_left _ (List.mem_append_left _ (List.mem_append_left _ (List.mem_append_left _ (List.mem_append_left _ (List.mem_append_left _ (List.mem_append_left _ (List.mem_append_left _ (List.mem_append_left _ (List.mem_append_left _ (List.mem_append_left _ (List.mem_append_left _ (List.mem_append_right _ (List.mem_append_right _ (List.mem_append_right _ (List.mem_append_right _ (List.mem_append_right _ (List.mem_append_right _ (List.mem_append_right _ (List.mem_append_right _ (List.mem_append_right _ (List.mem_append_right _ (List.mem_append_right _ (List.mem_append_right _ (List.mem_append_right _ (List.mem_append_right _ (List.mem_append_right _ (List.mem_append_right _ (List.mem_append_right _ (List.mem_append_right _ (List.mem_append_right _ (List.mem_append_right _ (List.mem_append_right _ (List.mem_append_right _ (List.mem_append_right _ (List.mem_append_right _ (List.mem_append_right _ (List.mem_append_right _ (List.mem_append_right _ (List.mem_append_right _ (List.mem_append_left _ h))))))))))))))))))))))))))))))))))))))))))
set_option maxRecDepth 20000 in
theorem mr_30 : ∀ q ∈ wsL_law_r30, q ∈ wsL_law := fun _ h => List.mem_append_left _ (List.mem_append_left _ (List.mem_append_left _ (List.mem_append_left _ (List.mem_append_left _ (List.mem_append_left _ (List.mem_append_left _ (List.mem_append_left _ (List.mem_append_left _ (List.mem_append_left _ (List.mem_append_left _ (List.mem_append_left _ (List.mem_append_left _ (List.mem_append_left _ (List.mem_append_right _ (List.mem_append_right _ (List.mem_append_right _ (List.mem_append_right _ (List.mem_append_right _ (List.mem_append_right _ (List.mem_append_right _ (List.mem_append_right _ (List.mem_append_right _ (List.mem_append_right _ (List.mem_append_right _ (List.mem_append_right _ (List.mem_append_right _ (List.mem_append_right _ (List.mem_append_right _ (List.mem_append_right _ (List.mem_append_right _ (List.mem_append_right _ (List.mem_append_right _ (List.mem_append_right _ (List.mem_append_right _ (List.mem_append_right _ (List.mem_append_right _ (List.mem_append_right _ (List.mem_append_right _ (List.mem_append_right _ (List.mem_append_right _ (List.mem_append_right _ (List.mem_append_right _ (List.mem_append_left _ h)))))))))))))))))))))))))))))))))))))))))))
set_option maxRecDepth 20000 in
theorem mr_31 : ∀ q ∈ wsL_law_r31, q ∈ wsL_law := fun _ h => List.mem_append_left _ (List.mem_append_left _ (List.mem_append_left _ (List.mem_append_left _ (List.mem_append_left _ (List.mem_append_left _ (List.mem_append_left _ (List.mem_append_left _ (List.mem_append_left _ (List.mem_append_left _ (List.mem_append_left _ (List.mem_append_left _ (List.mem_append_left _ (List.mem_append_left _ (List.mem_append_right _ (List.mem_append_right _ (List.mem_append_right _ (List.mem_append_right _ (List.mem_append_right _ (List.mem_append_right _ (List.mem_append_right _ (List.mem_append_right _ (List.mem_append_right _ (List.mem_append_right _ (List.mem_append_right _ (List.mem_append_right _ (List.mem_append_right _ (List.mem_append_right _ (List.mem_append_right _ (List.mem_append_right _ (List.mem_append_right _ (List.mem_append_right _ (List.mem_append_right _ (List.mem_append_right _ (List.mem_append_right _ (List.mem_append_right _ (List.mem_append_right _ (List.mem_append_right _ (List.mem_append_right _ (List.mem_append_right _ (List.mem_append_right _ (List.mem_append_right _ (List.mem_append_right _ (List.mem_append_right _ (List.mem_append_left _ h))))))))))))))))))))))))))))))))))))))))))))
set_option maxRecDepth 20000 in
theorem mr_32 : ∀ q ∈ wsL_law_r32, q ∈ wsL_law := fun _ h => List.mem_append_left _ (List.mem_append_left _ (List.mem_append_left _ (List.mem_append_left _ (List.mem_append_left _ (List.mem_append_left _ (List.mem_append_left _ (List.mem_append_left _ (List.mem_append_left _ (List.mem_append_left _ (List.mem_append_left _ (List.mem_append_left _ (List.mem_append_left _ (List.mem_append_left _ (List.mem_append_right _ (List.mem_append_right _ (List.mem_append_right _ (List.mem_append_right _ (List.mem_append_right _ (List.mem_append_right _ (List.mem_append_right _ (List.mem_append_right _ (List.mem_append_right _ (List.mem_append_right _ (List.mem_append_right _ (List.mem_append_right _ (List.mem_append_right _ (List.mem_append_right _ (List.mem_append_right _ (List.mem_append_right _ (List.mem_append_right _ (List.mem_append_right _ (List.mem_append_right _ (List.mem_append_right _ (List.mem_append_right _ (List.mem_append_right _ (List.mem_append_right _ (List.mem_append_right _ (List.mem_append_right _ (List.mem_append_right _ (List.mem_append_right _ (List.mem_append_right _ (List.mem_append_right _ (List.mem_append_right _ (List.mem_append_right _ (List.mem_append_left _ h)))))))))))))))))))))))))))))))))))))))))))))
set_option maxRecDepth 20000 in
theorem mr_33 : ∀ q ∈ wsL_law_r33, q ∈ wsL_law := fun _ h => List.mem_append_left _ (List.mem_append_left _ (List.mem_append_left _ (List.mem_append_left _ (List.mem_append_left _ (List.mem_append_left _ (List.mem_append_left _ (List.mem_append_left _ (List.mem_append_left _ (List.mem_append_left _ (List.mem_append_left _ (List.mem_append_left _ (List.mem_append_left _ (List.mem_append_left _ (List.mem_append_right _ (List.mem_append_right _ (List.mem_append_right _ (List.mem_append_right _ (List.mem_append_right _ (List.mem_append_right _ (List.mem_append_right _ (List.mem_append_right _ (List.mem_append_right _ (List.mem_append_right _ (List.mem_append_right _ (List.mem_append_right _ (List.mem_append_right _ (List.mem_append_right _ (List.mem_append_right _ (List.mem_append_right _ (List.mem_append_right _ (List.mem_append_right _ (List.mem_append_right _ (List.mem_append_right _ (List.mem_append_right _ (List.mem_append_right _ (List.mem_append_right _ (List.mem_append_right _ (List.mem_append_right _ (List.mem_append_right _ (List.mem_append_right _ (List.mem_append_right _ (List.mem_append_right _ (List.mem_append_right _ (List.mem_append_right _ (List.mem_append_right _ (List.mem_append_left _ h))))))))))))))))))))))))))))))))))))))))))))))
set_option maxRecDepth 20000 in
theorem mr_34 : ∀ q ∈ wsL_law_r34, q ∈ wsL_law := fun _ h => List.mem_append_left _ (List.mem_append_left _ (List.mem_append_left _ (List.mem_append_left _ (List.mem_append_left _ (List.mem_append_left _ (List.mem_append_left _ (List.mem_append_left _ (List.mem_append_left _ (List.mem_append_left _ (List.mem_append_left _ (List.mem_append_left _ (List.mem_append_left _ (List.mem_append_left _ (List.mem_append_right _ (List.mem_append_right _ (List.mem_append_right _ (List.mem_append_right _ (List.mem_append_right _ (List.mem_append_right _ (List.mem_append_right _ (List.mem_append_right _ (List.mem_append_right _ (List.mem_append_right _ (List.mem_append_right _ (List.mem_append_right _ (List.mem_append_right _ (List.mem_append_right _ (List.mem_append_right _ (List.mem_append_right _ (List.mem_append_right _ (List.mem_append_right _ (List.mem_append_right _ (List.mem_append_right _ (List.mem_append_right _ (List.mem_append_right _ (List.mem_append_right _ (List.mem_append_right _ (List.mem_append_right _ (List.mem_append_right _ (List.mem_append_right _ (List.mem_append_right _ (List.mem_append_right _ (List.mem_append_right _ (List.mem_append_right _ (List.mem_append_right _ (List.mem_append_right _ (List.mem_append_left _ h)))))))))))))))))))))))))))))))))))))))))))))))
set_option maxRecDepth 20000 in
theorem mr_35 : ∀ q ∈ wsL_law_r35, q ∈ wsL_law := fun _ h => List.mem_append_left _ (List.mem_append_left _ (List.mem_append_left _ (List.mem_append_left _ (List.mem_append_left _ (List.mem_append_left _ (List.mem_append_left _ (List.mem_append_left _ (List.mem_append_left _ (List.mem_append_left _ (List.mem_append_left _ (List.mem_append_left _ (List.mem_append_left _ (List.mem_append_left _ (List.mem_append_right _ (List.mem_append_right _ (List.mem_append_right _ (List.mem_append_right _ (List.mem_append_right _ (List.mem_append_right _ (List.mem_append_right _ (List.mem_append_right _ (List.mem_append_right _ (List.mem_append_right _ (List.mem_append_right _ (List.mem_append_right _ (List.mem_append_right _ (List.mem_append_right _ (List.mem_append_right _ (List.mem_append_right _ (List.mem_append_right _ (List.mem_append_right _ (List.mem_append_right _ (List.mem_append_right _ (List.mem_append_right _ (List.mem_append_right _ (List.mem_append_right _ (List.mem_append_right _ (List.mem_append_right _ (List.mem_append_right _ (List.mem_append_right _ (List.mem_append_right _ (List.mem_append_right _ (List.mem_append_right _ (List.mem_append_right _ (List.mem_append_right _ (List.mem_append_right _ (List.mem_append_right _ (List.mem_append_left _ h))))))))))))))))))))))))))))))))))))))))))))))))
set_option maxRecDepth 20000 in
theorem mr_36 : ∀ q ∈ wsL_law_r36, q ∈ wsL_law := fun _ h => List.mem_append_left _ (List.mem_append_left _ (List.mem_append_left _ (List.mem_append_left _ (List.mem_append_left _ (List.mem_append_left _ (List.mem_append_left _ (List.mem_append_left _ (List.mem_append_left _ (List.mem_append_left _ (List.mem_append_left _ (List.mem_append_left _ (List.mem_append_left _ (List.mem_append_left _ (List.mem_append_right _ (List.mem_append_right _ (List.mem_append_right _ (List.mem_append_right _ (List.mem_append_right _ (List.mem_append_right _ (List.mem_append_right _ (List.mem_append_right _ (List.mem_append_right _ (List.mem_append_right _ (List.mem_append_right _ (List.mem_append_right _ (List.mem_append_right _ (List.mem_append_right _ (List.mem_append_right _ (List.mem_append_right _ (List.mem_append_right _ (List.mem_append_right _ (List.mem_append_right _ (List.mem_append_right _ (List.mem_append_right _ (List.mem_append_right _ (List.mem_append_right _ (List.mem_append_right _ (List.mem_append_right _ (List.mem_append_right _ (List.mem_append_right _ (List.mem_append_right _ (List.mem_append_right _ (List.mem_append_right _ (List.mem_append_right _ (List.mem_append_right _ (List.mem_append_right _ (List.mem_append_right _ (List.mem_append_right _ (List.mem_append_left _ h)))))))))))))))))))))))))))))))))))))))))))))))))
set_option maxRecDepth 20000 in
theorem mr_37 : ∀ q ∈ wsL_law_r37, q ∈ wsL_law := fun _ h => List.mem_append_left _ (List.mem_append_left _ (List.mem_append_left _ (List.mem_append_left _ (List.mem_append_left _ (List.mem_append_left _ (List.mem_append_left _ (List.mem_append_left _ (List.mem_append_left _ (List.mem_append_left _ (List.mem_append_left _ (List.mem_append_left _ (List.mem_append_left _ (List.mem_append_left _ (List.mem_append_right _ (List.mem_append_right _ (List.mem_append_right _ (List.mem_append_right _ (List.mem_append_right _ (List.mem_append_right _ (List.mem_append_right _ (List.mem_append_right _ (List.mem_append_right _ (List.mem_append_right _ (List.mem_append_right _ (List.mem_append_right _ (List.mem_append_right _ (List.mem_append_right _ (List.mem_append_right _ (List.mem_append_right _ (List.mem_append_right _ (List.mem_append_right _ (List.mem_append_right _ (List.mem_append_right _ (List.mem_append_right _ (List.mem_append_right _ (List.mem_append_right _ (List.mem_append_right _ (List.mem_append_right _ (List.mem_append_right _ (List.mem_append_right _ (List.mem_append_right _ (List.mem_append_right _ (List.mem_append_right _ (List.mem_append_right _ (List.mem_append_right _ (List.mem_append_right _ (List.mem_append_right _ (List.mem_append_right _ (List.mem_append_right _ (List.mem_append_left _ h))))))))))))))))))))))))))))))))))))))))))))))))))
set_option maxRecDepth 20000 in
theorem mr_38 : ∀ q ∈ wsL_law_r38, q ∈ wsL_law := fun _ h => List.mem_append_left _ (List.mem_append_left _ (List.mem_append_left _ (List.mem_append_left _ (List.mem_append_left _ (List.mem_append_left _ (List.mem_append_left _ (List.mem_append_left _ (List.mem_append_left _ (List.mem_append_left _ (List.mem_append_left _ (List.mem_append_left _ (List.mem_append_left _ (List.mem_append_left _ (List.mem_append_right _ (List.mem_append_right _ (List.mem_append_right _ (List.mem_append_right _ (List.mem_append_right _ (List.mem_append_right _ (List.mem_append_right _ (List.mem_append_right _ (List.mem_append_right _ (List.mem_append_right _ (List.mem_append_right _ (List.mem_append_right _ (List.mem_append_right _ (List.mem_append_right _ (List.mem_append_right _ (List.mem_append_right _ (List.mem_append_right _ (List.mem_append_right _ (List.mem_append_right _ (List.mem_append_right _ (List.mem_append_right _ (List.mem_append_right _ (List.mem_append_right _ (List.mem_append_right _ (List.mem_append_right _ (List.mem_append_right _ (List.mem_append_right _ (List.mem_append_right _ (List.mem_append_right _ (List.mem_append_right _ (List.mem_append_right _ (List.mem_append_right _ (List.mem_append_right _ (List.mem_append_right _ (List.mem_append_right _ (List.mem_append_right _ (List.mem_append_right _ (List.mem_append_left _ h)))))))))))))))))))))))))))))))))))))))))))))))))))
set_option maxRecDepth 20000 in
theorem mr_39 : ∀ q ∈ wsL_law_r39, q ∈ wsL_law := fun _ h => List.mem_append_left _ (List.mem_append_left _ (List.mem_append_left _ (List.mem_append_left _ (List.mem_append_left _ (List.mem_append_left _ (List.mem_append_left _ (List.mem_append_left _ (List.mem_append_left _ (List.mem_append_left _ (List.mem_append_left _ (List.mem_append_left _ (List.mem_append_left _ (List.mem_append_left _ (List.mem_append_right _ (List.mem_append_right _ (List.mem_append_right _ (List.mem_append_right _ (List.mem_append_right _ (List.mem_append_right _ (List.mem_append_right _ (List.mem_append_right _ (List.mem_append_right _ (List.mem_append_right _ (List.mem_append_right _ (List.mem_append_right _ (List.mem_append_right _ (List.mem_append_right _ (List.mem_append_right _ (List.mem_append_right _ (List.mem_append_right _ (List.mem_append_right _ (List.mem_append_right _ (List.mem_append_right _ (List.mem_append_right _ (List.mem_append_right _ (List.mem_append_right _ (List.mem_append_right _ (List.mem_append_right _ (List.mem_append_right _ (List.mem_append_right _ (List.mem_append_right _ (List.mem_append_right _ (List.mem_append_right _ (List.mem_append_right _ (List.mem_append_right _ (List.mem_append_right _ (List.mem_append_right _ (List.mem_append_right _ (List.mem_append_right _ (List.mem_append_right _ (List.mem_append_right _ (List.mem_append_left _ h))))))))))))))))))))))))))))))))))))))))))))))))))))
set_option maxRecDepth 20000 in
theorem mr_40 : ∀ q ∈ wsL_law_r40, q ∈ wsL_law := fun _ h => List.mem_append_left _ (List.mem_append_left _ (List.mem_append_left _ (List.mem_append_left _ (List.mem_append_left _ (List.mem_append_left _ (List.mem_append_left _ (List.mem_append_left _ (List.mem_append_left _ (List.mem_append_left _ (List.mem_append_left _ (List.mem_append_left _ (List.mem_append_left _ (List.mem_append_left _ (List.mem_append_right _ (List.mem_append_right _ (List.mem_append_right _ (List.mem_append_right _ (List.mem_append_right _ (List.mem_append_right _ (List.mem_append_right _ (List.mem_append_right _ (List.mem_append_right _ (List.mem_append_right _ (List.mem_append_right _ (List.mem_append_right _ (List.mem_append_right _ (List.mem_append_right _ (List.mem_append_right _ (List.mem_append_right _ (List.mem_append_right _ (List.mem_append_right _ (List.mem_append_right _ (List.mem_append_right _ (List.mem_append_right _ (List.mem_append_right _ (List.mem_append_right _ (List.mem_append_right _ (List.mem_append_right _ (List.mem_append_right _ (List.mem_append_right _ (List.mem_append_right _ (List.mem_append_right _ (List.mem_append_right _ (List.mem_append_right _ (List.mem_append_right _ (List.mem_append_right _ (List.mem_append_right _ (List.mem_append_right _ (List.mem_append_right _ (List.mem_append_right _ (List.mem_append_right _ (List.mem_append_right _ (List.mem_append_left _ h)))))))))))))))))))))))))))))))))))))))))))))))))))))
set_option maxRecDepth 20000 in
theorem mr_41 : ∀ q ∈ wsL_law_r41, q ∈ wsL_law := fun _ h => List.mem_append_left _ (List.mem_append_left _ (List.mem_append_left _ (List.mem_append_left _ (List.mem_append_left _ (List.mem_append_left _ (List.mem_append_left _ (List.mem_append_left _ (List.mem_append_left _ (List.mem_append_left _ (List.mem_append_left _ (List.mem_append_left _ (List.mem_append_left _ (List.mem_append_left _ (List.mem_append_right _ (List.mem_append_right _ (List.mem_append_right _ (List.mem_append_right _ (List.mem_append_right _ (List.mem_append_right _ (List.mem_append_right _ (List.mem_append_right _ (List.mem_append_right _ (List.mem_append_right _ (List.mem_append_right _ (List.mem_append_right _ (List.mem_append_right _ (List.mem_append_right _ (List.mem_append_right _ (List.mem_append_right _ (List.mem_append_right _ (List.mem_append_right _ (List.mem_append_right _ (List.mem_append_right _ (List.mem_append_right _ (List.mem_append_right _ (List.mem_append_right _ (List.mem_append_right _ (List.mem_append_right _ (List.mem_append_right _ (List.mem_append_right _ (List.mem_append_right _ (List.mem_append_right _ (List.mem_append_right _ (List.mem_append_right _ (List.mem_append_right _ (List.mem_append_right _ (List.mem_append_right _ (List.mem_append_right _ (List.mem_append_right _ (List.mem_append_right _ (List.mem_append_right _ (List.mem_append_right _ (List.mem_append_right _ (List.mem_append_left _ h))))))))))))))))))))))))))))))))))))))))))))))))))))))
set_option maxRecDepth 20000 in
theorem mr_42 : ∀ q ∈ wsL_law_r42, q ∈ wsL_law := fun _ h => List.mem_append_left _ (List.mem_append_left _ (List.mem_append_left _ (List.mem_append_left _ (List.mem_append_left _ (List.mem_append_left _ (List.mem_append_left _ (List.mem_append_left _ (List.mem_append_left _ (List.mem_append_left _ (List.mem_append_left _ (List.mem_append_left _ (List.mem_append_left _ (List.mem_append_left _ (List.mem_append_right _ (List.mem_append_right _ (List.mem_append_right _ (List.mem_append_right _ (List.mem_append_right _ (List.mem_append_right _ (List.mem_append_right _ (List.mem_append_right _ (List.mem_append_right _ (List.mem_append_right _ (List.mem_append_right _ (List.mem_append_right _ (List.mem_append_right _ (List.mem_append_right _ (List.mem_append_right _ (List.mem_append_right _ (List.mem_append_right _ (List.mem_append_right _ (List.mem_append_right _ (List.mem_append_right _ (List.mem_append_right _ (List.mem_append_right _ (List.mem_append_right _ (List.mem_append_right _ (List.mem_append_right _ (List.mem_append_right _ (List.mem_append_right _ (List.mem_append_right _ (List.mem_append_right _ (List.mem_append_right _ (List.mem_append_right _ (List.mem_append_right _ (List.mem_append_right _ (List.mem_append_right _ (List.mem_append_right _ (List.mem_append_right _ (List.mem_append_right _ (List.mem_append_right _ (List.mem_append_right _ (List.mem_append_right _ (List.mem_append_right _ (List.mem_append_left _ h)))))))))))))))))))))))))))))))))))))))))))))))))))))))
set_option maxRecDepth 20000 in
theorem mr_43 : ∀ q ∈ wsL_law_r43, q ∈ wsL_law := fun _ h => List.mem_append_left _ (List.mem_append_left _ (List.mem_append_left _ (List.mem_append_left _ (List.mem_append_left _ (List.mem_append_left _ (List.mem_append_left _ (List.mem_append_left _ (List.mem_append_left _ (List.mem_append_left _ (List.mem_append_left _ (List.mem_append_left _ (List.mem_append_left _ (List.mem_append_left _ (List.mem_append_right _ (List.mem_append_right _ (List.mem_append_right _ (List.mem_append_right _ (List.mem_append_right _ (List.mem_append_right _ (List.mem_append_right _ (List.mem_append_right _ (List.mem_append_right _ (List.mem_append_right _ (List.mem_append_right _ (List.mem_append_right _ (List.mem_append_right _ (List.mem_append_right _ (List.mem_append_right _ (List.mem_append_right _ (List.mem_append_right _ (List.mem_append_right _ (List.mem_append_right _ (List.mem_append_right _ (List.mem_append_right _ (List.mem_append_right _ (List.mem_append_right _ (List.mem_append_right _ (List.mem_append_right _ (List.mem_append_right _ (List.mem_append_right _ (List.mem_append_right _ (List.mem_append_right _ (List.mem_append_right _ (List.mem_append_right _ (List.mem_append_right _ (List.mem_append_right _ (List.mem_append_right _ (List.mem_append_right _ (List.mem_append_right _ (List.mem_append_right _ (List.mem_append_right _ (List.mem_append_right _ (List.mem_append_right _ (List.mem_append_right _ (List.mem_append_right _ (List.mem_append_left _ h))))))))))))))))))))))))))))))))))))))))))))))))))))))))
set_option maxRecDepth 20000 in
theorem mr_44 : ∀ q ∈ wsL_law_r44, q ∈ wsL_law := fun _ h => List.mem_append_left _ (List.mem_append_left _ (List.mem_append_left _ (List.mem_append_left _ (List.mem_append_left _ (List.mem_append_left _ (List.mem_append_left _ (List.mem_append_left _ (List.mem_append_left _ (List.mem_append_left _ (List.mem_append_left _ (List.mem_append_left _ (List.mem_append_left _ (List.mem_append_left _ (List.mem_append_right _ (List.mem_append_right _ (List.mem_append_right _ (List.mem_append_right _ (List.mem_append_right _ (List.mem_append_right _ (List.mem_append_right _ (List.mem_append_right _ (List.mem_append_right _ (List.mem_append_right _ (List.mem_append_right _ (List.mem_append_right _ (List.mem_append_right _ (List.mem_append_right _ (List.mem_append_right _ (List.mem_append_right _ (List.mem_append_right _ (List.mem_append_right _ (List.mem_append_right _ (List.mem_append_right _ (List.mem_append_right _ (List.mem_append_right _ (List.mem_append_right _ (List.mem_append_right _ (List.mem_append_right _ (List.mem_append_right _ (List.mem_append_right _ (List.mem_append_right _ (List.mem_append_right _ (List.mem_append_right _ (List.mem_append_right _ (List.mem_append_right _ (List.mem_append_right _ (List.mem_append_right _ (List.mem_append_right _ (List.mem_append_right _ (List.mem_append_right _ (List.mem_append_right _ (List.mem_append_right _ (List.mem_append_right _ (List.mem_append_right _ (List.mem_append_right _ (List.mem_append_right _ (List.mem_append_left _ h)))))))))))))))))))))))))))))))))))))))))))))))))))))))))
set_option maxRecDepth 20000 in
theorem mr_45 : ∀ q ∈ wsL_law_r45, q ∈ wsL_law := fun _ h => List.mem_append_left _ (List.mem_append_left _ (List.mem_append_left _ (List.mem_append_left _ (List.mem_append_left _ (List.mem_append_left _ (List.mem_append_left _ (List.mem_append_left _ (List.mem_append_left _ (List.mem_append_left _ (List.mem_append_left _ (List.mem_append_left _ (List.mem_append_left _ (List.mem_append_left _ (List.mem_append_right _ (List.mem_append_right _ (List.mem_append_right _ (List.mem_append_right _ (List.mem_append_right _ (List.mem_append_right _ (List.mem_append_right _ (List.mem_append_right _ (List.mem_append_right _ (List.mem_append_right _ (List.mem_append_right _ (List.mem_append_right _ (List.mem_append_right _ (List.mem_append_right _ (List.mem_append_right _ (List.mem_append_right _ (List.mem_append_right _ (List.mem_append_right _ (List.mem_append_right _ (List.mem_append_right _ (List.mem_append_right _ (List.mem_append_right _ (List.mem_append_right _ (List.mem_append_right _ (List.mem_append_right _ (List.mem_append_right _ (List.mem_append_right _ (List.mem_append_right _ (List.mem_append_right _ (List.mem_append_right _ (List.mem_append_right _ (List.mem_append_right _ (List.mem_append_right _ (List.mem_append_right _ (List.mem_append_right _ (List.mem_append_right _ (List.mem_append_right _ (List.mem_append_right _ (List.mem_append_right _ (List.mem_append_right _ (List.mem_append_right _ (List.mem_append_right _ (List.mem_append_right _ (List.mem_append_right _ (List.mem_append_left _ h))))))))))))))))))))))))))))))))))))))))))))))))))))))))))
set_option maxRecDepth 20000 in
theorem mr_46 : ∀ q ∈ wsL_law_r46, q ∈ wsL_law := fun _ h => List.mem_append_left _ (List.mem_append_left _ (List.mem_append_left _ (List.mem_append_left _ (List.mem_append_left _ (List.mem_append_left _ (List.mem_append_left _ (List.mem_append_left _ (List.mem_append_left _ (List.mem_append_left _ (List.mem_append_left _ (List.mem_append_left _ (List.mem_append_left _ (List.mem_append_left _ (List.mem_append_right _ (List.mem_append_right _ (List.mem_append_right _ (List.mem_append_right _ (List.mem_append_right _ (List.mem_append_right _ (List.mem_append_right _ (List.mem_append_right _ (List.mem_append_right _ (List.mem_append_right _ (List.mem_append_right _ (List.mem_append_right _ (List.mem_append_right _ (List.mem_append_right _ (List.mem_append_right _ (List.mem_append_right _ (List.mem_append_right _ (List.mem_append_right _ (List.mem_append_right _ (List.mem_append_right _ (List.mem_append_right _ (List.mem_append_right _ (List.mem_append_right _ (List.mem_append_right _ (List.mem_append_right _ (List.mem_append_right _ (List.mem_append_right _ (List.mem_append_right _ (List.mem_append_right _ (List.mem_append_right _ (List.mem_append_right _ (List.mem_append_right _ (List.mem_append_right _ (List.mem_append_right _ (List.mem_append_right _ (List.mem_append_right _ (List.mem_append_right _ (List.mem_append_right _ (List.mem_append_right _ (List.mem_append_right _ (List.mem_append_right _ (List.mem_append_right _ (List.mem_append_right _ (List.mem_append_right _ (List.mem_append_right _ (List.mem_append_left _ h)))))))))))))))))))))))))))))))))))))))))))))))))))))))))))
set_option maxRecDepth 20000 in
theorem mr_47 : ∀ q ∈ wsL_law_r47, q ∈ wsL_law := fun _ h => List.mem_append_left _ (List.mem_append_left _ (List.mem_append_left _ (List.mem_append_left _ (List.mem_append_left _ (List.mem_append_left _ (List.mem_append_left _ (List.mem_append_left _ (List.mem_append_left _ (List.mem_append_left _ (List.mem_append_left _ (List.mem_append_left _ (List.mem_append_left _ (List.mem_append_left _ (List.mem_append_right _ (List.mem_append_right _ (List.mem_append_right _ (List.mem_append_right _ (List.mem_append_right _ (List.mem_append_right _ (List.mem_append_right _ (List.mem_append_right _ (List.mem_append_right _ (List.mem_append_right _ (List.mem_append_right _ (List.mem_append_right _ (List.mem_append_right _ (List.mem_append_right _ (List.mem_append_right _ (List.mem_append_right _ (List.mem_append_right _ (List.mem_append_right _ (List.mem_append_right _ (List.mem_append_right _ (List.mem_append_right _ (List.mem_append_right _ (List.mem_append_right _ (List.mem_append_right _ (List.mem_append_right _ (List.mem_append_right _ (List.mem_append_right _ (List.mem_append_right _ (List.mem_append_right _ (List.mem_append_right _ (List.mem_append_right _ (List.mem_append_right _ (List.mem_append_right _ (List.mem_append_right _ (List.mem_append_right _ (List.mem_append_right _ (List.mem_append_right _ (List.mem_append_right _ (List.mem_append_right _ (List.mem_append_right _ (List.mem_append_right _ (List.mem_append_right _ (List.mem_append_right _ (List.mem_append_right _ (List.mem_append_right _ (List.mem_append_right _ (List.mem_append_left _ h))))))))))))))))))))))))))))))))))))))))))))))))))))))))))))
set_option maxRecDepth 20000 in
theorem mr_48 : ∀ q ∈ wsL_law_r48, q ∈ wsL_law := fun _ h => List.mem_append_left _ (List.mem_append_left _ (List.mem_append_left _ (List.mem_append_left _ (List.mem_append_left _ (List.mem_append_left _ (List.mem_append_left _ (List.mem_append_left _ (List.mem_append_left _ (List.mem_append_left _ (List.mem_append_left _ (List.mem_append_left _ (List.mem_append_left _ (List.mem_append_left _ (List.mem_append_right _ (List.mem_append_right _ (List.mem_append_right _ (List.mem_append_right _ (List.mem_append_right _ (List.mem_append_right _ (List.mem_append_right _ (List.mem_append_right _ (List.mem_append_right _ (List.mem_append_right _ (List.mem_append_right _ (List.mem_append_right _ (List.mem_append_right _ (List.mem_append_right _ (List.mem_append_right _ (List.mem_append_right _ (List.mem_append_right _ (List.mem_append_right _ (List.mem_append_right _ (List.mem_append_right _ (List.mem_append_right _ (List.mem_append_right _ (List.mem_append_right _ (List.mem_append_right _ (List.mem_append_right _ (List.mem_append_right _ (List.mem_append_right _ (List.mem_append_right _ (List.mem_append_right _ (List.mem_append_right _ (List.mem_append_right _ (List.mem_append_right _ (List.mem_append_right _ (List.mem_append_right _ (List.mem_append_right _ (List.mem_append_right _ (List.mem_append_right _ (List.mem_append_right _ (List.mem_append_right _ (List.mem_append_right _ (List.mem_append_right _ (List.mem_append_right _ (List.mem_append_right _ (List.mem_append_right _ (List.mem_append_right _ (List.mem_append_right _ (List.mem_append_right _ (List.mem_append_left _ h)))))))))))))))))))))))))))))))))))))))))))))))))))))))))))))
set_option maxRecDepth 20000 in
theorem mr_49 : ∀ q ∈ wsL_law_r49, q ∈ wsL_law := fun _ h => List.mem_append_left _ (List.mem_append_left _ (List.mem_append_left _ (List.mem_append_left _ (List.mem_append_left _ (List.mem_append_left _ (List.mem_append_left _ (List.mem_append_left _ (List.mem_append_left _ (List.mem_append_left _ (List.mem_append_left _ (List.mem_append_left _ (List.mem_append_left _ (List.mem_append_left _ (List.mem_append_right _ (List.mem_append_right _ (List.mem_append_right _ (List.mem_append_right _ (List.mem_append_right _ (List.mem_append_right _ (List.mem_append_right _ (List.mem_append_right _ (List.mem_append_right _ (List.mem_append_right _ (List.mem_append_right _ (List.mem_append_right _ (List.mem_append_right _ (List.mem_append_right _ (List.mem_append_right _ (List.mem_append_right _ (List.mem_append_right _ (List.mem_append_right _ (List.mem_append_right _ (List.mem_append_right _ (List.mem_append_right _ (List.mem_append_right _ (List.mem_append_right _ (List.mem_append_right _ (List.mem_append_right _ (List.mem_append_right _ (List.mem_append_right _ (List.mem_append_right _ (List.mem_append_right _ (List.mem_append_right _ (List.mem_append_right _ (List.mem_append_right _ (List.mem_append_right _ (List.mem_append_right _ (List.mem_append_right _ (List.mem_append_right _ (List.mem_append_right _ (List.mem_append_right _ (List.mem_append_right _ (List.mem_append_right _ (List.mem_append_right _ (List.mem_append_right _ (List.mem_append_right _ (List.mem_append_right _ (List.mem_append_right _ (List.mem_append_right _ (List.mem_append_right _ (List.mem_append_right _ (List.mem_append_left _ h))))))))))))))))))))))))))))))))))))))))))))))))))))))))))))))
set_option maxRecDepth 20000 in
theorem mr_50 : ∀ q ∈ wsL_law_r50, q ∈ wsL_law := fun _ h => List.mem_append_left _ (List.mem_append_left _ (List.mem_append_left _ (List.mem_append_left _ (List.mem_append_left _ (List.mem_append_left _ (List.mem_append_left _ (List.mem_append_left _ (List.mem_append_left _ (List.mem_append_left _ (List.mem_append_left _ (List.mem_append_left _ (List.mem_append_left _ (List.mem_append_left _ (List.mem_append_right _ (List.mem_append_right _ (List.mem_append_right _ (List.mem_append_right _ (List.mem_append_right _ (List.mem_append_right _ (List.mem_append_right _ (List.mem_append_right _ (List.mem_append_right _ (List.mem_append_right _ (List.mem_append_right _ (List.mem_append_right _ (List.mem_append_right _ (List.mem_append_right _ (List.mem_append_right _ (List.mem_append_right _ (List.mem_append_right _ (List.mem_append_right _ (List.mem_append_right _ (List.mem_append_right _ (List.mem_append_right _ (List.mem_append_right _ (List.mem_append_right _ (List.mem_append_right _ (List.mem_append_right _ (List.mem_append_right _ (List.mem_append_right _ (List.mem_append_right _ (List.mem_append_right _ (List.mem_append_right _ (List.mem_append_right _ (List.mem_append_right _ (List.mem_append_right _ (List.mem_append_right _ (List.mem_append_right _ (List.mem_append_right _ (List.mem_append_right _ (List.mem_append_right _ (List.mem_append_right _ (List.mem_append_right _ (List.mem_append_right _ (List.mem_append_right _ (List.mem_append_right _ (List.mem_append_right _ (List.mem_append_right _ (List.mem_append_right _ (List.mem_append_right _ (List.mem_append_right _ (List.mem_append_right _ (List.mem_append_left _ h)))))))))))))))))))))))))))))))))))))))))))))))))))))))))))))))
set_option maxRecDepth 20000 in
theorem mr_51 : ∀ q ∈ wsL_law_r51, q ∈ wsL_law := fun _ h => List.mem_append_left _ (List.mem_append_left _ (List.mem_append_left _ (List.mem_append_left _ (List.mem_append_left _ (List.mem_append_left _ (List.mem_append_left _ (List.mem_append_left _ (List.mem_append_left _ (List.mem_append_left _ (List.mem_append_left _ (List.mem_append_left _ (List.mem_append_left _ (List.mem_append_left _ (List.mem_append_right _ (List.mem_append_right _ (List.mem_append_right _ (List.mem_append_right _ (List.mem_append_right _ (List.mem_append_right _ (List.mem_append_right _ (List.mem_append_right _ (List.mem_append_right _ (List.mem_append_right _ (List.mem_append_right _ (List.mem_append_right _ (List.mem_append_right _ (List.mem_append_right _ (List.mem_append_right _ (List.mem_append_right _ (List.mem_append_right _ (List.mem_append_right _ (List.mem_append_right _ (List.mem_append_right _ (List.mem_append_right _ (List.mem_append_right _ (List.mem_append_right _ (List.mem_append_right _ (List.mem_append_right _ (List.mem_append_right _ (List.mem_append_right _ (List.mem_append_right _ (List.mem_append_right _ (List.mem_append_right _ (List.mem_append_right _ (List.mem_append_right _ (List.mem_append_right _ (List.mem_append_right _ (List.mem_append_right _ (List.mem_append_right _ (List.mem_append_right _ (List.mem_append_right _ (List.mem_append_right _ (List.mem_append_right _ (List.mem_append_right _ (List.mem_append_right _ (List.mem_append_right _ (List.mem_append_right _ (List.mem_append_right _ (List.mem_append_right _ (List.mem_append_right _ (List.mem_append_right _ (List.mem_append_right _ (List.mem_append_right _ (List.mem_append_left _ h))))))))))))))))))))))))))))))))))))))))))))))))))))))))))))))))
set_option maxRecDepth 20000 in
theorem mr_52 : ∀ q ∈ wsL_law_r52, q ∈ wsL_law := fun _ h => List.mem_append_left _ (List.mem_append_left _ (List.mem_append_left _ (List.mem_append_left _ (List.mem_append_left _ (List.mem_append_left _ (List.mem_append_left _ (List.mem_append_left _ (List.mem_append_left _ (List.mem_append_left _ (List.mem_append_left _ (List.mem_append_left _ (List.mem_append_left _ (List.mem_append_left _ (List.mem_append_right _ (List.mem_append_right _ (List.mem_append_right _ (List.mem_append_right _ (List.mem_append_right _ (List.mem_append_right _ (List.mem_append_right _ (List.mem_append_right _ (List.mem_append_right _ (List.mem_append_right _ (List.mem_append_right _ (List.mem_append_right _ (List.mem_append_right _ (List.mem_append_right _ (List.mem_append_right _ (List.mem_append_right _ (List.mem_append_right _ (List.mem_append_right _ (List.mem_append_right _ (List.mem_append_right _ (List.mem_append_right _ (List.mem_append_right _ (List.mem_append_right _ (List.mem_append_right _ (List.mem_append_right _ (List.mem_append_right _ (List.mem_append_right _ (List.mem_append_right _ (List.mem_append_right _ (List.mem_append_right _ (List.mem_append_right _ (List.mem_append_right _ (List.mem_append_right _ (List.mem_append_right _ (List.mem_append_right _ (List.mem_append_right _ (List.mem_append_right _ (List.mem_append_right _ (List.mem_append_right _ (List.mem_append_right _ (List.mem_append_right _ (List.mem_append_right _ (List.mem_append_right _ (List.mem_append_right _ (List.mem_append_right _ (List.mem_append_right _ (List.mem_append_right _ (List.mem_append_right _ (List.mem_append_right _ (List.mem_append_right _ (List.mem_append_right _ (List.mem_append_left _ h)))))))))))))))))))))))))))))))))))))))))))))))))))))))))))))))))
set_option maxRecDepth 20000 in
theorem mr_53 : ∀ q ∈ wsL_law_r53, q ∈ wsL_law := fun _ h => List.mem_append_left _ (List.mem_append_left _ (List.mem_append_left _ (List.mem_append_left _ (List.mem_append_left _ (List.mem_append_left _ (List.mem_append_left _ (List.mem_append_left _ (List.mem_append_left _ (List.mem_append_left _ (List.mem_append_left _ (List.mem_append_left _ (List.mem_append_left _ (List.mem_append_left _ (List.mem_append_right _ (List.mem_append_right _ (List.mem_append_right _ (List.mem_append_right _ (List.mem_append_right _ (List.mem_append_right _ (List.mem_append_right _ (List.mem_append_right _ (List.mem_append_right _ (List.mem_append_right _ (List.mem_append_right _ (List.mem_append_right _ (List.mem_append_right _ (List.mem_append_right _ (List.mem_append_right _ (List.mem_append_right _ (List.mem_append_right _ (List.mem_append_right _ (List.mem_append_right _ (List.mem_append_right _ (List.mem_append_right _ (List.mem_append_right _ (List.mem_append_right _ (List.mem_append_right _ (List.mem_append_right _ (List.mem_append_right _ (List.mem_append_right _ (List.mem_append_right _ (List.mem_append_right _ (List.mem_append_right _ (List.mem_append_right _ (List.mem_append_right _ (List.mem_append_right _ (List.mem_append_right _ (List.mem_append_right _ (List.mem_append_right _ (List.mem_append_right _ (List.mem_append_right _ (List.mem_append_right _ (List.mem_append_right _ (List.mem_append_right _ (List.mem_append_right _ (List.mem_append_right _ (List.mem_append_right _ (List.mem_append_right _ (List.mem_append_right _ (List.mem_append_right _ (List.mem_append_right _ (List.mem_append_right _ (List.mem_append_right _ (List.mem_append_right _ (List.mem_append_right _ (List.mem_append_left _ h))))))))))))))))))))))))))))))))))))))))))))))))))))))))))))))))))
set_option maxRecDepth 20000 in
theorem mr_54 : ∀ q ∈ wsL_law_r54, q ∈ wsL_law := fun _ h => List.mem_append_left _ (List.mem_append_left _ (List.mem_append_left _ (List.mem_append_left _ (List.mem_append_left _ (List.mem_append_left _ (List.mem_append_left _ (List.mem_append_left _ (List.mem_append_left _ (List.mem_append_left _ (List.mem_append_left _ (List.mem_append_left _ (List.mem_append_left _ (List.mem_append_left _ (List.mem_append_right _ (List.mem_append_right _ (List.mem_append_right _ (List.mem_append_right _ (List.mem_append_right _ (List.mem_append_right _ (List.mem_append_right _ (List.mem_append_right _ (List.mem_append_right _ (List.mem_append_right _ (List.mem_append_right _ (List.mem_append_right _ (List.mem_append_right _ (List.mem_append_right _ (List.mem_append_right _ (List.mem_append_right _ (List.mem_append_right _ (List.mem_append_right _ (List.mem_append_right _ (List.mem_append_right _ (List.mem_append_right _ (List.mem_append_right _ (List.mem_append_right _ (List.mem_append_right _ (List.mem_append_right _ (List.mem_append_right _ (List.mem_append_right _ (List.mem_append_right _ (List.mem_append_right _ (List.mem_append_right _ (List.mem_append_right _ (List.mem_append_right _ (List.mem_append_right _ (List.mem_append_right _ (List.mem_append_right _ (List.mem_append_right _ (List.mem_append_right _ (List.mem_append_right _ (List.mem_append_right _ (List.mem_append_right _ (List.mem_append_right _ (List.mem_append_right _ (List.mem_append_right _ (List.mem_append_right _ (List.mem_append_right _ (List.mem_append_right _ (List.mem_append_right _ (List.mem_append_right _ (List.mem_append_right _ (List.mem_append_right _ (List.mem_append_right _ (List.mem_append_right _ (List.mem_append_right _ (List.mem_append_left _ h)))))))))))))))))))))))))))))))))))))))))))))))))))))))))))))))))))
set_option maxRecDepth 20000 in
theorem mr_55 : ∀ q ∈ wsL_law_r55, q ∈ wsL_law := fun _ h => List.mem_append_left _ (List.mem_append_left _ (List.mem_append_left _ (List.mem_append_left _ (List.mem_append_left _ (List.mem_append_left _ (List.mem_append_left _ (List.mem_append_left _ (List.mem_append_left _ (List.mem_append_left _ (List.mem_append_left _ (List.mem_append_left _ (List.mem_append_left _ (List.mem_append_left _ (List.mem_append_right _ (List.mem_append_right _ (List.mem_append_right _ (List.mem_append_right _ (List.mem_append_right _ (List.mem_append_right _ (List.mem_append_right _ (List.mem_append_right _ (List.mem_append_right _ (List.mem_append_right _ (List.mem_append_right _ (List.mem_append_right _ (List.mem_append_right _ (List.mem_append_right _ (List.mem_append_right _ (List.mem_append_right _ (List.mem_append_right _ (List.mem_append_right _ (List.mem_append_right _ (List.mem_append_right _ (List.mem_append_right _ (List.mem_append_right _ (List.mem_append_right _ (List.mem_append_right _ (List.mem_append_right _ (List.mem_append_right _ (List.mem_append_right _ (List.mem_append_right _ (List.mem_append_right _ (List.mem_append_right _ (List.mem_append_right _ (List.mem_append_right _ (List.mem_append_right _ (List.mem_append_right _ (List.mem_append_right _ (List.mem_append_right _ (List.mem_append_right _ (List.mem_append_right _ (List.mem_append_right _ (List.mem_append_right _ (List.mem_append_right _ (List.mem_append_right _ (List.mem_append_right _ (List.mem_append_right _ (List.mem_append_right _ (List.mem_append_right _ (List.mem_append_right _ (List.mem_append_right _ (List.mem_append_right _ (List.mem_append_right _ (List.mem_append_right _ (List.mem_append_right _ (List.mem_append_right _ (List.mem_append_right _ (List.mem_append_left _ h))))))))))))))))))))))))))))))))))))))))))))))))))))))))))))))))))))
set_option maxRecDepth 20000 in
theorem mr_56 : ∀ q ∈ wsL_law_r56, q ∈ wsL_law := fun _ h => List.mem_append_left _ (List.mem_append_left _ (List.mem_append_left _ (List.mem_append_left _ (List.mem_append_left _ (List.mem_append_left _ (List.mem_append_left _ (List.mem_append_left _ (List.mem_append_left _ (List.mem_append_left _ (List.mem_append_left _ (List.mem_append_left _ (List.mem_append_left _ (List.mem_append_left _ (List.mem_append_right _ (List.mem_append_right _ (List.mem_append_right _ (List.mem_append_right _ (List.mem_append_right _ (List.mem_append_right _ (List.mem_append_right _ (List.mem_append_right _ (List.mem_append_right _ (List.mem_append_right _ (List.mem_append_right _ (List.mem_append_right _ (List.mem_append_right _ (List.mem_append_right _ (List.mem_append_right _ (List.mem_append_right _ (List.mem_append_right _ (List.mem_append_right _ (List.mem_append_right _ (List.mem_append_right _ (List.mem_append_right _ (List.mem_append_right _ (List.mem_append_right _ (List.mem_append_right _ (List.mem_append_right _ (List.mem_append_right _ (List.mem_append_right _ (List.mem_append_right _ (List.mem_append_right _ (List.mem_append_right _ (List.mem_append_right _ (List.mem_append_right _ (List.mem_append_right _ (List.mem_append_right _ (List.mem_append_right _ (List.mem_append_right _ (List.mem_append_right _ (List.mem_append_right _ (List.mem_append_right _ (List.mem_append_right _ (List.mem_append_right _ (List.mem_append_right _ (List.mem_append_right _ (List.mem_append_right _ (List.mem_append_right _ (List.mem_append_right _ (List.mem_append_right _ (List.mem_append_right _ (List.mem_append_right _ (List.mem_append_right _ (List.mem_append_right _ (List.mem_append_right _ (List.mem_append_right _ (List.mem_append_right _ (List.mem_append_right _ (List.mem_append_left _ h)))))))))))))))))))))))))))))))))))))))))))))))))))))))))))))))))))))
set_option maxRecDepth 20000 in
theorem mr_57 : ∀ q ∈ wsL_law_r57, q ∈ wsL_law := fun _ h => List.mem_append_left _ (List.mem_append_left _ (List.mem_append_left _ (List.mem_append_left _ (List.mem_append_left _ (List.mem_append_left _ (List.mem_append_left _ (List.mem_append_left _ (List.mem_append_left _ (List.mem_append_left _ (List.mem_append_left _ (List.mem_append_left _ (List.mem_append_left _ (List.mem_append_left _ (List.mem_append_right _ (List.mem_append_right _ (List.mem_append_right _ (List.mem_append_right _ (List.mem_append_right _ (List.mem_append_right _ (List.mem_append_right _ (List.mem_append_right _ (List.mem_append_right _ (List.mem_append_right _ (List.mem_append_right _ (List.mem_append_right _ (List.mem_append_right _ (List.mem_append_right _ (List.mem_append_right _ (List.mem_append_right _ (List.mem_append_right _ (List.mem_append_right _ (List.mem_append_right _ (List.mem_append_right _ (List.mem_append_right _ (List.mem_append_right _ (List.mem_append_right _ (List.mem_append_right _ (List.mem_append_right _ (List.mem_append_right _ (List.mem_append_right _ (List.mem_append_right _ (List.mem_append_right _ (List.mem_append_right _ (List.mem_append_right _ (List.mem_append_right _ (List.mem_append_right _ (List.mem_append_right _ (List.mem_append_right _ (List.mem_append_right _ (List.mem_append_right _ (List.mem_append_right _ (List.mem_append_right _ (List.mem_append_right _ (List.mem_append_right _ (List.mem_append_right _ (List.mem_append_right _ (List.mem_append_right _ (List.mem_append_right _ (List.mem_append_right _ (List.mem_append_right _ (List.mem_append_right _ (List.mem_append_right _ (List.mem_append_right _ (List.mem_append_right _ (List.mem_append_right _ (List.mem_append_right _ (List.mem_append_right _ (List.mem_append_right _ (List.mem_append_right _ (List.mem_append_left _ h))))))))))))))))))))))))))))))))))))))))))))))))))))))))))))))))))))))
set_option maxRecDepth 20000 in
theorem mr_58 : ∀ q ∈ wsL_law_r58, q ∈ wsL_law := fun _ h => List.mem_append_left _ (List.mem_append_left _ (List.mem_append_left _ (List.mem_append_left _ (List.mem_append_left _ (List.mem_append_left _ (List.mem_append_left _ (List.mem_append_left _ (List.mem_append_left _ (List.mem_append_left _ (List.mem_append_left _ (List.mem_append_left _ (List.mem_append_left _ (List.mem_append_left _ (List.mem_append_right _ (List.mem_append_right _ (List.mem_append_right _ (List.mem_append_right _ (List.mem_append_right _ (List.mem_append_right _ (List.mem_append_right _ (List.mem_append_right _ (List.mem_append_right _ (List.mem_append_right _ (List.mem_append_right _ (List.mem_append_right _ (List.mem_append_right _ (List.mem_append_right _ (List.mem_append_right _ (List.mem_append_right _ (List.mem_append_right _ (List.mem_append_right _ (List.mem_append_right _ (List.mem_append_right _ (List.mem_append_right _ (List.mem_append_right _ (List.mem_append_right _ (List.mem_append_right _ (List.mem_append_right _ (List.mem_append_right _ (List.mem_append_right _ (List.mem_append_right _ (List.mem_append_right _ (List.mem_append_right _ (List.mem_append_right _ (List.mem_append_right _ (List.mem_append_right _ (List.mem_append_right _ (List.mem_append_right _ (List.mem_append_right _ (List.mem_append_right _ (List.mem_append_right _ (List.mem_append_right _ (List.mem_append_right _ (List.mem_append_right _ (List.mem_append_right _ (List.mem_append_right _ (List.mem_append_right _ (List.mem_append_right _ (List.mem_append_right _ (List.mem_append_right _ (List.mem_append_right _ (List.mem_append_right _ (List.mem_append_right _ (List.mem_append_right _ (List.mem_append_right _ (List.mem_append_right _ (List.mem_append_right _ (List.mem_append_right _ (List.mem_append_right _ (List.mem_append_right _ (List.mem_append_left _ h)))))))))))))))))))))))))))))))))))))))))))))))))))))))))))))))))))))))
set_option maxRecDepth 20000 in
theorem mr_59 : ∀ q ∈ wsL_law_r59, q ∈ wsL_law := fun _ h => List.mem_append_left _ (List.mem_append_left _ (List.mem_append_left _ (List.mem_append_left _ (List.mem_append_left _ (List.mem_append_left _ (List.mem_append_left _ (List.mem_append_left _ (List.mem_append_left _ (List.mem_append_left _ (List.mem_append_left _ (List.mem_append_left _ (List.mem_append_left _ (List.mem_append_left _ (List.mem_append_right _ (List.mem_append_right _ (List.mem_append_right _ (List.mem_append_right _ (List.mem_append_right _ (List.mem_append_right _ (List.mem_append_right _ (List.mem_append_right _ (List.mem_append_right _ (List.mem_append_right _ (List.mem_append_right _ (List.mem_append_right _ (List.mem_append_right _ (List.mem_append_right _ (List.mem_append_right _ (List.mem_append_right _ (List.mem_append_right _ (List.mem_append_right _ (List.mem_append_right _ (List.mem_append_right _ (List.mem_append_right _ (List.mem_append_right _ (List.mem_append_right _ (List.mem_append_right _ (List.mem_append_right _ (List.mem_append_right _ (List.mem_append_right _ (List.mem_append_right _ (List.mem_append_right _ (List.mem_append_right _ (List.mem_append_right _ (List.mem_append_right _ (List.mem_append_right _ (List.mem_append_right _ (List.mem_append_right _ (List.mem_append_right _ (List.mem_append_right _ (List.mem_append_right _ (List.mem_append_right _ (List.mem_append_right _ (List.mem_append_right _ (List.mem_append_right _ (List.mem_append_right _ (List.mem_append_right _ (List.mem_append_right _ (List.mem_append_right _ (List.mem_append_right _ (List.mem_append_right _ (List.mem_append_right _ (List.mem_append_right _ (List.mem_append_right _ (List.mem_append_right _ (List.mem_append_right _ (List.mem_append_right _ (List.mem_append_right _ (List.mem_append_right _ (List.mem_append_right _ (List.mem_append_right _ (List.mem_append_left _ h))))))))))))))))))))))))))))))))))))))))))))))))))))))))))))))))))))))))
set_option maxRecDepth 20000 in
theorem mr_60 : ∀ q ∈ wsL_law_r60, q ∈ wsL_law := fun _ h => List.mem_append_left _ (List.mem_append_left _ (List.mem_append_left _ (List.mem_append_left _ (List.mem_append_left _ (List.mem_append_left _ (List.mem_append_left _ (List.mem_append_left _ (List.mem_append_left _ (List.mem_append_left _ (List.mem_append_left _ (List.mem_append_left _ (List.mem_append_left _ (List.mem_append_left _ (List.mem_append_right _ (List.mem_append_right _ (List.mem_append_right _ (List.mem_append_right _ (List.mem_append_right _ (List.mem_append_right _ (List.mem_append_right _ (List.mem_append_right _ (List.mem_append_right _ (List.mem_append_right _ (List.mem_append_right _ (List.mem_append_right _ (List.mem_append_right _ (List.mem_append_right _ (List.mem_append_right _ (List.mem_append_right _ (List.mem_append_right _ (List.mem_append_right _ (List.mem_append_right _ (List.mem_append_right _ (List.mem_append_right _ (List.mem_append_right _ (List.mem_append_right _ (List.mem_append_right _ (List.mem_append_right _ (List.mem_append_right _ (List.mem_append_right _ (List.mem_append_right _ (List.mem_append_right _ (List.mem_append_right _ (List.mem_append_right _ (List.mem_append_right _ (List.mem_append_right _ (List.mem_append_right _ (List.mem_append_right _ (List.mem_append_right _ (List.mem_append_right _ (List.mem_append_right _ (List.mem_append_right _ (List.mem_append_right _ (List.mem_append_right _ (List.mem_append_right _ (List.mem_append_right _ (List.mem_append_right _ (List.mem_append_right _ (List.mem_append_right _ (List.mem_append_right _ (List.mem_append_right _ (List.mem_append_right _ (List.mem_append_right _ (List.mem_append_right _ (List.mem_append_right _ (List.mem_append_right _ (List.mem_append_right _ (List.mem_append_right _ (List.mem_append_right _ (List.mem_append_right _ (List.mem_append_right _ (List.mem_append_right _ (List.mem_append_left _ h)))))))))))))))))))))))))))))))))))))))))))))))))))))))))))))))))))))))))
set_option maxRecDepth 20000 in
theorem mr_61 : ∀ q ∈ wsL_law_r61, q ∈ wsL_law := fun _ h => List.mem_append_left _ (List.mem_append_left _ (List.mem_append_left _ (List.mem_append_left _ (List.mem_append_left _ (List.mem_append_left _ (List.mem_append_left _ (List.mem_append_left _ (List.mem_append_left _ (List.mem_append_left _ (List.mem_append_left _ (List.mem_append_left _ (List.mem_append_left _ (List.mem_append_left _ (List.mem_append_right _ (List.mem_append_right _ (List.mem_append_right _ (List.mem_append_right _ (List.mem_append_right _ (List.mem_append_right _ (List.mem_append_right _ (List.mem_append_right _ (List.mem_append_right _ (List.mem_append_right _ (List.mem_append_right _ (List.mem_append_right _ (List.mem_append_right _ (List.mem_append_right _ (List.mem_append_right _ (List.mem_append_right _ (List.mem_append_right _ (List.mem_append_right _ (List.mem_append_right _ (List.mem_append_right _ (List.mem_append_right _ (List.mem_append_right _ (List.mem_append_right _ (List.mem_append_right _ (List.mem_append_right _ (List.mem_append_right _ (List.mem_append_right _ (List.mem_append_right _ (List.mem_append_right _ (List.mem_append_right _ (List.mem_append_right _ (List.mem_append_right _ (List.mem_append_right _ (List.mem_append_right _ (List.mem_append_right _ (List.mem_append_right _ (List.mem_append_right _ (List.mem_append_right _ (List.mem_append_right _ (List.mem_append_right _ (List.mem_append_right _ (List.mem_append_right _ (List.mem_append_right _ (List.mem_append_right _ (List.mem_append_right _ (List.mem_append_right _ (List.mem_append_right _ (List.mem_append_right _ (List.mem_append_right _ (List.mem_append_right _ (List.mem_append_right _ (List.mem_append_right _ (List.mem_append_right _ (List.mem_append_right _ (List.mem_append_right _ (List.mem_append_right _ (List.mem_append_right _ (List.mem_append_right _ (List.mem_append_right _ (List.mem_append_right _ (List.mem_append_left _ h))))))))))))))))))))))))))))))))))))))))))))))))))))))))))))))))))))))))))
set_option maxRecDepth 20000 in
theorem mr_62 : ∀ q ∈ wsL_law_r62, q ∈ wsL_law := fun _ h => List.mem_append_left _ (List.mem_append_left _ (List.mem_append_left _ (List.mem_append_left _ (List.mem_append_left _ (List.mem_append_left _ (List.mem_append_left _ (List.mem_append_left _ (List.mem_append_left _ (List.mem_append_left _ (List.mem_append_left _ (List.mem_append_left _ (List.mem_append_left _ (List.mem_append_left _ (List.mem_append_right _ (List.mem_append_right _ (List.mem_append_right _ (List.mem_append_right _ (List.mem_append_right _ (List.mem_append_right _ (List.mem_append_right _ (List.mem_append_right _ (List.mem_append_right _ (List.mem_append_right _ (List.mem_append_right _ (List.mem_append_right _ (List.mem_append_right _ (List.mem_append_right _ (List.mem_append_right _ (List.mem_append_right _ (List.mem_append_right _ (List.mem_append_right _ (List.mem_append_right _ (List.mem_append_right _ (List.mem_append_right _ (List.mem_append_right _ (List.mem_append_right _ (List.mem_append_right _ (List.mem_append_right _ (List.mem_append_right _ (List.mem_append_right _ (List.mem_append_right _ (List.mem_append_right _ (List.mem_append_right _ (List.mem_append_right _ (List.mem_append_right _ (List.mem_append_right _ (List.mem_append_right _ (List.mem_append_right _ (List.mem_append_right _ (List.mem_append_right _ (List.mem_append_right _ (List.mem_append_right _ (List.mem_append_right _ (List.mem_append_right _ (List.mem_append_right _ (List.mem_append_right _ (List.mem_append_right _ (List.mem_append_right _ (List.mem_append_right _ (List.mem_append_right _ (List.mem_append_right _ (List.mem_append_right _ (List.mem_append_right _ (List.mem_append_right _ (List.mem_append_right _ (List.mem_append_right _ (List.mem_append_right _ (List.mem_append_right _ (List.mem_append_right _ (List.mem_append_right _ (List.mem_append_right _ (List.mem_append_right _ (List.mem_append_right _ (List.mem_append_right _ (List.mem_append_left _ h)))))))))))))))))))))))))))))))))))))))))))))))))))))))))))))))))))))))))))
set_option maxRecDepth 20000 in
theorem mr_63 : ∀ q ∈ wsL_law_r63, q ∈ wsL_law := fun _ h => List.mem_append_left _ (List.mem_append_left _ (List.mem_append_left _ (List.mem_append_left _ (List.mem_append_left _ (List.mem_append_left _ (List.mem_append_left _ (List.mem_append_left _ (List.mem_append_left _ (List.mem_append_left _ (List.mem_append_left _ (List.mem_append_left _ (List.mem_append_left _ (List.mem_append_left _ (List.mem_append_right _ (List.mem_append_right _ (List.mem_append_right _ (List.mem_append_right _ (List.mem_append_right _ (List.mem_append_right _ (List.mem_append_right _ (List.mem_append_right _ (List.mem_append_right _ (List.mem_append_right _ (List.mem_append_right _ (List.mem_append_right _ (List.mem_append_right _ (List.mem_append_right _ (List.mem_append_right _ (List.mem_append_right _ (List.mem_append_right _ (List.mem_append_right _ (List.mem_append_right _ (List.mem_append_right _ (List.mem_append_right _ (List.mem_append_right _ (List.mem_append_right _ (List.mem_append_right _ (List.mem_append_right _ (List.mem_append_right _ (List.mem_append_right _ (List.mem_append_right _ (List.mem_append_right _ (List.mem_append_right _ (List.mem_append_right _ (List.mem_append_right _ (List.mem_append_right _ (List.mem_append_right _ (List.mem_append_right _ (List.mem_append_right _ (List.mem_append_right _ (List.mem_append_right _ (List.mem_append_right _ (List.mem_append_right _ (List.mem_append_right _ (List.mem_append_right _ (List.mem_append_right _ (List.mem_append_right _ (List.mem_append_right _ (List.mem_append_right _ (List.mem_append_right _ (List.mem_append_right _ (List.mem_append_right _ (List.mem_append_right _ (List.mem_append_right _ (List.mem_append_right _ (List.mem_append_right _ (List.mem_append_right _ (List.mem_append_right _ (List.mem_append_right _ (List.mem_append_right _ (List.mem_append_right _ (List.mem_append_right _ (List.mem_append_right _ (List.mem_append_right _ (List.mem_append_right _ (List.mem_append_left _ h))))))))))))))))))))))))))))))))))))))))))))))))))))))))))))))))))))))))))))
set_option maxRecDepth 20000 in
theorem mr_64 : ∀ q ∈ wsL_law_r64, q ∈ wsL_law := fun _ h => List.mem_append_left _ (List.mem_append_left _ (List.mem_append_left _ (List.mem_append_left _ (List.mem_append_left _ (List.mem_append_left _ (List.mem_append_left _ (List.mem_append_left _ (List.mem_append_left _ (List.mem_append_left _ (List.mem_append_left _ (List.mem_append_left _ (List.mem_append_left _ (List.mem_append_left _ (List.mem_append_right _ (List.mem_append_right _ (List.mem_append_right _ (List.mem_append_right _ (List.mem_append_right _ (List.mem_append_right _ (List.mem_append_right _ (List.mem_append_right _ (List.mem_append_right _ (List.mem_append_right _ (List.mem_append_right _ (List.mem_append_right _ (List.mem_append_right _ (List.mem_append_right _ (List.mem_append_right _ (List.mem_append_right _ (List.mem_append_right _ (List.mem_append_right _ (List.mem_append_right _ (List.mem_append_right _ (List.mem_append_right _ (List.mem_append_right _ (List.mem_append_right _ (List.mem_append_right _ (List.mem_append_right _ (List.mem_append_right _ (List.mem_append_right _ (List.mem_append_right _ (List.mem_append_right _ (List.mem_append_right _ (List.mem_append_right _ (List.mem_append_right _ (List.mem_append_right _ (List.mem_append_right _ (List.mem_append_right _ (List.mem_append_right _ (List.mem_append_right _ (List.mem_append_right _ (List.mem_append_right _ (List.mem_append_right _ (List.mem_append_right _ (List.mem_append_right _ (List.mem_append_right _ (List.mem_append_right _ (List.mem_append_right _ (List.mem_append_right _ (List.mem_append_right _ (List.mem_append_right _ (List.mem_append_right _ (List.mem_append_right _ (List.mem_append_right _ (List.mem_append_right _ (List.mem_append_right _ (List.mem_append_right _ (List.mem_append_right _ (List.mem_append_right _ (List.mem_append_right _ (List.mem_append_right _ (List.mem_append_right _ (List.mem_append_right _ (List.mem_append_right _ (List.mem_append_right _ (List.mem_append_right _ (List.mem_append_left _ h)))))))))))))))))))))))))))))))))))))))))))))))))))))))))))))))))))))))))))))
set_option maxRecDepth 20000 in
theorem mr_65 : ∀ q ∈ wsL_law_r65, q ∈ wsL_law := fun _ h => List.mem_append_left _ (List.mem_append_left _ (List.mem_append_left _ (List.mem_append_left _ (List.mem_append_left _ (List.mem_append_left _ (List.mem_append_left _ (List.mem_append_left _ (List.mem_append_left _ (List.mem_append_left _ (List.mem_append_left _ (List.mem_append_left _ (List.mem_append_left _ (List.mem_append_left _ (List.mem_append_right _ (List.mem_append_right _ (List.mem_append_right _ (List.mem_append_right _ (List.mem_append_right _ (List.mem_append_right _ (List.mem_append_right _ (List.mem_append_right _ (List.mem_append_right _ (List.mem_append_right _ (List.mem_append_right _ (List.mem_append_right _ (List.mem_append_right _ (List.mem_append_right _ (List.mem_append_right _ (List.mem_append_right _ (List.mem_append_right _ (List.mem_append_right _ (List.mem_append_right _ (List.mem_append_right _ (List.mem_append_right _ (List.mem_append_right _ (List.mem_append_right _ (List.mem_append_right _ (List.mem_append_right _ (List.mem_append_right _ (List.mem_append_right _ (List.mem_append_right _ (List.mem_append_right _ (List.mem_append_right _ (List.mem_append_right _ (List.mem_append_right _ (List.mem_append_right _ (List.mem_append_right _ (List.mem_append_right _ (List.mem_append_right _ (List.mem_append_right _ (List.mem_append_right _ (List.mem_append_right _ (List.mem_append_right _ (List.mem_append_right _ (List.mem_append_right _ (List.mem_append_right _ (List.mem_append_right _ (List.mem_append_right _ (List.mem_append_right _ (List.mem_append_right _ (List.mem_append_right _ (List.mem_append_right _ (List.mem_append_right _ (List.mem_append_right _ (List.mem_append_right _ (List.mem_append_right _ (List.mem_append_right _ (List.mem_append_right _ (List.mem_append_right _ (List.mem_append_right _ (List.mem_append_right _ (List.mem_append_right _ (List.mem_append_right _ (List.mem_append_right _ (List.mem_append_right _ (List.mem_append_right _ (List.mem_append_right _ (List.mem_append_left _ h))))))))))))))))))))))))))))))))))))))))))))))))))))))))))))))))))))))))))))))
set_option maxRecDepth 20000 in
theorem mr_66 : ∀ q ∈ wsL_law_r66, q ∈ wsL_law := fun _ h => List.mem_append_left _ (List.mem_append_left _ (List.mem_append_left _ (List.mem_append_left _ (List.mem_append_left _ (List.mem_append_left _ (List.mem_append_left _ (List.mem_append_left _ (List.mem_append_left _ (List.mem_append_left _ (List.mem_append_left _ (List.mem_append_left _ (List.mem_append_left _ (List.mem_append_left _ (List.mem_append_right _ (List.mem_append_right _ (List.mem_append_right _ (List.mem_append_right _ (List.mem_append_right _ (List.mem_append_right _ (List.mem_append_right _ (List.mem_append_right _ (List.mem_append_right _ (List.mem_append_right _ (List.mem_append_right _ (List.mem_append_right _ (List.mem_append_right _ (List.mem_append_right _ (List.mem_append_right _ (List.mem_append_right _ (List.mem_append_right _ (List.mem_append_right _ (List.mem_append_right _ (List.mem_append_right _ (List.mem_append_right _ (List.mem_append_right _ (List.mem_append_right _ (List.mem_append_right _ (List.mem_append_right _ (List.mem_append_right _ (List.mem_append_right _ (List.mem_append_right _ (List.mem_append_right _ (List.mem_append_right _ (List.mem_append_right _ (List.mem_append_right _ (List.mem_append_right _ (List.mem_append_right _ (List.mem_append_right _ (List.mem_append_right _ (List.mem_append_right _ (List.mem_append_right _ (List.mem_append_right _ (List.mem_append_right _ (List.mem_append_right _ (List.mem_append_right _ (List.mem_append_right _ (List.mem_append_right _ (List.mem_append_right _ (List.mem_append_right _ (List.mem_append_right _ (List.mem_append_right _ (List.mem_append_right _ (List.mem_append_right _ (List.mem_append_right _ (List.mem_append_right _ (List.mem_append_right _ (List.mem_append_right _ (List.mem_append_right _ (List.mem_append_right _ (List.mem_append_right _ (List.mem_append_right _ (List.mem_append_right _ (List.mem_append_right _ (List.mem_append_right _ (List.mem_append_right _ (List.mem_append_right _ (List.mem_append_right _ (List.mem_append_right _ (List.mem_append_left _ h)))))))))))))))))))))))))))))))))))))))))))))))))))))))))))))))))))))))))))))))
set_option maxRecDepth 20000 in
theorem mr_67 : ∀ q ∈ wsL_law_r67, q ∈ wsL_law := fun _ h => List.mem_append_left _ (List.mem_append_left _ (List.mem_append_left _ (List.mem_append_left _ (List.mem_append_left _ (List.mem_append_left _ (List.mem_append_left _ (List.mem_append_left _ (List.mem_append_left _ (List.mem_append_left _ (List.mem_append_left _ (List.mem_append_left _ (List.mem_append_left _ (List.mem_append_left _ (List.mem_append_right _ (List.mem_append_right _ (List.mem_append_right _ (List.mem_append_right _ (List.mem_append_right _ (List.mem_append_right _ (List.mem_append_right _ (List.mem_append_right _ (List.mem_append_right _ (List.mem_append_right _ (List.mem_append_right _ (List.mem_append_right _ (List.mem_append_right _ (List.mem_append_right _ (List.mem_append_right _ (List.mem_append_right _ (List.mem_append_right _ (List.mem_append_right _ (List.mem_append_right _ (List.mem_append_right _ (List.mem_append_right _ (List.mem_append_right _ (List.mem_append_right _ (List.mem_append_right _ (List.mem_append_right _ (List.mem_append_right _ (List.mem_append_right _ (List.mem_append_right _ (List.mem_append_right _ (List.mem_append_right _ (List.mem_append_right _ (List.mem_append_right _ (List.mem_append_right _ (List.mem_append_right _ (List.mem_append_right _ (List.mem_append_right _ (List.mem_append_right _ (List.mem_append_right _ (List.mem_append_right _ (List.mem_append_right _ (List.mem_append_right _ (List.mem_append_right _ (List.mem_append_right _ (List.mem_append_right _ (List.mem_append_right _ (List.mem_append_right _ (List.mem_append_right _ (List.mem_append_right _ (List.mem_append_right _ (List.mem_append_right _ (List.mem_append_right _ (List.mem_append_right _ (List.mem_append_right _ (List.mem_append_right _ (List.mem_append_right _ (List.mem_append_right _ (List.mem_append_right _ (List.mem_append_right _ (List.mem_append_right _ (List.mem_append_right _ (List.mem_append_right _ (List.mem_append_right _ (List.mem_append_right _ (List.mem_append_right _ (List.mem_append_right _ (List.mem_append_right _ (List.mem_append_left _ h))))))))))))))))))))))))))))))))))))))))))))))))))))))))))))))))))))))))))))))))
set_option maxRecDepth 20000 in
theorem mr_68 : ∀ q ∈ wsL_law_r68, q ∈ wsL_law := fun _ h => List.mem_append_left _ (List.mem_append_left _ (List.mem_append_left _ (List.mem_append_left _ (List.mem_append_left _ (List.mem_append_left _ (List.mem_append_left _ (List.mem_append_left _ (List.mem_append_left _ (List.mem_append_left _ (List.mem_append_left _ (List.mem_append_left _ (List.mem_append_left _ (List.mem_append_left _ (List.mem_append_right _ (List.mem_append_right _ (List.mem_append_right _ (List.mem_append_right _ (List.mem_append_right _ (List.mem_append_right _ (List.mem_append_right _ (List.mem_append_right _ (List.mem_append_right _ (List.mem_append_right _ (List.mem_append_right _ (List.mem_append_right _ (List.mem_append_right _ (List.mem_append_right _ (List.mem_append_right _ (List.mem_append_right _ (List.mem_append_right _ (List.mem_append_right _ (List.mem_append_right _ (List.mem_append_right _ (List.mem_append_right _ (List.mem_append_right _ (List.mem_append_right _ (List.mem_append_right _ (List.mem_append_right _ (List.mem_append_right _ (List.mem_append_right _ (List.mem_append_right _ (List.mem_append_right _ (List.mem_append_right _ (List.mem_append_right _ (List.mem_append_right _ (List.mem_append_right _ (List.mem_append_right _ (List.mem_append_right _ (List.mem_append_right _ (List.mem_append_right _ (List.mem_append_right _ (List.mem_append_right _ (List.mem_append_right _ (List.mem_append_right _ (List.mem_append_right _ (List.mem_append_right _ (List.mem_append_right _ (List.mem_append_right _ (List.mem_append_right _ (List.mem_append_right _ (List.mem_append_right _ (List.mem_append_right _ (List.mem_append_right _ (List.mem_append_right _ (List.mem_append_right _ (List.mem_append_right _ (List.mem_append_right _ (List.mem_append_right _ (List.mem_append_right _ (List.mem_append_right _ (List.mem_append_right _ (List.mem_append_right _ (List.mem_append_right _ (List.mem_append_right _ (List.mem_append_right _ (List.mem_append_right _ (List.mem_append_right _ (List.mem_append_right _ (List.mem_append_right _ (List.mem_append_right _ (List.mem_append_left _ h)))))))))))))))))))))))))))))))))))))))))))))))))))))))))))))))))))))))))))))))))
set_option maxRecDepth 20000 in
theorem mr_69 : ∀ q ∈ wsL_law_r69, q ∈ wsL_law := fun _ h => List.mem_append_left _ (List.mem_append_left _ (List.mem_append_left _ (List.mem_append_left _ (List.mem_append_left _ (List.mem_append_left _ (List.mem_append_left _ (List.mem_append_left _ (List.mem_append_left _ (List.mem_append_left _ (List.mem_append_left _ (List.mem_append_left _ (List.mem_append_left _ (List.mem_append_left _ (List.mem_append_right _ (List.mem_append_right _ (List.mem_append_right _ (List.mem_append_right _ (List.mem_append_right _ (List.mem_append_right _ (List.mem_append_right _ (List.mem_append_right _ (List.mem_append_right _ (List.mem_append_right _ (List.mem_append_right _ (List.mem_append_right _ (List.mem_append_right _ (List.mem_append_right _ (List.mem_append_right _ (List.mem_append_right _ (List.mem_append_right _ (List.mem_append_right _ (List.mem_append_right _ (List.mem_append_right _ (List.mem_append_right _ (List.mem_append_right _ (List.mem_append_right _ (List.mem_append_right _ (List.mem_append_right _ (List.mem_append_right _ (List.mem_append_right _ (List.mem_append_right _ (List.mem_append_right _ (List.mem_append_right _ (List.mem_append_right _ (List.mem_append_right _ (List.mem_append_right _ (List.mem_append_right _ (List.mem_append_right _ (List.mem_append_right _ (List.mem_append_right _ (List.mem_append_right _ (List.mem_append_right _ (List.mem_append_right _ (List.mem_append_right _ (List.mem_append_right _ (List.mem_append_right _ (List.mem_append_right _ (List.mem_append_right _ (List.mem_append_right _ (List.mem_append_right _ (List.mem_append_right _ (List.mem_append_right _ (List.mem_append_right _ (List.mem_append_right _ (List.mem_append_right _ (List.mem_append_right _ (List.mem_append_right _ (List.mem_append_right _ (List.mem_append_right _ (List.mem_append_right _ (List.mem_append_right _ (List.mem_append_right _ (List.mem_append_right _ (List.mem_append_right _ (List.mem_append_right _ (List.mem_append_right _ (List.mem_append_right _ (List.mem_append_right _ (List.mem_append_right _ (List.mem_append_right _ (List.mem_append_right _ (List.mem_append_left _ h))))))))))))))))))))))))))))))))))))))))))))))))))))))))))))))))))))))))))))))))))
set_option maxRecDepth 20000 in
theorem mr_70 : ∀ q ∈ wsL_law_r70, q ∈ wsL_law := fun _ h => List.mem_append_left _ (List.mem_append_left _ (List.mem_append_left _ (List.mem_append_left _ (List.mem_append_left _ (List.mem_append_left _ (List.mem_append_left _ (List.mem_append_left _ (List.mem_append_left _ (List.mem_append_left _ (List.mem_append_left _ (List.mem_append_left _ (List.mem_append_left _ (List.mem_append_left _ (List.mem_append_right _ (List.mem_append_right _ (List.mem_append_right _ (List.mem_append_right _ (List.mem_append_right _ (List.mem_append_right _ (List.mem_append_right _ (List.mem_append_right _ (List.mem_append_right _ (List.mem_append_right _ (List.mem_append_right _ (List.mem_append_right _ (List.mem_append_right _ (List.mem_append_right _ (List.mem_append_right _ (List.mem_append_right _ (List.mem_append_right _ (List.mem_append_right _ (List.mem_append_right _ (List.mem_append_right _ (List.mem_append_right _ (List.mem_append_right _ (List.mem_append_right _ (List.mem_append_right _ (List.mem_append_right _ (List.mem_append_right _ (List.mem_append_right _ (List.mem_append_right _ (List.mem_append_right _ (List.mem_append_right _ (List.mem_append_right _ (List.mem_append_right _ (List.mem_append_right _ (List.mem_append_right _ (List.mem_append_right _ (List.mem_append_right _ (List.mem_append_right _ (List.mem_append_right _ (List.mem_append_right _ (List.mem_append_right _ (List.mem_append_right _ (List.mem_append_right _ (List.mem_append_right _ (List.mem_append_right _ (List.mem_append_right _ (List.mem_append_right _ (List.mem_append_right _ (List.mem_append_right _ (List.mem_append_right _ (List.mem_append_right _ (List.mem_append_right _ (List.mem_append_right _ (List.mem_append_right _ (List.mem_append_right _ (List.mem_append_right _ (List.mem_append_right _ (List.mem_append_right _ (List.mem_append_right _ (List.mem_append_right _ (List.mem_append_right _ (List.mem_append_right _ (List.mem_append_right _ (List.mem_append_right _ (List.mem_append_right _ (List.mem_append_right _ (List.mem_append_right _ (List.mem_append_right _ (List.mem_append_right _ (List.mem_append_right _ (List.mem_append_left _ h)))))))))))))))))))))))))))))))))))))))))))))))))))))))))))))))))))))))))))))))))))
set_option maxRecDepth 20000 in
theorem mr_71 : ∀ q ∈ wsL_law_r71, q ∈ wsL_law := fun _ h => List.mem_append_left _ (List.mem_append_left _ (List.mem_append_left _ (List.mem_append_left _ (List.mem_append_left _ (List.mem_append_left _ (List.mem_append_left _ (List.mem_append_left _ (List.mem_append_left _ (List.mem_append_left _ (List.mem_append_left _ (List.mem_append_left _ (List.mem_append_left _ (List.mem_append_left _ (List.mem_append_right _ (List.mem_append_right _ (List.mem_append_right _ (List.mem_append_right _ (List.mem_append_right _ (List.mem_append_right _ (List.mem_append_right _ (List.mem_append_right _ (List.mem_append_right _ (List.mem_append_right _ (List.mem_append_right _ (List.mem_append_right _ (List.mem_append_right _ (List.mem_append_right _ (List.mem_append_right _ (List.mem_append_right _ (List.mem_append_right _ (List.mem_append_right _ (List.mem_append_right _ (List.mem_append_right _ (List.mem_append_right _ (List.mem_append_right _ (List.mem_append_right _ (List.mem_append_right _ (List.mem_append_right _ (List.mem_append_right _ (List.mem_append_right _ (List.mem_append_right _ (List.mem_append_right _ (List.mem_append_right _ (List.mem_append_right _ (List.mem_append_right _ (List.mem_append_right _ (List.mem_append_right _ (List.mem_append_right _ (List.mem_append_right _ (List.mem_append_right _ (List.mem_append_right _ (List.mem_append_right _ (List.mem_append_right _ (List.mem_append_right _ (List.mem_append_right _ (List.mem_append_right _ (List.mem_append_right _ (List.mem_append_right _ (List.mem_append_right _ (List.mem_append_right _ (List.mem_append_right _ (List.mem_append_right _ (List.mem_append_right _ (List.mem_append_right _ (List.mem_append_right _ (List.mem_append_right _ (List.mem_append_right _ (List.mem_append_right _ (List.mem_append_right _ (List.mem_append_right _ (List.mem_append_right _ (List.mem_append_right _ (List.mem_append_right _ (List.mem_append_right _ (List.mem_append_right _ (List.mem_append_right _ (List.mem_append_right _ (List.mem_append_right _ (List.mem_append_right _ (List.mem_append_right _ (List.mem_append_right _ (List.mem_append_right _ (List.mem_append_right _ (List.mem_append_left _ h))))))))))))))))))))))))))))))))))))))))))))))))))))))))))))))))))))))))))))))))))))
set_option maxRecDepth 20000 in
theorem mr_72 : ∀ q ∈ wsL_law_r72, q ∈ wsL_law := fun _ h => List.mem_append_left _ (List.mem_append_left _ (List.mem_append_left _ (List.mem_append_left _ (List.mem_append_left _ (List.mem_append_left _ (List.mem_append_left _ (List.mem_append_left _ (List.mem_append_left _ (List.mem_append_left _ (List.mem_append_left _ (List.mem_append_left _ (List.mem_append_left _ (List.mem_append_left _ (List.mem_append_right _ (List.mem_append_right _ (List.mem_append_right _ (List.mem_append_right _ (List.mem_append_right _ (List.mem_append_right _ (List.mem_append_right _ (List.mem_append_right _ (List.mem_append_right _ (List.mem_append_right _ (List.mem_append_right _ (List.mem_append_right _ (List.mem_append_right _ (List.mem_append_right _ (List.mem_append_right _ (List.mem_append_right _ (List.mem_append_right _ (List.mem_append_right _ (List.mem_append_right _ (List.mem_append_right _ (List.mem_append_right _ (List.mem_append_right _ (List.mem_append_right _ (List.mem_append_right _ (List.mem_append_right _ (List.mem_append_right _ (List.mem_append_right _ (List.mem_append_right _ (List.mem_append_right _ (List.mem_append_right _ (List.mem_append_right _ (List.mem_append_right _ (List.mem_append_right _ (List.mem_append_right _ (List.mem_append_right _ (List.mem_append_right _ (List.mem_append_right _ (List.mem_append_right _ (List.mem_append_right _ (List.mem_append_right _ (List.mem_append_right _ (List.mem_append_right _ (List.mem_append_right _ (List.mem_append_right _ (List.mem_append_right _ (List.mem_append_right _ (List.mem_append_right _ (List.mem_append_right _ (List.mem_append_right _ (List.mem_append_right _ (List.mem_append_right _ (List.mem_append_right _ (List.mem_append_right _ (List.mem_append_right _ (List.mem_append_right _ (List.mem_append_right _ (List.mem_append_right _ (List.mem_append_right _ (List.mem_append_right _ (List.mem_append_right _ (List.mem_append_right _ (List.mem_append_right _ (List.mem_append_right _ (List.mem_append_right _ (List.mem_append_right _ (List.mem_append_right _ (List.mem_append_right _ (List.mem_append_right _ (List.mem_append_right _ (List.mem_append_right _ (List.mem_append_right _ (List.mem_append_left _ h)))))))))))))))))))))))))))))))))))))))))))))))))))))))))))))))))))))))))))))))))))))
set_option maxRecDepth 20000 in
theorem mr_73 : ∀ q ∈ wsL_law_r73, q ∈ wsL_law := fun _ h => List.mem_append_left _ (List.mem_append_left _ (List.mem_append_left _ (List.mem_append_left _ (List.mem_append_left _ (List.mem_append_left _ (List.mem_append_left _ (List.mem_append_left _ (List.mem_append_left _ (List.mem_append_left _ (List.mem_append_left _ (List.mem_append_left _ (List.mem_append_left _ (List.mem_append_left _ (List.mem_append_right _ (List.mem_append_right _ (List.mem_append_right _ (List.mem_append_right _ (List.mem_append_right _ (List.mem_append_right _ (List.mem_append_right _ (List.mem_append_right _ (List.mem_append_right _ (List.mem_append_right _ (List.mem_append_right _ (List.mem_append_right _ (List.mem_append_right _ (List.mem_append_right _ (List.mem_append_right _ (List.mem_append_right _ (List.mem_append_right _ (List.mem_append_right _ (List.mem_append_right _ (List.mem_append_right _ (List.mem_append_right _ (List.mem_append_right _ (List.mem_append_right _ (List.mem_append_right _ (List.mem_append_right _ (List.mem_append_right _ (List.mem_append_right _ (List.mem_append_right _ (List.mem_append_right _ (List.mem_append_right _ (List.mem_append_right _ (List.mem_append_right _ (List.mem_append_right _ (List.mem_append_right _ (List.mem_append_right _ (List.mem_append_right _ (List.mem_append_right _ (List.mem_append_right _ (List.mem_append_right _ (List.mem_append_right _ (List.mem_append_right _ (List.mem_append_right _ (List.mem_append_right _ (List.mem_append_right _ (List.mem_append_right _ (List.mem_append_right _ (List.mem_append_right _ (List.mem_append_right _ (List.mem_append_right _ (List.mem_append_right _ (List.mem_append_right _ (List.mem_append_right _ (List.mem_append_right _ (List.mem_append_right _ (List.mem_append_right _ (List.mem_append_right _ (List.mem_append_right _ (List.mem_append_right _ (List.mem_append_right _ (List.mem_append_right _ (List.mem_append_right _ (List.mem_append_right _ (List.mem_append_right _ (List.mem_append_right _ (List.mem_append_right _ (List.mem_append_right _ (List.mem_append_right _ (List.mem_append_right _ (List.mem_append_right _ (List.mem_append_right _ (List.mem_append_right _ (List.mem_append_right _ (List.mem_append_left _ h))))))))))))))))))))))))))))))))))))))))))))))))))))))))))))))))))))))))))))))))))))))
set_option maxRecDepth 20000 in
theorem mr_74 : ∀ q ∈ wsL_law_r74, q ∈ wsL_law := fun _ h => List.mem_append_left _ (List.mem_append_left _ (List.mem_append_left _ (List.mem_append_left _ (List.mem_append_left _ (List.mem_append_left _ (List.mem_append_left _ (List.mem_append_left _ (List.mem_append_left _ (List.mem_append_left _ (List.mem_append_left _ (List.mem_append_left _ (List.mem_append_left _ (List.mem_append_left _ (List.mem_append_right _ (List.mem_append_right _ (List.mem_append_right _ (List.mem_append_right _ (List.mem_append_right _ (List.mem_append_right _ (List.mem_append_right _ (List.mem_append_right _ (List.mem_append_right _ (List.mem_append_right _ (List.mem_append_right _ (List.mem_append_right _ (List.mem_append_right _ (List.mem_append_right _ (List.mem_append_right _ (List.mem_append_right _ (List.mem_append_right _ (List.mem_append_right _ (List.mem_append_right _ (List.mem_append_right _ (List.mem_append_right _ (List.mem_append_right _ (List.mem_append_right _ (List.mem_append_right _ (List.mem_append_right _ (List.mem_append_right _ (List.mem_append_right _ (List.mem_append_right _ (List.mem_append_right _ (List.mem_append_right _ (List.mem_append_right _ (List.mem_append_right _ (List.mem_append_right _ (List.mem_append_right _ (List.mem_append_right _ (List.mem_append_right _ (List.mem_append_right _ (List.mem_append_right _ (List.mem_append_right _ (List.mem_append_right _ (List.mem_append_right _ (List.mem_append_right _ (List.mem_append_right _ (List.mem_append_right _ (List.mem_append_right _ (List.mem_append_right _ (List.mem_append_right _ (List.mem_append_right _ (List.mem_append_right _ (List.mem_append_right _ (List.mem_append_right _ (List.mem_append_right _ (List.mem_append_right _ (List.mem_append_right _ (List.mem_append_right _ (List.mem_append_right _ (List.mem_append_right _ (List.mem_append_right _ (List.mem_append_right _ (List.mem_append_right _ (List.mem_append_right _ (List.mem_append_right _ (List.mem_append_right _ (List.mem_append_right _ (List.mem_append_right _ (List.mem_append_right _ (List.mem_append_right _ (List.mem_append_right _ (List.mem_append_right _ (List.mem_append_right _ (List.mem_append_right _ (List.mem_append_right _ (List.mem_append_right _ (List.mem_append_left _ h)))))))))))))))))))))))))))))))))))))))))))))))))))))))))))))))))))))))))))))))))))))))
set_option maxRecDepth 20000 in
theorem mr_75 : ∀ q ∈ wsL_law_r75, q ∈ wsL_law := fun _ h => List.mem_append_left _ (List.mem_append_left _ (List.mem_append_left _ (List.mem_append_left _ (List.mem_append_left _ (List.mem_append_left _ (List.mem_append_left _ (List.mem_append_left _ (List.mem_append_left _ (List.mem_append_left _ (List.mem_append_left _ (List.mem_append_left _ (List.mem_append_left _ (List.mem_append_left _ (List.mem_append_right _ (List.mem_append_right _ (List.mem_append_right _ (List.mem_append_right _ (List.mem_append_right _ (List.mem_append_right _ (List.mem_append_right _ (List.mem_append_right _ (List.mem_append_right _ (List.mem_append_right _ (List.mem_append_right _ (List.mem_append_right _ (List.mem_append_right _ (List.mem_append_right _ (List.mem_append_right _ (List.mem_append_right _ (List.mem_append_right _ (List.mem_append_right _ (List.mem_append_right _ (List.mem_append_right _ (List.mem_append_right _ (List.mem_append_right _ (List.mem_append_right _ (List.mem_append_right _ (List.mem_append_right _ (List.mem_append_right _ (List.mem_append_right _ (List.mem_append_right _ (List.mem_append_right _ (List.mem_append_right _ (List.mem_append_right _ (List.mem_append_right _ (List.mem_append_right _ (List.mem_append_right _ (List.mem_append_right _ (List.mem_append_right _ (List.mem_append_right _ (List.mem_append_right _ (List.mem_append_right _ (List.mem_append_right _ (List.mem_append_right _ (List.mem_append_right _ (List.mem_append_right _ (List.mem_append_right _ (List.mem_append_right _ (List.mem_append_right _ (List.mem_append_right _ (List.mem_append_right _ (List.mem_append_right _ (List.mem_append_right _ (List.mem_append_right _ (List.mem_append_right _ (List.mem_append_right _ (List.mem_append_right _ (List.mem_append_right _ (List.mem_append_right _ (List.mem_append_right _ (List.mem_append_right _ (List.mem_append_right _ (List.mem_append_right _ (List.mem_append_right _ (List.mem_append_right _ (List.mem_append_right _ (List.mem_append_right _ (List.mem_append_right _ (List.mem_append_right _ (List.mem_append_right _ (List.mem_append_right _ (List.mem_append_right _ (List.mem_append_right _ (List.mem_append_right _ (List.mem_append_right _ (List.mem_append_right _ (List.mem_append_right _ (List.mem_append_left _ h))))))))))))))))))))))))))))))))))))))))))))))))))))))))))))))))))))))))))))))))))))))))
set_option maxRecDepth 20000 in
theorem mr_76 : ∀ q ∈ wsL_law_r76, q ∈ wsL_law := fun _ h => List.mem_append_left _ (List.mem_append_left _ (List.mem_append_left _ (List.mem_append_left _ (List.mem_append_left _ (List.mem_append_left _ (List.mem_append_left _ (List.mem_append_left _ (List.mem_append_left _ (List.mem_append_left _ (List.mem_append_left _ (List.mem_append_left _ (List.mem_append_left _ (List.mem_append_left _ (List.mem_append_right _ (List.mem_append_right _ (List.mem_append_right _ (List.mem_append_right _ (List.mem_append_right _ (List.mem_append_right _ (List.mem_append_right _ (List.mem_append_right _ (List.mem_append_right _ (List.mem_append_right _ (List.mem_append_right _ (List.mem_append_right _ (List.mem_append_right _ (List.mem_append_right _ (List.mem_append_right _ (List.mem_append_right _ (List.mem_append_right _ (List.mem_append_right _ (List.mem_append_right _ (List.mem_append_right _ (List.mem_append_right _ (List.mem_append_right _ (List.mem_append_right _ (List.mem_append_right _ (List.mem_append_right _ (List.mem_append_right _ (List.mem_append_right _ (List.mem_append_right _ (List.mem_append_right _ (List.mem_append_right _ (List.mem_append_right _ (List.mem_append_right _ (List.mem_append_right _ (List.mem_append_right _ (List.mem_append_right _ (List.mem_append_right _ (List.mem_append_right _ (List.mem_append_right _ (List.mem_append_right _ (List.mem_append_right _ (List.mem_append_right _ (List.mem_append_right _ (List.mem_append_right _ (List.mem_append_right _ (List.mem_append_right _ (List.mem_append_right _ (List.mem_append_right _ (List.mem_append_right _ (List.mem_append_right _ (List.mem_append_right _ (List.mem_append_right _ (List.mem_append_right _ (List.mem_append_right _ (List.mem_append_right _ (List.mem_append_right _ (List.mem_append_right _ (List.mem_append_right _ (List.mem_append_right _ (List.mem_append_right _ (List.mem_append_right _ (List.mem_append_right _ (List.mem_append_right _ (List.mem_append_right _ (List.mem_append_right _ (List.mem_append_right _ (List.mem_append_right _ (List.mem_append_right _ (List.mem_append_right _ (List.mem_append_right _ (List.mem_append_right _ (List.mem_append_right _ (List.mem_append_right _ (List.mem_append_right _ (List.mem_append_right _ (List.mem_append_right _ (List.mem_append_left _ h)))))))))))))))))))))))))))))))))))))))))))))))))))))))))))))))))))))))))))))))))))))))))
set_option maxRecDepth 20000 in
theorem mr_77 : ∀ q ∈ wsL_law_r77, q ∈ wsL_law := fun _ h => List.mem_append_left _ (List.mem_append_left _ (List.mem_append_left _ (List.mem_append_left _ (List.mem_append_left _ (List.mem_append_left _ (List.mem_append_left _ (List.mem_append_left _ (List.mem_append_left _ (List.mem_append_left _ (List.mem_append_left _ (List.mem_append_left _ (List.mem_append_left _ (List.mem_append_left _ (List.mem_append_right _ (List.mem_append_right _ (List.mem_append_right _ (List.mem_append_right _ (List.mem_append_right _ (List.mem_append_right _ (List.mem_append_right _ (List.mem_append_right _ (List.mem_append_right _ (List.mem_append_right _ (List.mem_append_right _ (List.mem_append_right _ (List.mem_append_right _ (List.mem_append_right _ (List.mem_append_right _ (List.mem_append_right _ (List.mem_append_right _ (List.mem_append_right _ (List.mem_append_right _ (List.mem_append_right _ (List.mem_append_right _ (List.mem_append_right _ (List.mem_append_right _ (List.mem_append_right _ (List.mem_append_right _ (List.mem_append_right _ (List.mem_append_right _ (List.mem_append_right _ (List.mem_append_right _ (List.mem_append_right _ (List.mem_append_right _ (List.mem_append_right _ (List.mem_append_right _ (List.mem_append_right _ (List.mem_append_right _ (List.mem_append_right _ (List.mem_append_right _ (List.mem_append_right _ (List.mem_append_right _ (List.mem_append_right _ (List.mem_append_right _ (List.mem_append_right _ (List.mem_append_right _ (List.mem_append_right _ (List.mem_append_right _ (List.mem_append_right _ (List.mem_append_right _ (List.mem_append_right _ (List.mem_append_right _ (List.mem_append_right _ (List.mem_append_right _ (List.mem_append_right _ (List.mem_append_right _ (List.mem_append_right _ (List.mem_append_right _ (List.mem_append_right _ (List.mem_append_right _ (List.mem_append_right _ (List.mem_append_right _ (List.mem_append_right _ (List.mem_append_right _ (List.mem_append_right _ (List.mem_append_right _ (List.mem_append_right _ (List.mem_append_right _ (List.mem_append_right _ (List.mem_append_right _ (List.mem_append_right _ (List.mem_append_right _ (List.mem_append_right _ (List.mem_append_right _ (List.mem_append_right _ (List.mem_append_right _ (List.mem_append_right _ (List.mem_append_right _ (List.mem_append_right _ (List.mem_append_left _ h))))))))))))))))))))))))))))))))))))))))))))))))))))))))))))))))))))))))))))))))))))))))))
set_option maxRecDepth 20000 in
theorem mr_78 : ∀ q ∈ wsL_law_r78, q ∈ wsL_law := fun _ h => List.mem_append_left _ (List.mem_append_left _ (List.mem_append_left _ (List.mem_append_left _ (List.mem_append_left _ (List.mem_append_left _ (List.mem_append_left _ (List.mem_append_left _ (List.mem_append_left _ (List.mem_append_left _ (List.mem_append_left _ (List.mem_append_left _ (List.mem_append_left _ (List.mem_append_left _ (List.mem_append_right _ (List.mem_append_right _ (List.mem_append_right _ (List.mem_append_right _ (List.mem_append_right _ (List.mem_append_right _ (List.mem_append_right _ (List.mem_append_right _ (List.mem_append_right _ (List.mem_append_right _ (List.mem_append_right _ (List.mem_append_right _ (List.mem_append_right _ (List.mem_append_right _ (List.mem_append_right _ (List.mem_append_right _ (List.mem_append_right _ (List.mem_append_right _ (List.mem_append_right _ (List.mem_append_right _ (List.mem_append_right _ (List.mem_append_right _ (List.mem_append_right _ (List.mem_append_right _ (List.mem_append_right _ (List.mem_append_right _ (List.mem_append_right _ (List.mem_append_right _ (List.mem_append_right _ (List.mem_append_right _ (List.mem_append_right _ (List.mem_append_right _ (List.mem_append_right _ (List.mem_append_right _ (List.mem_append_right _ (List.mem_append_right _ (List.mem_append_right _ (List.mem_append_right _ (List.mem_append_right _ (List.mem_append_right _ (List.mem_append_right _ (List.mem_append_right _ (List.mem_append_right _ (List.mem_append_right _ (List.mem_append_right _ (List.mem_append_right _ (List.mem_append_right _ (List.mem_append_right _ (List.mem_append_right _ (List.mem_append_right _ (List.mem_append_right _ (List.mem_append_right _ (List.mem_append_right _ (List.mem_append_right _ (List.mem_append_right _ (List.mem_append_right _ (List.mem_append_right _ (List.mem_append_right _ (List.mem_append_right _ (List.mem_append_right _ (List.mem_append_right _ (List.mem_append_right _ (List.mem_append_right _ (List.mem_append_right _ (List.mem_append_right _ (List.mem_append_right _ (List.mem_append_right _ (List.mem_append_right _ (List.mem_append_right _ (List.mem_append_right _ (List.mem_append_right _ (List.mem_append_right _ (List.mem_append_right _ (List.mem_append_right _ (List.mem_append_right _ (List.mem_append_right _ (List.mem_append_right _ (h)))))))))))))))))))))))))))))))))))))))))))))))))))))))))))))))))))))))))))))))))))))))))))
theorem mw_1_2 : Cond.initialized RX11 ∈ wsL_law := mr_1 _ (List.mem_of_getElem? (i := 2) rfl)
theorem mw_1_5 : Cond.initialized RX12 ∈ wsL_law := mr_1 _ (List.mem_of_getElem? (i := 5) rfl)
theorem mw_1_15 : Cond.initialized RX10 ∈ wsL_law := mr_1 _ (List.mem_of_getElem? (i := 15) rfl)
theorem mw_1_16 : Cond.fieldLink RX11 10 "CoinPairs" "valley" "LCoinPairs$Valley;" ∈ wsL_law := mr_1 _ (List.mem_of_getElem? (i := 16) rfl)
theorem mw_1_19 : Cond.initialized RX5 ∈ wsL_law := mr_1 _ (List.mem_of_getElem? (i := 19) rfl)
theorem mw_1_20 : Cond.fieldLink RX11 19 "CoinPairs" "now" "LCoinPairs$Now;" ∈ wsL_law := mr_1 _ (List.mem_of_getElem? (i := 20) rfl)
theorem mw_1_21 : Cond.fieldLink RX11 23 "CoinPairs" "before" "LCoinPairs$Now;" ∈ wsL_law := mr_1 _ (List.mem_of_getElem? (i := 21) rfl)
theorem mw_2_0 : Cond.initialized RX6 ∈ wsL_law := mr_2 _ (List.mem_of_getElem? (i := 0) rfl)
theorem mw_2_1 : Cond.fieldLink RX11 29 "CoinPairs" "past" "LCoinPairs$Past;" ∈ wsL_law := mr_2 _ (List.mem_of_getElem? (i := 1) rfl)
theorem mw_2_4 : Cond.initialized RX7 ∈ wsL_law := mr_2 _ (List.mem_of_getElem? (i := 4) rfl)
theorem mw_2_5 : Cond.fieldLink RX11 36 "CoinPairs" "reader" "LCoinPairs$Reader;" ∈ wsL_law := mr_2 _ (List.mem_of_getElem? (i := 5) rfl)
theorem mw_2_8 : Cond.initialized RX0 ∈ wsL_law := mr_2 _ (List.mem_of_getElem? (i := 8) rfl)
theorem mw_2_9 : Cond.fieldLink RX11 45 "CoinPairs" "carriers" "LCoinPairs$Carriers;" ∈ wsL_law := mr_2 _ (List.mem_of_getElem? (i := 9) rfl)
theorem mw_2_12 : Cond.initialized RX4 ∈ wsL_law := mr_2 _ (List.mem_of_getElem? (i := 12) rfl)
theorem mw_2_13 : Cond.fieldLink RX11 54 "CoinPairs" "moves" "LCoinPairs$Moves;" ∈ wsL_law := mr_2 _ (List.mem_of_getElem? (i := 13) rfl)
theorem mw_2_16 : Cond.initialized RX1 ∈ wsL_law := mr_2 _ (List.mem_of_getElem? (i := 16) rfl)
theorem mw_2_17 : Cond.fieldLink RX11 61 "CoinPairs" "company" "LCoinPairs$Company;" ∈ wsL_law := mr_2 _ (List.mem_of_getElem? (i := 17) rfl)
theorem mw_2_20 : Cond.initialized RX8 ∈ wsL_law := mr_2 _ (List.mem_of_getElem? (i := 20) rfl)
theorem mw_2_21 : Cond.fieldLink RX11 70 "CoinPairs" "rims" "LCoinPairs$Rims;" ∈ wsL_law := mr_2 _ (List.mem_of_getElem? (i := 21) rfl)
theorem mw_3_0 : Cond.initialized RX2 ∈ wsL_law := mr_3 _ (List.mem_of_getElem? (i := 0) rfl)
theorem mw_3_1 : Cond.fieldLink RX11 77 "CoinPairs" "games" "LCoinPairs$Games;" ∈ wsL_law := mr_3 _ (List.mem_of_getElem? (i := 1) rfl)
theorem mw_3_3 : Cond.fieldLink RX11 83 "CoinPairs" "trays" "[LCoinPairs$Tray;" ∈ wsL_law := mr_3 _ (List.mem_of_getElem? (i := 3) rfl)
theorem mw_3_4 : Cond.fieldLink RX11 87 "CoinPairs" "imageValleys" "[LCoinPairs$Valley;" ∈ wsL_law := mr_3 _ (List.mem_of_getElem? (i := 4) rfl)
theorem mw_3_5 : Cond.fieldLink RX11 91 "CoinPairs" "imageNows" "[LCoinPairs$Now;" ∈ wsL_law := mr_3 _ (List.mem_of_getElem? (i := 5) rfl)
theorem mw_3_7 : Cond.fieldLink RX11 95 "CoinPairs" "imageMade" "[Z" ∈ wsL_law := mr_3 _ (List.mem_of_getElem? (i := 7) rfl)
theorem mw_3_9 : Cond.initialized RX9 ∈ wsL_law := mr_3 _ (List.mem_of_getElem? (i := 9) rfl)
theorem mw_3_13 : Cond.fieldLink RX10 9 "CoinPairs$Valley" "places" "I" ∈ wsL_law := mr_3 _ (List.mem_of_getElem? (i := 13) rfl)
theorem mw_3_15 : Cond.fieldLink RX10 15 "CoinPairs$Valley" "roadFrom" "[I" ∈ wsL_law := mr_3 _ (List.mem_of_getElem? (i := 15) rfl)
theorem mw_3_16 : Cond.fieldLink RX10 19 "CoinPairs$Valley" "roadTo" "[I" ∈ wsL_law := mr_3 _ (List.mem_of_getElem? (i := 16) rfl)
theorem mw_3_17 : Cond.fieldLink RX10 22 "CoinPairs$Valley" "roadLong" "[I" ∈ wsL_law := mr_3 _ (List.mem_of_getElem? (i := 17) rfl)
theorem mw_3_18 : Cond.fieldLink RX10 25 "CoinPairs$Valley" "home" "[I" ∈ wsL_law := mr_3 _ (List.mem_of_getElem? (i := 18) rfl)
theorem mw_3_19 : Cond.fieldLink RX10 28 "CoinPairs$Valley" "strength" "[I" ∈ wsL_law := mr_3 _ (List.mem_of_getElem? (i := 19) rfl)
theorem mw_3_20 : Cond.fieldLink RX10 31 "CoinPairs$Valley" "feuds" "[I" ∈ wsL_law := mr_3 _ (List.mem_of_getElem? (i := 20) rfl)
theorem mw_3_21 : Cond.fieldLink RX10 34 "CoinPairs$Valley" "coinHome" "[I" ∈ wsL_law := mr_3 _ (List.mem_of_getElem? (i := 21) rfl)
theorem mw_3_22 : Cond.fieldLink RX10 37 "CoinPairs$Valley" "weight" "[I" ∈ wsL_law := mr_3 _ (List.mem_of_getElem? (i := 22) rfl)
theorem mw_3_23 : Cond.fieldLink RX10 40 "CoinPairs$Valley" "worth" "[I" ∈ wsL_law := mr_3 _ (List.mem_of_getElem? (i := 23) rfl)
theorem mw_4_0 : Cond.fieldLink RX10 43 "CoinPairs$Valley" "distances" "[I" ∈ wsL_law := mr_4 _ (List.mem_of_getElem? (i := 0) rfl)
theorem mw_4_3 : Cond.initialized RX3 ∈ wsL_law := mr_4 _ (List.mem_of_getElem? (i := 3) rfl)
theorem mw_4_4 : Cond.fieldLink RX10 49 "CoinPairs$Valley" "laws" "LCoinPairs$Laws;" ∈ wsL_law := mr_4 _ (List.mem_of_getElem? (i := 4) rfl)
theorem mw_4_9 : Cond.fieldLink RX3 9 "CoinPairs$Laws" "code" "[I" ∈ wsL_law := mr_4 _ (List.mem_of_getElem? (i := 9) rfl)
theorem mw_4_10 : Cond.fieldLink RX3 15 "CoinPairs$Laws" "stack" "[I" ∈ wsL_law := mr_4 _ (List.mem_of_getElem? (i := 10) rfl)
theorem mw_4_12 : Cond.instanceMethod yX3_clear ∈ wsL_law := mr_4 _ (List.mem_of_getElem? (i := 12) rfl)
theorem mw_4_13 : Cond.selects RX3 yX3_clear yX3_clear ∈ wsL_law := mr_4 _ (List.mem_of_getElem? (i := 13) rfl)
theorem mw_4_14 : Cond.code yX3_clear cX3_clear 1 none ∈ wsL_law := mr_4 _ (List.mem_of_getElem? (i := 14) rfl)
theorem mw_4_15 : Cond.fieldLink RX3 21 "CoinPairs$Laws" "mayFrom" "I" ∈ wsL_law := mr_4 _ (List.mem_of_getElem? (i := 15) rfl)
theorem mw_4_16 : Cond.fieldLink RX3 25 "CoinPairs$Laws" "mayTo" "I" ∈ wsL_law := mr_4 _ (List.mem_of_getElem? (i := 16) rfl)
theorem mw_4_17 : Cond.fieldLink RX3 28 "CoinPairs$Laws" "wearsFrom" "I" ∈ wsL_law := mr_4 _ (List.mem_of_getElem? (i := 17) rfl)
theorem mw_4_18 : Cond.fieldLink RX3 31 "CoinPairs$Laws" "wearsTo" "I" ∈ wsL_law := mr_4 _ (List.mem_of_getElem? (i := 18) rfl)
theorem mw_4_19 : Cond.fieldLink RX3 34 "CoinPairs$Laws" "length" "I" ∈ wsL_law := mr_4 _ (List.mem_of_getElem? (i := 19) rfl)
theorem mw_4_23 : Cond.fieldLink RX5 9 "CoinPairs$Now" "at" "[I" ∈ wsL_law := mr_4 _ (List.mem_of_getElem? (i := 23) rfl)
theorem mw_5_0 : Cond.fieldLink RX5 15 "CoinPairs$Now" "rim" "[I" ∈ wsL_law := mr_5 _ (List.mem_of_getElem? (i := 0) rfl)
theorem mw_5_1 : Cond.fieldLink RX5 18 "CoinPairs$Now" "feuds" "[I" ∈ wsL_law := mr_5 _ (List.mem_of_getElem? (i := 1) rfl)
theorem mw_5_7 : Cond.fieldLink RX6 11 "CoinPairs$Past" "ring" "[LCoinPairs$Now;" ∈ wsL_law := mr_5 _ (List.mem_of_getElem? (i := 7) rfl)
theorem mw_5_12 : Cond.fieldLink RX7 9 "CoinPairs$Reader" "tape" "[C" ∈ wsL_law := mr_5 _ (List.mem_of_getElem? (i := 12) rfl)
theorem mw_5_14 : Cond.fieldLink RX7 18 "CoinPairs$Reader" "read" "LCoinPairs$Valley;" ∈ wsL_law := mr_5 _ (List.mem_of_getElem? (i := 14) rfl)
theorem mw_5_15 : Cond.fieldLink RX7 22 "CoinPairs$Reader" "faultPlace" "I" ∈ wsL_law := mr_5 _ (List.mem_of_getElem? (i := 15) rfl)
theorem mw_5_20 : Cond.fieldLink RX0 11 "CoinPairs$Carriers" "facts" "[I" ∈ wsL_law := mr_5 _ (List.mem_of_getElem? (i := 20) rfl)
theorem mw_5_21 : Cond.fieldLink RX0 17 "CoinPairs$Carriers" "valley" "LCoinPairs$Valley;" ∈ wsL_law := mr_5 _ (List.mem_of_getElem? (i := 21) rfl)
theorem mw_5_22 : Cond.fieldLink RX0 21 "CoinPairs$Carriers" "now" "LCoinPairs$Now;" ∈ wsL_law := mr_5 _ (List.mem_of_getElem? (i := 22) rfl)
theorem mw_6_3 : Cond.fieldLink RX4 9 "CoinPairs$Moves" "wears" "[I" ∈ wsL_law := mr_6 _ (List.mem_of_getElem? (i := 3) rfl)
theorem mw_6_4 : Cond.fieldLink RX4 15 "CoinPairs$Moves" "many" "[I" ∈ wsL_law := mr_6 _ (List.mem_of_getElem? (i := 4) rfl)
theorem mw_6_5 : Cond.fieldLink RX4 18 "CoinPairs$Moves" "steps" "[I" ∈ wsL_law := mr_6 _ (List.mem_of_getElem? (i := 5) rfl)
theorem mw_6_7 : Cond.fieldLink RX4 21 "CoinPairs$Moves" "ways" "[J" ∈ wsL_law := mr_6 _ (List.mem_of_getElem? (i := 7) rfl)
theorem mw_6_8 : Cond.fieldLink RX4 25 "CoinPairs$Moves" "nextWays" "[J" ∈ wsL_law := mr_6 _ (List.mem_of_getElem? (i := 8) rfl)
theorem mw_6_9 : Cond.fieldLink RX4 28 "CoinPairs$Moves" "toCome" "[I" ∈ wsL_law := mr_6 _ (List.mem_of_getElem? (i := 9) rfl)
theorem mw_6_10 : Cond.fieldLink RX4 31 "CoinPairs$Moves" "toStayOut" "[I" ∈ wsL_law := mr_6 _ (List.mem_of_getElem? (i := 10) rfl)
theorem mw_6_11 : Cond.fieldLink RX4 34 "CoinPairs$Moves" "carriers" "LCoinPairs$Carriers;" ∈ wsL_law := mr_6 _ (List.mem_of_getElem? (i := 11) rfl)
theorem mw_6_16 : Cond.fieldLink RX1 9 "CoinPairs$Company" "most" "[I" ∈ wsL_law := mr_6 _ (List.mem_of_getElem? (i := 16) rfl)
theorem mw_6_17 : Cond.fieldLink RX1 15 "CoinPairs$Company" "partner" "[I" ∈ wsL_law := mr_6 _ (List.mem_of_getElem? (i := 17) rfl)
theorem mw_6_18 : Cond.fieldLink RX1 18 "CoinPairs$Company" "valley" "LCoinPairs$Valley;" ∈ wsL_law := mr_6 _ (List.mem_of_getElem? (i := 18) rfl)
theorem mw_6_19 : Cond.fieldLink RX1 22 "CoinPairs$Company" "now" "LCoinPairs$Now;" ∈ wsL_law := mr_6 _ (List.mem_of_getElem? (i := 19) rfl)
theorem mw_7_0 : Cond.fieldLink RX8 9 "CoinPairs$Rims" "rowsLeft" "[J" ∈ wsL_law := mr_7 _ (List.mem_of_getElem? (i := 0) rfl)
theorem mw_7_1 : Cond.fieldLink RX8 15 "CoinPairs$Rims" "outcomes" "[I" ∈ wsL_law := mr_7 _ (List.mem_of_getElem? (i := 1) rfl)
theorem mw_7_2 : Cond.fieldLink RX8 19 "CoinPairs$Rims" "rimsTold" "[J" ∈ wsL_law := mr_7 _ (List.mem_of_getElem? (i := 2) rfl)
theorem mw_7_3 : Cond.fieldLink RX8 22 "CoinPairs$Rims" "moves" "LCoinPairs$Moves;" ∈ wsL_law := mr_7 _ (List.mem_of_getElem? (i := 3) rfl)
theorem mw_7_5 : Cond.fieldLink RX8 32 "CoinPairs$Rims" "carriers" "LCoinPairs$Carriers;" ∈ wsL_law := mr_7 _ (List.mem_of_getElem? (i := 5) rfl)
theorem mw_7_10 : Cond.fieldLink RX2 9 "CoinPairs$Games" "onward" "[I" ∈ wsL_law := mr_7 _ (List.mem_of_getElem? (i := 10) rfl)
theorem mw_7_11 : Cond.fieldLink RX2 15 "CoinPairs$Games" "chances" "[I" ∈ wsL_law := mr_7 _ (List.mem_of_getElem? (i := 11) rfl)
theorem mw_7_12 : Cond.fieldLink RX2 18 "CoinPairs$Games" "open" "[Z" ∈ wsL_law := mr_7 _ (List.mem_of_getElem? (i := 12) rfl)
theorem mw_7_13 : Cond.fieldLink RX2 22 "CoinPairs$Games" "moves" "LCoinPairs$Moves;" ∈ wsL_law := mr_7 _ (List.mem_of_getElem? (i := 13) rfl)
theorem mw_7_14 : Cond.fieldLink RX2 26 "CoinPairs$Moves" "carriers" "LCoinPairs$Carriers;" ∈ wsL_law := mr_7 _ (List.mem_of_getElem? (i := 14) rfl)
theorem mw_7_16 : Cond.fieldLink RX2 38 "CoinPairs$Games" "valley" "LCoinPairs$Valley;" ∈ wsL_law := mr_7 _ (List.mem_of_getElem? (i := 16) rfl)
theorem mw_7_20 : Cond.fieldLink RX9 9 "CoinPairs$Tray" "numbers" "[J" ∈ wsL_law := mr_7 _ (List.mem_of_getElem? (i := 20) rfl)
theorem mw_7_21 : Cond.fieldLink RX9 15 "CoinPairs$Tray" "sort" "I" ∈ wsL_law := mr_7 _ (List.mem_of_getElem? (i := 21) rfl)
theorem mw_8_2 : Cond.fieldLink RX12 13 "CoinPairsModel" "all" "[I" ∈ wsL_law := mr_8 _ (List.mem_of_getElem? (i := 2) rfl)
theorem mw_8_3 : Cond.fieldLink RX12 17 "CoinPairsModel" "hasImage" "[Z" ∈ wsL_law := mr_8 _ (List.mem_of_getElem? (i := 3) rfl)
theorem mw_8_4 : Cond.fieldLink RX12 21 "CoinPairsModel" "tape" "[I" ∈ wsL_law := mr_8 _ (List.mem_of_getElem? (i := 4) rfl)
theorem mw_8_5 : Cond.fieldLink RX12 24 "CoinPairsModel" "fresh" "[I" ∈ wsL_law := mr_8 _ (List.mem_of_getElem? (i := 5) rfl)
theorem mw_8_6 : Cond.fieldLink RX12 27 "CoinPairsModel" "faultPlace" "I" ∈ wsL_law := mr_8 _ (List.mem_of_getElem? (i := 6) rfl)
theorem mw_8_7 : Cond.fieldLink RX12 30 "CoinPairsModel" "farOf" "[I" ∈ wsL_law := mr_8 _ (List.mem_of_getElem? (i := 7) rfl)
theorem mw_8_8 : Cond.fieldLink RX12 33 "CoinPairsModel" "reckoned" "[I" ∈ wsL_law := mr_8 _ (List.mem_of_getElem? (i := 8) rfl)
theorem mw_8_9 : Cond.fieldLink RX12 36 "CoinPairsModel" "words" "[I" ∈ wsL_law := mr_8 _ (List.mem_of_getElem? (i := 9) rfl)
theorem mw_8_10 : Cond.fieldLink RX12 39 "CoinPairsModel" "was" "[I" ∈ wsL_law := mr_8 _ (List.mem_of_getElem? (i := 10) rfl)
theorem mw_8_11 : Cond.fieldLink RX12 42 "CoinPairsModel" "bears" "[I" ∈ wsL_law := mr_8 _ (List.mem_of_getElem? (i := 11) rfl)
theorem mw_8_12 : Cond.fieldLink RX12 45 "CoinPairsModel" "still" "[I" ∈ wsL_law := mr_8 _ (List.mem_of_getElem? (i := 12) rfl)
theorem mw_8_13 : Cond.fieldLink RX12 48 "CoinPairsModel" "stillOther" "[I" ∈ wsL_law := mr_8 _ (List.mem_of_getElem? (i := 13) rfl)
theorem mw_8_14 : Cond.fieldLink RX12 51 "CoinPairsModel" "many" "[J" ∈ wsL_law := mr_8 _ (List.mem_of_getElem? (i := 14) rfl)
theorem mw_8_15 : Cond.fieldLink RX12 55 "CoinPairsModel" "manyThen" "[J" ∈ wsL_law := mr_8 _ (List.mem_of_getElem? (i := 15) rfl)
theorem mw_8_16 : Cond.fieldLink RX12 58 "CoinPairsModel" "comes" "[I" ∈ wsL_law := mr_8 _ (List.mem_of_getElem? (i := 16) rfl)
theorem mw_8_17 : Cond.fieldLink RX12 61 "CoinPairsModel" "goesAway" "[I" ∈ wsL_law := mr_8 _ (List.mem_of_getElem? (i := 17) rfl)
theorem mw_8_18 : Cond.fieldLink RX12 64 "CoinPairsModel" "pairsIn" "[I" ∈ wsL_law := mr_8 _ (List.mem_of_getElem? (i := 18) rfl)
theorem mw_8_19 : Cond.fieldLink RX12 67 "CoinPairsModel" "on" "[J" ∈ wsL_law := mr_8 _ (List.mem_of_getElem? (i := 19) rfl)
theorem mw_8_20 : Cond.fieldLink RX12 70 "CoinPairsModel" "deeds" "[I" ∈ wsL_law := mr_8 _ (List.mem_of_getElem? (i := 20) rfl)
theorem mw_8_21 : Cond.fieldLink RX12 73 "CoinPairsModel" "often" "[I" ∈ wsL_law := mr_8 _ (List.mem_of_getElem? (i := 21) rfl)
theorem mw_8_22 : Cond.fieldLink RX12 76 "CoinPairsModel" "likely" "[J" ∈ wsL_law := mr_8 _ (List.mem_of_getElem? (i := 22) rfl)
theorem mw_8_23 : Cond.fieldLink RX12 79 "CoinPairsModel" "rowSort" "[I" ∈ wsL_law := mr_8 _ (List.mem_of_getElem? (i := 23) rfl)
theorem mw_9_0 : Cond.fieldLink RX12 82 "CoinPairsModel" "rowMany" "[I" ∈ wsL_law := mr_9 _ (List.mem_of_getElem? (i := 0) rfl)
theorem mw_9_1 : Cond.fieldLink RX12 85 "CoinPairsModel" "numbers" "[J" ∈ wsL_law := mr_9 _ (List.mem_of_getElem? (i := 1) rfl)
theorem mw_9_2 : Cond.methodLink RX12 88 yX12_plain ∈ wsL_law := mr_9 _ (List.mem_of_getElem? (i := 2) rfl)
theorem mw_9_3 : Cond.static yX12_plain ∈ wsL_law := mr_9 _ (List.mem_of_getElem? (i := 3) rfl)
theorem mw_9_4 : Cond.code yX12_plain cX12_plain 2 none ∈ wsL_law := mr_9 _ (List.mem_of_getElem? (i := 4) rfl)
theorem mw_9_9 : Cond.fieldLink RX11 100 "CoinPairs$Reader" "onTape" "I" ∈ wsL_law := mr_9 _ (List.mem_of_getElem? (i := 9) rfl)
theorem mw_9_10 : Cond.methodLink RX11 104 yX7_append ∈ wsL_law := mr_9 _ (List.mem_of_getElem? (i := 10) rfl)
theorem mw_9_11 : Cond.instanceMethod yX7_append ∈ wsL_law := mr_9 _ (List.mem_of_getElem? (i := 11) rfl)
theorem mw_9_12 : Cond.selects RX7 yX7_append yX7_append ∈ wsL_law := mr_9 _ (List.mem_of_getElem? (i := 12) rfl)
theorem mw_9_13 : Cond.code yX7_append cX7_append 3 none ∈ wsL_law := mr_9 _ (List.mem_of_getElem? (i := 13) rfl)
theorem mw_9_14 : Cond.fieldLink RX7 26 "CoinPairs$Reader" "onTape" "I" ∈ wsL_law := mr_9 _ (List.mem_of_getElem? (i := 14) rfl)
theorem mw_9_19 : Cond.fieldLink RX12 1 "CoinPairsModel" "thrown" "I" ∈ wsL_law := mr_9 _ (List.mem_of_getElem? (i := 19) rfl)
theorem mw_9_20 : Cond.fieldLink RX12 92 "CoinPairsModel" "taped" "I" ∈ wsL_law := mr_9 _ (List.mem_of_getElem? (i := 20) rfl)
theorem mw_10_1 : Cond.fieldLink RX11 112 "CoinPairs$Reader" "fault" "I" ∈ wsL_law := mr_10 _ (List.mem_of_getElem? (i := 1) rfl)
theorem mw_10_2 : Cond.fieldLink RX11 115 "CoinPairs$Reader" "read" "LCoinPairs$Valley;" ∈ wsL_law := mr_10 _ (List.mem_of_getElem? (i := 2) rfl)
theorem mw_10_3 : Cond.fieldLink RX11 128 "CoinPairs$Valley" "lines" "I" ∈ wsL_law := mr_10 _ (List.mem_of_getElem? (i := 3) rfl)
theorem mw_10_4 : Cond.methodLink RX11 108 yX7_readText ∈ wsL_law := mr_10 _ (List.mem_of_getElem? (i := 4) rfl)
theorem mw_10_5 : Cond.instanceMethod yX7_readText ∈ wsL_law := mr_10 _ (List.mem_of_getElem? (i := 5) rfl)
theorem mw_10_6 : Cond.selects RX7 yX7_readText yX7_readText ∈ wsL_law := mr_10 _ (List.mem_of_getElem? (i := 6) rfl)
theorem mw_10_7 : Cond.code yX7_readText cX7_readText 4 (some .boolean) ∈ wsL_law := mr_10 _ (List.mem_of_getElem? (i := 7) rfl)
theorem mw_10_8 : Cond.fieldLink RX7 29 "CoinPairs$Reader" "length" "I" ∈ wsL_law := mr_10 _ (List.mem_of_getElem? (i := 8) rfl)
theorem mw_10_9 : Cond.fieldLink RX7 32 "CoinPairs$Reader" "end" "I" ∈ wsL_law := mr_10 _ (List.mem_of_getElem? (i := 9) rfl)
theorem mw_10_10 : Cond.fieldLink RX7 35 "CoinPairs$Reader" "fault" "I" ∈ wsL_law := mr_10 _ (List.mem_of_getElem? (i := 10) rfl)
theorem mw_10_11 : Cond.fieldLink RX7 48 "CoinPairs$Reader" "kind" "I" ∈ wsL_law := mr_10 _ (List.mem_of_getElem? (i := 11) rfl)
theorem mw_10_12 : Cond.methodLink RX7 38 yX10_clear ∈ wsL_law := mr_10 _ (List.mem_of_getElem? (i := 12) rfl)
theorem mw_10_13 : Cond.instanceMethod yX10_clear ∈ wsL_law := mr_10 _ (List.mem_of_getElem? (i := 13) rfl)
theorem mw_10_14 : Cond.selects RX10 yX10_clear yX10_clear ∈ wsL_law := mr_10 _ (List.mem_of_getElem? (i := 14) rfl)
theorem mw_10_15 : Cond.code yX10_clear cX10_clear 1 none ∈ wsL_law := mr_10 _ (List.mem_of_getElem? (i := 15) rfl)
theorem mw_10_16 : Cond.fieldLink RX10 53 "CoinPairs$Valley" "firstHour" "I" ∈ wsL_law := mr_10 _ (List.mem_of_getElem? (i := 16) rfl)
theorem mw_10_17 : Cond.fieldLink RX10 56 "CoinPairs$Valley" "lines" "I" ∈ wsL_law := mr_10 _ (List.mem_of_getElem? (i := 17) rfl)
theorem mw_10_18 : Cond.fieldLink RX10 59 "CoinPairs$Valley" "roads" "I" ∈ wsL_law := mr_10 _ (List.mem_of_getElem? (i := 18) rfl)
theorem mw_10_19 : Cond.fieldLink RX10 62 "CoinPairs$Valley" "people" "I" ∈ wsL_law := mr_10 _ (List.mem_of_getElem? (i := 19) rfl)
theorem mw_10_20 : Cond.fieldLink RX10 65 "CoinPairs$Valley" "coins" "I" ∈ wsL_law := mr_10 _ (List.mem_of_getElem? (i := 20) rfl)
theorem mw_10_21 : Cond.methodLink RX10 68 yJ7_fill_53178 ∈ wsL_law := mr_10 _ (List.mem_of_getElem? (i := 21) rfl)
theorem mw_10_22 : Cond.static yJ7_fill_53178 ∈ wsL_law := mr_10 _ (List.mem_of_getElem? (i := 22) rfl)
theorem mw_10_23 : Cond.initialized RJ7 ∈ wsL_law := mr_10 _ (List.mem_of_getElem? (i := 23) rfl)
theorem mw_11_0 : Cond.code yJ7_fill_53178 cJ7_fill_53178 4 none ∈ wsL_law := mr_11 _ (List.mem_of_getElem? (i := 0) rfl)
theorem mw_11_1 : Cond.methodLink RX10 74 yX3_clear ∈ wsL_law := mr_11 _ (List.mem_of_getElem? (i := 1) rfl)
theorem mw_11_2 : Cond.methodLink RX7 41 yX7_advance ∈ wsL_law := mr_11 _ (List.mem_of_getElem? (i := 2) rfl)
theorem mw_11_3 : Cond.instanceMethod yX7_advance ∈ wsL_law := mr_11 _ (List.mem_of_getElem? (i := 3) rfl)
theorem mw_11_4 : Cond.selects RX7 yX7_advance yX7_advance ∈ wsL_law := mr_11 _ (List.mem_of_getElem? (i := 4) rfl)
theorem mw_11_5 : Cond.code yX7_advance cX7_advance 1 none ∈ wsL_law := mr_11 _ (List.mem_of_getElem? (i := 5) rfl)
theorem mw_11_6 : Cond.fieldLink RX7 248 "CoinPairs$Reader" "start" "I" ∈ wsL_law := mr_11 _ (List.mem_of_getElem? (i := 6) rfl)
theorem mw_11_7 : Cond.fieldLink RX7 236 "CoinPairs$Reader" "value" "I" ∈ wsL_law := mr_11 _ (List.mem_of_getElem? (i := 7) rfl)
theorem mw_11_8 : Cond.methodLink RX7 261 yJ0_indexOf_0f7a4 ∈ wsL_law := mr_11 _ (List.mem_of_getElem? (i := 8) rfl)
theorem mw_11_9 : Cond.instanceMethod yJ0_indexOf_0f7a4 ∈ wsL_law := mr_11 _ (List.mem_of_getElem? (i := 9) rfl)
theorem mw_11_10 : Cond.selects RJ0 yJ0_indexOf_0f7a4 yJ0_indexOf_0f7a4 ∈ wsL_law := mr_11 _ (List.mem_of_getElem? (i := 10) rfl)
theorem mw_11_11 : Cond.initialized RJ0 ∈ wsL_law := mr_11 _ (List.mem_of_getElem? (i := 11) rfl)
theorem mw_11_12 : Cond.code yJ0_indexOf_0f7a4 cJ0_indexOf_0f7a4 2 (some .int) ∈ wsL_law := mr_11 _ (List.mem_of_getElem? (i := 12) rfl)
theorem mw_11_13 : Cond.methodLink RJ0 633 yJ0_indexOf_7cf53 ∈ wsL_law := mr_11 _ (List.mem_of_getElem? (i := 13) rfl)
theorem mw_11_14 : Cond.instanceMethod yJ0_indexOf_7cf53 ∈ wsL_law := mr_11 _ (List.mem_of_getElem? (i := 14) rfl)
theorem mw_11_15 : Cond.selects RJ0 yJ0_indexOf_7cf53 yJ0_indexOf_7cf53 ∈ wsL_law := mr_11 _ (List.mem_of_getElem? (i := 15) rfl)
theorem mw_11_16 : Cond.code yJ0_indexOf_7cf53 cJ0_indexOf_7cf53 3 (some .int) ∈ wsL_law := mr_11 _ (List.mem_of_getElem? (i := 16) rfl)
theorem mw_11_17 : Cond.fieldLink RJ0 9 "java/lang/String" "value" "[B" ∈ wsL_law := mr_11 _ (List.mem_of_getElem? (i := 17) rfl)
theorem mw_11_18 : Cond.methodLink RJ0 492 yJ0_isLatin1_aae02 ∈ wsL_law := mr_11 _ (List.mem_of_getElem? (i := 18) rfl)
theorem mw_11_19 : Cond.instanceMethod yJ0_isLatin1_aae02 ∈ wsL_law := mr_11 _ (List.mem_of_getElem? (i := 19) rfl)
theorem mw_11_20 : Cond.selects RJ0 yJ0_isLatin1_aae02 yJ0_isLatin1_aae02 ∈ wsL_law := mr_11 _ (List.mem_of_getElem? (i := 20) rfl)
theorem mw_11_21 : Cond.code yJ0_isLatin1_aae02 cJ0_isLatin1_aae02 1 (some .boolean) ∈ wsL_law := mr_11 _ (List.mem_of_getElem? (i := 21) rfl)
theorem mw_11_22 : Cond.fieldLink RJ0 38 "java/lang/String" "COMPACT_STRINGS" "Z" ∈ wsL_law := mr_11 _ (List.mem_of_getElem? (i := 22) rfl)
theorem mw_11_23 : Cond.fieldLink RJ0 15 "java/lang/String" "coder" "B" ∈ wsL_law := mr_11 _ (List.mem_of_getElem? (i := 23) rfl)
theorem mw_12_0 : Cond.methodLink RJ0 505 yJ0_length_8abf5 ∈ wsL_law := mr_12 _ (List.mem_of_getElem? (i := 0) rfl)
theorem mw_12_1 : Cond.instanceMethod yJ0_length_8abf5 ∈ wsL_law := mr_12 _ (List.mem_of_getElem? (i := 1) rfl)
theorem mw_12_2 : Cond.selects RJ0 yJ0_length_8abf5 yJ0_length_8abf5 ∈ wsL_law := mr_12 _ (List.mem_of_getElem? (i := 2) rfl)
theorem mw_12_3 : Cond.code yJ0_length_8abf5 cJ0_length_8abf5 1 (some .int) ∈ wsL_law := mr_12 _ (List.mem_of_getElem? (i := 3) rfl)
theorem mw_12_4 : Cond.methodLink RJ0 335 yJ0_coder_7d493 ∈ wsL_law := mr_12 _ (List.mem_of_getElem? (i := 4) rfl)
theorem mw_12_5 : Cond.instanceMethod yJ0_coder_7d493 ∈ wsL_law := mr_12 _ (List.mem_of_getElem? (i := 5) rfl)
theorem mw_12_6 : Cond.selects RJ0 yJ0_coder_7d493 yJ0_coder_7d493 ∈ wsL_law := mr_12 _ (List.mem_of_getElem? (i := 6) rfl)
theorem mw_12_7 : Cond.code yJ0_coder_7d493 cJ0_coder_7d493 1 (some .byte) ∈ wsL_law := mr_12 _ (List.mem_of_getElem? (i := 7) rfl)
theorem mw_12_8 : Cond.methodLink RJ0 637 yJ1_indexOf_4cfef ∈ wsL_law := mr_12 _ (List.mem_of_getElem? (i := 8) rfl)
theorem mw_12_9 : Cond.static yJ1_indexOf_4cfef ∈ wsL_law := mr_12 _ (List.mem_of_getElem? (i := 9) rfl)
theorem mw_12_10 : Cond.initialized RJ1 ∈ wsL_law := mr_12 _ (List.mem_of_getElem? (i := 10) rfl)
theorem mw_12_11 : Cond.code yJ1_indexOf_4cfef cJ1_indexOf_4cfef 4 (some .int) ∈ wsL_law := mr_12 _ (List.mem_of_getElem? (i := 11) rfl)
theorem mw_12_12 : Cond.methodLink RJ1 92 Lib.Math.max.name ∈ wsL_law := mr_12 _ (List.mem_of_getElem? (i := 12) rfl)
theorem mw_12_13 : Cond.static Lib.Math.max.name ∈ wsL_law := mr_12 _ (List.mem_of_getElem? (i := 13) rfl)
theorem mw_12_14 : Cond.initialized "java/lang/Math" ∈ wsL_law := mr_12 _ (List.mem_of_getElem? (i := 14) rfl)
theorem mw_12_15 : Cond.code Lib.Math.max.name Lib.Math.max.code 2 (some .int) ∈ wsL_law := mr_12 _ (List.mem_of_getElem? (i := 15) rfl)
theorem mw_12_16 : Cond.methodLink RJ1 38 Lib.Math.min.name ∈ wsL_law := mr_12 _ (List.mem_of_getElem? (i := 16) rfl)
theorem mw_12_17 : Cond.static Lib.Math.min.name ∈ wsL_law := mr_12 _ (List.mem_of_getElem? (i := 17) rfl)
theorem mw_12_18 : Cond.code Lib.Math.min.name Lib.Math.min.code 2 (some .int) ∈ wsL_law := mr_12 _ (List.mem_of_getElem? (i := 18) rfl)
theorem mw_12_19 : Cond.methodLink RJ1 88 yJ1_canEncode_9a6ad ∈ wsL_law := mr_12 _ (List.mem_of_getElem? (i := 19) rfl)
theorem mw_12_20 : Cond.static yJ1_canEncode_9a6ad ∈ wsL_law := mr_12 _ (List.mem_of_getElem? (i := 20) rfl)
theorem mw_12_21 : Cond.code yJ1_canEncode_9a6ad cJ1_canEncode_9a6ad 1 (some .boolean) ∈ wsL_law := mr_12 _ (List.mem_of_getElem? (i := 21) rfl)
theorem mw_12_22 : Cond.methodLink RJ1 95 yJ1_indexOfChar_4cfef ∈ wsL_law := mr_12 _ (List.mem_of_getElem? (i := 22) rfl)
theorem mw_12_23 : Cond.static yJ1_indexOfChar_4cfef ∈ wsL_law := mr_12 _ (List.mem_of_getElem? (i := 23) rfl)
theorem mw_13_0 : Cond.code yJ1_indexOfChar_4cfef cJ1_indexOfChar_4cfef 6 (some .int) ∈ wsL_law := mr_13 _ (List.mem_of_getElem? (i := 0) rfl)
theorem mw_13_20 : Cond.fieldLink RJ0 1053 "jdk/internal/util/Preconditions" "SIOOBE_FORMATTER" "Ljava/util/function/BiFunction;" ∈ wsL_law := mr_13 _ (List.mem_of_getElem? (i := 20) rfl)
theorem mw_13_23 : Cond.initialized RJ3 ∈ wsL_law := mr_13 _ (List.mem_of_getElem? (i := 23) rfl)
theorem mw_15_1 : Cond.methodLink RX7 44 yX7_readHead ∈ wsL_law := mr_15 _ (List.mem_of_getElem? (i := 1) rfl)
theorem mw_15_2 : Cond.instanceMethod yX7_readHead ∈ wsL_law := mr_15 _ (List.mem_of_getElem? (i := 2) rfl)
theorem mw_15_3 : Cond.selects RX7 yX7_readHead yX7_readHead ∈ wsL_law := mr_15 _ (List.mem_of_getElem? (i := 3) rfl)
theorem mw_15_4 : Cond.code yX7_readHead cX7_readHead 1 (some .boolean) ∈ wsL_law := mr_15 _ (List.mem_of_getElem? (i := 4) rfl)
theorem mw_15_5 : Cond.fieldLink RX7 72 "CoinPairs$Reader" "taken" "I" ∈ wsL_law := mr_15 _ (List.mem_of_getElem? (i := 5) rfl)
theorem mw_15_6 : Cond.fieldLink RX7 75 "CoinPairs$Valley" "places" "I" ∈ wsL_law := mr_15 _ (List.mem_of_getElem? (i := 6) rfl)
theorem mw_15_7 : Cond.fieldLink RX7 79 "CoinPairs$Valley" "firstHour" "I" ∈ wsL_law := mr_15 _ (List.mem_of_getElem? (i := 7) rfl)
theorem mw_15_8 : Cond.methodLink RX7 62 yX7_takeWord ∈ wsL_law := mr_15 _ (List.mem_of_getElem? (i := 8) rfl)
theorem mw_15_9 : Cond.instanceMethod yX7_takeWord ∈ wsL_law := mr_15 _ (List.mem_of_getElem? (i := 9) rfl)
theorem mw_15_10 : Cond.selects RX7 yX7_takeWord yX7_takeWord ∈ wsL_law := mr_15 _ (List.mem_of_getElem? (i := 10) rfl)
theorem mw_15_11 : Cond.code yX7_takeWord cX7_takeWord 2 (some .boolean) ∈ wsL_law := mr_15 _ (List.mem_of_getElem? (i := 11) rfl)
theorem mw_15_12 : Cond.methodLink RX7 91 yX7_isWord ∈ wsL_law := mr_15 _ (List.mem_of_getElem? (i := 12) rfl)
theorem mw_15_13 : Cond.instanceMethod yX7_isWord ∈ wsL_law := mr_15 _ (List.mem_of_getElem? (i := 13) rfl)
theorem mw_15_14 : Cond.selects RX7 yX7_isWord yX7_isWord ∈ wsL_law := mr_15 _ (List.mem_of_getElem? (i := 14) rfl)
theorem mw_15_15 : Cond.code yX7_isWord cX7_isWord 3 (some .boolean) ∈ wsL_law := mr_15 _ (List.mem_of_getElem? (i := 15) rfl)
theorem mw_15_16 : Cond.methodLink RX7 251 yJ0_length_8abf5 ∈ wsL_law := mr_15 _ (List.mem_of_getElem? (i := 16) rfl)
theorem mw_15_17 : Cond.methodLink RX7 255 yJ0_charAt_5068e ∈ wsL_law := mr_15 _ (List.mem_of_getElem? (i := 17) rfl)
theorem mw_15_18 : Cond.instanceMethod yJ0_charAt_5068e ∈ wsL_law := mr_15 _ (List.mem_of_getElem? (i := 18) rfl)
theorem mw_15_19 : Cond.selects RJ0 yJ0_charAt_5068e yJ0_charAt_5068e ∈ wsL_law := mr_15 _ (List.mem_of_getElem? (i := 19) rfl)
theorem mw_15_20 : Cond.code yJ0_charAt_5068e cJ0_charAt_5068e 2 (some .char) ∈ wsL_law := mr_15 _ (List.mem_of_getElem? (i := 20) rfl)
theorem mw_15_21 : Cond.methodLink RJ0 495 yJ1_charAt_3b067 ∈ wsL_law := mr_15 _ (List.mem_of_getElem? (i := 21) rfl)
theorem mw_15_22 : Cond.static yJ1_charAt_3b067 ∈ wsL_law := mr_15 _ (List.mem_of_getElem? (i := 22) rfl)
theorem mw_15_23 : Cond.code yJ1_charAt_3b067 cJ1_charAt_3b067 2 (some .char) ∈ wsL_law := mr_15 _ (List.mem_of_getElem? (i := 23) rfl)
theorem mw_16_0 : Cond.methodLink RJ1 9 yJ0_checkIndex_df160 ∈ wsL_law := mr_16 _ (List.mem_of_getElem? (i := 0) rfl)
theorem mw_16_1 : Cond.static yJ0_checkIndex_df160 ∈ wsL_law := mr_16 _ (List.mem_of_getElem? (i := 1) rfl)
theorem mw_16_2 : Cond.code yJ0_checkIndex_df160 cJ0_checkIndex_df160 2 none ∈ wsL_law := mr_16 _ (List.mem_of_getElem? (i := 2) rfl)
theorem mw_16_3 : Cond.methodLink RJ0 1059 yJ3_checkIndex_8e157 ∈ wsL_law := mr_16 _ (List.mem_of_getElem? (i := 3) rfl)
theorem mw_16_4 : Cond.static yJ3_checkIndex_8e157 ∈ wsL_law := mr_16 _ (List.mem_of_getElem? (i := 4) rfl)
theorem mw_16_5 : Cond.code yJ3_checkIndex_8e157 cJ3_checkIndex_8e157 3 (some .int) ∈ wsL_law := mr_16 _ (List.mem_of_getElem? (i := 5) rfl)
theorem mw_16_13 : Cond.methodLink RX7 122 yX7_refuse ∈ wsL_law := mr_16 _ (List.mem_of_getElem? (i := 13) rfl)
theorem mw_16_14 : Cond.instanceMethod yX7_refuse ∈ wsL_law := mr_16 _ (List.mem_of_getElem? (i := 14) rfl)
theorem mw_16_15 : Cond.selects RX7 yX7_refuse yX7_refuse ∈ wsL_law := mr_16 _ (List.mem_of_getElem? (i := 15) rfl)
theorem mw_16_16 : Cond.code yX7_refuse cX7_refuse 2 (some .boolean) ∈ wsL_law := mr_16 _ (List.mem_of_getElem? (i := 16) rfl)
theorem mw_16_17 : Cond.methodLink RX7 68 yX7_takeNumber ∈ wsL_law := mr_16 _ (List.mem_of_getElem? (i := 17) rfl)
theorem mw_16_18 : Cond.instanceMethod yX7_takeNumber ∈ wsL_law := mr_16 _ (List.mem_of_getElem? (i := 18) rfl)
theorem mw_16_19 : Cond.selects RX7 yX7_takeNumber yX7_takeNumber ∈ wsL_law := mr_16 _ (List.mem_of_getElem? (i := 19) rfl)
theorem mw_16_20 : Cond.code yX7_takeNumber cX7_takeNumber 4 (some .boolean) ∈ wsL_law := mr_16 _ (List.mem_of_getElem? (i := 20) rfl)
theorem mw_16_21 : Cond.methodLink RX7 54 yX7_takeLineEnd ∈ wsL_law := mr_16 _ (List.mem_of_getElem? (i := 21) rfl)
theorem mw_16_22 : Cond.instanceMethod yX7_takeLineEnd ∈ wsL_law := mr_16 _ (List.mem_of_getElem? (i := 22) rfl)
theorem mw_16_23 : Cond.selects RX7 yX7_takeLineEnd yX7_takeLineEnd ∈ wsL_law := mr_16 _ (List.mem_of_getElem? (i := 23) rfl)
theorem mw_17_0 : Cond.code yX7_takeLineEnd cX7_takeLineEnd 1 (some .boolean) ∈ wsL_law := mr_17 _ (List.mem_of_getElem? (i := 0) rfl)
theorem mw_17_1 : Cond.fieldLink RX7 86 "CoinPairs$Valley" "lines" "I" ∈ wsL_law := mr_17 _ (List.mem_of_getElem? (i := 1) rfl)
theorem mw_17_2 : Cond.methodLink RX7 82 yX7_takeSign ∈ wsL_law := mr_17 _ (List.mem_of_getElem? (i := 2) rfl)
theorem mw_17_3 : Cond.instanceMethod yX7_takeSign ∈ wsL_law := mr_17 _ (List.mem_of_getElem? (i := 3) rfl)
theorem mw_17_4 : Cond.selects RX7 yX7_takeSign yX7_takeSign ∈ wsL_law := mr_17 _ (List.mem_of_getElem? (i := 4) rfl)
theorem mw_17_5 : Cond.code yX7_takeSign cX7_takeSign 2 (some .boolean) ∈ wsL_law := mr_17 _ (List.mem_of_getElem? (i := 5) rfl)
theorem mw_17_6 : Cond.methodLink RX7 216 yX7_isSign ∈ wsL_law := mr_17 _ (List.mem_of_getElem? (i := 6) rfl)
theorem mw_17_7 : Cond.instanceMethod yX7_isSign ∈ wsL_law := mr_17 _ (List.mem_of_getElem? (i := 7) rfl)
theorem mw_17_8 : Cond.selects RX7 yX7_isSign yX7_isSign ∈ wsL_law := mr_17 _ (List.mem_of_getElem? (i := 8) rfl)
theorem mw_17_9 : Cond.code yX7_isSign cX7_isSign 2 (some .boolean) ∈ wsL_law := mr_17 _ (List.mem_of_getElem? (i := 9) rfl)
theorem mw_17_10 : Cond.methodLink RX7 51 yX7_readLine ∈ wsL_law := mr_17 _ (List.mem_of_getElem? (i := 10) rfl)
theorem mw_17_11 : Cond.instanceMethod yX7_readLine ∈ wsL_law := mr_17 _ (List.mem_of_getElem? (i := 11) rfl)
theorem mw_17_12 : Cond.selects RX7 yX7_readLine yX7_readLine ∈ wsL_law := mr_17 _ (List.mem_of_getElem? (i := 12) rfl)
theorem mw_17_13 : Cond.code yX7_readLine cX7_readLine 1 (some .boolean) ∈ wsL_law := mr_17 _ (List.mem_of_getElem? (i := 13) rfl)
theorem mw_17_14 : Cond.methodLink RX7 94 yX7_readRoad ∈ wsL_law := mr_17 _ (List.mem_of_getElem? (i := 14) rfl)
theorem mw_17_15 : Cond.instanceMethod yX7_readRoad ∈ wsL_law := mr_17 _ (List.mem_of_getElem? (i := 15) rfl)
theorem mw_17_16 : Cond.selects RX7 yX7_readRoad yX7_readRoad ∈ wsL_law := mr_17 _ (List.mem_of_getElem? (i := 16) rfl)
theorem mw_17_17 : Cond.code yX7_readRoad cX7_readRoad 2 (some .boolean) ∈ wsL_law := mr_17 _ (List.mem_of_getElem? (i := 17) rfl)
theorem mw_17_18 : Cond.fieldLink RX7 126 "CoinPairs$Valley" "roads" "I" ∈ wsL_law := mr_17 _ (List.mem_of_getElem? (i := 18) rfl)
theorem mw_17_19 : Cond.fieldLink RX7 129 "CoinPairs$Valley" "roadFrom" "[I" ∈ wsL_law := mr_17 _ (List.mem_of_getElem? (i := 19) rfl)
theorem mw_17_20 : Cond.fieldLink RX7 133 "CoinPairs$Valley" "roadTo" "[I" ∈ wsL_law := mr_17 _ (List.mem_of_getElem? (i := 20) rfl)
theorem mw_17_21 : Cond.fieldLink RX7 138 "CoinPairs$Valley" "roadLong" "[I" ∈ wsL_law := mr_17 _ (List.mem_of_getElem? (i := 21) rfl)
theorem mw_17_22 : Cond.methodLink RX7 99 yX7_readPerson ∈ wsL_law := mr_17 _ (List.mem_of_getElem? (i := 22) rfl)
theorem mw_17_23 : Cond.instanceMethod yX7_readPerson ∈ wsL_law := mr_17 _ (List.mem_of_getElem? (i := 23) rfl)
theorem mw_18_0 : Cond.selects RX7 yX7_readPerson yX7_readPerson ∈ wsL_law := mr_18 _ (List.mem_of_getElem? (i := 0) rfl)
theorem mw_18_1 : Cond.code yX7_readPerson cX7_readPerson 2 (some .boolean) ∈ wsL_law := mr_18 _ (List.mem_of_getElem? (i := 1) rfl)
theorem mw_18_2 : Cond.fieldLink RX7 141 "CoinPairs$Valley" "people" "I" ∈ wsL_law := mr_18 _ (List.mem_of_getElem? (i := 2) rfl)
theorem mw_18_3 : Cond.fieldLink RX7 146 "CoinPairs$Valley" "home" "[I" ∈ wsL_law := mr_18 _ (List.mem_of_getElem? (i := 3) rfl)
theorem mw_18_4 : Cond.fieldLink RX7 151 "CoinPairs$Valley" "strength" "[I" ∈ wsL_law := mr_18 _ (List.mem_of_getElem? (i := 4) rfl)
theorem mw_18_5 : Cond.methodLink RX7 104 yX7_readQuarrel ∈ wsL_law := mr_18 _ (List.mem_of_getElem? (i := 5) rfl)
theorem mw_18_6 : Cond.instanceMethod yX7_readQuarrel ∈ wsL_law := mr_18 _ (List.mem_of_getElem? (i := 6) rfl)
theorem mw_18_7 : Cond.selects RX7 yX7_readQuarrel yX7_readQuarrel ∈ wsL_law := mr_18 _ (List.mem_of_getElem? (i := 7) rfl)
theorem mw_18_8 : Cond.code yX7_readQuarrel cX7_readQuarrel 2 (some .boolean) ∈ wsL_law := mr_18 _ (List.mem_of_getElem? (i := 8) rfl)
theorem mw_18_9 : Cond.fieldLink RX7 154 "CoinPairs$Valley" "feuds" "[I" ∈ wsL_law := mr_18 _ (List.mem_of_getElem? (i := 9) rfl)
theorem mw_18_10 : Cond.methodLink RX7 109 yX7_readCoin ∈ wsL_law := mr_18 _ (List.mem_of_getElem? (i := 10) rfl)
theorem mw_18_11 : Cond.instanceMethod yX7_readCoin ∈ wsL_law := mr_18 _ (List.mem_of_getElem? (i := 11) rfl)
theorem mw_18_12 : Cond.selects RX7 yX7_readCoin yX7_readCoin ∈ wsL_law := mr_18 _ (List.mem_of_getElem? (i := 12) rfl)
theorem mw_18_13 : Cond.code yX7_readCoin cX7_readCoin 2 (some .boolean) ∈ wsL_law := mr_18 _ (List.mem_of_getElem? (i := 13) rfl)
theorem mw_18_14 : Cond.fieldLink RX7 157 "CoinPairs$Valley" "coins" "I" ∈ wsL_law := mr_18 _ (List.mem_of_getElem? (i := 14) rfl)
theorem mw_18_15 : Cond.fieldLink RX7 160 "CoinPairs$Valley" "coinHome" "[I" ∈ wsL_law := mr_18 _ (List.mem_of_getElem? (i := 15) rfl)
theorem mw_18_16 : Cond.fieldLink RX7 165 "CoinPairs$Valley" "weight" "[I" ∈ wsL_law := mr_18 _ (List.mem_of_getElem? (i := 16) rfl)
theorem mw_18_17 : Cond.fieldLink RX7 169 "CoinPairs$Valley" "worth" "[I" ∈ wsL_law := mr_18 _ (List.mem_of_getElem? (i := 17) rfl)
theorem mw_18_18 : Cond.methodLink RX7 114 yX7_readMay ∈ wsL_law := mr_18 _ (List.mem_of_getElem? (i := 18) rfl)
theorem mw_18_19 : Cond.instanceMethod yX7_readMay ∈ wsL_law := mr_18 _ (List.mem_of_getElem? (i := 19) rfl)
theorem mw_18_20 : Cond.selects RX7 yX7_readMay yX7_readMay ∈ wsL_law := mr_18 _ (List.mem_of_getElem? (i := 20) rfl)
theorem mw_18_21 : Cond.code yX7_readMay cX7_readMay 2 (some .boolean) ∈ wsL_law := mr_18 _ (List.mem_of_getElem? (i := 21) rfl)
theorem mw_18_22 : Cond.fieldLink RX7 171 "CoinPairs$Reader" "inWears" "Z" ∈ wsL_law := mr_18 _ (List.mem_of_getElem? (i := 22) rfl)
theorem mw_18_23 : Cond.fieldLink RX7 175 "CoinPairs$Valley" "laws" "LCoinPairs$Laws;" ∈ wsL_law := mr_18 _ (List.mem_of_getElem? (i := 23) rfl)
theorem mw_19_0 : Cond.methodLink RX7 179 yX3_codeSoFar ∈ wsL_law := mr_19 _ (List.mem_of_getElem? (i := 0) rfl)
theorem mw_19_1 : Cond.instanceMethod yX3_codeSoFar ∈ wsL_law := mr_19 _ (List.mem_of_getElem? (i := 1) rfl)
theorem mw_19_2 : Cond.selects RX3 yX3_codeSoFar yX3_codeSoFar ∈ wsL_law := mr_19 _ (List.mem_of_getElem? (i := 2) rfl)
theorem mw_19_3 : Cond.code yX3_codeSoFar cX3_codeSoFar 1 (some .int) ∈ wsL_law := mr_19 _ (List.mem_of_getElem? (i := 3) rfl)
theorem mw_19_4 : Cond.methodLink RX7 185 yX7_readTruth ∈ wsL_law := mr_19 _ (List.mem_of_getElem? (i := 4) rfl)
theorem mw_19_5 : Cond.instanceMethod yX7_readTruth ∈ wsL_law := mr_19 _ (List.mem_of_getElem? (i := 5) rfl)
theorem mw_19_6 : Cond.selects RX7 yX7_readTruth yX7_readTruth ∈ wsL_law := mr_19 _ (List.mem_of_getElem? (i := 6) rfl)
theorem mw_19_7 : Cond.code yX7_readTruth cX7_readTruth 3 (some .boolean) ∈ wsL_law := mr_19 _ (List.mem_of_getElem? (i := 7) rfl)
theorem mw_19_8 : Cond.methodLink RX7 198 yX7_readBoth ∈ wsL_law := mr_19 _ (List.mem_of_getElem? (i := 8) rfl)
theorem mw_19_9 : Cond.instanceMethod yX7_readBoth ∈ wsL_law := mr_19 _ (List.mem_of_getElem? (i := 9) rfl)
theorem mw_19_10 : Cond.selects RX7 yX7_readBoth yX7_readBoth ∈ wsL_law := mr_19 _ (List.mem_of_getElem? (i := 10) rfl)
theorem mw_19_11 : Cond.methodLink RX7 203 yX3_append ∈ wsL_law := mr_19 _ (List.mem_of_getElem? (i := 11) rfl)
theorem mw_19_12 : Cond.instanceMethod yX3_append ∈ wsL_law := mr_19 _ (List.mem_of_getElem? (i := 12) rfl)
theorem mw_19_13 : Cond.selects RX3 yX3_append yX3_append ∈ wsL_law := mr_19 _ (List.mem_of_getElem? (i := 13) rfl)
theorem mw_19_14 : Cond.code yX3_append cX3_append 2 none ∈ wsL_law := mr_19 _ (List.mem_of_getElem? (i := 14) rfl)
theorem mw_19_15 : Cond.code yX7_readAtom cX7_readAtom 3 (some .boolean) ∈ wsL_law := mr_19 _ (List.mem_of_getElem? (i := 15) rfl)
theorem mw_19_16 : Cond.methodLink RX7 213 yX7_enter ∈ wsL_law := mr_19 _ (List.mem_of_getElem? (i := 16) rfl)
theorem mw_19_17 : Cond.instanceMethod yX7_enter ∈ wsL_law := mr_19 _ (List.mem_of_getElem? (i := 17) rfl)
theorem mw_19_18 : Cond.selects RX7 yX7_enter yX7_enter ∈ wsL_law := mr_19 _ (List.mem_of_getElem? (i := 18) rfl)
theorem mw_19_19 : Cond.code yX7_enter cX7_enter 2 (some .boolean) ∈ wsL_law := mr_19 _ (List.mem_of_getElem? (i := 19) rfl)
theorem mw_19_20 : Cond.methodLink RX7 192 yX7_readSum ∈ wsL_law := mr_19 _ (List.mem_of_getElem? (i := 20) rfl)
theorem mw_19_21 : Cond.instanceMethod yX7_readSum ∈ wsL_law := mr_19 _ (List.mem_of_getElem? (i := 21) rfl)
theorem mw_19_22 : Cond.selects RX7 yX7_readSum yX7_readSum ∈ wsL_law := mr_19 _ (List.mem_of_getElem? (i := 22) rfl)
theorem mw_19_23 : Cond.methodLink RX7 230 yX7_readChoice ∈ wsL_law := mr_19 _ (List.mem_of_getElem? (i := 23) rfl)
theorem mw_20_0 : Cond.instanceMethod yX7_readChoice ∈ wsL_law := mr_20 _ (List.mem_of_getElem? (i := 0) rfl)
theorem mw_20_1 : Cond.selects RX7 yX7_readChoice yX7_readChoice ∈ wsL_law := mr_20 _ (List.mem_of_getElem? (i := 1) rfl)
theorem mw_20_2 : Cond.methodLink RX7 233 yX7_factNamed ∈ wsL_law := mr_20 _ (List.mem_of_getElem? (i := 2) rfl)
theorem mw_20_3 : Cond.instanceMethod yX7_factNamed ∈ wsL_law := mr_20 _ (List.mem_of_getElem? (i := 3) rfl)
theorem mw_20_4 : Cond.selects RX7 yX7_factNamed yX7_factNamed ∈ wsL_law := mr_20 _ (List.mem_of_getElem? (i := 4) rfl)
theorem mw_20_5 : Cond.code yX7_factNamed cX7_factNamed 1 (some .int) ∈ wsL_law := mr_20 _ (List.mem_of_getElem? (i := 5) rfl)
theorem mw_20_6 : Cond.code yX7_readBoth cX7_readBoth 3 (some .boolean) ∈ wsL_law := mr_20 _ (List.mem_of_getElem? (i := 6) rfl)
theorem mw_20_7 : Cond.methodLink RX7 206 yX7_readUnit ∈ wsL_law := mr_20 _ (List.mem_of_getElem? (i := 7) rfl)
theorem mw_20_8 : Cond.instanceMethod yX7_readUnit ∈ wsL_law := mr_20 _ (List.mem_of_getElem? (i := 8) rfl)
theorem mw_20_9 : Cond.selects RX7 yX7_readUnit yX7_readUnit ∈ wsL_law := mr_20 _ (List.mem_of_getElem? (i := 9) rfl)
theorem mw_20_10 : Cond.code yX7_readChoice cX7_readChoice 2 (some .boolean) ∈ wsL_law := mr_20 _ (List.mem_of_getElem? (i := 10) rfl)
theorem mw_20_11 : Cond.code yX7_readComparison cX7_readComparison 3 (some .boolean) ∈ wsL_law := mr_20 _ (List.mem_of_getElem? (i := 11) rfl)
theorem mw_20_12 : Cond.code yX7_readSum cX7_readSum 4 (some .boolean) ∈ wsL_law := mr_20 _ (List.mem_of_getElem? (i := 12) rfl)
theorem mw_20_13 : Cond.methodLink RX7 222 yX7_readTerm ∈ wsL_law := mr_20 _ (List.mem_of_getElem? (i := 13) rfl)
theorem mw_20_14 : Cond.instanceMethod yX7_readTerm ∈ wsL_law := mr_20 _ (List.mem_of_getElem? (i := 14) rfl)
theorem mw_20_15 : Cond.selects RX7 yX7_readTerm yX7_readTerm ∈ wsL_law := mr_20 _ (List.mem_of_getElem? (i := 15) rfl)
theorem mw_20_16 : Cond.code yX7_readTerm cX7_readTerm 3 (some .boolean) ∈ wsL_law := mr_20 _ (List.mem_of_getElem? (i := 16) rfl)
theorem mw_20_17 : Cond.methodLink RX7 225 yX7_readAtom ∈ wsL_law := mr_20 _ (List.mem_of_getElem? (i := 17) rfl)
theorem mw_20_18 : Cond.instanceMethod yX7_readAtom ∈ wsL_law := mr_20 _ (List.mem_of_getElem? (i := 18) rfl)
theorem mw_20_19 : Cond.selects RX7 yX7_readAtom yX7_readAtom ∈ wsL_law := mr_20 _ (List.mem_of_getElem? (i := 19) rfl)
theorem mw_20_20 : Cond.code yX7_readUnit cX7_readUnit 2 (some .boolean) ∈ wsL_law := mr_20 _ (List.mem_of_getElem? (i := 20) rfl)
theorem mw_20_21 : Cond.methodLink RX7 219 yX7_readComparison ∈ wsL_law := mr_20 _ (List.mem_of_getElem? (i := 21) rfl)
theorem mw_20_22 : Cond.instanceMethod yX7_readComparison ∈ wsL_law := mr_20 _ (List.mem_of_getElem? (i := 22) rfl)
theorem mw_20_23 : Cond.selects RX7 yX7_readComparison yX7_readComparison ∈ wsL_law := mr_20 _ (List.mem_of_getElem? (i := 23) rfl)
theorem mw_21_0 : Cond.methodLink RX7 188 yX3_closeMay ∈ wsL_law := mr_21 _ (List.mem_of_getElem? (i := 0) rfl)
theorem mw_21_1 : Cond.instanceMethod yX3_closeMay ∈ wsL_law := mr_21 _ (List.mem_of_getElem? (i := 1) rfl)
theorem mw_21_2 : Cond.selects RX3 yX3_closeMay yX3_closeMay ∈ wsL_law := mr_21 _ (List.mem_of_getElem? (i := 2) rfl)
theorem mw_21_3 : Cond.code yX3_closeMay cX3_closeMay 2 none ∈ wsL_law := mr_21 _ (List.mem_of_getElem? (i := 3) rfl)
theorem mw_21_4 : Cond.methodLink RX7 119 yX7_readWears ∈ wsL_law := mr_21 _ (List.mem_of_getElem? (i := 4) rfl)
theorem mw_21_5 : Cond.instanceMethod yX7_readWears ∈ wsL_law := mr_21 _ (List.mem_of_getElem? (i := 5) rfl)
theorem mw_21_6 : Cond.selects RX7 yX7_readWears yX7_readWears ∈ wsL_law := mr_21 _ (List.mem_of_getElem? (i := 6) rfl)
theorem mw_21_7 : Cond.code yX7_readWears cX7_readWears 2 (some .boolean) ∈ wsL_law := mr_21 _ (List.mem_of_getElem? (i := 7) rfl)
theorem mw_21_8 : Cond.methodLink RX7 195 yX3_closeWears ∈ wsL_law := mr_21 _ (List.mem_of_getElem? (i := 8) rfl)
theorem mw_21_9 : Cond.instanceMethod yX3_closeWears ∈ wsL_law := mr_21 _ (List.mem_of_getElem? (i := 9) rfl)
theorem mw_21_10 : Cond.selects RX3 yX3_closeWears yX3_closeWears ∈ wsL_law := mr_21 _ (List.mem_of_getElem? (i := 10) rfl)
theorem mw_21_11 : Cond.code yX3_closeWears cX3_closeWears 2 none ∈ wsL_law := mr_21 _ (List.mem_of_getElem? (i := 11) rfl)
theorem mw_21_12 : Cond.methodLink RX7 57 yX10_measureDistances ∈ wsL_law := mr_21 _ (List.mem_of_getElem? (i := 12) rfl)
theorem mw_21_13 : Cond.instanceMethod yX10_measureDistances ∈ wsL_law := mr_21 _ (List.mem_of_getElem? (i := 13) rfl)
theorem mw_21_14 : Cond.selects RX10 yX10_measureDistances yX10_measureDistances ∈ wsL_law := mr_21 _ (List.mem_of_getElem? (i := 14) rfl)
theorem mw_21_15 : Cond.code yX10_measureDistances cX10_measureDistances 4 none ∈ wsL_law := mr_21 _ (List.mem_of_getElem? (i := 15) rfl)
theorem mw_21_16 : Cond.methodLink RX10 91 yX10_shorten ∈ wsL_law := mr_21 _ (List.mem_of_getElem? (i := 16) rfl)
theorem mw_21_17 : Cond.instanceMethod yX10_shorten ∈ wsL_law := mr_21 _ (List.mem_of_getElem? (i := 17) rfl)
theorem mw_21_18 : Cond.selects RX10 yX10_shorten yX10_shorten ∈ wsL_law := mr_21 _ (List.mem_of_getElem? (i := 18) rfl)
theorem mw_21_19 : Cond.code yX10_shorten cX10_shorten 4 none ∈ wsL_law := mr_21 _ (List.mem_of_getElem? (i := 19) rfl)
theorem mw_21_20 : Cond.methodLink RX10 95 yX10_distance ∈ wsL_law := mr_21 _ (List.mem_of_getElem? (i := 20) rfl)
theorem mw_21_21 : Cond.instanceMethod yX10_distance ∈ wsL_law := mr_21 _ (List.mem_of_getElem? (i := 21) rfl)
theorem mw_21_22 : Cond.selects RX10 yX10_distance yX10_distance ∈ wsL_law := mr_21 _ (List.mem_of_getElem? (i := 22) rfl)
theorem mw_21_23 : Cond.code yX10_distance cX10_distance 3 (some .int) ∈ wsL_law := mr_21 _ (List.mem_of_getElem? (i := 23) rfl)
theorem mw_22_0 : Cond.methodLink RX11 118 yX10_copyFrom ∈ wsL_law := mr_22 _ (List.mem_of_getElem? (i := 0) rfl)
theorem mw_22_1 : Cond.instanceMethod yX10_copyFrom ∈ wsL_law := mr_22 _ (List.mem_of_getElem? (i := 1) rfl)
theorem mw_22_2 : Cond.selects RX10 yX10_copyFrom yX10_copyFrom ∈ wsL_law := mr_22 _ (List.mem_of_getElem? (i := 2) rfl)
theorem mw_22_3 : Cond.code yX10_copyFrom cX10_copyFrom 2 none ∈ wsL_law := mr_22 _ (List.mem_of_getElem? (i := 3) rfl)
theorem mw_22_4 : Cond.methodLink RX10 77 arraycopyName ∈ wsL_law := mr_22 _ (List.mem_of_getElem? (i := 4) rfl)
theorem mw_22_5 : Cond.native arraycopyName ∈ wsL_law := mr_22 _ (List.mem_of_getElem? (i := 5) rfl)
theorem mw_22_6 : Cond.static arraycopyName ∈ wsL_law := mr_22 _ (List.mem_of_getElem? (i := 6) rfl)
theorem mw_22_7 : Cond.initialized "java/lang/System" ∈ wsL_law := mr_22 _ (List.mem_of_getElem? (i := 7) rfl)
theorem mw_22_8 : Cond.methodLink RX10 83 yX3_copyFrom ∈ wsL_law := mr_22 _ (List.mem_of_getElem? (i := 8) rfl)
theorem mw_22_9 : Cond.instanceMethod yX3_copyFrom ∈ wsL_law := mr_22 _ (List.mem_of_getElem? (i := 9) rfl)
theorem mw_22_10 : Cond.selects RX3 yX3_copyFrom yX3_copyFrom ∈ wsL_law := mr_22 _ (List.mem_of_getElem? (i := 10) rfl)
theorem mw_22_11 : Cond.code yX3_copyFrom cX3_copyFrom 2 none ∈ wsL_law := mr_22 _ (List.mem_of_getElem? (i := 11) rfl)
theorem mw_22_12 : Cond.methodLink RX3 37 arraycopyName ∈ wsL_law := mr_22 _ (List.mem_of_getElem? (i := 12) rfl)
theorem mw_22_13 : Cond.methodLink RX11 122 yX5_begin ∈ wsL_law := mr_22 _ (List.mem_of_getElem? (i := 13) rfl)
theorem mw_22_14 : Cond.instanceMethod yX5_begin ∈ wsL_law := mr_22 _ (List.mem_of_getElem? (i := 14) rfl)
theorem mw_22_15 : Cond.selects RX5 yX5_begin yX5_begin ∈ wsL_law := mr_22 _ (List.mem_of_getElem? (i := 15) rfl)
theorem mw_22_16 : Cond.code yX5_begin cX5_begin 2 none ∈ wsL_law := mr_22 _ (List.mem_of_getElem? (i := 16) rfl)
theorem mw_22_17 : Cond.fieldLink RX5 21 "CoinPairs$Valley" "coinHome" "[I" ∈ wsL_law := mr_22 _ (List.mem_of_getElem? (i := 17) rfl)
theorem mw_22_18 : Cond.methodLink RX5 26 arraycopyName ∈ wsL_law := mr_22 _ (List.mem_of_getElem? (i := 18) rfl)
theorem mw_22_19 : Cond.fieldLink RX5 32 "CoinPairs$Valley" "feuds" "[I" ∈ wsL_law := mr_22 _ (List.mem_of_getElem? (i := 19) rfl)
theorem mw_22_20 : Cond.fieldLink RX5 39 "CoinPairs$Valley" "firstHour" "I" ∈ wsL_law := mr_22 _ (List.mem_of_getElem? (i := 20) rfl)
theorem mw_22_21 : Cond.fieldLink RX5 43 "CoinPairs$Now" "hour" "I" ∈ wsL_law := mr_22 _ (List.mem_of_getElem? (i := 21) rfl)
theorem mw_22_22 : Cond.fieldLink RX5 46 "CoinPairs$Now" "carried" "I" ∈ wsL_law := mr_22 _ (List.mem_of_getElem? (i := 22) rfl)
theorem mw_22_23 : Cond.methodLink RX5 33 yJ7_fill_53178 ∈ wsL_law := mr_22 _ (List.mem_of_getElem? (i := 23) rfl)
theorem mw_23_0 : Cond.methodLink RX11 125 yX6_forget ∈ wsL_law := mr_23 _ (List.mem_of_getElem? (i := 0) rfl)
theorem mw_23_1 : Cond.instanceMethod yX6_forget ∈ wsL_law := mr_23 _ (List.mem_of_getElem? (i := 1) rfl)
theorem mw_23_2 : Cond.selects RX6 yX6_forget yX6_forget ∈ wsL_law := mr_23 _ (List.mem_of_getElem? (i := 2) rfl)
theorem mw_23_3 : Cond.code yX6_forget cX6_forget 1 none ∈ wsL_law := mr_23 _ (List.mem_of_getElem? (i := 3) rfl)
theorem mw_23_4 : Cond.fieldLink RX6 26 "CoinPairs$Past" "size" "I" ∈ wsL_law := mr_23 _ (List.mem_of_getElem? (i := 4) rfl)
theorem mw_23_9 : Cond.fieldLink RX12 95 "CoinPairsModel" "size" "I" ∈ wsL_law := mr_23 _ (List.mem_of_getElem? (i := 9) rfl)
theorem mw_23_10 : Cond.fieldLink RX12 113 "CoinPairsModel" "behind" "I" ∈ wsL_law := mr_23 _ (List.mem_of_getElem? (i := 10) rfl)
theorem mw_23_11 : Cond.fieldLink RX12 138 "CoinPairsModel" "wrong" "I" ∈ wsL_law := mr_23 _ (List.mem_of_getElem? (i := 11) rfl)
theorem mw_23_12 : Cond.fieldLink RX12 120 "CoinPairsModel" "kind" "I" ∈ wsL_law := mr_23 _ (List.mem_of_getElem? (i := 12) rfl)
theorem mw_23_13 : Cond.fieldLink RX12 226 "CoinPairsModel" "faultKind" "I" ∈ wsL_law := mr_23 _ (List.mem_of_getElem? (i := 13) rfl)
theorem mw_23_14 : Cond.fieldLink RX12 141 "CoinPairsModel" "wrongAt" "I" ∈ wsL_law := mr_23 _ (List.mem_of_getElem? (i := 14) rfl)
theorem mw_23_15 : Cond.methodLink RX12 154 yX12_within ∈ wsL_law := mr_23 _ (List.mem_of_getElem? (i := 15) rfl)
theorem mw_23_16 : Cond.static yX12_within ∈ wsL_law := mr_23 _ (List.mem_of_getElem? (i := 16) rfl)
theorem mw_23_17 : Cond.code yX12_within cX12_within 6 (some .boolean) ∈ wsL_law := mr_23 _ (List.mem_of_getElem? (i := 17) rfl)
theorem mw_23_18 : Cond.methodLink RX12 147 yX12_next ∈ wsL_law := mr_23 _ (List.mem_of_getElem? (i := 18) rfl)
theorem mw_23_19 : Cond.instanceMethod yX12_next ∈ wsL_law := mr_23 _ (List.mem_of_getElem? (i := 19) rfl)
theorem mw_23_20 : Cond.selects RX12 yX12_next yX12_next ∈ wsL_law := mr_23 _ (List.mem_of_getElem? (i := 20) rfl)
theorem mw_23_21 : Cond.code yX12_next cX12_next 2 none ∈ wsL_law := mr_23 _ (List.mem_of_getElem? (i := 21) rfl)
theorem mw_23_22 : Cond.fieldLink RX12 110 "CoinPairsModel" "at" "I" ∈ wsL_law := mr_23 _ (List.mem_of_getElem? (i := 22) rfl)
theorem mw_23_23 : Cond.fieldLink RX12 133 "CoinPairsModel" "number" "I" ∈ wsL_law := mr_23 _ (List.mem_of_getElem? (i := 23) rfl)
theorem mw_24_0 : Cond.methodLink RX12 116 yX12_see ∈ wsL_law := mr_24 _ (List.mem_of_getElem? (i := 0) rfl)
theorem mw_24_1 : Cond.instanceMethod yX12_see ∈ wsL_law := mr_24 _ (List.mem_of_getElem? (i := 1) rfl)
theorem mw_24_2 : Cond.selects RX12 yX12_see yX12_see ∈ wsL_law := mr_24 _ (List.mem_of_getElem? (i := 2) rfl)
theorem mw_24_3 : Cond.code yX12_see cX12_see 2 (some .int) ∈ wsL_law := mr_24 _ (List.mem_of_getElem? (i := 3) rfl)
theorem mw_24_4 : Cond.methodLink RX12 123 yX12_isSmall ∈ wsL_law := mr_24 _ (List.mem_of_getElem? (i := 4) rfl)
theorem mw_24_5 : Cond.static yX12_isSmall ∈ wsL_law := mr_24 _ (List.mem_of_getElem? (i := 5) rfl)
theorem mw_24_6 : Cond.code yX12_isSmall cX12_isSmall 1 (some .boolean) ∈ wsL_law := mr_24 _ (List.mem_of_getElem? (i := 6) rfl)
theorem mw_24_7 : Cond.methodLink RX12 127 yX12_keyAt ∈ wsL_law := mr_24 _ (List.mem_of_getElem? (i := 7) rfl)
theorem mw_24_8 : Cond.instanceMethod yX12_keyAt ∈ wsL_law := mr_24 _ (List.mem_of_getElem? (i := 8) rfl)
theorem mw_24_9 : Cond.selects RX12 yX12_keyAt yX12_keyAt ∈ wsL_law := mr_24 _ (List.mem_of_getElem? (i := 9) rfl)
theorem mw_24_10 : Cond.code yX12_keyAt cX12_keyAt 4 (some .int) ∈ wsL_law := mr_24 _ (List.mem_of_getElem? (i := 10) rfl)
theorem mw_24_11 : Cond.methodLink RX12 100 yJ0_length_8abf5 ∈ wsL_law := mr_24 _ (List.mem_of_getElem? (i := 11) rfl)
theorem mw_24_12 : Cond.methodLink RX12 106 yJ0_charAt_5068e ∈ wsL_law := mr_24 _ (List.mem_of_getElem? (i := 12) rfl)
theorem mw_24_13 : Cond.methodLink RX12 130 yX12_isDigit ∈ wsL_law := mr_24 _ (List.mem_of_getElem? (i := 13) rfl)
theorem mw_24_14 : Cond.static yX12_isDigit ∈ wsL_law := mr_24 _ (List.mem_of_getElem? (i := 14) rfl)
theorem mw_24_15 : Cond.code yX12_isDigit cX12_isDigit 1 (some .boolean) ∈ wsL_law := mr_24 _ (List.mem_of_getElem? (i := 15) rfl)
theorem mw_24_16 : Cond.methodLink RX12 173 yX12_eats ∈ wsL_law := mr_24 _ (List.mem_of_getElem? (i := 16) rfl)
theorem mw_24_17 : Cond.instanceMethod yX12_eats ∈ wsL_law := mr_24 _ (List.mem_of_getElem? (i := 17) rfl)
theorem mw_24_18 : Cond.selects RX12 yX12_eats yX12_eats ∈ wsL_law := mr_24 _ (List.mem_of_getElem? (i := 18) rfl)
theorem mw_24_19 : Cond.code yX12_eats cX12_eats 2 (some .boolean) ∈ wsL_law := mr_24 _ (List.mem_of_getElem? (i := 19) rfl)
theorem mw_24_20 : Cond.methodLink RX12 144 yX12_is ∈ wsL_law := mr_24 _ (List.mem_of_getElem? (i := 20) rfl)
theorem mw_24_21 : Cond.instanceMethod yX12_is ∈ wsL_law := mr_24 _ (List.mem_of_getElem? (i := 21) rfl)
theorem mw_24_22 : Cond.selects RX12 yX12_is yX12_is ∈ wsL_law := mr_24 _ (List.mem_of_getElem? (i := 22) rfl)
theorem mw_24_23 : Cond.code yX12_is cX12_is 2 (some .boolean) ∈ wsL_law := mr_24 _ (List.mem_of_getElem? (i := 23) rfl)
theorem mw_25_0 : Cond.methodLink RX12 150 yX12_fails ∈ wsL_law := mr_25 _ (List.mem_of_getElem? (i := 0) rfl)
theorem mw_25_1 : Cond.instanceMethod yX12_fails ∈ wsL_law := mr_25 _ (List.mem_of_getElem? (i := 1) rfl)
theorem mw_25_2 : Cond.selects RX12 yX12_fails yX12_fails ∈ wsL_law := mr_25 _ (List.mem_of_getElem? (i := 2) rfl)
theorem mw_25_3 : Cond.code yX12_fails cX12_fails 2 none ∈ wsL_law := mr_25 _ (List.mem_of_getElem? (i := 3) rfl)
theorem mw_25_4 : Cond.methodLink RX12 201 yX12_named ∈ wsL_law := mr_25 _ (List.mem_of_getElem? (i := 4) rfl)
theorem mw_25_5 : Cond.instanceMethod yX12_named ∈ wsL_law := mr_25 _ (List.mem_of_getElem? (i := 5) rfl)
theorem mw_25_6 : Cond.selects RX12 yX12_named yX12_named ∈ wsL_law := mr_25 _ (List.mem_of_getElem? (i := 6) rfl)
theorem mw_25_7 : Cond.code yX12_named cX12_named 4 (some .int) ∈ wsL_law := mr_25 _ (List.mem_of_getElem? (i := 7) rfl)
theorem mw_25_8 : Cond.methodLink RX12 194 yX12_takes ∈ wsL_law := mr_25 _ (List.mem_of_getElem? (i := 8) rfl)
theorem mw_25_9 : Cond.instanceMethod yX12_takes ∈ wsL_law := mr_25 _ (List.mem_of_getElem? (i := 9) rfl)
theorem mw_25_10 : Cond.selects RX12 yX12_takes yX12_takes ∈ wsL_law := mr_25 _ (List.mem_of_getElem? (i := 10) rfl)
theorem mw_25_11 : Cond.code yX12_takes cX12_takes 4 (some .int) ∈ wsL_law := mr_25 _ (List.mem_of_getElem? (i := 11) rfl)
theorem mw_25_12 : Cond.methodLink RX12 220 yX12_closes ∈ wsL_law := mr_25 _ (List.mem_of_getElem? (i := 12) rfl)
theorem mw_25_13 : Cond.instanceMethod yX12_closes ∈ wsL_law := mr_25 _ (List.mem_of_getElem? (i := 13) rfl)
theorem mw_25_14 : Cond.selects RX12 yX12_closes yX12_closes ∈ wsL_law := mr_25 _ (List.mem_of_getElem? (i := 14) rfl)
theorem mw_25_15 : Cond.code yX12_closes cX12_closes 1 none ∈ wsL_law := mr_25 _ (List.mem_of_getElem? (i := 15) rfl)
theorem mw_25_16 : Cond.methodLink RX12 223 yX12_readLine ∈ wsL_law := mr_25 _ (List.mem_of_getElem? (i := 16) rfl)
theorem mw_25_17 : Cond.instanceMethod yX12_readLine ∈ wsL_law := mr_25 _ (List.mem_of_getElem? (i := 17) rfl)
theorem mw_25_18 : Cond.selects RX12 yX12_readLine yX12_readLine ∈ wsL_law := mr_25 _ (List.mem_of_getElem? (i := 18) rfl)
theorem mw_25_19 : Cond.code yX12_readLine cX12_readLine 1 none ∈ wsL_law := mr_25 _ (List.mem_of_getElem? (i := 19) rfl)
theorem mw_25_20 : Cond.methodLink RX12 205 yX12_readRoad ∈ wsL_law := mr_25 _ (List.mem_of_getElem? (i := 20) rfl)
theorem mw_25_21 : Cond.instanceMethod yX12_readRoad ∈ wsL_law := mr_25 _ (List.mem_of_getElem? (i := 21) rfl)
theorem mw_25_22 : Cond.selects RX12 yX12_readRoad yX12_readRoad ∈ wsL_law := mr_25 _ (List.mem_of_getElem? (i := 22) rfl)
theorem mw_25_23 : Cond.code yX12_readRoad cX12_readRoad 2 none ∈ wsL_law := mr_25 _ (List.mem_of_getElem? (i := 23) rfl)
theorem mw_26_0 : Cond.methodLink RX12 198 yX12_takesOther ∈ wsL_law := mr_26 _ (List.mem_of_getElem? (i := 0) rfl)
theorem mw_26_1 : Cond.instanceMethod yX12_takesOther ∈ wsL_law := mr_26 _ (List.mem_of_getElem? (i := 1) rfl)
theorem mw_26_2 : Cond.selects RX12 yX12_takesOther yX12_takesOther ∈ wsL_law := mr_26 _ (List.mem_of_getElem? (i := 2) rfl)
theorem mw_26_3 : Cond.code yX12_takesOther cX12_takesOther 3 (some .int) ∈ wsL_law := mr_26 _ (List.mem_of_getElem? (i := 3) rfl)
theorem mw_26_4 : Cond.methodLink RX12 208 yX12_readPerson ∈ wsL_law := mr_26 _ (List.mem_of_getElem? (i := 4) rfl)
theorem mw_26_5 : Cond.instanceMethod yX12_readPerson ∈ wsL_law := mr_26 _ (List.mem_of_getElem? (i := 5) rfl)
theorem mw_26_6 : Cond.selects RX12 yX12_readPerson yX12_readPerson ∈ wsL_law := mr_26 _ (List.mem_of_getElem? (i := 6) rfl)
theorem mw_26_7 : Cond.code yX12_readPerson cX12_readPerson 2 none ∈ wsL_law := mr_26 _ (List.mem_of_getElem? (i := 7) rfl)
theorem mw_26_8 : Cond.methodLink RX12 211 yX12_readQuarrel ∈ wsL_law := mr_26 _ (List.mem_of_getElem? (i := 8) rfl)
theorem mw_26_9 : Cond.instanceMethod yX12_readQuarrel ∈ wsL_law := mr_26 _ (List.mem_of_getElem? (i := 9) rfl)
theorem mw_26_10 : Cond.selects RX12 yX12_readQuarrel yX12_readQuarrel ∈ wsL_law := mr_26 _ (List.mem_of_getElem? (i := 10) rfl)
theorem mw_26_11 : Cond.code yX12_readQuarrel cX12_readQuarrel 3 none ∈ wsL_law := mr_26 _ (List.mem_of_getElem? (i := 11) rfl)
theorem mw_26_12 : Cond.methodLink RX12 214 yX12_readCoin ∈ wsL_law := mr_26 _ (List.mem_of_getElem? (i := 12) rfl)
theorem mw_26_13 : Cond.instanceMethod yX12_readCoin ∈ wsL_law := mr_26 _ (List.mem_of_getElem? (i := 13) rfl)
theorem mw_26_14 : Cond.selects RX12 yX12_readCoin yX12_readCoin ∈ wsL_law := mr_26 _ (List.mem_of_getElem? (i := 14) rfl)
theorem mw_26_15 : Cond.code yX12_readCoin cX12_readCoin 2 none ∈ wsL_law := mr_26 _ (List.mem_of_getElem? (i := 15) rfl)
theorem mw_26_16 : Cond.methodLink RX12 217 yX12_readLaw ∈ wsL_law := mr_26 _ (List.mem_of_getElem? (i := 16) rfl)
theorem mw_26_17 : Cond.instanceMethod yX12_readLaw ∈ wsL_law := mr_26 _ (List.mem_of_getElem? (i := 17) rfl)
theorem mw_26_18 : Cond.selects RX12 yX12_readLaw yX12_readLaw ∈ wsL_law := mr_26 _ (List.mem_of_getElem? (i := 18) rfl)
theorem mw_26_19 : Cond.code yX12_readLaw cX12_readLaw 3 none ∈ wsL_law := mr_26 _ (List.mem_of_getElem? (i := 19) rfl)
theorem mw_26_20 : Cond.fieldLink RX12 158 "CoinPairsModel" "reading" "I" ∈ wsL_law := mr_26 _ (List.mem_of_getElem? (i := 20) rfl)
theorem mw_26_21 : Cond.methodLink RX12 170 yX12_readSum ∈ wsL_law := mr_26 _ (List.mem_of_getElem? (i := 21) rfl)
theorem mw_26_22 : Cond.instanceMethod yX12_readSum ∈ wsL_law := mr_26 _ (List.mem_of_getElem? (i := 22) rfl)
theorem mw_26_23 : Cond.selects RX12 yX12_readSum yX12_readSum ∈ wsL_law := mr_26 _ (List.mem_of_getElem? (i := 23) rfl)
theorem mw_27_0 : Cond.code yX12_readSum cX12_readSum 3 none ∈ wsL_law := mr_27 _ (List.mem_of_getElem? (i := 0) rfl)
theorem mw_27_1 : Cond.methodLink RX12 185 yX12_readTerm ∈ wsL_law := mr_27 _ (List.mem_of_getElem? (i := 1) rfl)
theorem mw_27_2 : Cond.instanceMethod yX12_readTerm ∈ wsL_law := mr_27 _ (List.mem_of_getElem? (i := 2) rfl)
theorem mw_27_3 : Cond.selects RX12 yX12_readTerm yX12_readTerm ∈ wsL_law := mr_27 _ (List.mem_of_getElem? (i := 3) rfl)
theorem mw_27_4 : Cond.methodLink RX12 161 yX12_codes ∈ wsL_law := mr_27 _ (List.mem_of_getElem? (i := 4) rfl)
theorem mw_27_5 : Cond.instanceMethod yX12_codes ∈ wsL_law := mr_27 _ (List.mem_of_getElem? (i := 5) rfl)
theorem mw_27_6 : Cond.selects RX12 yX12_codes yX12_codes ∈ wsL_law := mr_27 _ (List.mem_of_getElem? (i := 6) rfl)
theorem mw_27_7 : Cond.code yX12_codes cX12_codes 2 none ∈ wsL_law := mr_27 _ (List.mem_of_getElem? (i := 7) rfl)
theorem mw_27_8 : Cond.code yX12_readAtom cX12_readAtom 2 none ∈ wsL_law := mr_27 _ (List.mem_of_getElem? (i := 8) rfl)
theorem mw_27_9 : Cond.methodLink RX12 164 yX12_wordOf ∈ wsL_law := mr_27 _ (List.mem_of_getElem? (i := 9) rfl)
theorem mw_27_10 : Cond.instanceMethod yX12_wordOf ∈ wsL_law := mr_27 _ (List.mem_of_getElem? (i := 10) rfl)
theorem mw_27_11 : Cond.selects RX12 yX12_wordOf yX12_wordOf ∈ wsL_law := mr_27 _ (List.mem_of_getElem? (i := 11) rfl)
theorem mw_27_12 : Cond.code yX12_wordOf cX12_wordOf 2 (some .int) ∈ wsL_law := mr_27 _ (List.mem_of_getElem? (i := 12) rfl)
theorem mw_27_13 : Cond.methodLink RX12 167 yX12_goesIn ∈ wsL_law := mr_27 _ (List.mem_of_getElem? (i := 13) rfl)
theorem mw_27_14 : Cond.instanceMethod yX12_goesIn ∈ wsL_law := mr_27 _ (List.mem_of_getElem? (i := 14) rfl)
theorem mw_27_15 : Cond.selects RX12 yX12_goesIn yX12_goesIn ∈ wsL_law := mr_27 _ (List.mem_of_getElem? (i := 15) rfl)
theorem mw_27_16 : Cond.code yX12_goesIn cX12_goesIn 2 (some .boolean) ∈ wsL_law := mr_27 _ (List.mem_of_getElem? (i := 16) rfl)
theorem mw_27_17 : Cond.methodLink RX12 176 yX12_readIf ∈ wsL_law := mr_27 _ (List.mem_of_getElem? (i := 17) rfl)
theorem mw_27_18 : Cond.instanceMethod yX12_readIf ∈ wsL_law := mr_27 _ (List.mem_of_getElem? (i := 18) rfl)
theorem mw_27_19 : Cond.selects RX12 yX12_readIf yX12_readIf ∈ wsL_law := mr_27 _ (List.mem_of_getElem? (i := 19) rfl)
theorem mw_27_20 : Cond.code yX12_readBoth cX12_readBoth 2 none ∈ wsL_law := mr_27 _ (List.mem_of_getElem? (i := 20) rfl)
theorem mw_27_21 : Cond.methodLink RX12 188 yX12_readUnit ∈ wsL_law := mr_27 _ (List.mem_of_getElem? (i := 21) rfl)
theorem mw_27_22 : Cond.instanceMethod yX12_readUnit ∈ wsL_law := mr_27 _ (List.mem_of_getElem? (i := 22) rfl)
theorem mw_27_23 : Cond.selects RX12 yX12_readUnit yX12_readUnit ∈ wsL_law := mr_27 _ (List.mem_of_getElem? (i := 23) rfl)
theorem mw_28_0 : Cond.code yX12_readIf cX12_readIf 2 none ∈ wsL_law := mr_28 _ (List.mem_of_getElem? (i := 0) rfl)
theorem mw_28_1 : Cond.methodLink RX12 179 yX12_readTruth ∈ wsL_law := mr_28 _ (List.mem_of_getElem? (i := 1) rfl)
theorem mw_28_2 : Cond.instanceMethod yX12_readTruth ∈ wsL_law := mr_28 _ (List.mem_of_getElem? (i := 2) rfl)
theorem mw_28_3 : Cond.selects RX12 yX12_readTruth yX12_readTruth ∈ wsL_law := mr_28 _ (List.mem_of_getElem? (i := 3) rfl)
theorem mw_28_4 : Cond.code yX12_readTerm cX12_readTerm 2 none ∈ wsL_law := mr_28 _ (List.mem_of_getElem? (i := 4) rfl)
theorem mw_28_5 : Cond.methodLink RX12 182 yX12_readAtom ∈ wsL_law := mr_28 _ (List.mem_of_getElem? (i := 5) rfl)
theorem mw_28_6 : Cond.instanceMethod yX12_readAtom ∈ wsL_law := mr_28 _ (List.mem_of_getElem? (i := 6) rfl)
theorem mw_28_7 : Cond.selects RX12 yX12_readAtom yX12_readAtom ∈ wsL_law := mr_28 _ (List.mem_of_getElem? (i := 7) rfl)
theorem mw_28_8 : Cond.code yX12_readTruth cX12_readTruth 2 none ∈ wsL_law := mr_28 _ (List.mem_of_getElem? (i := 8) rfl)
theorem mw_28_9 : Cond.methodLink RX12 191 yX12_readBoth ∈ wsL_law := mr_28 _ (List.mem_of_getElem? (i := 9) rfl)
theorem mw_28_10 : Cond.instanceMethod yX12_readBoth ∈ wsL_law := mr_28 _ (List.mem_of_getElem? (i := 10) rfl)
theorem mw_28_11 : Cond.selects RX12 yX12_readBoth yX12_readBoth ∈ wsL_law := mr_28 _ (List.mem_of_getElem? (i := 11) rfl)
theorem mw_28_12 : Cond.code yX12_readUnit cX12_readUnit 3 none ∈ wsL_law := mr_28 _ (List.mem_of_getElem? (i := 12) rfl)
theorem mw_28_17 : Cond.fieldLink RX11 131 "CoinPairs$Reader" "faultPlace" "I" ∈ wsL_law := mr_28 _ (List.mem_of_getElem? (i := 17) rfl)
theorem mw_29_2 : Cond.fieldLink RX11 137 "CoinPairs$Valley" "home" "[I" ∈ wsL_law := mr_29 _ (List.mem_of_getElem? (i := 2) rfl)
theorem mw_29_3 : Cond.fieldLink RX11 141 "CoinPairs$Valley" "strength" "[I" ∈ wsL_law := mr_29 _ (List.mem_of_getElem? (i := 3) rfl)
theorem mw_29_4 : Cond.fieldLink RX11 144 "CoinPairs$Now" "feuds" "[I" ∈ wsL_law := mr_29 _ (List.mem_of_getElem? (i := 4) rfl)
theorem mw_29_5 : Cond.methodLink RX11 134 yX10_hasPerson ∈ wsL_law := mr_29 _ (List.mem_of_getElem? (i := 5) rfl)
theorem mw_29_6 : Cond.instanceMethod yX10_hasPerson ∈ wsL_law := mr_29 _ (List.mem_of_getElem? (i := 6) rfl)
theorem mw_29_7 : Cond.selects RX10 yX10_hasPerson yX10_hasPerson ∈ wsL_law := mr_29 _ (List.mem_of_getElem? (i := 7) rfl)
theorem mw_29_8 : Cond.code yX10_hasPerson cX10_hasPerson 2 (some .boolean) ∈ wsL_law := mr_29 _ (List.mem_of_getElem? (i := 8) rfl)
theorem mw_29_13 : Cond.methodLink RX12 272 yX12_isPerson ∈ wsL_law := mr_29 _ (List.mem_of_getElem? (i := 13) rfl)
theorem mw_29_14 : Cond.instanceMethod yX12_isPerson ∈ wsL_law := mr_29 _ (List.mem_of_getElem? (i := 14) rfl)
theorem mw_29_15 : Cond.selects RX12 yX12_isPerson yX12_isPerson ∈ wsL_law := mr_29 _ (List.mem_of_getElem? (i := 15) rfl)
theorem mw_29_16 : Cond.code yX12_isPerson cX12_isPerson 3 (some .boolean) ∈ wsL_law := mr_29 _ (List.mem_of_getElem? (i := 16) rfl)
theorem mw_29_21 : Cond.fieldLink RX11 150 "CoinPairs$Now" "at" "[I" ∈ wsL_law := mr_29 _ (List.mem_of_getElem? (i := 21) rfl)
theorem mw_29_22 : Cond.fieldLink RX11 153 "CoinPairs$Valley" "weight" "[I" ∈ wsL_law := mr_29 _ (List.mem_of_getElem? (i := 22) rfl)
theorem mw_29_23 : Cond.fieldLink RX11 156 "CoinPairs$Valley" "worth" "[I" ∈ wsL_law := mr_29 _ (List.mem_of_getElem? (i := 23) rfl)
theorem mw_30_0 : Cond.fieldLink RX11 159 "CoinPairs$Now" "rim" "[I" ∈ wsL_law := mr_30 _ (List.mem_of_getElem? (i := 0) rfl)
theorem mw_30_1 : Cond.methodLink RX11 147 yX10_hasCoin ∈ wsL_law := mr_30 _ (List.mem_of_getElem? (i := 1) rfl)
theorem mw_30_2 : Cond.instanceMethod yX10_hasCoin ∈ wsL_law := mr_30 _ (List.mem_of_getElem? (i := 2) rfl)
theorem mw_30_3 : Cond.selects RX10 yX10_hasCoin yX10_hasCoin ∈ wsL_law := mr_30 _ (List.mem_of_getElem? (i := 3) rfl)
theorem mw_30_4 : Cond.code yX10_hasCoin cX10_hasCoin 2 (some .boolean) ∈ wsL_law := mr_30 _ (List.mem_of_getElem? (i := 4) rfl)
theorem mw_30_9 : Cond.methodLink RX12 276 yX12_isCoin ∈ wsL_law := mr_30 _ (List.mem_of_getElem? (i := 9) rfl)
theorem mw_30_10 : Cond.instanceMethod yX12_isCoin ∈ wsL_law := mr_30 _ (List.mem_of_getElem? (i := 10) rfl)
theorem mw_30_11 : Cond.selects RX12 yX12_isCoin yX12_isCoin ∈ wsL_law := mr_30 _ (List.mem_of_getElem? (i := 11) rfl)
theorem mw_30_12 : Cond.code yX12_isCoin cX12_isCoin 3 (some .boolean) ∈ wsL_law := mr_30 _ (List.mem_of_getElem? (i := 12) rfl)
theorem mw_30_17 : Cond.fieldLink RX11 162 "CoinPairs$Valley" "roads" "I" ∈ wsL_law := mr_30 _ (List.mem_of_getElem? (i := 17) rfl)
theorem mw_30_18 : Cond.fieldLink RX11 165 "CoinPairs$Valley" "roadFrom" "[I" ∈ wsL_law := mr_30 _ (List.mem_of_getElem? (i := 18) rfl)
theorem mw_30_19 : Cond.fieldLink RX11 168 "CoinPairs$Valley" "roadTo" "[I" ∈ wsL_law := mr_30 _ (List.mem_of_getElem? (i := 19) rfl)
theorem mw_30_20 : Cond.fieldLink RX11 171 "CoinPairs$Valley" "roadLong" "[I" ∈ wsL_law := mr_30 _ (List.mem_of_getElem? (i := 20) rfl)
theorem mw_31_1 : Cond.constantLong RX12 298 (2) ∈ wsL_law := mr_31 _ (List.mem_of_getElem? (i := 1) rfl)
theorem mw_31_2 : Cond.methodLink RX12 295 yX12_isRoad ∈ wsL_law := mr_31 _ (List.mem_of_getElem? (i := 2) rfl)
theorem mw_31_3 : Cond.instanceMethod yX12_isRoad ∈ wsL_law := mr_31 _ (List.mem_of_getElem? (i := 3) rfl)
theorem mw_31_4 : Cond.selects RX12 yX12_isRoad yX12_isRoad ∈ wsL_law := mr_31 _ (List.mem_of_getElem? (i := 4) rfl)
theorem mw_31_5 : Cond.code yX12_isRoad cX12_isRoad 2 (some .boolean) ∈ wsL_law := mr_31 _ (List.mem_of_getElem? (i := 5) rfl)
theorem mw_31_10 : Cond.methodLink RX11 174 yX10_hasPlace ∈ wsL_law := mr_31 _ (List.mem_of_getElem? (i := 10) rfl)
theorem mw_31_11 : Cond.instanceMethod yX10_hasPlace ∈ wsL_law := mr_31 _ (List.mem_of_getElem? (i := 11) rfl)
theorem mw_31_12 : Cond.selects RX10 yX10_hasPlace yX10_hasPlace ∈ wsL_law := mr_31 _ (List.mem_of_getElem? (i := 12) rfl)
theorem mw_31_13 : Cond.code yX10_hasPlace cX10_hasPlace 2 (some .boolean) ∈ wsL_law := mr_31 _ (List.mem_of_getElem? (i := 13) rfl)
theorem mw_31_14 : Cond.methodLink RX11 177 yX10_distance ∈ wsL_law := mr_31 _ (List.mem_of_getElem? (i := 14) rfl)
theorem mw_31_19 : Cond.methodLink RX12 279 yX12_isPlace ∈ wsL_law := mr_31 _ (List.mem_of_getElem? (i := 19) rfl)
theorem mw_31_20 : Cond.instanceMethod yX12_isPlace ∈ wsL_law := mr_31 _ (List.mem_of_getElem? (i := 20) rfl)
theorem mw_31_21 : Cond.selects RX12 yX12_isPlace yX12_isPlace ∈ wsL_law := mr_31 _ (List.mem_of_getElem? (i := 21) rfl)
theorem mw_31_22 : Cond.code yX12_isPlace cX12_isPlace 3 (some .boolean) ∈ wsL_law := mr_31 _ (List.mem_of_getElem? (i := 22) rfl)
theorem mw_31_23 : Cond.methodLink RX12 251 yX12_laysFar ∈ wsL_law := mr_31 _ (List.mem_of_getElem? (i := 23) rfl)
theorem mw_32_0 : Cond.instanceMethod yX12_laysFar ∈ wsL_law := mr_32 _ (List.mem_of_getElem? (i := 0) rfl)
theorem mw_32_1 : Cond.selects RX12 yX12_laysFar yX12_laysFar ∈ wsL_law := mr_32 _ (List.mem_of_getElem? (i := 1) rfl)
theorem mw_32_2 : Cond.code yX12_laysFar cX12_laysFar 4 none ∈ wsL_law := mr_32 _ (List.mem_of_getElem? (i := 2) rfl)
theorem mw_32_3 : Cond.methodLink RX12 237 yX12_longOf ∈ wsL_law := mr_32 _ (List.mem_of_getElem? (i := 3) rfl)
theorem mw_32_4 : Cond.instanceMethod yX12_longOf ∈ wsL_law := mr_32 _ (List.mem_of_getElem? (i := 4) rfl)
theorem mw_32_5 : Cond.selects RX12 yX12_longOf yX12_longOf ∈ wsL_law := mr_32 _ (List.mem_of_getElem? (i := 5) rfl)
theorem mw_32_6 : Cond.code yX12_longOf cX12_longOf 2 (some .int) ∈ wsL_law := mr_32 _ (List.mem_of_getElem? (i := 6) rfl)
theorem mw_32_7 : Cond.methodLink RX12 240 yX12_nearer ∈ wsL_law := mr_32 _ (List.mem_of_getElem? (i := 7) rfl)
theorem mw_32_8 : Cond.instanceMethod yX12_nearer ∈ wsL_law := mr_32 _ (List.mem_of_getElem? (i := 8) rfl)
theorem mw_32_9 : Cond.selects RX12 yX12_nearer yX12_nearer ∈ wsL_law := mr_32 _ (List.mem_of_getElem? (i := 9) rfl)
theorem mw_32_10 : Cond.code yX12_nearer cX12_nearer 4 none ∈ wsL_law := mr_32 _ (List.mem_of_getElem? (i := 10) rfl)
theorem mw_32_15 : Cond.fieldLink RX11 181 "CoinPairs$Now" "hour" "I" ∈ wsL_law := mr_32 _ (List.mem_of_getElem? (i := 15) rfl)
theorem mw_32_16 : Cond.methodLink RX11 184 yX0_wearAt ∈ wsL_law := mr_32 _ (List.mem_of_getElem? (i := 16) rfl)
theorem mw_32_17 : Cond.instanceMethod yX0_wearAt ∈ wsL_law := mr_32 _ (List.mem_of_getElem? (i := 17) rfl)
theorem mw_32_18 : Cond.selects RX0 yX0_wearAt yX0_wearAt ∈ wsL_law := mr_32 _ (List.mem_of_getElem? (i := 18) rfl)
theorem mw_32_19 : Cond.code yX0_wearAt cX0_wearAt 6 (some .int) ∈ wsL_law := mr_32 _ (List.mem_of_getElem? (i := 19) rfl)
theorem mw_32_20 : Cond.fieldLink RX0 38 "CoinPairs$Now" "at" "[I" ∈ wsL_law := mr_32 _ (List.mem_of_getElem? (i := 20) rfl)
theorem mw_32_21 : Cond.methodLink RX0 25 yX0_areTwo ∈ wsL_law := mr_32 _ (List.mem_of_getElem? (i := 21) rfl)
theorem mw_32_22 : Cond.instanceMethod yX0_areTwo ∈ wsL_law := mr_32 _ (List.mem_of_getElem? (i := 22) rfl)
theorem mw_32_23 : Cond.selects RX0 yX0_areTwo yX0_areTwo ∈ wsL_law := mr_32 _ (List.mem_of_getElem? (i := 23) rfl)
theorem mw_33_0 : Cond.code yX0_areTwo cX0_areTwo 3 (some .boolean) ∈ wsL_law := mr_33 _ (List.mem_of_getElem? (i := 0) rfl)
theorem mw_33_1 : Cond.methodLink RX0 94 yX10_hasPerson ∈ wsL_law := mr_33 _ (List.mem_of_getElem? (i := 1) rfl)
theorem mw_33_2 : Cond.methodLink RX0 29 yX10_hasCoin ∈ wsL_law := mr_33 _ (List.mem_of_getElem? (i := 2) rfl)
theorem mw_33_3 : Cond.methodLink RX0 35 yX10_hasPlace ∈ wsL_law := mr_33 _ (List.mem_of_getElem? (i := 3) rfl)
theorem mw_33_4 : Cond.methodLink RX0 43 yX0_wearFrom ∈ wsL_law := mr_33 _ (List.mem_of_getElem? (i := 4) rfl)
theorem mw_33_5 : Cond.instanceMethod yX0_wearFrom ∈ wsL_law := mr_33 _ (List.mem_of_getElem? (i := 5) rfl)
theorem mw_33_6 : Cond.selects RX0 yX0_wearFrom yX0_wearFrom ∈ wsL_law := mr_33 _ (List.mem_of_getElem? (i := 6) rfl)
theorem mw_33_7 : Cond.code yX0_wearFrom cX0_wearFrom 8 (some .int) ∈ wsL_law := mr_33 _ (List.mem_of_getElem? (i := 7) rfl)
theorem mw_33_8 : Cond.fieldLink RX0 50 "CoinPairs$Valley" "laws" "LCoinPairs$Laws;" ∈ wsL_law := mr_33 _ (List.mem_of_getElem? (i := 8) rfl)
theorem mw_33_9 : Cond.methodLink RX0 58 Lib.Math.min.name ∈ wsL_law := mr_33 _ (List.mem_of_getElem? (i := 9) rfl)
theorem mw_33_10 : Cond.methodLink RX0 64 Lib.Math.max.name ∈ wsL_law := mr_33 _ (List.mem_of_getElem? (i := 10) rfl)
theorem mw_33_11 : Cond.methodLink RX0 47 yX0_roadTaken ∈ wsL_law := mr_33 _ (List.mem_of_getElem? (i := 11) rfl)
theorem mw_33_12 : Cond.instanceMethod yX0_roadTaken ∈ wsL_law := mr_33 _ (List.mem_of_getElem? (i := 12) rfl)
theorem mw_33_13 : Cond.selects RX0 yX0_roadTaken yX0_roadTaken ∈ wsL_law := mr_33 _ (List.mem_of_getElem? (i := 13) rfl)
theorem mw_33_14 : Cond.code yX0_roadTaken cX0_roadTaken 8 (some .int) ∈ wsL_law := mr_33 _ (List.mem_of_getElem? (i := 14) rfl)
theorem mw_33_15 : Cond.fieldLink RX0 77 "CoinPairs$Valley" "roads" "I" ∈ wsL_law := mr_33 _ (List.mem_of_getElem? (i := 15) rfl)
theorem mw_33_16 : Cond.fieldLink RX0 85 "CoinPairs$Valley" "roadLong" "[I" ∈ wsL_law := mr_33 _ (List.mem_of_getElem? (i := 16) rfl)
theorem mw_33_17 : Cond.methodLink RX0 67 yX10_joined ∈ wsL_law := mr_33 _ (List.mem_of_getElem? (i := 17) rfl)
theorem mw_33_18 : Cond.instanceMethod yX10_joined ∈ wsL_law := mr_33 _ (List.mem_of_getElem? (i := 18) rfl)
theorem mw_33_19 : Cond.selects RX10 yX10_joined yX10_joined ∈ wsL_law := mr_33 _ (List.mem_of_getElem? (i := 19) rfl)
theorem mw_33_20 : Cond.code yX10_joined cX10_joined 4 (some .boolean) ∈ wsL_law := mr_33 _ (List.mem_of_getElem? (i := 20) rfl)
theorem mw_33_21 : Cond.methodLink RX10 87 yX10_joins ∈ wsL_law := mr_33 _ (List.mem_of_getElem? (i := 21) rfl)
theorem mw_33_22 : Cond.instanceMethod yX10_joins ∈ wsL_law := mr_33 _ (List.mem_of_getElem? (i := 22) rfl)
theorem mw_33_23 : Cond.selects RX10 yX10_joins yX10_joins ∈ wsL_law := mr_33 _ (List.mem_of_getElem? (i := 23) rfl)
theorem mw_34_0 : Cond.code yX10_joins cX10_joins 4 (some .boolean) ∈ wsL_law := mr_34 _ (List.mem_of_getElem? (i := 0) rfl)
theorem mw_34_1 : Cond.methodLink RX0 70 yX5_feuding ∈ wsL_law := mr_34 _ (List.mem_of_getElem? (i := 1) rfl)
theorem mw_34_2 : Cond.instanceMethod yX5_feuding ∈ wsL_law := mr_34 _ (List.mem_of_getElem? (i := 2) rfl)
theorem mw_34_3 : Cond.selects RX5 yX5_feuding yX5_feuding ∈ wsL_law := mr_34 _ (List.mem_of_getElem? (i := 3) rfl)
theorem mw_34_4 : Cond.code yX5_feuding cX5_feuding 3 (some .boolean) ∈ wsL_law := mr_34 _ (List.mem_of_getElem? (i := 4) rfl)
theorem mw_34_5 : Cond.static yX11_isIn ∈ wsL_law := mr_34 _ (List.mem_of_getElem? (i := 5) rfl)
theorem mw_34_6 : Cond.code yX11_isIn cX11_isIn 2 (some .boolean) ∈ wsL_law := mr_34 _ (List.mem_of_getElem? (i := 6) rfl)
theorem mw_34_7 : Cond.methodLink RX0 73 yX0_face ∈ wsL_law := mr_34 _ (List.mem_of_getElem? (i := 7) rfl)
theorem mw_34_8 : Cond.instanceMethod yX0_face ∈ wsL_law := mr_34 _ (List.mem_of_getElem? (i := 8) rfl)
theorem mw_34_9 : Cond.selects RX0 yX0_face yX0_face ∈ wsL_law := mr_34 _ (List.mem_of_getElem? (i := 9) rfl)
theorem mw_34_10 : Cond.code yX0_face cX0_face 6 none ∈ wsL_law := mr_34 _ (List.mem_of_getElem? (i := 10) rfl)
theorem mw_34_11 : Cond.fieldLink RX0 100 "CoinPairs$Valley" "strength" "[I" ∈ wsL_law := mr_34 _ (List.mem_of_getElem? (i := 11) rfl)
theorem mw_34_12 : Cond.fieldLink RX0 103 "CoinPairs$Valley" "weight" "[I" ∈ wsL_law := mr_34 _ (List.mem_of_getElem? (i := 12) rfl)
theorem mw_34_13 : Cond.fieldLink RX0 106 "CoinPairs$Valley" "home" "[I" ∈ wsL_law := mr_34 _ (List.mem_of_getElem? (i := 13) rfl)
theorem mw_34_14 : Cond.methodLink RX0 109 yX10_distance ∈ wsL_law := mr_34 _ (List.mem_of_getElem? (i := 14) rfl)
theorem mw_34_15 : Cond.methodLink RX0 81 yX10_joins ∈ wsL_law := mr_34 _ (List.mem_of_getElem? (i := 15) rfl)
theorem mw_34_16 : Cond.methodLink RX0 54 yX3_reckon ∈ wsL_law := mr_34 _ (List.mem_of_getElem? (i := 16) rfl)
theorem mw_34_17 : Cond.instanceMethod yX3_reckon ∈ wsL_law := mr_34 _ (List.mem_of_getElem? (i := 17) rfl)
theorem mw_34_18 : Cond.selects RX3 yX3_reckon yX3_reckon ∈ wsL_law := mr_34 _ (List.mem_of_getElem? (i := 18) rfl)
theorem mw_34_19 : Cond.code yX3_reckon cX3_reckon 8 (some .int) ∈ wsL_law := mr_34 _ (List.mem_of_getElem? (i := 19) rfl)
theorem mw_34_20 : Cond.methodLink RX3 47 Lib.Math.max.name ∈ wsL_law := mr_34 _ (List.mem_of_getElem? (i := 20) rfl)
theorem mw_34_21 : Cond.methodLink RX3 43 yX3_joinedBy ∈ wsL_law := mr_34 _ (List.mem_of_getElem? (i := 21) rfl)
theorem mw_34_22 : Cond.static yX3_joinedBy ∈ wsL_law := mr_34 _ (List.mem_of_getElem? (i := 22) rfl)
theorem mw_34_23 : Cond.code yX3_joinedBy cX3_joinedBy 1 (some .int) ∈ wsL_law := mr_34 _ (List.mem_of_getElem? (i := 23) rfl)
theorem mw_35_0 : Cond.methodLink RX3 53 yX3_joinAbove ∈ wsL_law := mr_35 _ (List.mem_of_getElem? (i := 0) rfl)
theorem mw_35_1 : Cond.instanceMethod yX3_joinAbove ∈ wsL_law := mr_35 _ (List.mem_of_getElem? (i := 1) rfl)
theorem mw_35_2 : Cond.selects RX3 yX3_joinAbove yX3_joinAbove ∈ wsL_law := mr_35 _ (List.mem_of_getElem? (i := 2) rfl)
theorem mw_35_3 : Cond.code yX3_joinAbove cX3_joinAbove 7 (some .int) ∈ wsL_law := mr_35 _ (List.mem_of_getElem? (i := 3) rfl)
theorem mw_35_4 : Cond.constantLong RX3 56 (-1000000) ∈ wsL_law := mr_35 _ (List.mem_of_getElem? (i := 4) rfl)
theorem mw_35_5 : Cond.constant RX3 58 (-1000000) ∈ wsL_law := mr_35 _ (List.mem_of_getElem? (i := 5) rfl)
theorem mw_35_6 : Cond.constantLong RX3 59 (1000000) ∈ wsL_law := mr_35 _ (List.mem_of_getElem? (i := 6) rfl)
theorem mw_35_7 : Cond.constant RX3 61 (1000000) ∈ wsL_law := mr_35 _ (List.mem_of_getElem? (i := 7) rfl)
theorem mw_35_12 : Cond.methodLink RX12 300 yX12_whyCarry ∈ wsL_law := mr_35 _ (List.mem_of_getElem? (i := 12) rfl)
theorem mw_35_13 : Cond.instanceMethod yX12_whyCarry ∈ wsL_law := mr_35 _ (List.mem_of_getElem? (i := 13) rfl)
theorem mw_35_14 : Cond.selects RX12 yX12_whyCarry yX12_whyCarry ∈ wsL_law := mr_35 _ (List.mem_of_getElem? (i := 14) rfl)
theorem mw_35_15 : Cond.code yX12_whyCarry cX12_whyCarry 6 (some .int) ∈ wsL_law := mr_35 _ (List.mem_of_getElem? (i := 15) rfl)
theorem mw_35_16 : Cond.methodLink RX12 282 yX12_areJoined ∈ wsL_law := mr_35 _ (List.mem_of_getElem? (i := 16) rfl)
theorem mw_35_17 : Cond.instanceMethod yX12_areJoined ∈ wsL_law := mr_35 _ (List.mem_of_getElem? (i := 17) rfl)
theorem mw_35_18 : Cond.selects RX12 yX12_areJoined yX12_areJoined ∈ wsL_law := mr_35 _ (List.mem_of_getElem? (i := 18) rfl)
theorem mw_35_19 : Cond.code yX12_areJoined cX12_areJoined 4 (some .boolean) ∈ wsL_law := mr_35 _ (List.mem_of_getElem? (i := 19) rfl)
theorem mw_35_20 : Cond.methodLink RX12 229 yX12_joins ∈ wsL_law := mr_35 _ (List.mem_of_getElem? (i := 20) rfl)
theorem mw_35_21 : Cond.instanceMethod yX12_joins ∈ wsL_law := mr_35 _ (List.mem_of_getElem? (i := 21) rfl)
theorem mw_35_22 : Cond.selects RX12 yX12_joins yX12_joins ∈ wsL_law := mr_35 _ (List.mem_of_getElem? (i := 22) rfl)
theorem mw_35_23 : Cond.code yX12_joins cX12_joins 6 (some .boolean) ∈ wsL_law := mr_35 _ (List.mem_of_getElem? (i := 23) rfl)
theorem mw_36_0 : Cond.methodLink RX12 264 yX12_haveQuarrelled ∈ wsL_law := mr_36 _ (List.mem_of_getElem? (i := 0) rfl)
theorem mw_36_1 : Cond.instanceMethod yX12_haveQuarrelled ∈ wsL_law := mr_36 _ (List.mem_of_getElem? (i := 1) rfl)
theorem mw_36_2 : Cond.selects RX12 yX12_haveQuarrelled yX12_haveQuarrelled ∈ wsL_law := mr_36 _ (List.mem_of_getElem? (i := 2) rfl)
theorem mw_36_3 : Cond.code yX12_haveQuarrelled cX12_haveQuarrelled 3 (some .boolean) ∈ wsL_law := mr_36 _ (List.mem_of_getElem? (i := 3) rfl)
theorem mw_36_4 : Cond.methodLink RX12 233 yX12_isIn ∈ wsL_law := mr_36 _ (List.mem_of_getElem? (i := 4) rfl)
theorem mw_36_5 : Cond.static yX12_isIn ∈ wsL_law := mr_36 _ (List.mem_of_getElem? (i := 5) rfl)
theorem mw_36_6 : Cond.code yX12_isIn cX12_isIn 3 (some .boolean) ∈ wsL_law := mr_36 _ (List.mem_of_getElem? (i := 6) rfl)
theorem mw_36_7 : Cond.methodLink RX12 285 yX12_laysNow ∈ wsL_law := mr_36 _ (List.mem_of_getElem? (i := 7) rfl)
theorem mw_36_8 : Cond.instanceMethod yX12_laysNow ∈ wsL_law := mr_36 _ (List.mem_of_getElem? (i := 8) rfl)
theorem mw_36_9 : Cond.selects RX12 yX12_laysNow yX12_laysNow ∈ wsL_law := mr_36 _ (List.mem_of_getElem? (i := 9) rfl)
theorem mw_36_10 : Cond.code yX12_laysNow cX12_laysNow 2 none ∈ wsL_law := mr_36 _ (List.mem_of_getElem? (i := 10) rfl)
theorem mw_36_11 : Cond.fieldLink RX12 254 "CoinPairsModel" "hourNow" "I" ∈ wsL_law := mr_36 _ (List.mem_of_getElem? (i := 11) rfl)
theorem mw_36_12 : Cond.methodLink RX12 288 yX12_roadFor ∈ wsL_law := mr_36 _ (List.mem_of_getElem? (i := 12) rfl)
theorem mw_36_13 : Cond.instanceMethod yX12_roadFor ∈ wsL_law := mr_36 _ (List.mem_of_getElem? (i := 13) rfl)
theorem mw_36_14 : Cond.selects RX12 yX12_roadFor yX12_roadFor ∈ wsL_law := mr_36 _ (List.mem_of_getElem? (i := 14) rfl)
theorem mw_36_15 : Cond.code yX12_roadFor cX12_roadFor 7 (some .int) ∈ wsL_law := mr_36 _ (List.mem_of_getElem? (i := 15) rfl)
theorem mw_36_16 : Cond.methodLink RX12 268 yX12_mayBy ∈ wsL_law := mr_36 _ (List.mem_of_getElem? (i := 16) rfl)
theorem mw_36_17 : Cond.instanceMethod yX12_mayBy ∈ wsL_law := mr_36 _ (List.mem_of_getElem? (i := 17) rfl)
theorem mw_36_18 : Cond.selects RX12 yX12_mayBy yX12_mayBy ∈ wsL_law := mr_36 _ (List.mem_of_getElem? (i := 18) rfl)
theorem mw_36_19 : Cond.code yX12_mayBy cX12_mayBy 6 (some .boolean) ∈ wsL_law := mr_36 _ (List.mem_of_getElem? (i := 19) rfl)
theorem mw_36_20 : Cond.methodLink RX12 257 yX12_laysWords ∈ wsL_law := mr_36 _ (List.mem_of_getElem? (i := 20) rfl)
theorem mw_36_21 : Cond.instanceMethod yX12_laysWords ∈ wsL_law := mr_36 _ (List.mem_of_getElem? (i := 21) rfl)
theorem mw_36_22 : Cond.selects RX12 yX12_laysWords yX12_laysWords ∈ wsL_law := mr_36 _ (List.mem_of_getElem? (i := 22) rfl)
theorem mw_36_23 : Cond.code yX12_laysWords cX12_laysWords 8 none ∈ wsL_law := mr_36 _ (List.mem_of_getElem? (i := 23) rfl)
theorem mw_37_0 : Cond.methodLink RX12 261 yX12_reckons ∈ wsL_law := mr_37 _ (List.mem_of_getElem? (i := 0) rfl)
theorem mw_37_1 : Cond.instanceMethod yX12_reckons ∈ wsL_law := mr_37 _ (List.mem_of_getElem? (i := 1) rfl)
theorem mw_37_2 : Cond.selects RX12 yX12_reckons yX12_reckons ∈ wsL_law := mr_37 _ (List.mem_of_getElem? (i := 2) rfl)
theorem mw_37_3 : Cond.code yX12_reckons cX12_reckons 5 (some .int) ∈ wsL_law := mr_37 _ (List.mem_of_getElem? (i := 3) rfl)
theorem mw_37_4 : Cond.methodLink RX12 248 yX12_between ∈ wsL_law := mr_37 _ (List.mem_of_getElem? (i := 4) rfl)
theorem mw_37_5 : Cond.static yX12_between ∈ wsL_law := mr_37 _ (List.mem_of_getElem? (i := 5) rfl)
theorem mw_37_6 : Cond.code yX12_between cX12_between 5 (some .int) ∈ wsL_law := mr_37 _ (List.mem_of_getElem? (i := 6) rfl)
theorem mw_37_7 : Cond.constantLong RX12 244 (1000000) ∈ wsL_law := mr_37 _ (List.mem_of_getElem? (i := 7) rfl)
theorem mw_37_8 : Cond.constantLong RX12 246 (-1000000) ∈ wsL_law := mr_37 _ (List.mem_of_getElem? (i := 8) rfl)
theorem mw_37_17 : Cond.methodLink RX12 303 yX12_wornTo ∈ wsL_law := mr_37 _ (List.mem_of_getElem? (i := 17) rfl)
theorem mw_37_18 : Cond.instanceMethod yX12_wornTo ∈ wsL_law := mr_37 _ (List.mem_of_getElem? (i := 18) rfl)
theorem mw_37_19 : Cond.selects RX12 yX12_wornTo yX12_wornTo ∈ wsL_law := mr_37 _ (List.mem_of_getElem? (i := 19) rfl)
theorem mw_37_20 : Cond.code yX12_wornTo cX12_wornTo 7 (some .int) ∈ wsL_law := mr_37 _ (List.mem_of_getElem? (i := 20) rfl)
theorem mw_37_21 : Cond.methodLink RX12 292 yX12_wearsBy ∈ wsL_law := mr_37 _ (List.mem_of_getElem? (i := 21) rfl)
theorem mw_37_22 : Cond.instanceMethod yX12_wearsBy ∈ wsL_law := mr_37 _ (List.mem_of_getElem? (i := 22) rfl)
theorem mw_37_23 : Cond.selects RX12 yX12_wearsBy yX12_wearsBy ∈ wsL_law := mr_37 _ (List.mem_of_getElem? (i := 23) rfl)
theorem mw_38_0 : Cond.code yX12_wearsBy cX12_wearsBy 7 (some .int) ∈ wsL_law := mr_38 _ (List.mem_of_getElem? (i := 0) rfl)
theorem mw_38_5 : Cond.fieldLink RX11 192 "CoinPairs" "LESSER_ONE" "[I" ∈ wsL_law := mr_38 _ (List.mem_of_getElem? (i := 5) rfl)
theorem mw_38_6 : Cond.fieldLink RX11 195 "CoinPairs" "OTHER_ONE" "[I" ∈ wsL_law := mr_38 _ (List.mem_of_getElem? (i := 6) rfl)
theorem mw_38_7 : Cond.methodLink RX11 188 yX11_coinAndPlace ∈ wsL_law := mr_38 _ (List.mem_of_getElem? (i := 7) rfl)
theorem mw_38_8 : Cond.instanceMethod yX11_coinAndPlace ∈ wsL_law := mr_38 _ (List.mem_of_getElem? (i := 8) rfl)
theorem mw_38_9 : Cond.selects RX11 yX11_coinAndPlace yX11_coinAndPlace ∈ wsL_law := mr_38 _ (List.mem_of_getElem? (i := 9) rfl)
theorem mw_38_10 : Cond.code yX11_coinAndPlace cX11_coinAndPlace 3 (some .boolean) ∈ wsL_law := mr_38 _ (List.mem_of_getElem? (i := 10) rfl)
theorem mw_38_15 : Cond.methodLink RX12 306 yX12_bearersOf ∈ wsL_law := mr_38 _ (List.mem_of_getElem? (i := 15) rfl)
theorem mw_38_16 : Cond.instanceMethod yX12_bearersOf ∈ wsL_law := mr_38 _ (List.mem_of_getElem? (i := 16) rfl)
theorem mw_38_17 : Cond.selects RX12 yX12_bearersOf yX12_bearersOf ∈ wsL_law := mr_38 _ (List.mem_of_getElem? (i := 17) rfl)
theorem mw_38_18 : Cond.code yX12_bearersOf cX12_bearersOf 7 (some .int) ∈ wsL_law := mr_38 _ (List.mem_of_getElem? (i := 18) rfl)
theorem mw_38_23 : Cond.methodLink RX11 198 yX6_keep ∈ wsL_law := mr_38 _ (List.mem_of_getElem? (i := 23) rfl)
theorem mw_39_0 : Cond.instanceMethod yX6_keep ∈ wsL_law := mr_39 _ (List.mem_of_getElem? (i := 0) rfl)
theorem mw_39_1 : Cond.selects RX6 yX6_keep yX6_keep ∈ wsL_law := mr_39 _ (List.mem_of_getElem? (i := 1) rfl)
theorem mw_39_2 : Cond.code yX6_keep cX6_keep 2 none ∈ wsL_law := mr_39 _ (List.mem_of_getElem? (i := 2) rfl)
theorem mw_39_3 : Cond.fieldLink RX6 18 "CoinPairs$Past" "next" "I" ∈ wsL_law := mr_39 _ (List.mem_of_getElem? (i := 3) rfl)
theorem mw_39_4 : Cond.methodLink RX6 29 Lib.Math.min.name ∈ wsL_law := mr_39 _ (List.mem_of_getElem? (i := 4) rfl)
theorem mw_39_5 : Cond.methodLink RX6 22 yX5_copyFrom ∈ wsL_law := mr_39 _ (List.mem_of_getElem? (i := 5) rfl)
theorem mw_39_6 : Cond.instanceMethod yX5_copyFrom ∈ wsL_law := mr_39 _ (List.mem_of_getElem? (i := 6) rfl)
theorem mw_39_7 : Cond.selects RX5 yX5_copyFrom yX5_copyFrom ∈ wsL_law := mr_39 _ (List.mem_of_getElem? (i := 7) rfl)
theorem mw_39_8 : Cond.code yX5_copyFrom cX5_copyFrom 2 none ∈ wsL_law := mr_39 _ (List.mem_of_getElem? (i := 8) rfl)
theorem mw_39_9 : Cond.methodLink RX11 202 yX5_move ∈ wsL_law := mr_39 _ (List.mem_of_getElem? (i := 9) rfl)
theorem mw_39_10 : Cond.instanceMethod yX5_move ∈ wsL_law := mr_39 _ (List.mem_of_getElem? (i := 10) rfl)
theorem mw_39_11 : Cond.selects RX5 yX5_move yX5_move ∈ wsL_law := mr_39 _ (List.mem_of_getElem? (i := 11) rfl)
theorem mw_39_12 : Cond.code yX5_move cX5_move 4 none ∈ wsL_law := mr_39 _ (List.mem_of_getElem? (i := 12) rfl)
theorem mw_39_17 : Cond.methodLink RX12 309 yX12_stores ∈ wsL_law := mr_39 _ (List.mem_of_getElem? (i := 17) rfl)
theorem mw_39_18 : Cond.instanceMethod yX12_stores ∈ wsL_law := mr_39 _ (List.mem_of_getElem? (i := 18) rfl)
theorem mw_39_19 : Cond.selects RX12 yX12_stores yX12_stores ∈ wsL_law := mr_39 _ (List.mem_of_getElem? (i := 19) rfl)
theorem mw_39_20 : Cond.code yX12_stores cX12_stores 2 none ∈ wsL_law := mr_39 _ (List.mem_of_getElem? (i := 20) rfl)
theorem mw_39_21 : Cond.methodLink RX12 312 yX12_goesCarry ∈ wsL_law := mr_39 _ (List.mem_of_getElem? (i := 21) rfl)
theorem mw_39_22 : Cond.instanceMethod yX12_goesCarry ∈ wsL_law := mr_39 _ (List.mem_of_getElem? (i := 22) rfl)
theorem mw_39_23 : Cond.selects RX12 yX12_goesCarry yX12_goesCarry ∈ wsL_law := mr_39 _ (List.mem_of_getElem? (i := 23) rfl)
theorem mw_40_0 : Cond.code yX12_goesCarry cX12_goesCarry 6 (some .int) ∈ wsL_law := mr_40 _ (List.mem_of_getElem? (i := 0) rfl)
theorem mw_40_1 : Cond.methodLink RX12 316 yX12_notes ∈ wsL_law := mr_40 _ (List.mem_of_getElem? (i := 1) rfl)
theorem mw_40_2 : Cond.instanceMethod yX12_notes ∈ wsL_law := mr_40 _ (List.mem_of_getElem? (i := 2) rfl)
theorem mw_40_3 : Cond.selects RX12 yX12_notes yX12_notes ∈ wsL_law := mr_40 _ (List.mem_of_getElem? (i := 3) rfl)
theorem mw_40_4 : Cond.code yX12_notes cX12_notes 2 none ∈ wsL_law := mr_40 _ (List.mem_of_getElem? (i := 4) rfl)
theorem mw_40_9 : Cond.methodLink RX11 206 yX5_copyFrom ∈ wsL_law := mr_40 _ (List.mem_of_getElem? (i := 9) rfl)
theorem mw_40_10 : Cond.methodLink RX11 208 yX0_quarrelNow ∈ wsL_law := mr_40 _ (List.mem_of_getElem? (i := 10) rfl)
theorem mw_40_11 : Cond.instanceMethod yX0_quarrelNow ∈ wsL_law := mr_40 _ (List.mem_of_getElem? (i := 11) rfl)
theorem mw_40_12 : Cond.selects RX0 yX0_quarrelNow yX0_quarrelNow ∈ wsL_law := mr_40 _ (List.mem_of_getElem? (i := 12) rfl)
theorem mw_40_13 : Cond.code yX0_quarrelNow cX0_quarrelNow 3 (some .int) ∈ wsL_law := mr_40 _ (List.mem_of_getElem? (i := 13) rfl)
theorem mw_40_14 : Cond.fieldLink RX0 112 "CoinPairs$Now" "feuds" "[I" ∈ wsL_law := mr_40 _ (List.mem_of_getElem? (i := 14) rfl)
theorem mw_40_15 : Cond.methodLink RX11 211 yX5_feuding ∈ wsL_law := mr_40 _ (List.mem_of_getElem? (i := 15) rfl)
theorem mw_40_20 : Cond.methodLink RX12 319 yX12_areTwo ∈ wsL_law := mr_40 _ (List.mem_of_getElem? (i := 20) rfl)
theorem mw_40_21 : Cond.instanceMethod yX12_areTwo ∈ wsL_law := mr_40 _ (List.mem_of_getElem? (i := 21) rfl)
theorem mw_40_22 : Cond.selects RX12 yX12_areTwo yX12_areTwo ∈ wsL_law := mr_40 _ (List.mem_of_getElem? (i := 22) rfl)
theorem mw_40_23 : Cond.code yX12_areTwo cX12_areTwo 5 (some .boolean) ∈ wsL_law := mr_40 _ (List.mem_of_getElem? (i := 23) rfl)
theorem mw_41_0 : Cond.methodLink RX12 323 yX12_goesQuarrel ∈ wsL_law := mr_41 _ (List.mem_of_getElem? (i := 0) rfl)
theorem mw_41_1 : Cond.instanceMethod yX12_goesQuarrel ∈ wsL_law := mr_41 _ (List.mem_of_getElem? (i := 1) rfl)
theorem mw_41_2 : Cond.selects RX12 yX12_goesQuarrel yX12_goesQuarrel ∈ wsL_law := mr_41 _ (List.mem_of_getElem? (i := 2) rfl)
theorem mw_41_3 : Cond.code yX12_goesQuarrel cX12_goesQuarrel 3 none ∈ wsL_law := mr_41 _ (List.mem_of_getElem? (i := 3) rfl)
theorem mw_41_8 : Cond.methodLink RX11 214 yX0_hourNow ∈ wsL_law := mr_41 _ (List.mem_of_getElem? (i := 8) rfl)
theorem mw_41_9 : Cond.instanceMethod yX0_hourNow ∈ wsL_law := mr_41 _ (List.mem_of_getElem? (i := 9) rfl)
theorem mw_41_10 : Cond.selects RX0 yX0_hourNow yX0_hourNow ∈ wsL_law := mr_41 _ (List.mem_of_getElem? (i := 10) rfl)
theorem mw_41_11 : Cond.code yX0_hourNow cX0_hourNow 2 (some .int) ∈ wsL_law := mr_41 _ (List.mem_of_getElem? (i := 11) rfl)
theorem mw_41_12 : Cond.fieldLink RX0 97 "CoinPairs$Now" "hour" "I" ∈ wsL_law := mr_41 _ (List.mem_of_getElem? (i := 12) rfl)
theorem mw_41_17 : Cond.constantLong RX12 327 (9) ∈ wsL_law := mr_41 _ (List.mem_of_getElem? (i := 17) rfl)
theorem mw_41_22 : Cond.fieldLink RX11 218 "CoinPairs$Past" "size" "I" ∈ wsL_law := mr_41 _ (List.mem_of_getElem? (i := 22) rfl)
theorem mw_41_23 : Cond.methodLink RX11 221 yX6_goBack ∈ wsL_law := mr_41 _ (List.mem_of_getElem? (i := 23) rfl)
theorem mw_42_0 : Cond.instanceMethod yX6_goBack ∈ wsL_law := mr_42 _ (List.mem_of_getElem? (i := 0) rfl)
theorem mw_42_1 : Cond.selects RX6 yX6_goBack yX6_goBack ∈ wsL_law := mr_42 _ (List.mem_of_getElem? (i := 1) rfl)
theorem mw_42_2 : Cond.code yX6_goBack cX6_goBack 3 none ∈ wsL_law := mr_42 _ (List.mem_of_getElem? (i := 2) rfl)
theorem mw_42_3 : Cond.methodLink RX6 35 yJ9_floorMod_7cf53 ∈ wsL_law := mr_42 _ (List.mem_of_getElem? (i := 3) rfl)
theorem mw_42_4 : Cond.static yJ9_floorMod_7cf53 ∈ wsL_law := mr_42 _ (List.mem_of_getElem? (i := 4) rfl)
theorem mw_42_5 : Cond.initialized RJ9 ∈ wsL_law := mr_42 _ (List.mem_of_getElem? (i := 5) rfl)
theorem mw_42_6 : Cond.code yJ9_floorMod_7cf53 cJ9_floorMod_7cf53 3 (some .int) ∈ wsL_law := mr_42 _ (List.mem_of_getElem? (i := 6) rfl)
theorem mw_42_11 : Cond.constantLong RX12 329 (10) ∈ wsL_law := mr_42 _ (List.mem_of_getElem? (i := 11) rfl)
theorem mw_42_16 : Cond.fieldLink RX11 236 "CoinPairs$Tray" "size" "I" ∈ wsL_law := mr_42 _ (List.mem_of_getElem? (i := 16) rfl)
theorem mw_42_17 : Cond.fieldLink RX11 237 "CoinPairs$Tray" "numbers" "[J" ∈ wsL_law := mr_42 _ (List.mem_of_getElem? (i := 17) rfl)
theorem mw_42_18 : Cond.methodLink RX11 225 yX11_hasTray ∈ wsL_law := mr_42 _ (List.mem_of_getElem? (i := 18) rfl)
theorem mw_42_19 : Cond.instanceMethod yX11_hasTray ∈ wsL_law := mr_42 _ (List.mem_of_getElem? (i := 19) rfl)
theorem mw_42_20 : Cond.selects RX11 yX11_hasTray yX11_hasTray ∈ wsL_law := mr_42 _ (List.mem_of_getElem? (i := 20) rfl)
theorem mw_42_21 : Cond.code yX11_hasTray cX11_hasTray 2 (some .boolean) ∈ wsL_law := mr_42 _ (List.mem_of_getElem? (i := 21) rfl)
theorem mw_42_22 : Cond.methodLink RX11 228 yX9_isMissing ∈ wsL_law := mr_42 _ (List.mem_of_getElem? (i := 22) rfl)
theorem mw_42_23 : Cond.instanceMethod yX9_isMissing ∈ wsL_law := mr_42 _ (List.mem_of_getElem? (i := 23) rfl)
theorem mw_43_0 : Cond.selects RX9 yX9_isMissing yX9_isMissing ∈ wsL_law := mr_43 _ (List.mem_of_getElem? (i := 0) rfl)
theorem mw_43_1 : Cond.code yX9_isMissing cX9_isMissing 1 (some .boolean) ∈ wsL_law := mr_43 _ (List.mem_of_getElem? (i := 1) rfl)
theorem mw_43_2 : Cond.methodLink RX11 232 yX11_doAll ∈ wsL_law := mr_43 _ (List.mem_of_getElem? (i := 2) rfl)
theorem mw_43_3 : Cond.instanceMethod yX11_doAll ∈ wsL_law := mr_43 _ (List.mem_of_getElem? (i := 3) rfl)
theorem mw_43_4 : Cond.selects RX11 yX11_doAll yX11_doAll ∈ wsL_law := mr_43 _ (List.mem_of_getElem? (i := 4) rfl)
theorem mw_43_5 : Cond.code yX11_doAll cX11_doAll 3 (some .int) ∈ wsL_law := mr_43 _ (List.mem_of_getElem? (i := 5) rfl)
theorem mw_43_6 : Cond.methodLink RX11 241 yX0_tryDeed ∈ wsL_law := mr_43 _ (List.mem_of_getElem? (i := 6) rfl)
theorem mw_43_7 : Cond.instanceMethod yX0_tryDeed ∈ wsL_law := mr_43 _ (List.mem_of_getElem? (i := 7) rfl)
theorem mw_43_8 : Cond.selects RX0 yX0_tryDeed yX0_tryDeed ∈ wsL_law := mr_43 _ (List.mem_of_getElem? (i := 8) rfl)
theorem mw_43_9 : Cond.code yX0_tryDeed cX0_tryDeed 8 (some .int) ∈ wsL_law := mr_43 _ (List.mem_of_getElem? (i := 9) rfl)
theorem mw_43_10 : Cond.constantLong RX0 115 (10) ∈ wsL_law := mr_43 _ (List.mem_of_getElem? (i := 10) rfl)
theorem mw_43_11 : Cond.constantLong RX0 117 (19) ∈ wsL_law := mr_43 _ (List.mem_of_getElem? (i := 11) rfl)
theorem mw_43_12 : Cond.constantLong RX0 123 (100) ∈ wsL_law := mr_43 _ (List.mem_of_getElem? (i := 12) rfl)
theorem mw_43_13 : Cond.constantLong RX0 125 (199) ∈ wsL_law := mr_43 _ (List.mem_of_getElem? (i := 13) rfl)
theorem mw_43_14 : Cond.constantLong RX0 130 (10000) ∈ wsL_law := mr_43 _ (List.mem_of_getElem? (i := 14) rfl)
theorem mw_43_15 : Cond.constantLong RX0 132 (19999) ∈ wsL_law := mr_43 _ (List.mem_of_getElem? (i := 15) rfl)
theorem mw_43_16 : Cond.methodLink RX0 119 yX0_hourNow ∈ wsL_law := mr_43 _ (List.mem_of_getElem? (i := 16) rfl)
theorem mw_43_17 : Cond.methodLink RX0 127 yX0_quarrelNow ∈ wsL_law := mr_43 _ (List.mem_of_getElem? (i := 17) rfl)
theorem mw_43_18 : Cond.methodLink RX0 134 yX0_wearAt ∈ wsL_law := mr_43 _ (List.mem_of_getElem? (i := 18) rfl)
theorem mw_43_19 : Cond.methodLink RX0 138 yX5_move ∈ wsL_law := mr_43 _ (List.mem_of_getElem? (i := 19) rfl)
theorem mw_43_20 : Cond.methodLink RX11 245 yX5_placesAsDigits ∈ wsL_law := mr_43 _ (List.mem_of_getElem? (i := 20) rfl)
theorem mw_43_21 : Cond.instanceMethod yX5_placesAsDigits ∈ wsL_law := mr_43 _ (List.mem_of_getElem? (i := 21) rfl)
theorem mw_43_22 : Cond.selects RX5 yX5_placesAsDigits yX5_placesAsDigits ∈ wsL_law := mr_43 _ (List.mem_of_getElem? (i := 22) rfl)
theorem mw_43_23 : Cond.code yX5_placesAsDigits cX5_placesAsDigits 3 (some .int) ∈ wsL_law := mr_43 _ (List.mem_of_getElem? (i := 23) rfl)
theorem mw_44_0 : Cond.methodLink RX11 249 yX5_rimsTogether ∈ wsL_law := mr_44 _ (List.mem_of_getElem? (i := 0) rfl)
theorem mw_44_1 : Cond.instanceMethod yX5_rimsTogether ∈ wsL_law := mr_44 _ (List.mem_of_getElem? (i := 1) rfl)
theorem mw_44_2 : Cond.selects RX5 yX5_rimsTogether yX5_rimsTogether ∈ wsL_law := mr_44 _ (List.mem_of_getElem? (i := 2) rfl)
theorem mw_44_3 : Cond.code yX5_rimsTogether cX5_rimsTogether 3 (some .int) ∈ wsL_law := mr_44 _ (List.mem_of_getElem? (i := 3) rfl)
theorem mw_44_8 : Cond.constantLong RX12 354 (3) ∈ wsL_law := mr_44 _ (List.mem_of_getElem? (i := 8) rfl)
theorem mw_44_9 : Cond.fieldLink RX12 344 "CoinPairsModel" "toldWhy" "I" ∈ wsL_law := mr_44 _ (List.mem_of_getElem? (i := 9) rfl)
theorem mw_44_10 : Cond.methodLink RX12 356 yX12_noTray ∈ wsL_law := mr_44 _ (List.mem_of_getElem? (i := 10) rfl)
theorem mw_44_11 : Cond.instanceMethod yX12_noTray ∈ wsL_law := mr_44 _ (List.mem_of_getElem? (i := 11) rfl)
theorem mw_44_12 : Cond.selects RX12 yX12_noTray yX12_noTray ∈ wsL_law := mr_44 _ (List.mem_of_getElem? (i := 12) rfl)
theorem mw_44_13 : Cond.code yX12_noTray cX12_noTray 2 (some .int) ∈ wsL_law := mr_44 _ (List.mem_of_getElem? (i := 13) rfl)
theorem mw_44_14 : Cond.methodLink RX12 359 yX12_tells ∈ wsL_law := mr_44 _ (List.mem_of_getElem? (i := 14) rfl)
theorem mw_44_15 : Cond.instanceMethod yX12_tells ∈ wsL_law := mr_44 _ (List.mem_of_getElem? (i := 15) rfl)
theorem mw_44_16 : Cond.selects RX12 yX12_tells yX12_tells ∈ wsL_law := mr_44 _ (List.mem_of_getElem? (i := 16) rfl)
theorem mw_44_17 : Cond.code yX12_tells cX12_tells 3 (some .int) ∈ wsL_law := mr_44 _ (List.mem_of_getElem? (i := 17) rfl)
theorem mw_44_18 : Cond.methodLink RX12 347 yX12_whyNot ∈ wsL_law := mr_44 _ (List.mem_of_getElem? (i := 18) rfl)
theorem mw_44_19 : Cond.instanceMethod yX12_whyNot ∈ wsL_law := mr_44 _ (List.mem_of_getElem? (i := 19) rfl)
theorem mw_44_20 : Cond.selects RX12 yX12_whyNot yX12_whyNot ∈ wsL_law := mr_44 _ (List.mem_of_getElem? (i := 20) rfl)
theorem mw_44_21 : Cond.code yX12_whyNot cX12_whyNot 3 (some .int) ∈ wsL_law := mr_44 _ (List.mem_of_getElem? (i := 21) rfl)
theorem mw_44_22 : Cond.constantLong RX12 331 (19) ∈ wsL_law := mr_44 _ (List.mem_of_getElem? (i := 22) rfl)
theorem mw_44_23 : Cond.constantLong RX12 333 (100) ∈ wsL_law := mr_44 _ (List.mem_of_getElem? (i := 23) rfl)
theorem mw_45_0 : Cond.constantLong RX12 335 (199) ∈ wsL_law := mr_45 _ (List.mem_of_getElem? (i := 0) rfl)
theorem mw_45_1 : Cond.constantLong RX12 337 (10000) ∈ wsL_law := mr_45 _ (List.mem_of_getElem? (i := 1) rfl)
theorem mw_45_2 : Cond.constantLong RX12 339 (19999) ∈ wsL_law := mr_45 _ (List.mem_of_getElem? (i := 2) rfl)
theorem mw_45_3 : Cond.methodLink RX12 341 yX12_whyTold ∈ wsL_law := mr_45 _ (List.mem_of_getElem? (i := 3) rfl)
theorem mw_45_4 : Cond.instanceMethod yX12_whyTold ∈ wsL_law := mr_45 _ (List.mem_of_getElem? (i := 4) rfl)
theorem mw_45_5 : Cond.selects RX12 yX12_whyTold yX12_whyTold ∈ wsL_law := mr_45 _ (List.mem_of_getElem? (i := 5) rfl)
theorem mw_45_6 : Cond.code yX12_whyTold cX12_whyTold 5 (some .int) ∈ wsL_law := mr_45 _ (List.mem_of_getElem? (i := 6) rfl)
theorem mw_45_7 : Cond.methodLink RX12 351 yX12_does ∈ wsL_law := mr_45 _ (List.mem_of_getElem? (i := 7) rfl)
theorem mw_45_8 : Cond.instanceMethod yX12_does ∈ wsL_law := mr_45 _ (List.mem_of_getElem? (i := 8) rfl)
theorem mw_45_9 : Cond.selects RX12 yX12_does yX12_does ∈ wsL_law := mr_45 _ (List.mem_of_getElem? (i := 9) rfl)
theorem mw_45_10 : Cond.code yX12_does cX12_does 2 none ∈ wsL_law := mr_45 _ (List.mem_of_getElem? (i := 10) rfl)
theorem mw_45_11 : Cond.methodLink RX12 362 yX12_wornSum ∈ wsL_law := mr_45 _ (List.mem_of_getElem? (i := 11) rfl)
theorem mw_45_12 : Cond.instanceMethod yX12_wornSum ∈ wsL_law := mr_45 _ (List.mem_of_getElem? (i := 12) rfl)
theorem mw_45_13 : Cond.selects RX12 yX12_wornSum yX12_wornSum ∈ wsL_law := mr_45 _ (List.mem_of_getElem? (i := 13) rfl)
theorem mw_45_14 : Cond.code yX12_wornSum cX12_wornSum 3 (some .int) ∈ wsL_law := mr_45 _ (List.mem_of_getElem? (i := 14) rfl)
theorem mw_45_15 : Cond.methodLink RX12 365 yX12_isAgain ∈ wsL_law := mr_45 _ (List.mem_of_getElem? (i := 15) rfl)
theorem mw_45_16 : Cond.instanceMethod yX12_isAgain ∈ wsL_law := mr_45 _ (List.mem_of_getElem? (i := 16) rfl)
theorem mw_45_17 : Cond.selects RX12 yX12_isAgain yX12_isAgain ∈ wsL_law := mr_45 _ (List.mem_of_getElem? (i := 17) rfl)
theorem mw_45_18 : Cond.code yX12_isAgain cX12_isAgain 2 none ∈ wsL_law := mr_45 _ (List.mem_of_getElem? (i := 18) rfl)
theorem mw_46_7 : Cond.fieldLink RX11 252 "CoinPairs" "drawn" "I" ∈ wsL_law := mr_46 _ (List.mem_of_getElem? (i := 7) rfl)
theorem mw_46_8 : Cond.methodLink RX11 255 yX11_drawDeed ∈ wsL_law := mr_46 _ (List.mem_of_getElem? (i := 8) rfl)
theorem mw_46_9 : Cond.instanceMethod yX11_drawDeed ∈ wsL_law := mr_46 _ (List.mem_of_getElem? (i := 9) rfl)
theorem mw_46_10 : Cond.selects RX11 yX11_drawDeed yX11_drawDeed ∈ wsL_law := mr_46 _ (List.mem_of_getElem? (i := 10) rfl)
theorem mw_46_11 : Cond.code yX11_drawDeed cX11_drawDeed 5 (some .int) ∈ wsL_law := mr_46 _ (List.mem_of_getElem? (i := 11) rfl)
theorem mw_46_12 : Cond.methodLink RX11 258 yX11_draw ∈ wsL_law := mr_46 _ (List.mem_of_getElem? (i := 12) rfl)
theorem mw_46_13 : Cond.instanceMethod yX11_draw ∈ wsL_law := mr_46 _ (List.mem_of_getElem? (i := 13) rfl)
theorem mw_46_14 : Cond.selects RX11 yX11_draw yX11_draw ∈ wsL_law := mr_46 _ (List.mem_of_getElem? (i := 14) rfl)
theorem mw_46_15 : Cond.code yX11_draw cX11_draw 1 (some .int) ∈ wsL_law := mr_46 _ (List.mem_of_getElem? (i := 15) rfl)
theorem mw_46_16 : Cond.constant RX11 265 (1103515245) ∈ wsL_law := mr_46 _ (List.mem_of_getElem? (i := 16) rfl)
theorem mw_46_17 : Cond.methodLink RX11 261 yX11_deedOf ∈ wsL_law := mr_46 _ (List.mem_of_getElem? (i := 17) rfl)
theorem mw_46_18 : Cond.static yX11_deedOf ∈ wsL_law := mr_46 _ (List.mem_of_getElem? (i := 18) rfl)
theorem mw_46_19 : Cond.code yX11_deedOf cX11_deedOf 4 (some .int) ∈ wsL_law := mr_46 _ (List.mem_of_getElem? (i := 19) rfl)
theorem mw_47_0 : Cond.constantLong RX12 375 (40) ∈ wsL_law := mr_47 _ (List.mem_of_getElem? (i := 0) rfl)
theorem mw_47_1 : Cond.fieldLink RX12 369 "CoinPairsModel" "x" "I" ∈ wsL_law := mr_47 _ (List.mem_of_getElem? (i := 1) rfl)
theorem mw_47_2 : Cond.methodLink RX12 377 yX12_drawn ∈ wsL_law := mr_47 _ (List.mem_of_getElem? (i := 2) rfl)
theorem mw_47_3 : Cond.instanceMethod yX12_drawn ∈ wsL_law := mr_47 _ (List.mem_of_getElem? (i := 3) rfl)
theorem mw_47_4 : Cond.selects RX12 yX12_drawn yX12_drawn ∈ wsL_law := mr_47 _ (List.mem_of_getElem? (i := 4) rfl)
theorem mw_47_5 : Cond.code yX12_drawn cX12_drawn 5 (some .int) ∈ wsL_law := mr_47 _ (List.mem_of_getElem? (i := 5) rfl)
theorem mw_47_6 : Cond.methodLink RX12 372 yX12_draw ∈ wsL_law := mr_47 _ (List.mem_of_getElem? (i := 6) rfl)
theorem mw_47_7 : Cond.instanceMethod yX12_draw ∈ wsL_law := mr_47 _ (List.mem_of_getElem? (i := 7) rfl)
theorem mw_47_8 : Cond.selects RX12 yX12_draw yX12_draw ∈ wsL_law := mr_47 _ (List.mem_of_getElem? (i := 8) rfl)
theorem mw_47_9 : Cond.code yX12_draw cX12_draw 2 (some .int) ∈ wsL_law := mr_47 _ (List.mem_of_getElem? (i := 9) rfl)
theorem mw_47_10 : Cond.constant RX12 368 (1103515245) ∈ wsL_law := mr_47 _ (List.mem_of_getElem? (i := 10) rfl)
theorem mw_47_15 : Cond.fieldLink RX11 273 "CoinPairs$Moves" "steps" "[I" ∈ wsL_law := mr_47 _ (List.mem_of_getElem? (i := 15) rfl)
theorem mw_47_16 : Cond.methodLink RX11 266 yX4_learn ∈ wsL_law := mr_47 _ (List.mem_of_getElem? (i := 16) rfl)
theorem mw_47_17 : Cond.instanceMethod yX4_learn ∈ wsL_law := mr_47 _ (List.mem_of_getElem? (i := 17) rfl)
theorem mw_47_18 : Cond.selects RX4 yX4_learn yX4_learn ∈ wsL_law := mr_47 _ (List.mem_of_getElem? (i := 18) rfl)
theorem mw_47_19 : Cond.code yX4_learn cX4_learn 5 none ∈ wsL_law := mr_47 _ (List.mem_of_getElem? (i := 19) rfl)
theorem mw_47_20 : Cond.methodLink RX4 50 yX4_places ∈ wsL_law := mr_47 _ (List.mem_of_getElem? (i := 20) rfl)
theorem mw_47_21 : Cond.instanceMethod yX4_places ∈ wsL_law := mr_47 _ (List.mem_of_getElem? (i := 21) rfl)
theorem mw_47_22 : Cond.selects RX4 yX4_places yX4_places ∈ wsL_law := mr_47 _ (List.mem_of_getElem? (i := 22) rfl)
theorem mw_47_23 : Cond.code yX4_places cX4_places 1 (some .int) ∈ wsL_law := mr_47 _ (List.mem_of_getElem? (i := 23) rfl)
theorem mw_48_0 : Cond.fieldLink RX4 38 "CoinPairs$Carriers" "valley" "LCoinPairs$Valley;" ∈ wsL_law := mr_48 _ (List.mem_of_getElem? (i := 0) rfl)
theorem mw_48_1 : Cond.fieldLink RX4 44 "CoinPairs$Valley" "places" "I" ∈ wsL_law := mr_48 _ (List.mem_of_getElem? (i := 1) rfl)
theorem mw_48_2 : Cond.methodLink RX4 53 yX4_learnStep ∈ wsL_law := mr_48 _ (List.mem_of_getElem? (i := 2) rfl)
theorem mw_48_3 : Cond.instanceMethod yX4_learnStep ∈ wsL_law := mr_48 _ (List.mem_of_getElem? (i := 3) rfl)
theorem mw_48_4 : Cond.selects RX4 yX4_learnStep yX4_learnStep ∈ wsL_law := mr_48 _ (List.mem_of_getElem? (i := 4) rfl)
theorem mw_48_5 : Cond.code yX4_learnStep cX4_learnStep 10 none ∈ wsL_law := mr_48 _ (List.mem_of_getElem? (i := 5) rfl)
theorem mw_48_6 : Cond.fieldLink RX4 57 "CoinPairs$Carriers" "now" "LCoinPairs$Now;" ∈ wsL_law := mr_48 _ (List.mem_of_getElem? (i := 6) rfl)
theorem mw_48_7 : Cond.fieldLink RX4 61 "CoinPairs$Now" "hour" "I" ∈ wsL_law := mr_48 _ (List.mem_of_getElem? (i := 7) rfl)
theorem mw_48_8 : Cond.methodLink RX4 87 Lib.Math.max.name ∈ wsL_law := mr_48 _ (List.mem_of_getElem? (i := 8) rfl)
theorem mw_48_9 : Cond.methodLink RX4 66 yX10_joined ∈ wsL_law := mr_48 _ (List.mem_of_getElem? (i := 9) rfl)
theorem mw_48_10 : Cond.methodLink RX4 73 yX10_hasPerson ∈ wsL_law := mr_48 _ (List.mem_of_getElem? (i := 10) rfl)
theorem mw_48_11 : Cond.methodLink RX4 80 yX0_wearFrom ∈ wsL_law := mr_48 _ (List.mem_of_getElem? (i := 11) rfl)
theorem mw_48_12 : Cond.methodLink RX4 84 yX0_roadTaken ∈ wsL_law := mr_48 _ (List.mem_of_getElem? (i := 12) rfl)
theorem mw_48_13 : Cond.methodLink RX11 270 yX4_measureTo ∈ wsL_law := mr_48 _ (List.mem_of_getElem? (i := 13) rfl)
theorem mw_48_14 : Cond.instanceMethod yX4_measureTo ∈ wsL_law := mr_48 _ (List.mem_of_getElem? (i := 14) rfl)
theorem mw_48_15 : Cond.selects RX4 yX4_measureTo yX4_measureTo ∈ wsL_law := mr_48 _ (List.mem_of_getElem? (i := 15) rfl)
theorem mw_48_16 : Cond.code yX4_measureTo cX4_measureTo 4 none ∈ wsL_law := mr_48 _ (List.mem_of_getElem? (i := 16) rfl)
theorem mw_48_17 : Cond.methodLink RX4 93 yJ7_fill_53178 ∈ wsL_law := mr_48 _ (List.mem_of_getElem? (i := 17) rfl)
theorem mw_48_18 : Cond.methodLink RX4 99 yX4_stepsOnTo ∈ wsL_law := mr_48 _ (List.mem_of_getElem? (i := 18) rfl)
theorem mw_48_19 : Cond.instanceMethod yX4_stepsOnTo ∈ wsL_law := mr_48 _ (List.mem_of_getElem? (i := 19) rfl)
theorem mw_48_20 : Cond.selects RX4 yX4_stepsOnTo yX4_stepsOnTo ∈ wsL_law := mr_48 _ (List.mem_of_getElem? (i := 20) rfl)
theorem mw_48_21 : Cond.code yX4_stepsOnTo cX4_stepsOnTo 4 (some .boolean) ∈ wsL_law := mr_48 _ (List.mem_of_getElem? (i := 21) rfl)
theorem mw_48_22 : Cond.methodLink RX4 102 yX4_canGo ∈ wsL_law := mr_48 _ (List.mem_of_getElem? (i := 22) rfl)
theorem mw_48_23 : Cond.instanceMethod yX4_canGo ∈ wsL_law := mr_48 _ (List.mem_of_getElem? (i := 23) rfl)
theorem mw_49_0 : Cond.selects RX4 yX4_canGo yX4_canGo ∈ wsL_law := mr_49 _ (List.mem_of_getElem? (i := 0) rfl)
theorem mw_49_1 : Cond.code yX4_canGo cX4_canGo 3 (some .boolean) ∈ wsL_law := mr_49 _ (List.mem_of_getElem? (i := 1) rfl)
theorem mw_49_6 : Cond.methodLink RX12 384 yX12_noCoin ∈ wsL_law := mr_49 _ (List.mem_of_getElem? (i := 6) rfl)
theorem mw_49_7 : Cond.instanceMethod yX12_noCoin ∈ wsL_law := mr_49 _ (List.mem_of_getElem? (i := 7) rfl)
theorem mw_49_8 : Cond.selects RX12 yX12_noCoin yX12_noCoin ∈ wsL_law := mr_49 _ (List.mem_of_getElem? (i := 8) rfl)
theorem mw_49_9 : Cond.code yX12_noCoin cX12_noCoin 3 (some .int) ∈ wsL_law := mr_49 _ (List.mem_of_getElem? (i := 9) rfl)
theorem mw_49_10 : Cond.methodLink RX12 387 yX12_laysStill ∈ wsL_law := mr_49 _ (List.mem_of_getElem? (i := 10) rfl)
theorem mw_49_11 : Cond.instanceMethod yX12_laysStill ∈ wsL_law := mr_49 _ (List.mem_of_getElem? (i := 11) rfl)
theorem mw_49_12 : Cond.selects RX12 yX12_laysStill yX12_laysStill ∈ wsL_law := mr_49 _ (List.mem_of_getElem? (i := 12) rfl)
theorem mw_49_13 : Cond.code yX12_laysStill cX12_laysStill 6 (some .int) ∈ wsL_law := mr_49 _ (List.mem_of_getElem? (i := 13) rfl)
theorem mw_49_14 : Cond.constant RX12 383 (268435456) ∈ wsL_law := mr_49 _ (List.mem_of_getElem? (i := 14) rfl)
theorem mw_49_15 : Cond.methodLink RX12 380 yX12_laysBears ∈ wsL_law := mr_49 _ (List.mem_of_getElem? (i := 15) rfl)
theorem mw_49_16 : Cond.instanceMethod yX12_laysBears ∈ wsL_law := mr_49 _ (List.mem_of_getElem? (i := 16) rfl)
theorem mw_49_17 : Cond.selects RX12 yX12_laysBears yX12_laysBears ∈ wsL_law := mr_49 _ (List.mem_of_getElem? (i := 17) rfl)
theorem mw_49_18 : Cond.code yX12_laysBears cX12_laysBears 4 none ∈ wsL_law := mr_49 _ (List.mem_of_getElem? (i := 18) rfl)
theorem mw_49_19 : Cond.methodLink RX12 390 yX12_toldFar ∈ wsL_law := mr_49 _ (List.mem_of_getElem? (i := 19) rfl)
theorem mw_49_20 : Cond.static yX12_toldFar ∈ wsL_law := mr_49 _ (List.mem_of_getElem? (i := 20) rfl)
theorem mw_49_21 : Cond.code yX12_toldFar cX12_toldFar 1 (some .int) ∈ wsL_law := mr_49 _ (List.mem_of_getElem? (i := 21) rfl)
theorem mw_50_2 : Cond.methodLink RX11 276 yX4_firstDeed ∈ wsL_law := mr_50 _ (List.mem_of_getElem? (i := 2) rfl)
theorem mw_50_3 : Cond.instanceMethod yX4_firstDeed ∈ wsL_law := mr_50 _ (List.mem_of_getElem? (i := 3) rfl)
theorem mw_50_4 : Cond.selects RX4 yX4_firstDeed yX4_firstDeed ∈ wsL_law := mr_50 _ (List.mem_of_getElem? (i := 4) rfl)
theorem mw_50_5 : Cond.code yX4_firstDeed cX4_firstDeed 5 (some .int) ∈ wsL_law := mr_50 _ (List.mem_of_getElem? (i := 5) rfl)
theorem mw_50_6 : Cond.methodLink RX4 105 yX4_wearOf ∈ wsL_law := mr_50 _ (List.mem_of_getElem? (i := 6) rfl)
theorem mw_50_7 : Cond.instanceMethod yX4_wearOf ∈ wsL_law := mr_50 _ (List.mem_of_getElem? (i := 7) rfl)
theorem mw_50_8 : Cond.selects RX4 yX4_wearOf yX4_wearOf ∈ wsL_law := mr_50 _ (List.mem_of_getElem? (i := 8) rfl)
theorem mw_50_9 : Cond.code yX4_wearOf cX4_wearOf 4 (some .int) ∈ wsL_law := mr_50 _ (List.mem_of_getElem? (i := 9) rfl)
theorem mw_50_14 : Cond.methodLink RX12 399 yX12_carryingAt ∈ wsL_law := mr_50 _ (List.mem_of_getElem? (i := 14) rfl)
theorem mw_50_15 : Cond.instanceMethod yX12_carryingAt ∈ wsL_law := mr_50 _ (List.mem_of_getElem? (i := 15) rfl)
theorem mw_50_16 : Cond.selects RX12 yX12_carryingAt yX12_carryingAt ∈ wsL_law := mr_50 _ (List.mem_of_getElem? (i := 16) rfl)
theorem mw_50_17 : Cond.code yX12_carryingAt cX12_carryingAt 6 (some .int) ∈ wsL_law := mr_50 _ (List.mem_of_getElem? (i := 17) rfl)
theorem mw_50_18 : Cond.methodLink RX12 396 yX12_nearerBy ∈ wsL_law := mr_50 _ (List.mem_of_getElem? (i := 18) rfl)
theorem mw_50_19 : Cond.instanceMethod yX12_nearerBy ∈ wsL_law := mr_50 _ (List.mem_of_getElem? (i := 19) rfl)
theorem mw_50_20 : Cond.selects RX12 yX12_nearerBy yX12_nearerBy ∈ wsL_law := mr_50 _ (List.mem_of_getElem? (i := 20) rfl)
theorem mw_50_21 : Cond.code yX12_nearerBy cX12_nearerBy 6 (some .int) ∈ wsL_law := mr_50 _ (List.mem_of_getElem? (i := 21) rfl)
theorem mw_50_22 : Cond.methodLink RX12 393 yX12_deedOf ∈ wsL_law := mr_50 _ (List.mem_of_getElem? (i := 22) rfl)
theorem mw_50_23 : Cond.static yX12_deedOf ∈ wsL_law := mr_50 _ (List.mem_of_getElem? (i := 23) rfl)
theorem mw_51_0 : Cond.code yX12_deedOf cX12_deedOf 4 (some .int) ∈ wsL_law := mr_51 _ (List.mem_of_getElem? (i := 0) rfl)
theorem mw_51_5 : Cond.constantLong RX11 279 (-2) ∈ wsL_law := mr_51 _ (List.mem_of_getElem? (i := 5) rfl)
theorem mw_51_6 : Cond.constantLong RX11 281 (-3) ∈ wsL_law := mr_51 _ (List.mem_of_getElem? (i := 6) rfl)
theorem mw_51_7 : Cond.methodLink RX11 283 yX4_rowsOf ∈ wsL_law := mr_51 _ (List.mem_of_getElem? (i := 7) rfl)
theorem mw_51_8 : Cond.instanceMethod yX4_rowsOf ∈ wsL_law := mr_51 _ (List.mem_of_getElem? (i := 8) rfl)
theorem mw_51_9 : Cond.selects RX4 yX4_rowsOf yX4_rowsOf ∈ wsL_law := mr_51 _ (List.mem_of_getElem? (i := 9) rfl)
theorem mw_51_10 : Cond.code yX4_rowsOf cX4_rowsOf 7 (some .long) ∈ wsL_law := mr_51 _ (List.mem_of_getElem? (i := 10) rfl)
theorem mw_51_11 : Cond.methodLink RX4 116 arraycopyName ∈ wsL_law := mr_51 _ (List.mem_of_getElem? (i := 11) rfl)
theorem mw_51_12 : Cond.methodLink RX4 113 yJ7_fill_d0a16 ∈ wsL_law := mr_51 _ (List.mem_of_getElem? (i := 12) rfl)
theorem mw_51_13 : Cond.static yJ7_fill_d0a16 ∈ wsL_law := mr_51 _ (List.mem_of_getElem? (i := 13) rfl)
theorem mw_51_14 : Cond.code yJ7_fill_d0a16 cJ7_fill_d0a16 5 none ∈ wsL_law := mr_51 _ (List.mem_of_getElem? (i := 14) rfl)
theorem mw_51_19 : Cond.constantLong RX12 402 (-2) ∈ wsL_law := mr_51 _ (List.mem_of_getElem? (i := 19) rfl)
theorem mw_51_20 : Cond.constantLong RX12 404 (8) ∈ wsL_law := mr_51 _ (List.mem_of_getElem? (i := 20) rfl)
theorem mw_51_21 : Cond.constantLong RX12 406 (-3) ∈ wsL_law := mr_51 _ (List.mem_of_getElem? (i := 21) rfl)
theorem mw_52_2 : Cond.methodLink RX11 287 yX4_reachedFrom ∈ wsL_law := mr_52 _ (List.mem_of_getElem? (i := 2) rfl)
theorem mw_52_3 : Cond.instanceMethod yX4_reachedFrom ∈ wsL_law := mr_52 _ (List.mem_of_getElem? (i := 3) rfl)
theorem mw_52_4 : Cond.selects RX4 yX4_reachedFrom yX4_reachedFrom ∈ wsL_law := mr_52 _ (List.mem_of_getElem? (i := 4) rfl)
theorem mw_52_5 : Cond.code yX4_reachedFrom cX4_reachedFrom 5 (some .int) ∈ wsL_law := mr_52 _ (List.mem_of_getElem? (i := 5) rfl)
theorem mw_52_6 : Cond.methodLink RX4 125 yX4_placesNextTo ∈ wsL_law := mr_52 _ (List.mem_of_getElem? (i := 6) rfl)
theorem mw_52_7 : Cond.instanceMethod yX4_placesNextTo ∈ wsL_law := mr_52 _ (List.mem_of_getElem? (i := 7) rfl)
theorem mw_52_8 : Cond.selects RX4 yX4_placesNextTo yX4_placesNextTo ∈ wsL_law := mr_52 _ (List.mem_of_getElem? (i := 8) rfl)
theorem mw_52_9 : Cond.code yX4_placesNextTo cX4_placesNextTo 4 (some .int) ∈ wsL_law := mr_52 _ (List.mem_of_getElem? (i := 9) rfl)
theorem mw_52_18 : Cond.methodLink RX11 290 yX4_learnPaying ∈ wsL_law := mr_52 _ (List.mem_of_getElem? (i := 18) rfl)
theorem mw_52_19 : Cond.instanceMethod yX4_learnPaying ∈ wsL_law := mr_52 _ (List.mem_of_getElem? (i := 19) rfl)
theorem mw_52_20 : Cond.selects RX4 yX4_learnPaying yX4_learnPaying ∈ wsL_law := mr_52 _ (List.mem_of_getElem? (i := 20) rfl)
theorem mw_52_21 : Cond.code yX4_learnPaying cX4_learnPaying 4 none ∈ wsL_law := mr_52 _ (List.mem_of_getElem? (i := 21) rfl)
theorem mw_52_22 : Cond.fieldLink RX4 129 "CoinPairs$Valley" "coins" "I" ∈ wsL_law := mr_52 _ (List.mem_of_getElem? (i := 22) rfl)
theorem mw_52_23 : Cond.fieldLink RX4 132 "CoinPairs$Now" "at" "[I" ∈ wsL_law := mr_52 _ (List.mem_of_getElem? (i := 23) rfl)
theorem mw_53_0 : Cond.methodLink RX4 135 yX4_learn ∈ wsL_law := mr_53 _ (List.mem_of_getElem? (i := 0) rfl)
theorem mw_53_1 : Cond.methodLink RX4 139 yX4_measureTo ∈ wsL_law := mr_53 _ (List.mem_of_getElem? (i := 1) rfl)
theorem mw_53_2 : Cond.methodLink RX11 293 yX4_leastPaying ∈ wsL_law := mr_53 _ (List.mem_of_getElem? (i := 2) rfl)
theorem mw_53_3 : Cond.instanceMethod yX4_leastPaying ∈ wsL_law := mr_53 _ (List.mem_of_getElem? (i := 3) rfl)
theorem mw_53_4 : Cond.selects RX4 yX4_leastPaying yX4_leastPaying ∈ wsL_law := mr_53 _ (List.mem_of_getElem? (i := 4) rfl)
theorem mw_53_5 : Cond.code yX4_leastPaying cX4_leastPaying 9 (some .int) ∈ wsL_law := mr_53 _ (List.mem_of_getElem? (i := 5) rfl)
theorem mw_53_6 : Cond.methodLink RX4 143 yX4_worthOf ∈ wsL_law := mr_53 _ (List.mem_of_getElem? (i := 6) rfl)
theorem mw_53_7 : Cond.instanceMethod yX4_worthOf ∈ wsL_law := mr_53 _ (List.mem_of_getElem? (i := 7) rfl)
theorem mw_53_8 : Cond.selects RX4 yX4_worthOf yX4_worthOf ∈ wsL_law := mr_53 _ (List.mem_of_getElem? (i := 8) rfl)
theorem mw_53_9 : Cond.code yX4_worthOf cX4_worthOf 4 (some .int) ∈ wsL_law := mr_53 _ (List.mem_of_getElem? (i := 9) rfl)
theorem mw_53_10 : Cond.fieldLink RX4 149 "CoinPairs$Valley" "worth" "[I" ∈ wsL_law := mr_53 _ (List.mem_of_getElem? (i := 10) rfl)
theorem mw_53_11 : Cond.methodLink RX4 146 yX4_carryingsFor ∈ wsL_law := mr_53 _ (List.mem_of_getElem? (i := 11) rfl)
theorem mw_53_12 : Cond.instanceMethod yX4_carryingsFor ∈ wsL_law := mr_53 _ (List.mem_of_getElem? (i := 12) rfl)
theorem mw_53_13 : Cond.selects RX4 yX4_carryingsFor yX4_carryingsFor ∈ wsL_law := mr_53 _ (List.mem_of_getElem? (i := 13) rfl)
theorem mw_53_14 : Cond.code yX4_carryingsFor cX4_carryingsFor 5 (some .int) ∈ wsL_law := mr_53 _ (List.mem_of_getElem? (i := 14) rfl)
theorem mw_53_15 : Cond.methodLink RX11 297 yX4_carryingsFor ∈ wsL_law := mr_53 _ (List.mem_of_getElem? (i := 15) rfl)
theorem mw_53_20 : Cond.constantLong RX12 408 (999) ∈ wsL_law := mr_53 _ (List.mem_of_getElem? (i := 20) rfl)
theorem mw_53_21 : Cond.methodLink RX12 410 yX12_laysPaying ∈ wsL_law := mr_53 _ (List.mem_of_getElem? (i := 21) rfl)
theorem mw_53_22 : Cond.instanceMethod yX12_laysPaying ∈ wsL_law := mr_53 _ (List.mem_of_getElem? (i := 22) rfl)
theorem mw_53_23 : Cond.selects RX12 yX12_laysPaying yX12_laysPaying ∈ wsL_law := mr_53 _ (List.mem_of_getElem? (i := 23) rfl)
theorem mw_54_0 : Cond.code yX12_laysPaying cX12_laysPaying 4 none ∈ wsL_law := mr_54 _ (List.mem_of_getElem? (i := 0) rfl)
theorem mw_54_5 : Cond.fieldLink RX11 306 "CoinPairs$Company" "most" "[I" ∈ wsL_law := mr_54 _ (List.mem_of_getElem? (i := 5) rfl)
theorem mw_54_6 : Cond.methodLink RX11 300 yX11_isWeight ∈ wsL_law := mr_54 _ (List.mem_of_getElem? (i := 6) rfl)
theorem mw_54_7 : Cond.static yX11_isWeight ∈ wsL_law := mr_54 _ (List.mem_of_getElem? (i := 7) rfl)
theorem mw_54_8 : Cond.code yX11_isWeight cX11_isWeight 1 (some .boolean) ∈ wsL_law := mr_54 _ (List.mem_of_getElem? (i := 8) rfl)
theorem mw_54_9 : Cond.methodLink RX11 303 yX1_part ∈ wsL_law := mr_54 _ (List.mem_of_getElem? (i := 9) rfl)
theorem mw_54_10 : Cond.instanceMethod yX1_part ∈ wsL_law := mr_54 _ (List.mem_of_getElem? (i := 10) rfl)
theorem mw_54_11 : Cond.selects RX1 yX1_part yX1_part ∈ wsL_law := mr_54 _ (List.mem_of_getElem? (i := 11) rfl)
theorem mw_54_12 : Cond.code yX1_part cX1_part 5 none ∈ wsL_law := mr_54 _ (List.mem_of_getElem? (i := 12) rfl)
theorem mw_54_13 : Cond.fieldLink RX1 26 "CoinPairs$Valley" "people" "I" ∈ wsL_law := mr_54 _ (List.mem_of_getElem? (i := 13) rfl)
theorem mw_54_14 : Cond.methodLink RX1 32 yX1_everybody ∈ wsL_law := mr_54 _ (List.mem_of_getElem? (i := 14) rfl)
theorem mw_54_15 : Cond.instanceMethod yX1_everybody ∈ wsL_law := mr_54 _ (List.mem_of_getElem? (i := 15) rfl)
theorem mw_54_16 : Cond.selects RX1 yX1_everybody yX1_everybody ∈ wsL_law := mr_54 _ (List.mem_of_getElem? (i := 16) rfl)
theorem mw_54_17 : Cond.code yX1_everybody cX1_everybody 1 (some .int) ∈ wsL_law := mr_54 _ (List.mem_of_getElem? (i := 17) rfl)
theorem mw_54_18 : Cond.methodLink RX1 41 yX1_mostPairsIn ∈ wsL_law := mr_54 _ (List.mem_of_getElem? (i := 18) rfl)
theorem mw_54_19 : Cond.instanceMethod yX1_mostPairsIn ∈ wsL_law := mr_54 _ (List.mem_of_getElem? (i := 19) rfl)
theorem mw_54_20 : Cond.selects RX1 yX1_mostPairsIn yX1_mostPairsIn ∈ wsL_law := mr_54 _ (List.mem_of_getElem? (i := 20) rfl)
theorem mw_54_21 : Cond.code yX1_mostPairsIn cX1_mostPairsIn 7 (some .int) ∈ wsL_law := mr_54 _ (List.mem_of_getElem? (i := 21) rfl)
theorem mw_54_22 : Cond.methodLink RX1 67 Lib.Math.max.name ∈ wsL_law := mr_54 _ (List.mem_of_getElem? (i := 22) rfl)
theorem mw_54_23 : Cond.methodLink RX1 59 yX1_leastIn ∈ wsL_law := mr_54 _ (List.mem_of_getElem? (i := 23) rfl)
theorem mw_55_0 : Cond.instanceMethod yX1_leastIn ∈ wsL_law := mr_55 _ (List.mem_of_getElem? (i := 0) rfl)
theorem mw_55_1 : Cond.selects RX1 yX1_leastIn yX1_leastIn ∈ wsL_law := mr_55 _ (List.mem_of_getElem? (i := 1) rfl)
theorem mw_55_2 : Cond.code yX1_leastIn cX1_leastIn 3 (some .int) ∈ wsL_law := mr_55 _ (List.mem_of_getElem? (i := 2) rfl)
theorem mw_55_3 : Cond.methodLink RX1 63 yX1_canPair ∈ wsL_law := mr_55 _ (List.mem_of_getElem? (i := 3) rfl)
theorem mw_55_4 : Cond.instanceMethod yX1_canPair ∈ wsL_law := mr_55 _ (List.mem_of_getElem? (i := 4) rfl)
theorem mw_55_5 : Cond.selects RX1 yX1_canPair yX1_canPair ∈ wsL_law := mr_55 _ (List.mem_of_getElem? (i := 5) rfl)
theorem mw_55_6 : Cond.code yX1_canPair cX1_canPair 4 (some .boolean) ∈ wsL_law := mr_55 _ (List.mem_of_getElem? (i := 6) rfl)
theorem mw_55_7 : Cond.fieldLink RX1 75 "CoinPairs$Valley" "strength" "[I" ∈ wsL_law := mr_55 _ (List.mem_of_getElem? (i := 7) rfl)
theorem mw_55_8 : Cond.methodLink RX1 72 yX5_feuding ∈ wsL_law := mr_55 _ (List.mem_of_getElem? (i := 8) rfl)
theorem mw_55_9 : Cond.methodLink RX1 45 yJ7_fill_53178 ∈ wsL_law := mr_55 _ (List.mem_of_getElem? (i := 9) rfl)
theorem mw_55_10 : Cond.methodLink RX1 55 yX1_firstPartner ∈ wsL_law := mr_55 _ (List.mem_of_getElem? (i := 10) rfl)
theorem mw_55_11 : Cond.instanceMethod yX1_firstPartner ∈ wsL_law := mr_55 _ (List.mem_of_getElem? (i := 11) rfl)
theorem mw_55_12 : Cond.selects RX1 yX1_firstPartner yX1_firstPartner ∈ wsL_law := mr_55 _ (List.mem_of_getElem? (i := 12) rfl)
theorem mw_55_13 : Cond.code yX1_firstPartner cX1_firstPartner 6 (some .int) ∈ wsL_law := mr_55 _ (List.mem_of_getElem? (i := 13) rfl)
theorem mw_55_14 : Cond.methodLink RX11 309 yX1_everybody ∈ wsL_law := mr_55 _ (List.mem_of_getElem? (i := 14) rfl)
theorem mw_55_19 : Cond.constantLong RX12 419 (99) ∈ wsL_law := mr_55 _ (List.mem_of_getElem? (i := 19) rfl)
theorem mw_55_20 : Cond.methodLink RX12 421 yX12_laysPairs ∈ wsL_law := mr_55 _ (List.mem_of_getElem? (i := 20) rfl)
theorem mw_55_21 : Cond.instanceMethod yX12_laysPairs ∈ wsL_law := mr_55 _ (List.mem_of_getElem? (i := 21) rfl)
theorem mw_55_22 : Cond.selects RX12 yX12_laysPairs yX12_laysPairs ∈ wsL_law := mr_55 _ (List.mem_of_getElem? (i := 22) rfl)
theorem mw_55_23 : Cond.code yX12_laysPairs cX12_laysPairs 8 none ∈ wsL_law := mr_55 _ (List.mem_of_getElem? (i := 23) rfl)
theorem mw_56_0 : Cond.methodLink RX12 413 yX12_leastOf ∈ wsL_law := mr_56 _ (List.mem_of_getElem? (i := 0) rfl)
theorem mw_56_1 : Cond.static yX12_leastOf ∈ wsL_law := mr_56 _ (List.mem_of_getElem? (i := 1) rfl)
theorem mw_56_2 : Cond.code yX12_leastOf cX12_leastOf 2 (some .int) ∈ wsL_law := mr_56 _ (List.mem_of_getElem? (i := 2) rfl)
theorem mw_56_3 : Cond.methodLink RX12 416 yX12_canPair ∈ wsL_law := mr_56 _ (List.mem_of_getElem? (i := 3) rfl)
theorem mw_56_4 : Cond.instanceMethod yX12_canPair ∈ wsL_law := mr_56 _ (List.mem_of_getElem? (i := 4) rfl)
theorem mw_56_5 : Cond.selects RX12 yX12_canPair yX12_canPair ∈ wsL_law := mr_56 _ (List.mem_of_getElem? (i := 5) rfl)
theorem mw_56_6 : Cond.code yX12_canPair cX12_canPair 4 (some .boolean) ∈ wsL_law := mr_56 _ (List.mem_of_getElem? (i := 6) rfl)
theorem mw_56_7 : Cond.methodLink RX12 424 yX12_everybody ∈ wsL_law := mr_56 _ (List.mem_of_getElem? (i := 7) rfl)
theorem mw_56_8 : Cond.instanceMethod yX12_everybody ∈ wsL_law := mr_56 _ (List.mem_of_getElem? (i := 8) rfl)
theorem mw_56_9 : Cond.selects RX12 yX12_everybody yX12_everybody ∈ wsL_law := mr_56 _ (List.mem_of_getElem? (i := 9) rfl)
theorem mw_56_10 : Cond.code yX12_everybody cX12_everybody 1 (some .int) ∈ wsL_law := mr_56 _ (List.mem_of_getElem? (i := 10) rfl)
theorem mw_56_15 : Cond.fieldLink RX11 312 "CoinPairs$Company" "partner" "[I" ∈ wsL_law := mr_56 _ (List.mem_of_getElem? (i := 15) rfl)
theorem mw_56_20 : Cond.methodLink RX12 427 yX12_partnerIn ∈ wsL_law := mr_56 _ (List.mem_of_getElem? (i := 20) rfl)
theorem mw_56_21 : Cond.instanceMethod yX12_partnerIn ∈ wsL_law := mr_56 _ (List.mem_of_getElem? (i := 21) rfl)
theorem mw_56_22 : Cond.selects RX12 yX12_partnerIn yX12_partnerIn ∈ wsL_law := mr_56 _ (List.mem_of_getElem? (i := 22) rfl)
theorem mw_56_23 : Cond.code yX12_partnerIn cX12_partnerIn 6 (some .int) ∈ wsL_law := mr_56 _ (List.mem_of_getElem? (i := 23) rfl)
theorem mw_57_4 : Cond.methodLink RX11 315 yX1_fewestLifters ∈ wsL_law := mr_57 _ (List.mem_of_getElem? (i := 4) rfl)
theorem mw_57_5 : Cond.instanceMethod yX1_fewestLifters ∈ wsL_law := mr_57 _ (List.mem_of_getElem? (i := 5) rfl)
theorem mw_57_6 : Cond.selects RX1 yX1_fewestLifters yX1_fewestLifters ∈ wsL_law := mr_57 _ (List.mem_of_getElem? (i := 6) rfl)
theorem mw_57_7 : Cond.code yX1_fewestLifters cX1_fewestLifters 5 (some .int) ∈ wsL_law := mr_57 _ (List.mem_of_getElem? (i := 7) rfl)
theorem mw_57_8 : Cond.methodLink RX1 78 yJ6_bitCount_0f7a4 ∈ wsL_law := mr_57 _ (List.mem_of_getElem? (i := 8) rfl)
theorem mw_57_9 : Cond.static yJ6_bitCount_0f7a4 ∈ wsL_law := mr_57 _ (List.mem_of_getElem? (i := 9) rfl)
theorem mw_57_10 : Cond.initialized RJ6 ∈ wsL_law := mr_57 _ (List.mem_of_getElem? (i := 10) rfl)
theorem mw_57_11 : Cond.code yJ6_bitCount_0f7a4 cJ6_bitCount_0f7a4 1 (some .int) ∈ wsL_law := mr_57 _ (List.mem_of_getElem? (i := 11) rfl)
theorem mw_57_12 : Cond.constant RJ6 265 (1431655765) ∈ wsL_law := mr_57 _ (List.mem_of_getElem? (i := 12) rfl)
theorem mw_57_13 : Cond.constant RJ6 266 (858993459) ∈ wsL_law := mr_57 _ (List.mem_of_getElem? (i := 13) rfl)
theorem mw_57_14 : Cond.constant RJ6 267 (252645135) ∈ wsL_law := mr_57 _ (List.mem_of_getElem? (i := 14) rfl)
theorem mw_57_15 : Cond.methodLink RX1 83 yX1_strengthOf ∈ wsL_law := mr_57 _ (List.mem_of_getElem? (i := 15) rfl)
theorem mw_57_16 : Cond.instanceMethod yX1_strengthOf ∈ wsL_law := mr_57 _ (List.mem_of_getElem? (i := 16) rfl)
theorem mw_57_17 : Cond.selects RX1 yX1_strengthOf yX1_strengthOf ∈ wsL_law := mr_57 _ (List.mem_of_getElem? (i := 17) rfl)
theorem mw_57_18 : Cond.code yX1_strengthOf cX1_strengthOf 4 (some .int) ∈ wsL_law := mr_57 _ (List.mem_of_getElem? (i := 18) rfl)
theorem mw_57_19 : Cond.methodLink RX11 318 yX11_sizeOrSet ∈ wsL_law := mr_57 _ (List.mem_of_getElem? (i := 19) rfl)
theorem mw_57_20 : Cond.static yX11_sizeOrSet ∈ wsL_law := mr_57 _ (List.mem_of_getElem? (i := 20) rfl)
theorem mw_57_21 : Cond.code yX11_sizeOrSet cX11_sizeOrSet 2 (some .int) ∈ wsL_law := mr_57 _ (List.mem_of_getElem? (i := 21) rfl)
theorem mw_57_22 : Cond.methodLink RX11 434 yJ6_bitCount_0f7a4 ∈ wsL_law := mr_57 _ (List.mem_of_getElem? (i := 22) rfl)
theorem mw_58_3 : Cond.methodLink RX12 430 yX12_bitsOf ∈ wsL_law := mr_58 _ (List.mem_of_getElem? (i := 3) rfl)
theorem mw_58_4 : Cond.static yX12_bitsOf ∈ wsL_law := mr_58 _ (List.mem_of_getElem? (i := 4) rfl)
theorem mw_58_5 : Cond.code yX12_bitsOf cX12_bitsOf 3 (some .int) ∈ wsL_law := mr_58 _ (List.mem_of_getElem? (i := 5) rfl)
theorem mw_58_10 : Cond.methodLink RX11 321 yX1_fewestGuards ∈ wsL_law := mr_58 _ (List.mem_of_getElem? (i := 10) rfl)
theorem mw_58_11 : Cond.instanceMethod yX1_fewestGuards ∈ wsL_law := mr_58 _ (List.mem_of_getElem? (i := 11) rfl)
theorem mw_58_12 : Cond.selects RX1 yX1_fewestGuards yX1_fewestGuards ∈ wsL_law := mr_58 _ (List.mem_of_getElem? (i := 12) rfl)
theorem mw_58_13 : Cond.code yX1_fewestGuards cX1_fewestGuards 6 (some .int) ∈ wsL_law := mr_58 _ (List.mem_of_getElem? (i := 13) rfl)
theorem mw_58_14 : Cond.fieldLink RX1 89 "CoinPairs$Valley" "places" "I" ∈ wsL_law := mr_58 _ (List.mem_of_getElem? (i := 14) rfl)
theorem mw_58_15 : Cond.methodLink RX1 86 yX10_joined ∈ wsL_law := mr_58 _ (List.mem_of_getElem? (i := 15) rfl)
theorem mw_58_16 : Cond.methodLink RX1 92 yX1_passedFrom ∈ wsL_law := mr_58 _ (List.mem_of_getElem? (i := 16) rfl)
theorem mw_58_17 : Cond.instanceMethod yX1_passedFrom ∈ wsL_law := mr_58 _ (List.mem_of_getElem? (i := 17) rfl)
theorem mw_58_18 : Cond.selects RX1 yX1_passedFrom yX1_passedFrom ∈ wsL_law := mr_58 _ (List.mem_of_getElem? (i := 18) rfl)
theorem mw_58_19 : Cond.code yX1_passedFrom cX1_passedFrom 7 (some .int) ∈ wsL_law := mr_58 _ (List.mem_of_getElem? (i := 19) rfl)
theorem mw_58_20 : Cond.fieldLink RX1 95 "CoinPairs$Valley" "roads" "I" ∈ wsL_law := mr_58 _ (List.mem_of_getElem? (i := 20) rfl)
theorem mw_58_21 : Cond.fieldLink RX1 98 "CoinPairs$Valley" "roadFrom" "[I" ∈ wsL_law := mr_58 _ (List.mem_of_getElem? (i := 21) rfl)
theorem mw_58_22 : Cond.fieldLink RX1 101 "CoinPairs$Valley" "roadTo" "[I" ∈ wsL_law := mr_58 _ (List.mem_of_getElem? (i := 22) rfl)
theorem mw_59_3 : Cond.methodLink RX12 433 yX12_leads ∈ wsL_law := mr_59 _ (List.mem_of_getElem? (i := 3) rfl)
theorem mw_59_4 : Cond.instanceMethod yX12_leads ∈ wsL_law := mr_59 _ (List.mem_of_getElem? (i := 4) rfl)
theorem mw_59_5 : Cond.selects RX12 yX12_leads yX12_leads ∈ wsL_law := mr_59 _ (List.mem_of_getElem? (i := 5) rfl)
theorem mw_59_6 : Cond.code yX12_leads cX12_leads 8 (some .boolean) ∈ wsL_law := mr_59 _ (List.mem_of_getElem? (i := 6) rfl)
theorem mw_59_11 : Cond.fieldLink RX11 327 "CoinPairs$Company" "restsFound" "I" ∈ wsL_law := mr_59 _ (List.mem_of_getElem? (i := 11) rfl)
theorem mw_59_12 : Cond.fieldLink RX11 330 "CoinPairs$Company" "fewestResting" "I" ∈ wsL_law := mr_59 _ (List.mem_of_getElem? (i := 12) rfl)
theorem mw_59_13 : Cond.fieldLink RX11 333 "CoinPairs$Company" "mostResting" "I" ∈ wsL_law := mr_59 _ (List.mem_of_getElem? (i := 13) rfl)
theorem mw_59_14 : Cond.methodLink RX11 324 yX1_findRests ∈ wsL_law := mr_59 _ (List.mem_of_getElem? (i := 14) rfl)
theorem mw_59_15 : Cond.instanceMethod yX1_findRests ∈ wsL_law := mr_59 _ (List.mem_of_getElem? (i := 15) rfl)
theorem mw_59_16 : Cond.selects RX1 yX1_findRests yX1_findRests ∈ wsL_law := mr_59 _ (List.mem_of_getElem? (i := 16) rfl)
theorem mw_59_17 : Cond.code yX1_findRests cX1_findRests 4 none ∈ wsL_law := mr_59 _ (List.mem_of_getElem? (i := 17) rfl)
theorem mw_59_18 : Cond.fieldLink RX1 107 "CoinPairs$Company" "restsFound" "I" ∈ wsL_law := mr_59 _ (List.mem_of_getElem? (i := 18) rfl)
theorem mw_59_19 : Cond.fieldLink RX1 110 "CoinPairs$Company" "fewestResting" "I" ∈ wsL_law := mr_59 _ (List.mem_of_getElem? (i := 19) rfl)
theorem mw_59_20 : Cond.fieldLink RX1 113 "CoinPairs$Company" "mostResting" "I" ∈ wsL_law := mr_59 _ (List.mem_of_getElem? (i := 20) rfl)
theorem mw_59_21 : Cond.methodLink RX1 119 Lib.Math.min.name ∈ wsL_law := mr_59 _ (List.mem_of_getElem? (i := 21) rfl)
theorem mw_59_22 : Cond.methodLink RX1 116 yX1_liftNext ∈ wsL_law := mr_59 _ (List.mem_of_getElem? (i := 22) rfl)
theorem mw_59_23 : Cond.instanceMethod yX1_liftNext ∈ wsL_law := mr_59 _ (List.mem_of_getElem? (i := 23) rfl)
theorem mw_60_0 : Cond.selects RX1 yX1_liftNext yX1_liftNext ∈ wsL_law := mr_60 _ (List.mem_of_getElem? (i := 0) rfl)
theorem mw_60_1 : Cond.code yX1_liftNext cX1_liftNext 5 (some .int) ∈ wsL_law := mr_60 _ (List.mem_of_getElem? (i := 1) rfl)
theorem mw_60_2 : Cond.methodLink RX1 104 yX1_friendsOf ∈ wsL_law := mr_60 _ (List.mem_of_getElem? (i := 2) rfl)
theorem mw_60_3 : Cond.instanceMethod yX1_friendsOf ∈ wsL_law := mr_60 _ (List.mem_of_getElem? (i := 3) rfl)
theorem mw_60_4 : Cond.selects RX1 yX1_friendsOf yX1_friendsOf ∈ wsL_law := mr_60 _ (List.mem_of_getElem? (i := 4) rfl)
theorem mw_60_5 : Cond.code yX1_friendsOf cX1_friendsOf 2 (some .int) ∈ wsL_law := mr_60 _ (List.mem_of_getElem? (i := 5) rfl)
theorem mw_60_6 : Cond.fieldLink RX1 36 "CoinPairs$Now" "feuds" "[I" ∈ wsL_law := mr_60 _ (List.mem_of_getElem? (i := 6) rfl)
theorem mw_60_11 : Cond.methodLink RX12 436 yX12_liftsTo ∈ wsL_law := mr_60 _ (List.mem_of_getElem? (i := 11) rfl)
theorem mw_60_12 : Cond.instanceMethod yX12_liftsTo ∈ wsL_law := mr_60 _ (List.mem_of_getElem? (i := 12) rfl)
theorem mw_60_13 : Cond.selects RX12 yX12_liftsTo yX12_liftsTo ∈ wsL_law := mr_60 _ (List.mem_of_getElem? (i := 13) rfl)
theorem mw_60_14 : Cond.code yX12_liftsTo cX12_liftsTo 5 (some .int) ∈ wsL_law := mr_60 _ (List.mem_of_getElem? (i := 14) rfl)
theorem mw_60_19 : Cond.methodLink RX11 336 yX1_liftNext ∈ wsL_law := mr_60 _ (List.mem_of_getElem? (i := 19) rfl)
theorem mw_61_4 : Cond.methodLink RX11 339 yX1_heardBehind ∈ wsL_law := mr_61 _ (List.mem_of_getElem? (i := 4) rfl)
theorem mw_61_5 : Cond.instanceMethod yX1_heardBehind ∈ wsL_law := mr_61 _ (List.mem_of_getElem? (i := 5) rfl)
theorem mw_61_6 : Cond.selects RX1 yX1_heardBehind yX1_heardBehind ∈ wsL_law := mr_61 _ (List.mem_of_getElem? (i := 6) rfl)
theorem mw_61_7 : Cond.code yX1_heardBehind cX1_heardBehind 5 (some .int) ∈ wsL_law := mr_61 _ (List.mem_of_getElem? (i := 7) rfl)
theorem mw_61_8 : Cond.methodLink RX1 122 yX1_tellOn ∈ wsL_law := mr_61 _ (List.mem_of_getElem? (i := 8) rfl)
theorem mw_61_9 : Cond.instanceMethod yX1_tellOn ∈ wsL_law := mr_61 _ (List.mem_of_getElem? (i := 9) rfl)
theorem mw_61_10 : Cond.selects RX1 yX1_tellOn yX1_tellOn ∈ wsL_law := mr_61 _ (List.mem_of_getElem? (i := 10) rfl)
theorem mw_61_11 : Cond.code yX1_tellOn cX1_tellOn 4 (some .int) ∈ wsL_law := mr_61 _ (List.mem_of_getElem? (i := 11) rfl)
theorem mw_61_16 : Cond.methodLink RX12 439 yX12_heardTo ∈ wsL_law := mr_61 _ (List.mem_of_getElem? (i := 16) rfl)
theorem mw_61_17 : Cond.instanceMethod yX12_heardTo ∈ wsL_law := mr_61 _ (List.mem_of_getElem? (i := 17) rfl)
theorem mw_61_18 : Cond.selects RX12 yX12_heardTo yX12_heardTo ∈ wsL_law := mr_61 _ (List.mem_of_getElem? (i := 18) rfl)
theorem mw_61_19 : Cond.code yX12_heardTo cX12_heardTo 4 (some .int) ∈ wsL_law := mr_61 _ (List.mem_of_getElem? (i := 19) rfl)
theorem mw_62_8 : Cond.methodLink RX11 342 yX1_bestCamp ∈ wsL_law := mr_62 _ (List.mem_of_getElem? (i := 8) rfl)
theorem mw_62_9 : Cond.instanceMethod yX1_bestCamp ∈ wsL_law := mr_62 _ (List.mem_of_getElem? (i := 9) rfl)
theorem mw_62_10 : Cond.selects RX1 yX1_bestCamp yX1_bestCamp ∈ wsL_law := mr_62 _ (List.mem_of_getElem? (i := 10) rfl)
theorem mw_62_11 : Cond.code yX1_bestCamp cX1_bestCamp 3 (some .int) ∈ wsL_law := mr_62 _ (List.mem_of_getElem? (i := 11) rfl)
theorem mw_62_12 : Cond.methodLink RX1 125 yX1_changesFor ∈ wsL_law := mr_62 _ (List.mem_of_getElem? (i := 12) rfl)
theorem mw_62_13 : Cond.instanceMethod yX1_changesFor ∈ wsL_law := mr_62 _ (List.mem_of_getElem? (i := 13) rfl)
theorem mw_62_14 : Cond.selects RX1 yX1_changesFor yX1_changesFor ∈ wsL_law := mr_62 _ (List.mem_of_getElem? (i := 14) rfl)
theorem mw_62_15 : Cond.code yX1_changesFor cX1_changesFor 5 (some .int) ∈ wsL_law := mr_62 _ (List.mem_of_getElem? (i := 15) rfl)
theorem mw_62_16 : Cond.methodLink RX11 345 yX1_changesFor ∈ wsL_law := mr_62 _ (List.mem_of_getElem? (i := 16) rfl)
theorem mw_62_21 : Cond.methodLink RX12 442 yX12_campCost ∈ wsL_law := mr_62 _ (List.mem_of_getElem? (i := 21) rfl)
theorem mw_62_22 : Cond.instanceMethod yX12_campCost ∈ wsL_law := mr_62 _ (List.mem_of_getElem? (i := 22) rfl)
theorem mw_62_23 : Cond.selects RX12 yX12_campCost yX12_campCost ∈ wsL_law := mr_62 _ (List.mem_of_getElem? (i := 23) rfl)
theorem mw_63_0 : Cond.code yX12_campCost cX12_campCost 5 (some .int) ∈ wsL_law := mr_63 _ (List.mem_of_getElem? (i := 0) rfl)
theorem mw_63_5 : Cond.methodLink RX11 348 yX1_quarrelsToMakeUp ∈ wsL_law := mr_63 _ (List.mem_of_getElem? (i := 5) rfl)
theorem mw_63_6 : Cond.instanceMethod yX1_quarrelsToMakeUp ∈ wsL_law := mr_63 _ (List.mem_of_getElem? (i := 6) rfl)
theorem mw_63_7 : Cond.selects RX1 yX1_quarrelsToMakeUp yX1_quarrelsToMakeUp ∈ wsL_law := mr_63 _ (List.mem_of_getElem? (i := 7) rfl)
theorem mw_63_8 : Cond.code yX1_quarrelsToMakeUp cX1_quarrelsToMakeUp 4 (some .int) ∈ wsL_law := mr_63 _ (List.mem_of_getElem? (i := 8) rfl)
theorem mw_63_9 : Cond.methodLink RX1 128 yX1_heardBehind ∈ wsL_law := mr_63 _ (List.mem_of_getElem? (i := 9) rfl)
theorem mw_63_18 : Cond.methodLink RX11 351 yX11_rimCode ∈ wsL_law := mr_63 _ (List.mem_of_getElem? (i := 18) rfl)
theorem mw_63_19 : Cond.instanceMethod yX11_rimCode ∈ wsL_law := mr_63 _ (List.mem_of_getElem? (i := 19) rfl)
theorem mw_63_20 : Cond.selects RX11 yX11_rimCode yX11_rimCode ∈ wsL_law := mr_63 _ (List.mem_of_getElem? (i := 20) rfl)
theorem mw_63_21 : Cond.code yX11_rimCode cX11_rimCode 5 (some .int) ∈ wsL_law := mr_63 _ (List.mem_of_getElem? (i := 21) rfl)
theorem mw_63_22 : Cond.methodLink RX11 377 yX9_rowCode ∈ wsL_law := mr_63 _ (List.mem_of_getElem? (i := 22) rfl)
theorem mw_63_23 : Cond.instanceMethod yX9_rowCode ∈ wsL_law := mr_63 _ (List.mem_of_getElem? (i := 23) rfl)
theorem mw_64_0 : Cond.selects RX9 yX9_rowCode yX9_rowCode ∈ wsL_law := mr_64 _ (List.mem_of_getElem? (i := 0) rfl)
theorem mw_64_1 : Cond.code yX9_rowCode cX9_rowCode 1 (some .int) ∈ wsL_law := mr_64 _ (List.mem_of_getElem? (i := 1) rfl)
theorem mw_64_2 : Cond.fieldLink RX9 19 "CoinPairs$Tray" "size" "I" ∈ wsL_law := mr_64 _ (List.mem_of_getElem? (i := 2) rfl)
theorem mw_64_3 : Cond.methodLink RX9 32 yX9_isMissing ∈ wsL_law := mr_64 _ (List.mem_of_getElem? (i := 3) rfl)
theorem mw_64_4 : Cond.methodLink RX11 380 yX9_allBetween ∈ wsL_law := mr_64 _ (List.mem_of_getElem? (i := 4) rfl)
theorem mw_64_5 : Cond.instanceMethod yX9_allBetween ∈ wsL_law := mr_64 _ (List.mem_of_getElem? (i := 5) rfl)
theorem mw_64_6 : Cond.selects RX9 yX9_allBetween yX9_allBetween ∈ wsL_law := mr_64 _ (List.mem_of_getElem? (i := 6) rfl)
theorem mw_64_7 : Cond.code yX9_allBetween cX9_allBetween 4 (some .boolean) ∈ wsL_law := mr_64 _ (List.mem_of_getElem? (i := 7) rfl)
theorem mw_64_8 : Cond.methodLink RX11 355 yX8_learn ∈ wsL_law := mr_64 _ (List.mem_of_getElem? (i := 8) rfl)
theorem mw_64_9 : Cond.instanceMethod yX8_learn ∈ wsL_law := mr_64 _ (List.mem_of_getElem? (i := 9) rfl)
theorem mw_64_10 : Cond.selects RX8 yX8_learn yX8_learn ∈ wsL_law := mr_64 _ (List.mem_of_getElem? (i := 10) rfl)
theorem mw_64_11 : Cond.code yX8_learn cX8_learn 6 none ∈ wsL_law := mr_64 _ (List.mem_of_getElem? (i := 11) rfl)
theorem mw_64_12 : Cond.fieldLink RX8 33 "CoinPairs$Tray" "size" "I" ∈ wsL_law := mr_64 _ (List.mem_of_getElem? (i := 12) rfl)
theorem mw_64_13 : Cond.methodLink RX8 39 Lib.Math.min.name ∈ wsL_law := mr_64 _ (List.mem_of_getElem? (i := 13) rfl)
theorem mw_64_14 : Cond.fieldLink RX8 45 "CoinPairs$Tray" "numbers" "[J" ∈ wsL_law := mr_64 _ (List.mem_of_getElem? (i := 14) rfl)
theorem mw_64_15 : Cond.methodLink RX8 48 arraycopyName ∈ wsL_law := mr_64 _ (List.mem_of_getElem? (i := 15) rfl)
theorem mw_64_16 : Cond.methodLink RX8 54 yX4_learn ∈ wsL_law := mr_64 _ (List.mem_of_getElem? (i := 16) rfl)
theorem mw_64_17 : Cond.methodLink RX8 58 yX4_places ∈ wsL_law := mr_64 _ (List.mem_of_getElem? (i := 17) rfl)
theorem mw_64_18 : Cond.methodLink RX8 62 yX8_rowsOnFrom ∈ wsL_law := mr_64 _ (List.mem_of_getElem? (i := 18) rfl)
theorem mw_64_19 : Cond.instanceMethod yX8_rowsOnFrom ∈ wsL_law := mr_64 _ (List.mem_of_getElem? (i := 19) rfl)
theorem mw_64_20 : Cond.selects RX8 yX8_rowsOnFrom yX8_rowsOnFrom ∈ wsL_law := mr_64 _ (List.mem_of_getElem? (i := 20) rfl)
theorem mw_64_21 : Cond.code yX8_rowsOnFrom cX8_rowsOnFrom 7 (some .long) ∈ wsL_law := mr_64 _ (List.mem_of_getElem? (i := 21) rfl)
theorem mw_64_22 : Cond.methodLink RX8 66 yX4_wearOf ∈ wsL_law := mr_64 _ (List.mem_of_getElem? (i := 22) rfl)
theorem mw_64_23 : Cond.methodLink RX8 70 yX8_fits ∈ wsL_law := mr_64 _ (List.mem_of_getElem? (i := 23) rfl)
theorem mw_65_0 : Cond.instanceMethod yX8_fits ∈ wsL_law := mr_65 _ (List.mem_of_getElem? (i := 0) rfl)
theorem mw_65_1 : Cond.selects RX8 yX8_fits yX8_fits ∈ wsL_law := mr_65 _ (List.mem_of_getElem? (i := 1) rfl)
theorem mw_65_2 : Cond.code yX8_fits cX8_fits 3 (some .boolean) ∈ wsL_law := mr_65 _ (List.mem_of_getElem? (i := 2) rfl)
theorem mw_65_3 : Cond.constantLong RX8 77 (-1) ∈ wsL_law := mr_65 _ (List.mem_of_getElem? (i := 3) rfl)
theorem mw_65_4 : Cond.methodLink RX8 74 yX8_rowsFrom ∈ wsL_law := mr_65 _ (List.mem_of_getElem? (i := 4) rfl)
theorem mw_65_5 : Cond.instanceMethod yX8_rowsFrom ∈ wsL_law := mr_65 _ (List.mem_of_getElem? (i := 5) rfl)
theorem mw_65_6 : Cond.selects RX8 yX8_rowsFrom yX8_rowsFrom ∈ wsL_law := mr_65 _ (List.mem_of_getElem? (i := 6) rfl)
theorem mw_65_7 : Cond.code yX8_rowsFrom cX8_rowsFrom 3 (some .long) ∈ wsL_law := mr_65 _ (List.mem_of_getElem? (i := 7) rfl)
theorem mw_65_8 : Cond.methodLink RX11 358 yX8_rowsFrom ∈ wsL_law := mr_65 _ (List.mem_of_getElem? (i := 8) rfl)
theorem mw_65_13 : Cond.methodLink RX12 460 yX12_noWorn ∈ wsL_law := mr_65 _ (List.mem_of_getElem? (i := 13) rfl)
theorem mw_65_14 : Cond.instanceMethod yX12_noWorn ∈ wsL_law := mr_65 _ (List.mem_of_getElem? (i := 14) rfl)
theorem mw_65_15 : Cond.selects RX12 yX12_noWorn yX12_noWorn ∈ wsL_law := mr_65 _ (List.mem_of_getElem? (i := 15) rfl)
theorem mw_65_16 : Cond.code yX12_noWorn cX12_noWorn 3 (some .int) ∈ wsL_law := mr_65 _ (List.mem_of_getElem? (i := 16) rfl)
theorem mw_65_17 : Cond.methodLink RX12 445 yX12_noTold ∈ wsL_law := mr_65 _ (List.mem_of_getElem? (i := 17) rfl)
theorem mw_65_18 : Cond.instanceMethod yX12_noTold ∈ wsL_law := mr_65 _ (List.mem_of_getElem? (i := 18) rfl)
theorem mw_65_19 : Cond.selects RX12 yX12_noTold yX12_noTold ∈ wsL_law := mr_65 _ (List.mem_of_getElem? (i := 19) rfl)
theorem mw_65_20 : Cond.code yX12_noTold cX12_noTold 6 (some .int) ∈ wsL_law := mr_65 _ (List.mem_of_getElem? (i := 20) rfl)
theorem mw_65_21 : Cond.methodLink RX12 463 yX12_laysWorn ∈ wsL_law := mr_65 _ (List.mem_of_getElem? (i := 21) rfl)
theorem mw_65_22 : Cond.instanceMethod yX12_laysWorn ∈ wsL_law := mr_65 _ (List.mem_of_getElem? (i := 22) rfl)
theorem mw_65_23 : Cond.selects RX12 yX12_laysWorn yX12_laysWorn ∈ wsL_law := mr_65 _ (List.mem_of_getElem? (i := 23) rfl)
theorem mw_66_0 : Cond.code yX12_laysWorn cX12_laysWorn 9 (some .long) ∈ wsL_law := mr_66 _ (List.mem_of_getElem? (i := 0) rfl)
theorem mw_66_1 : Cond.fieldLink RX12 450 "CoinPairsModel" "deedMany" "I" ∈ wsL_law := mr_66 _ (List.mem_of_getElem? (i := 1) rfl)
theorem mw_66_2 : Cond.methodLink RX12 453 yX12_laysDeeds ∈ wsL_law := mr_66 _ (List.mem_of_getElem? (i := 2) rfl)
theorem mw_66_3 : Cond.instanceMethod yX12_laysDeeds ∈ wsL_law := mr_66 _ (List.mem_of_getElem? (i := 3) rfl)
theorem mw_66_4 : Cond.selects RX12 yX12_laysDeeds yX12_laysDeeds ∈ wsL_law := mr_66 _ (List.mem_of_getElem? (i := 4) rfl)
theorem mw_66_5 : Cond.code yX12_laysDeeds cX12_laysDeeds 5 none ∈ wsL_law := mr_66 _ (List.mem_of_getElem? (i := 5) rfl)
theorem mw_66_6 : Cond.methodLink RX12 456 yX12_isWorn ∈ wsL_law := mr_66 _ (List.mem_of_getElem? (i := 6) rfl)
theorem mw_66_7 : Cond.instanceMethod yX12_isWorn ∈ wsL_law := mr_66 _ (List.mem_of_getElem? (i := 7) rfl)
theorem mw_66_8 : Cond.selects RX12 yX12_isWorn yX12_isWorn ∈ wsL_law := mr_66 _ (List.mem_of_getElem? (i := 8) rfl)
theorem mw_66_9 : Cond.code yX12_isWorn cX12_isWorn 11 (some .boolean) ∈ wsL_law := mr_66 _ (List.mem_of_getElem? (i := 9) rfl)
theorem mw_66_10 : Cond.constantLong RX12 448 (-1) ∈ wsL_law := mr_66 _ (List.mem_of_getElem? (i := 10) rfl)
theorem mw_66_15 : Cond.methodLink RX11 362 yX8_firstRowsDeed ∈ wsL_law := mr_66 _ (List.mem_of_getElem? (i := 15) rfl)
theorem mw_66_16 : Cond.instanceMethod yX8_firstRowsDeed ∈ wsL_law := mr_66 _ (List.mem_of_getElem? (i := 16) rfl)
theorem mw_66_17 : Cond.selects RX8 yX8_firstRowsDeed yX8_firstRowsDeed ∈ wsL_law := mr_66 _ (List.mem_of_getElem? (i := 17) rfl)
theorem mw_66_18 : Cond.code yX8_firstRowsDeed cX8_firstRowsDeed 6 (some .int) ∈ wsL_law := mr_66 _ (List.mem_of_getElem? (i := 18) rfl)
theorem mw_66_19 : Cond.methodLink RX8 79 yX8_firstFitting ∈ wsL_law := mr_66 _ (List.mem_of_getElem? (i := 19) rfl)
theorem mw_66_20 : Cond.instanceMethod yX8_firstFitting ∈ wsL_law := mr_66 _ (List.mem_of_getElem? (i := 20) rfl)
theorem mw_66_21 : Cond.selects RX8 yX8_firstFitting yX8_firstFitting ∈ wsL_law := mr_66 _ (List.mem_of_getElem? (i := 21) rfl)
theorem mw_66_22 : Cond.code yX8_firstFitting cX8_firstFitting 6 (some .int) ∈ wsL_law := mr_66 _ (List.mem_of_getElem? (i := 22) rfl)
theorem mw_67_3 : Cond.methodLink RX12 467 yX12_canGo ∈ wsL_law := mr_67 _ (List.mem_of_getElem? (i := 3) rfl)
theorem mw_67_4 : Cond.instanceMethod yX12_canGo ∈ wsL_law := mr_67 _ (List.mem_of_getElem? (i := 4) rfl)
theorem mw_67_5 : Cond.selects RX12 yX12_canGo yX12_canGo ∈ wsL_law := mr_67 _ (List.mem_of_getElem? (i := 5) rfl)
theorem mw_67_6 : Cond.code yX12_canGo cX12_canGo 5 (some .boolean) ∈ wsL_law := mr_67 _ (List.mem_of_getElem? (i := 6) rfl)
theorem mw_67_11 : Cond.methodLink RX11 365 yX8_peopleAt ∈ wsL_law := mr_67 _ (List.mem_of_getElem? (i := 11) rfl)
theorem mw_67_12 : Cond.instanceMethod yX8_peopleAt ∈ wsL_law := mr_67 _ (List.mem_of_getElem? (i := 12) rfl)
theorem mw_67_13 : Cond.selects RX8 yX8_peopleAt yX8_peopleAt ∈ wsL_law := mr_67 _ (List.mem_of_getElem? (i := 13) rfl)
theorem mw_67_14 : Cond.code yX8_peopleAt cX8_peopleAt 6 (some .int) ∈ wsL_law := mr_67 _ (List.mem_of_getElem? (i := 14) rfl)
theorem mw_67_15 : Cond.methodLink RX8 92 yX8_placesBehind ∈ wsL_law := mr_67 _ (List.mem_of_getElem? (i := 15) rfl)
theorem mw_67_16 : Cond.instanceMethod yX8_placesBehind ∈ wsL_law := mr_67 _ (List.mem_of_getElem? (i := 16) rfl)
theorem mw_67_17 : Cond.selects RX8 yX8_placesBehind yX8_placesBehind ∈ wsL_law := mr_67 _ (List.mem_of_getElem? (i := 17) rfl)
theorem mw_67_18 : Cond.code yX8_placesBehind cX8_placesBehind 7 (some .int) ∈ wsL_law := mr_67 _ (List.mem_of_getElem? (i := 18) rfl)
theorem mw_67_19 : Cond.methodLink RX8 95 yX8_canHaveBeen ∈ wsL_law := mr_67 _ (List.mem_of_getElem? (i := 19) rfl)
theorem mw_67_20 : Cond.instanceMethod yX8_canHaveBeen ∈ wsL_law := mr_67 _ (List.mem_of_getElem? (i := 20) rfl)
theorem mw_67_21 : Cond.selects RX8 yX8_canHaveBeen yX8_canHaveBeen ∈ wsL_law := mr_67 _ (List.mem_of_getElem? (i := 21) rfl)
theorem mw_67_22 : Cond.code yX8_canHaveBeen cX8_canHaveBeen 6 (some .boolean) ∈ wsL_law := mr_67 _ (List.mem_of_getElem? (i := 22) rfl)
theorem mw_68_7 : Cond.methodLink RX11 368 yX11_toldCode ∈ wsL_law := mr_68 _ (List.mem_of_getElem? (i := 7) rfl)
theorem mw_68_8 : Cond.instanceMethod yX11_toldCode ∈ wsL_law := mr_68 _ (List.mem_of_getElem? (i := 8) rfl)
theorem mw_68_9 : Cond.selects RX11 yX11_toldCode yX11_toldCode ∈ wsL_law := mr_68 _ (List.mem_of_getElem? (i := 9) rfl)
theorem mw_68_10 : Cond.code yX11_toldCode cX11_toldCode 3 (some .int) ∈ wsL_law := mr_68 _ (List.mem_of_getElem? (i := 10) rfl)
theorem mw_68_11 : Cond.constant RX11 383 (99999) ∈ wsL_law := mr_68 _ (List.mem_of_getElem? (i := 11) rfl)
theorem mw_68_12 : Cond.methodLink RX11 371 yX0_hoursOf ∈ wsL_law := mr_68 _ (List.mem_of_getElem? (i := 12) rfl)
theorem mw_68_13 : Cond.instanceMethod yX0_hoursOf ∈ wsL_law := mr_68 _ (List.mem_of_getElem? (i := 13) rfl)
theorem mw_68_14 : Cond.selects RX0 yX0_hoursOf yX0_hoursOf ∈ wsL_law := mr_68 _ (List.mem_of_getElem? (i := 14) rfl)
theorem mw_68_15 : Cond.code yX0_hoursOf cX0_hoursOf 4 (some .int) ∈ wsL_law := mr_68 _ (List.mem_of_getElem? (i := 15) rfl)
theorem mw_68_16 : Cond.methodLink RX0 142 yX0_allSoAt ∈ wsL_law := mr_68 _ (List.mem_of_getElem? (i := 16) rfl)
theorem mw_68_17 : Cond.instanceMethod yX0_allSoAt ∈ wsL_law := mr_68 _ (List.mem_of_getElem? (i := 17) rfl)
theorem mw_68_18 : Cond.selects RX0 yX0_allSoAt yX0_allSoAt ∈ wsL_law := mr_68 _ (List.mem_of_getElem? (i := 18) rfl)
theorem mw_68_19 : Cond.code yX0_allSoAt cX0_allSoAt 8 (some .boolean) ∈ wsL_law := mr_68 _ (List.mem_of_getElem? (i := 19) rfl)
theorem mw_68_20 : Cond.fieldLink RX0 146 "CoinPairs$Tray" "size" "I" ∈ wsL_law := mr_68 _ (List.mem_of_getElem? (i := 20) rfl)
theorem mw_68_21 : Cond.fieldLink RX0 151 "CoinPairs$Tray" "numbers" "[J" ∈ wsL_law := mr_68 _ (List.mem_of_getElem? (i := 21) rfl)
theorem mw_69_2 : Cond.constant RX12 473 (99999) ∈ wsL_law := mr_69 _ (List.mem_of_getElem? (i := 2) rfl)
theorem mw_69_3 : Cond.methodLink RX12 474 yX12_hoursOf ∈ wsL_law := mr_69 _ (List.mem_of_getElem? (i := 3) rfl)
theorem mw_69_4 : Cond.instanceMethod yX12_hoursOf ∈ wsL_law := mr_69 _ (List.mem_of_getElem? (i := 4) rfl)
theorem mw_69_5 : Cond.selects RX12 yX12_hoursOf yX12_hoursOf ∈ wsL_law := mr_69 _ (List.mem_of_getElem? (i := 5) rfl)
theorem mw_69_6 : Cond.code yX12_hoursOf cX12_hoursOf 6 (some .int) ∈ wsL_law := mr_69 _ (List.mem_of_getElem? (i := 6) rfl)
theorem mw_69_7 : Cond.methodLink RX12 470 yX12_isTold ∈ wsL_law := mr_69 _ (List.mem_of_getElem? (i := 7) rfl)
theorem mw_69_8 : Cond.instanceMethod yX12_isTold ∈ wsL_law := mr_69 _ (List.mem_of_getElem? (i := 8) rfl)
theorem mw_69_9 : Cond.selects RX12 yX12_isTold yX12_isTold ∈ wsL_law := mr_69 _ (List.mem_of_getElem? (i := 9) rfl)
theorem mw_69_10 : Cond.code yX12_isTold cX12_isTold 4 (some .boolean) ∈ wsL_law := mr_69 _ (List.mem_of_getElem? (i := 10) rfl)
theorem mw_69_15 : Cond.methodLink RX11 374 yX8_tellingPair ∈ wsL_law := mr_69 _ (List.mem_of_getElem? (i := 15) rfl)
theorem mw_69_16 : Cond.instanceMethod yX8_tellingPair ∈ wsL_law := mr_69 _ (List.mem_of_getElem? (i := 16) rfl)
theorem mw_69_17 : Cond.selects RX8 yX8_tellingPair yX8_tellingPair ∈ wsL_law := mr_69 _ (List.mem_of_getElem? (i := 17) rfl)
theorem mw_69_18 : Cond.code yX8_tellingPair cX8_tellingPair 8 (some .int) ∈ wsL_law := mr_69 _ (List.mem_of_getElem? (i := 18) rfl)
theorem mw_69_19 : Cond.fieldLink RX8 102 "CoinPairs$Carriers" "valley" "LCoinPairs$Valley;" ∈ wsL_law := mr_69 _ (List.mem_of_getElem? (i := 19) rfl)
theorem mw_69_20 : Cond.methodLink RX8 108 yX10_hasPerson ∈ wsL_law := mr_69 _ (List.mem_of_getElem? (i := 20) rfl)
theorem mw_69_21 : Cond.methodLink RX8 114 yX8_mostAlike ∈ wsL_law := mr_69 _ (List.mem_of_getElem? (i := 21) rfl)
theorem mw_69_22 : Cond.instanceMethod yX8_mostAlike ∈ wsL_law := mr_69 _ (List.mem_of_getElem? (i := 22) rfl)
theorem mw_69_23 : Cond.selects RX8 yX8_mostAlike yX8_mostAlike ∈ wsL_law := mr_69 _ (List.mem_of_getElem? (i := 23) rfl)
theorem mw_70_0 : Cond.code yX8_mostAlike cX8_mostAlike 9 (some .int) ∈ wsL_law := mr_70 _ (List.mem_of_getElem? (i := 0) rfl)
theorem mw_70_1 : Cond.methodLink RX8 127 Lib.Math.max.name ∈ wsL_law := mr_70 _ (List.mem_of_getElem? (i := 1) rfl)
theorem mw_70_2 : Cond.methodLink RX8 117 yJ7_fill_53178 ∈ wsL_law := mr_70 _ (List.mem_of_getElem? (i := 2) rfl)
theorem mw_70_3 : Cond.methodLink RX8 123 yX0_wearAt ∈ wsL_law := mr_70 _ (List.mem_of_getElem? (i := 3) rfl)
theorem mw_70_8 : Cond.methodLink RX12 477 yX12_mostOften ∈ wsL_law := mr_70 _ (List.mem_of_getElem? (i := 8) rfl)
theorem mw_70_9 : Cond.instanceMethod yX12_mostOften ∈ wsL_law := mr_70 _ (List.mem_of_getElem? (i := 9) rfl)
theorem mw_70_10 : Cond.selects RX12 yX12_mostOften yX12_mostOften ∈ wsL_law := mr_70 _ (List.mem_of_getElem? (i := 10) rfl)
theorem mw_70_11 : Cond.code yX12_mostOften cX12_mostOften 9 (some .int) ∈ wsL_law := mr_70 _ (List.mem_of_getElem? (i := 11) rfl)
theorem mw_70_16 : Cond.methodLink RX11 384 yX2_forcedWithin ∈ wsL_law := mr_70 _ (List.mem_of_getElem? (i := 16) rfl)
theorem mw_70_17 : Cond.instanceMethod yX2_forcedWithin ∈ wsL_law := mr_70 _ (List.mem_of_getElem? (i := 17) rfl)
theorem mw_70_18 : Cond.selects RX2 yX2_forcedWithin yX2_forcedWithin ∈ wsL_law := mr_70 _ (List.mem_of_getElem? (i := 18) rfl)
theorem mw_70_19 : Cond.code yX2_forcedWithin cX2_forcedWithin 6 (some .int) ∈ wsL_law := mr_70 _ (List.mem_of_getElem? (i := 19) rfl)
theorem mw_70_20 : Cond.fieldLink RX2 39 "CoinPairs$Valley" "places" "I" ∈ wsL_law := mr_70 _ (List.mem_of_getElem? (i := 20) rfl)
theorem mw_70_21 : Cond.fieldLink RX2 49 "CoinPairs$Games" "otherForced" "I" ∈ wsL_law := mr_70 _ (List.mem_of_getElem? (i := 21) rfl)
theorem mw_70_22 : Cond.methodLink RX2 45 yX4_placesNextTo ∈ wsL_law := mr_70 _ (List.mem_of_getElem? (i := 22) rfl)
theorem mw_70_23 : Cond.methodLink RX2 52 yX2_someGoInto ∈ wsL_law := mr_70 _ (List.mem_of_getElem? (i := 23) rfl)
theorem mw_71_0 : Cond.instanceMethod yX2_someGoInto ∈ wsL_law := mr_71 _ (List.mem_of_getElem? (i := 0) rfl)
theorem mw_71_1 : Cond.selects RX2 yX2_someGoInto yX2_someGoInto ∈ wsL_law := mr_71 _ (List.mem_of_getElem? (i := 1) rfl)
theorem mw_71_2 : Cond.code yX2_someGoInto cX2_someGoInto 4 (some .int) ∈ wsL_law := mr_71 _ (List.mem_of_getElem? (i := 2) rfl)
theorem mw_71_3 : Cond.methodLink RX2 59 yX2_allGoInto ∈ wsL_law := mr_71 _ (List.mem_of_getElem? (i := 3) rfl)
theorem mw_71_4 : Cond.instanceMethod yX2_allGoInto ∈ wsL_law := mr_71 _ (List.mem_of_getElem? (i := 4) rfl)
theorem mw_71_5 : Cond.selects RX2 yX2_allGoInto yX2_allGoInto ∈ wsL_law := mr_71 _ (List.mem_of_getElem? (i := 5) rfl)
theorem mw_71_6 : Cond.code yX2_allGoInto cX2_allGoInto 4 (some .int) ∈ wsL_law := mr_71 _ (List.mem_of_getElem? (i := 6) rfl)
theorem mw_71_11 : Cond.methodLink RX12 486 yX12_laysForce ∈ wsL_law := mr_71 _ (List.mem_of_getElem? (i := 11) rfl)
theorem mw_71_12 : Cond.instanceMethod yX12_laysForce ∈ wsL_law := mr_71 _ (List.mem_of_getElem? (i := 12) rfl)
theorem mw_71_13 : Cond.selects RX12 yX12_laysForce yX12_laysForce ∈ wsL_law := mr_71 _ (List.mem_of_getElem? (i := 13) rfl)
theorem mw_71_14 : Cond.code yX12_laysForce cX12_laysForce 7 (some .int) ∈ wsL_law := mr_71 _ (List.mem_of_getElem? (i := 14) rfl)
theorem mw_71_15 : Cond.methodLink RX12 480 yX12_canBe ∈ wsL_law := mr_71 _ (List.mem_of_getElem? (i := 15) rfl)
theorem mw_71_16 : Cond.instanceMethod yX12_canBe ∈ wsL_law := mr_71 _ (List.mem_of_getElem? (i := 16) rfl)
theorem mw_71_17 : Cond.selects RX12 yX12_canBe yX12_canBe ∈ wsL_law := mr_71 _ (List.mem_of_getElem? (i := 17) rfl)
theorem mw_71_18 : Cond.code yX12_canBe cX12_canBe 3 (some .boolean) ∈ wsL_law := mr_71 _ (List.mem_of_getElem? (i := 18) rfl)
theorem mw_71_19 : Cond.methodLink RX12 483 yX12_otherAt ∈ wsL_law := mr_71 _ (List.mem_of_getElem? (i := 19) rfl)
theorem mw_71_20 : Cond.instanceMethod yX12_otherAt ∈ wsL_law := mr_71 _ (List.mem_of_getElem? (i := 20) rfl)
theorem mw_71_21 : Cond.selects RX12 yX12_otherAt yX12_otherAt ∈ wsL_law := mr_71 _ (List.mem_of_getElem? (i := 21) rfl)
theorem mw_71_22 : Cond.code yX12_otherAt cX12_otherAt 4 (some .int) ∈ wsL_law := mr_71 _ (List.mem_of_getElem? (i := 22) rfl)
theorem mw_72_3 : Cond.methodLink RX11 387 yX2_bestPlace ∈ wsL_law := mr_72 _ (List.mem_of_getElem? (i := 3) rfl)
theorem mw_72_4 : Cond.instanceMethod yX2_bestPlace ∈ wsL_law := mr_72 _ (List.mem_of_getElem? (i := 4) rfl)
theorem mw_72_5 : Cond.selects RX2 yX2_bestPlace yX2_bestPlace ∈ wsL_law := mr_72 _ (List.mem_of_getElem? (i := 5) rfl)
theorem mw_72_6 : Cond.code yX2_bestPlace cX2_bestPlace 4 (some .int) ∈ wsL_law := mr_72 _ (List.mem_of_getElem? (i := 6) rfl)
theorem mw_72_15 : Cond.methodLink RX11 390 yX2_learnChances ∈ wsL_law := mr_72 _ (List.mem_of_getElem? (i := 15) rfl)
theorem mw_72_16 : Cond.instanceMethod yX2_learnChances ∈ wsL_law := mr_72 _ (List.mem_of_getElem? (i := 16) rfl)
theorem mw_72_17 : Cond.selects RX2 yX2_learnChances yX2_learnChances ∈ wsL_law := mr_72 _ (List.mem_of_getElem? (i := 17) rfl)
theorem mw_72_18 : Cond.code yX2_learnChances cX2_learnChances 5 none ∈ wsL_law := mr_72 _ (List.mem_of_getElem? (i := 18) rfl)
theorem mw_72_19 : Cond.constant RX2 72 (100000) ∈ wsL_law := mr_72 _ (List.mem_of_getElem? (i := 19) rfl)
theorem mw_72_20 : Cond.fieldLink RX2 73 "CoinPairs$Valley" "roads" "I" ∈ wsL_law := mr_72 _ (List.mem_of_getElem? (i := 20) rfl)
theorem mw_72_21 : Cond.fieldLink RX2 76 "CoinPairs$Valley" "roadFrom" "[I" ∈ wsL_law := mr_72 _ (List.mem_of_getElem? (i := 21) rfl)
theorem mw_72_22 : Cond.fieldLink RX2 79 "CoinPairs$Valley" "roadTo" "[I" ∈ wsL_law := mr_72 _ (List.mem_of_getElem? (i := 22) rfl)
theorem mw_72_23 : Cond.fieldLink RX2 82 "CoinPairs$Valley" "roadLong" "[I" ∈ wsL_law := mr_72 _ (List.mem_of_getElem? (i := 23) rfl)
theorem mw_73_0 : Cond.methodLink RX2 62 yX2_learnOpenRoads ∈ wsL_law := mr_73 _ (List.mem_of_getElem? (i := 0) rfl)
theorem mw_73_1 : Cond.instanceMethod yX2_learnOpenRoads ∈ wsL_law := mr_73 _ (List.mem_of_getElem? (i := 1) rfl)
theorem mw_73_2 : Cond.selects RX2 yX2_learnOpenRoads yX2_learnOpenRoads ∈ wsL_law := mr_73 _ (List.mem_of_getElem? (i := 2) rfl)
theorem mw_73_3 : Cond.code yX2_learnOpenRoads cX2_learnOpenRoads 3 none ∈ wsL_law := mr_73 _ (List.mem_of_getElem? (i := 3) rfl)
theorem mw_73_4 : Cond.methodLink RX2 89 yX0_someMayOn ∈ wsL_law := mr_73 _ (List.mem_of_getElem? (i := 4) rfl)
theorem mw_73_5 : Cond.instanceMethod yX0_someMayOn ∈ wsL_law := mr_73 _ (List.mem_of_getElem? (i := 5) rfl)
theorem mw_73_6 : Cond.selects RX0 yX0_someMayOn yX0_someMayOn ∈ wsL_law := mr_73 _ (List.mem_of_getElem? (i := 6) rfl)
theorem mw_73_7 : Cond.code yX0_someMayOn cX0_someMayOn 7 (some .boolean) ∈ wsL_law := mr_73 _ (List.mem_of_getElem? (i := 7) rfl)
theorem mw_73_8 : Cond.methodLink RX2 66 yJ7_fill_53178 ∈ wsL_law := mr_73 _ (List.mem_of_getElem? (i := 8) rfl)
theorem mw_73_9 : Cond.methodLink RX2 85 yX2_goOn ∈ wsL_law := mr_73 _ (List.mem_of_getElem? (i := 9) rfl)
theorem mw_73_10 : Cond.instanceMethod yX2_goOn ∈ wsL_law := mr_73 _ (List.mem_of_getElem? (i := 10) rfl)
theorem mw_73_11 : Cond.selects RX2 yX2_goOn yX2_goOn ∈ wsL_law := mr_73 _ (List.mem_of_getElem? (i := 11) rfl)
theorem mw_73_12 : Cond.code yX2_goOn cX2_goOn 7 none ∈ wsL_law := mr_73 _ (List.mem_of_getElem? (i := 12) rfl)
theorem mw_73_13 : Cond.methodLink RX2 93 Lib.Math.max.name ∈ wsL_law := mr_73 _ (List.mem_of_getElem? (i := 13) rfl)
theorem mw_73_14 : Cond.methodLink RX11 394 yX2_greatestChance ∈ wsL_law := mr_73 _ (List.mem_of_getElem? (i := 14) rfl)
theorem mw_73_15 : Cond.instanceMethod yX2_greatestChance ∈ wsL_law := mr_73 _ (List.mem_of_getElem? (i := 15) rfl)
theorem mw_73_16 : Cond.selects RX2 yX2_greatestChance yX2_greatestChance ∈ wsL_law := mr_73 _ (List.mem_of_getElem? (i := 16) rfl)
theorem mw_73_17 : Cond.code yX2_greatestChance cX2_greatestChance 4 (some .int) ∈ wsL_law := mr_73 _ (List.mem_of_getElem? (i := 17) rfl)
theorem mw_73_18 : Cond.methodLink RX11 397 yX2_fraction ∈ wsL_law := mr_73 _ (List.mem_of_getElem? (i := 18) rfl)
theorem mw_73_19 : Cond.instanceMethod yX2_fraction ∈ wsL_law := mr_73 _ (List.mem_of_getElem? (i := 19) rfl)
theorem mw_73_20 : Cond.selects RX2 yX2_fraction yX2_fraction ∈ wsL_law := mr_73 _ (List.mem_of_getElem? (i := 20) rfl)
theorem mw_73_21 : Cond.code yX2_fraction cX2_fraction 6 (some .int) ∈ wsL_law := mr_73 _ (List.mem_of_getElem? (i := 21) rfl)
theorem mw_74_2 : Cond.methodLink RX12 503 yX12_laysLikely ∈ wsL_law := mr_74 _ (List.mem_of_getElem? (i := 2) rfl)
theorem mw_74_3 : Cond.instanceMethod yX12_laysLikely ∈ wsL_law := mr_74 _ (List.mem_of_getElem? (i := 3) rfl)
theorem mw_74_4 : Cond.selects RX12 yX12_laysLikely yX12_laysLikely ∈ wsL_law := mr_74 _ (List.mem_of_getElem? (i := 4) rfl)
theorem mw_74_5 : Cond.code yX12_laysLikely cX12_laysLikely 4 none ∈ wsL_law := mr_74 _ (List.mem_of_getElem? (i := 5) rfl)
theorem mw_74_6 : Cond.methodLink RX12 489 yX12_goesLikely ∈ wsL_law := mr_74 _ (List.mem_of_getElem? (i := 6) rfl)
theorem mw_74_7 : Cond.instanceMethod yX12_goesLikely ∈ wsL_law := mr_74 _ (List.mem_of_getElem? (i := 7) rfl)
theorem mw_74_8 : Cond.selects RX12 yX12_goesLikely yX12_goesLikely ∈ wsL_law := mr_74 _ (List.mem_of_getElem? (i := 8) rfl)
theorem mw_74_9 : Cond.code yX12_goesLikely cX12_goesLikely 8 none ∈ wsL_law := mr_74 _ (List.mem_of_getElem? (i := 9) rfl)
theorem mw_74_10 : Cond.methodLink RX12 492 yX12_someMay ∈ wsL_law := mr_74 _ (List.mem_of_getElem? (i := 10) rfl)
theorem mw_74_11 : Cond.instanceMethod yX12_someMay ∈ wsL_law := mr_74 _ (List.mem_of_getElem? (i := 11) rfl)
theorem mw_74_12 : Cond.selects RX12 yX12_someMay yX12_someMay ∈ wsL_law := mr_74 _ (List.mem_of_getElem? (i := 12) rfl)
theorem mw_74_13 : Cond.code yX12_someMay cX12_someMay 6 (some .boolean) ∈ wsL_law := mr_74 _ (List.mem_of_getElem? (i := 13) rfl)
theorem mw_74_14 : Cond.methodLink RX12 506 yX12_likeliestBy ∈ wsL_law := mr_74 _ (List.mem_of_getElem? (i := 14) rfl)
theorem mw_74_15 : Cond.instanceMethod yX12_likeliestBy ∈ wsL_law := mr_74 _ (List.mem_of_getElem? (i := 15) rfl)
theorem mw_74_16 : Cond.selects RX12 yX12_likeliestBy yX12_likeliestBy ∈ wsL_law := mr_74 _ (List.mem_of_getElem? (i := 16) rfl)
theorem mw_74_17 : Cond.code yX12_likeliestBy cX12_likeliestBy 8 (some .int) ∈ wsL_law := mr_74 _ (List.mem_of_getElem? (i := 17) rfl)
theorem mw_74_18 : Cond.methodLink RX12 495 yX12_wholeOf ∈ wsL_law := mr_74 _ (List.mem_of_getElem? (i := 18) rfl)
theorem mw_74_19 : Cond.static yX12_wholeOf ∈ wsL_law := mr_74 _ (List.mem_of_getElem? (i := 19) rfl)
theorem mw_74_20 : Cond.code yX12_wholeOf cX12_wholeOf 4 (some .long) ∈ wsL_law := mr_74 _ (List.mem_of_getElem? (i := 20) rfl)
theorem mw_74_21 : Cond.methodLink RX12 499 yX12_common ∈ wsL_law := mr_74 _ (List.mem_of_getElem? (i := 21) rfl)
theorem mw_74_22 : Cond.static yX12_common ∈ wsL_law := mr_74 _ (List.mem_of_getElem? (i := 22) rfl)
theorem mw_74_23 : Cond.code yX12_common cX12_common 4 (some .long) ∈ wsL_law := mr_74 _ (List.mem_of_getElem? (i := 23) rfl)
theorem mw_75_4 : Cond.methodLink RX11 400 yX2_fewestRoads ∈ wsL_law := mr_75 _ (List.mem_of_getElem? (i := 4) rfl)
theorem mw_75_5 : Cond.instanceMethod yX2_fewestRoads ∈ wsL_law := mr_75 _ (List.mem_of_getElem? (i := 5) rfl)
theorem mw_75_6 : Cond.selects RX2 yX2_fewestRoads yX2_fewestRoads ∈ wsL_law := mr_75 _ (List.mem_of_getElem? (i := 6) rfl)
theorem mw_75_7 : Cond.code yX2_fewestRoads cX2_fewestRoads 4 (some .int) ∈ wsL_law := mr_75 _ (List.mem_of_getElem? (i := 7) rfl)
theorem mw_75_8 : Cond.methodLink RX2 99 yX2_greatestChance ∈ wsL_law := mr_75 _ (List.mem_of_getElem? (i := 8) rfl)
theorem mw_75_17 : Cond.methodLink RX11 403 yX9_renew ∈ wsL_law := mr_75 _ (List.mem_of_getElem? (i := 17) rfl)
theorem mw_75_18 : Cond.instanceMethod yX9_renew ∈ wsL_law := mr_75 _ (List.mem_of_getElem? (i := 18) rfl)
theorem mw_75_19 : Cond.selects RX9 yX9_renew yX9_renew ∈ wsL_law := mr_75 _ (List.mem_of_getElem? (i := 19) rfl)
theorem mw_75_20 : Cond.code yX9_renew cX9_renew 3 none ∈ wsL_law := mr_75 _ (List.mem_of_getElem? (i := 20) rfl)
theorem mw_75_21 : Cond.methodLink RX9 22 yJ7_fill_d0a16 ∈ wsL_law := mr_75 _ (List.mem_of_getElem? (i := 21) rfl)
theorem mw_76_6 : Cond.constantLong RX11 406 (-6) ∈ wsL_law := mr_76 _ (List.mem_of_getElem? (i := 6) rfl)
theorem mw_76_7 : Cond.constantLong RX11 408 (-7) ∈ wsL_law := mr_76 _ (List.mem_of_getElem? (i := 7) rfl)
theorem mw_76_8 : Cond.methodLink RX11 410 yX9_put ∈ wsL_law := mr_76 _ (List.mem_of_getElem? (i := 8) rfl)
theorem mw_76_9 : Cond.instanceMethod yX9_put ∈ wsL_law := mr_76 _ (List.mem_of_getElem? (i := 9) rfl)
theorem mw_76_10 : Cond.selects RX9 yX9_put yX9_put ∈ wsL_law := mr_76 _ (List.mem_of_getElem? (i := 10) rfl)
theorem mw_76_11 : Cond.code yX9_put cX9_put 4 (some .long) ∈ wsL_law := mr_76 _ (List.mem_of_getElem? (i := 11) rfl)
theorem mw_76_12 : Cond.methodLink RX9 28 yX9_cut ∈ wsL_law := mr_76 _ (List.mem_of_getElem? (i := 12) rfl)
theorem mw_76_13 : Cond.instanceMethod yX9_cut ∈ wsL_law := mr_76 _ (List.mem_of_getElem? (i := 13) rfl)
theorem mw_76_14 : Cond.selects RX9 yX9_cut yX9_cut ∈ wsL_law := mr_76 _ (List.mem_of_getElem? (i := 14) rfl)
theorem mw_76_15 : Cond.code yX9_cut cX9_cut 3 (some .long) ∈ wsL_law := mr_76 _ (List.mem_of_getElem? (i := 15) rfl)
theorem mw_76_20 : Cond.constantLong RX12 509 (-7) ∈ wsL_law := mr_76 _ (List.mem_of_getElem? (i := 20) rfl)
theorem mw_76_21 : Cond.methodLink RX12 511 yX12_cut ∈ wsL_law := mr_76 _ (List.mem_of_getElem? (i := 21) rfl)
theorem mw_76_22 : Cond.static yX12_cut ∈ wsL_law := mr_76 _ (List.mem_of_getElem? (i := 22) rfl)
theorem mw_76_23 : Cond.code yX12_cut cX12_cut 3 (some .long) ∈ wsL_law := mr_76 _ (List.mem_of_getElem? (i := 23) rfl)
theorem mw_77_4 : Cond.methodLink RX11 414 Lib.Math.min.name ∈ wsL_law := mr_77 _ (List.mem_of_getElem? (i := 4) rfl)
theorem mw_78_5 : Cond.fieldLink RX11 419 "CoinPairs$Valley" "places" "I" ∈ wsL_law := mr_78 _ (List.mem_of_getElem? (i := 5) rfl)
theorem mw_78_6 : Cond.fieldLink RX11 422 "CoinPairs$Valley" "people" "I" ∈ wsL_law := mr_78 _ (List.mem_of_getElem? (i := 6) rfl)
theorem mw_78_7 : Cond.fieldLink RX11 425 "CoinPairs$Valley" "coins" "I" ∈ wsL_law := mr_78 _ (List.mem_of_getElem? (i := 7) rfl)
theorem mw_78_8 : Cond.fieldLink RX11 431 "CoinPairs$Now" "carried" "I" ∈ wsL_law := mr_78 _ (List.mem_of_getElem? (i := 8) rfl)
theorem mw_78_9 : Cond.methodLink RX11 428 yX5_quarrelsThereAre ∈ wsL_law := mr_78 _ (List.mem_of_getElem? (i := 9) rfl)
theorem mw_78_10 : Cond.instanceMethod yX5_quarrelsThereAre ∈ wsL_law := mr_78 _ (List.mem_of_getElem? (i := 10) rfl)
theorem mw_78_11 : Cond.selects RX5 yX5_quarrelsThereAre yX5_quarrelsThereAre ∈ wsL_law := mr_78 _ (List.mem_of_getElem? (i := 11) rfl)
theorem mw_78_12 : Cond.code yX5_quarrelsThereAre cX5_quarrelsThereAre 3 (some .int) ∈ wsL_law := mr_78 _ (List.mem_of_getElem? (i := 12) rfl)
theorem mw_78_13 : Cond.methodLink RX5 53 yJ6_bitCount_0f7a4 ∈ wsL_law := mr_78 _ (List.mem_of_getElem? (i := 13) rfl)
theorem mw_78_18 : Cond.methodLink RX12 515 yX12_quarrelMany ∈ wsL_law := mr_78 _ (List.mem_of_getElem? (i := 18) rfl)
theorem mw_78_19 : Cond.instanceMethod yX12_quarrelMany ∈ wsL_law := mr_78 _ (List.mem_of_getElem? (i := 19) rfl)
theorem mw_78_20 : Cond.selects RX12 yX12_quarrelMany yX12_quarrelMany ∈ wsL_law := mr_78 _ (List.mem_of_getElem? (i := 20) rfl)
theorem mw_78_21 : Cond.code yX12_quarrelMany cX12_quarrelMany 3 (some .int) ∈ wsL_law := mr_78 _ (List.mem_of_getElem? (i := 21) rfl)
theorem gfX0_11 : cpGF RX0 11 0 2 := ⟨RX0, TX0, 3, rfl, inlX0, by decide, mw_5_20⟩
theorem gfX0_17 : cpGF RX0 17 0 0 := ⟨RX0, TX0, 3, rfl, inlX0, by decide, mw_5_21⟩
theorem gfX0_21 : cpGF RX0 21 0 1 := ⟨RX0, TX0, 3, rfl, inlX0, by decide, mw_5_22⟩
theorem gfX0_38 : cpGF RX0 38 5 0 := ⟨RX5, TX5, 5, rfl, inlX5, by decide, mw_32_20⟩
theorem gfX0_50 : cpGF RX0 50 10 16 := ⟨RX10, TX10, 17, rfl, inlX10, by decide, mw_33_8⟩
theorem gfX0_77 : cpGF RX0 77 10 3 := ⟨RX10, TX10, 17, rfl, inlX10, by decide, mw_33_15⟩
theorem gfX0_85 : cpGF RX0 85 10 6 := ⟨RX10, TX10, 17, rfl, inlX10, by decide, mw_33_16⟩
theorem gfX0_97 : cpGF RX0 97 5 3 := ⟨RX5, TX5, 5, rfl, inlX5, by decide, mw_41_12⟩
theorem gfX0_100 : cpGF RX0 100 10 9 := ⟨RX10, TX10, 17, rfl, inlX10, by decide, mw_34_11⟩
theorem gfX0_103 : cpGF RX0 103 10 13 := ⟨RX10, TX10, 17, rfl, inlX10, by decide, mw_34_12⟩
theorem gfX0_106 : cpGF RX0 106 10 8 := ⟨RX10, TX10, 17, rfl, inlX10, by decide, mw_34_13⟩
theorem gfX0_112 : cpGF RX0 112 5 2 := ⟨RX5, TX5, 5, rfl, inlX5, by decide, mw_40_14⟩
theorem gfX0_146 : cpGF RX0 146 9 1 := ⟨RX9, TX9, 3, rfl, inlX9, by decide, mw_68_20⟩
theorem gfX0_151 : cpGF RX0 151 9 0 := ⟨RX9, TX9, 3, rfl, inlX9, by decide, mw_68_21⟩
theorem gfX1_9 : cpGF RX1 9 1 2 := ⟨RX1, TX1, 7, rfl, inlX1, by decide, mw_6_16⟩
theorem gfX1_15 : cpGF RX1 15 1 3 := ⟨RX1, TX1, 7, rfl, inlX1, by decide, mw_6_17⟩
theorem gfX1_18 : cpGF RX1 18 1 0 := ⟨RX1, TX1, 7, rfl, inlX1, by decide, mw_6_18⟩
theorem gfX1_22 : cpGF RX1 22 1 1 := ⟨RX1, TX1, 7, rfl, inlX1, by decide, mw_6_19⟩
theorem gfX1_26 : cpGF RX1 26 10 7 := ⟨RX10, TX10, 17, rfl, inlX10, by decide, mw_54_13⟩
theorem gfX1_36 : cpGF RX1 36 5 2 := ⟨RX5, TX5, 5, rfl, inlX5, by decide, mw_60_6⟩
theorem gfX1_75 : cpGF RX1 75 10 9 := ⟨RX10, TX10, 17, rfl, inlX10, by decide, mw_55_7⟩
theorem gfX1_89 : cpGF RX1 89 10 0 := ⟨RX10, TX10, 17, rfl, inlX10, by decide, mw_58_14⟩
theorem gfX1_95 : cpGF RX1 95 10 3 := ⟨RX10, TX10, 17, rfl, inlX10, by decide, mw_58_20⟩
theorem gfX1_98 : cpGF RX1 98 10 4 := ⟨RX10, TX10, 17, rfl, inlX10, by decide, mw_58_21⟩
theorem gfX1_101 : cpGF RX1 101 10 5 := ⟨RX10, TX10, 17, rfl, inlX10, by decide, mw_58_22⟩
theorem gfX1_107 : cpGF RX1 107 1 4 := ⟨RX1, TX1, 7, rfl, inlX1, by decide, mw_59_18⟩
theorem gfX1_110 : cpGF RX1 110 1 5 := ⟨RX1, TX1, 7, rfl, inlX1, by decide, mw_59_19⟩
theorem gfX1_113 : cpGF RX1 113 1 6 := ⟨RX1, TX1, 7, rfl, inlX1, by decide, mw_59_20⟩
theorem gfX10_9 : cpGF RX10 9 10 0 := ⟨RX10, TX10, 17, rfl, inlX10, by decide, mw_3_13⟩
theorem gfX10_15 : cpGF RX10 15 10 4 := ⟨RX10, TX10, 17, rfl, inlX10, by decide, mw_3_15⟩
theorem gfX10_19 : cpGF RX10 19 10 5 := ⟨RX10, TX10, 17, rfl, inlX10, by decide, mw_3_16⟩
theorem gfX10_22 : cpGF RX10 22 10 6 := ⟨RX10, TX10, 17, rfl, inlX10, by decide, mw_3_17⟩
theorem gfX10_25 : cpGF RX10 25 10 8 := ⟨RX10, TX10, 17, rfl, inlX10, by decide, mw_3_18⟩
theorem gfX10_28 : cpGF RX10 28 10 9 := ⟨RX10, TX10, 17, rfl, inlX10, by decide, mw_3_19⟩
theorem gfX10_31 : cpGF RX10 31 10 10 := ⟨RX10, TX10, 17, rfl, inlX10, by decide, mw_3_20⟩
theorem gfX10_34 : cpGF RX10 34 10 12 := ⟨RX10, TX10, 17, rfl, inlX10, by decide, mw_3_21⟩
theorem gfX10_37 : cpGF RX10 37 10 13 := ⟨RX10, TX10, 17, rfl, inlX10, by decide, mw_3_22⟩
theorem gfX10_40 : cpGF RX10 40 10 14 := ⟨RX10, TX10, 17, rfl, inlX10, by decide, mw_3_23⟩
theorem gfX10_43 : cpGF RX10 43 10 15 := ⟨RX10, TX10, 17, rfl, inlX10, by decide, mw_4_0⟩
theorem gfX10_49 : cpGF RX10 49 10 16 := ⟨RX10, TX10, 17, rfl, inlX10, by decide, mw_4_4⟩
theorem gfX10_53 : cpGF RX10 53 10 1 := ⟨RX10, TX10, 17, rfl, inlX10, by decide, mw_10_16⟩
theorem gfX10_56 : cpGF RX10 56 10 2 := ⟨RX10, TX10, 17, rfl, inlX10, by decide, mw_10_17⟩
theorem gfX10_59 : cpGF RX10 59 10 3 := ⟨RX10, TX10, 17, rfl, inlX10, by decide, mw_10_18⟩
theorem gfX10_62 : cpGF RX10 62 10 7 := ⟨RX10, TX10, 17, rfl, inlX10, by decide, mw_10_19⟩
theorem gfX10_65 : cpGF RX10 65 10 11 := ⟨RX10, TX10, 17, rfl, inlX10, by decide, mw_10_20⟩
theorem gfX11_10 : cpGF RX11 10 11 0 := ⟨RX11, TX11, 15, rfl, inlX11, by decide, mw_1_16⟩
theorem gfX11_19 : cpGF RX11 19 11 1 := ⟨RX11, TX11, 15, rfl, inlX11, by decide, mw_1_20⟩
theorem gfX11_23 : cpGF RX11 23 11 2 := ⟨RX11, TX11, 15, rfl, inlX11, by decide, mw_1_21⟩
theorem gfX11_29 : cpGF RX11 29 11 3 := ⟨RX11, TX11, 15, rfl, inlX11, by decide, mw_2_1⟩
theorem gfX11_36 : cpGF RX11 36 11 4 := ⟨RX11, TX11, 15, rfl, inlX11, by decide, mw_2_5⟩
theorem gfX11_45 : cpGF RX11 45 11 5 := ⟨RX11, TX11, 15, rfl, inlX11, by decide, mw_2_9⟩
theorem gfX11_54 : cpGF RX11 54 11 6 := ⟨RX11, TX11, 15, rfl, inlX11, by decide, mw_2_13⟩
theorem gfX11_61 : cpGF RX11 61 11 7 := ⟨RX11, TX11, 15, rfl, inlX11, by decide, mw_2_17⟩
theorem gfX11_70 : cpGF RX11 70 11 8 := ⟨RX11, TX11, 15, rfl, inlX11, by decide, mw_2_21⟩
theorem gfX11_77 : cpGF RX11 77 11 9 := ⟨RX11, TX11, 15, rfl, inlX11, by decide, mw_3_1⟩
theorem gfX11_83 : cpGF RX11 83 11 10 := ⟨RX11, TX11, 15, rfl, inlX11, by decide, mw_3_3⟩
theorem gfX11_87 : cpGF RX11 87 11 11 := ⟨RX11, TX11, 15, rfl, inlX11, by decide, mw_3_4⟩
theorem gfX11_91 : cpGF RX11 91 11 12 := ⟨RX11, TX11, 15, rfl, inlX11, by decide, mw_3_5⟩
theorem gfX11_95 : cpGF RX11 95 11 13 := ⟨RX11, TX11, 15, rfl, inlX11, by decide, mw_3_7⟩
theorem gfX11_100 : cpGF RX11 100 7 1 := ⟨RX7, TX7, 12, rfl, inlX7, by decide, mw_9_9⟩
theorem gfX11_112 : cpGF RX11 112 7 3 := ⟨RX7, TX7, 12, rfl, inlX7, by decide, mw_10_1⟩
theorem gfX11_115 : cpGF RX11 115 7 2 := ⟨RX7, TX7, 12, rfl, inlX7, by decide, mw_10_2⟩
theorem gfX11_128 : cpGF RX11 128 10 2 := ⟨RX10, TX10, 17, rfl, inlX10, by decide, mw_10_3⟩
theorem gfX11_131 : cpGF RX11 131 7 4 := ⟨RX7, TX7, 12, rfl, inlX7, by decide, mw_28_17⟩
theorem gfX11_137 : cpGF RX11 137 10 8 := ⟨RX10, TX10, 17, rfl, inlX10, by decide, mw_29_2⟩
theorem gfX11_141 : cpGF RX11 141 10 9 := ⟨RX10, TX10, 17, rfl, inlX10, by decide, mw_29_3⟩
theorem gfX11_144 : cpGF RX11 144 5 2 := ⟨RX5, TX5, 5, rfl, inlX5, by decide, mw_29_4⟩
theorem gfX11_150 : cpGF RX11 150 5 0 := ⟨RX5, TX5, 5, rfl, inlX5, by decide, mw_29_21⟩
theorem gfX11_153 : cpGF RX11 153 10 13 := ⟨RX10, TX10, 17, rfl, inlX10, by decide, mw_29_22⟩
theorem gfX11_156 : cpGF RX11 156 10 14 := ⟨RX10, TX10, 17, rfl, inlX10, by decide, mw_29_23⟩
theorem gfX11_159 : cpGF RX11 159 5 1 := ⟨RX5, TX5, 5, rfl, inlX5, by decide, mw_30_0⟩
theorem gfX11_162 : cpGF RX11 162 10 3 := ⟨RX10, TX10, 17, rfl, inlX10, by decide, mw_30_17⟩
theorem gfX11_165 : cpGF RX11 165 10 4 := ⟨RX10, TX10, 17, rfl, inlX10, by decide, mw_30_18⟩
theorem gfX11_168 : cpGF RX11 168 10 5 := ⟨RX10, TX10, 17, rfl, inlX10, by decide, mw_30_19⟩
theorem gfX11_171 : cpGF RX11 171 10 6 := ⟨RX10, TX10, 17, rfl, inlX10, by decide, mw_30_20⟩
theorem gfX11_181 : cpGF RX11 181 5 3 := ⟨RX5, TX5, 5, rfl, inlX5, by decide, mw_32_15⟩
theorem gfX11_218 : cpGF RX11 218 6 2 := ⟨RX6, TX6, 3, rfl, inlX6, by decide, mw_41_22⟩
theorem gfX11_236 : cpGF RX11 236 9 1 := ⟨RX9, TX9, 3, rfl, inlX9, by decide, mw_42_16⟩
theorem gfX11_237 : cpGF RX11 237 9 0 := ⟨RX9, TX9, 3, rfl, inlX9, by decide, mw_42_17⟩
theorem gfX11_252 : cpGF RX11 252 11 14 := ⟨RX11, TX11, 15, rfl, inlX11, by decide, mw_46_7⟩
theorem gfX11_273 : cpGF RX11 273 4 3 := ⟨RX4, TX4, 8, rfl, inlX4, by decide, mw_47_15⟩
theorem gfX11_306 : cpGF RX11 306 1 2 := ⟨RX1, TX1, 7, rfl, inlX1, by decide, mw_54_5⟩
theorem gfX11_312 : cpGF RX11 312 1 3 := ⟨RX1, TX1, 7, rfl, inlX1, by decide, mw_56_15⟩
theorem gfX11_327 : cpGF RX11 327 1 4 := ⟨RX1, TX1, 7, rfl, inlX1, by decide, mw_59_11⟩
theorem gfX11_330 : cpGF RX11 330 1 5 := ⟨RX1, TX1, 7, rfl, inlX1, by decide, mw_59_12⟩
theorem gfX11_333 : cpGF RX11 333 1 6 := ⟨RX1, TX1, 7, rfl, inlX1, by decide, mw_59_13⟩
theorem gfX11_419 : cpGF RX11 419 10 0 := ⟨RX10, TX10, 17, rfl, inlX10, by decide, mw_78_5⟩
theorem gfX11_422 : cpGF RX11 422 10 7 := ⟨RX10, TX10, 17, rfl, inlX10, by decide, mw_78_6⟩
theorem gfX11_425 : cpGF RX11 425 10 11 := ⟨RX10, TX10, 17, rfl, inlX10, by decide, mw_78_7⟩
theorem gfX11_431 : cpGF RX11 431 5 4 := ⟨RX5, TX5, 5, rfl, inlX5, by decide, mw_78_8⟩
theorem gfX12_13 : cpGF RX12 13 12 1 := ⟨RX12, TX12, 39, rfl, inlX12, by decide, mw_8_2⟩
theorem gfX12_17 : cpGF RX12 17 12 2 := ⟨RX12, TX12, 39, rfl, inlX12, by decide, mw_8_3⟩
theorem gfX12_21 : cpGF RX12 21 12 3 := ⟨RX12, TX12, 39, rfl, inlX12, by decide, mw_8_4⟩
theorem gfX12_24 : cpGF RX12 24 12 4 := ⟨RX12, TX12, 39, rfl, inlX12, by decide, mw_8_5⟩
theorem gfX12_27 : cpGF RX12 27 12 14 := ⟨RX12, TX12, 39, rfl, inlX12, by decide, mw_8_6⟩
theorem gfX12_30 : cpGF RX12 30 12 16 := ⟨RX12, TX12, 39, rfl, inlX12, by decide, mw_8_7⟩
theorem gfX12_33 : cpGF RX12 33 12 17 := ⟨RX12, TX12, 39, rfl, inlX12, by decide, mw_8_8⟩
theorem gfX12_36 : cpGF RX12 36 12 18 := ⟨RX12, TX12, 39, rfl, inlX12, by decide, mw_8_9⟩
theorem gfX12_39 : cpGF RX12 39 12 20 := ⟨RX12, TX12, 39, rfl, inlX12, by decide, mw_8_10⟩
theorem gfX12_42 : cpGF RX12 42 12 23 := ⟨RX12, TX12, 39, rfl, inlX12, by decide, mw_8_11⟩
theorem gfX12_45 : cpGF RX12 45 12 24 := ⟨RX12, TX12, 39, rfl, inlX12, by decide, mw_8_12⟩
theorem gfX12_48 : cpGF RX12 48 12 25 := ⟨RX12, TX12, 39, rfl, inlX12, by decide, mw_8_13⟩
theorem gfX12_51 : cpGF RX12 51 12 26 := ⟨RX12, TX12, 39, rfl, inlX12, by decide, mw_8_14⟩
theorem gfX12_55 : cpGF RX12 55 12 27 := ⟨RX12, TX12, 39, rfl, inlX12, by decide, mw_8_15⟩
theorem gfX12_58 : cpGF RX12 58 12 28 := ⟨RX12, TX12, 39, rfl, inlX12, by decide, mw_8_16⟩
theorem gfX12_61 : cpGF RX12 61 12 29 := ⟨RX12, TX12, 39, rfl, inlX12, by decide, mw_8_17⟩
theorem gfX12_64 : cpGF RX12 64 12 30 := ⟨RX12, TX12, 39, rfl, inlX12, by decide, mw_8_18⟩
theorem gfX12_67 : cpGF RX12 67 12 31 := ⟨RX12, TX12, 39, rfl, inlX12, by decide, mw_8_19⟩
theorem gfX12_70 : cpGF RX12 70 12 32 := ⟨RX12, TX12, 39, rfl, inlX12, by decide, mw_8_20⟩
theorem gfX12_73 : cpGF RX12 73 12 34 := ⟨RX12, TX12, 39, rfl, inlX12, by decide, mw_8_21⟩
theorem gfX12_76 : cpGF RX12 76 12 35 := ⟨RX12, TX12, 39, rfl, inlX12, by decide, mw_8_22⟩
theorem gfX12_79 : cpGF RX12 79 12 36 := ⟨RX12, TX12, 39, rfl, inlX12, by decide, mw_8_23⟩
theorem gfX12_82 : cpGF RX12 82 12 37 := ⟨RX12, TX12, 39, rfl, inlX12, by decide, mw_9_0⟩
theorem gfX12_85 : cpGF RX12 85 12 38 := ⟨RX12, TX12, 39, rfl, inlX12, by decide, mw_9_1⟩
theorem gfX12_92 : cpGF RX12 92 12 5 := ⟨RX12, TX12, 39, rfl, inlX12, by decide, mw_9_20⟩
theorem gfX12_95 : cpGF RX12 95 12 8 := ⟨RX12, TX12, 39, rfl, inlX12, by decide, mw_23_9⟩
theorem gfX12_110 : cpGF RX12 110 12 6 := ⟨RX12, TX12, 39, rfl, inlX12, by decide, mw_23_22⟩
theorem gfX12_113 : cpGF RX12 113 12 7 := ⟨RX12, TX12, 39, rfl, inlX12, by decide, mw_23_10⟩
theorem gfX12_120 : cpGF RX12 120 12 9 := ⟨RX12, TX12, 39, rfl, inlX12, by decide, mw_23_12⟩
theorem gfX12_133 : cpGF RX12 133 12 10 := ⟨RX12, TX12, 39, rfl, inlX12, by decide, mw_23_23⟩
theorem gfX12_138 : cpGF RX12 138 12 11 := ⟨RX12, TX12, 39, rfl, inlX12, by decide, mw_23_11⟩
theorem gfX12_141 : cpGF RX12 141 12 12 := ⟨RX12, TX12, 39, rfl, inlX12, by decide, mw_23_14⟩
theorem gfX12_158 : cpGF RX12 158 12 15 := ⟨RX12, TX12, 39, rfl, inlX12, by decide, mw_26_20⟩
theorem gfX12_226 : cpGF RX12 226 12 13 := ⟨RX12, TX12, 39, rfl, inlX12, by decide, mw_23_13⟩
theorem gfX12_254 : cpGF RX12 254 12 19 := ⟨RX12, TX12, 39, rfl, inlX12, by decide, mw_36_11⟩
theorem gfX12_344 : cpGF RX12 344 12 21 := ⟨RX12, TX12, 39, rfl, inlX12, by decide, mw_44_9⟩
theorem gfX12_369 : cpGF RX12 369 12 22 := ⟨RX12, TX12, 39, rfl, inlX12, by decide, mw_47_1⟩
theorem gfX12_450 : cpGF RX12 450 12 33 := ⟨RX12, TX12, 39, rfl, inlX12, by decide, mw_66_1⟩
theorem gfX2_9 : cpGF RX2 9 2 2 := ⟨RX2, TX2, 6, rfl, inlX2, by decide, mw_7_10⟩
theorem gfX2_15 : cpGF RX2 15 2 3 := ⟨RX2, TX2, 6, rfl, inlX2, by decide, mw_7_11⟩
theorem gfX2_18 : cpGF RX2 18 2 4 := ⟨RX2, TX2, 6, rfl, inlX2, by decide, mw_7_12⟩
theorem gfX2_22 : cpGF RX2 22 2 0 := ⟨RX2, TX2, 6, rfl, inlX2, by decide, mw_7_13⟩
theorem gfX2_26 : cpGF RX2 26 4 0 := ⟨RX4, TX4, 8, rfl, inlX4, by decide, mw_7_14⟩
theorem gfX2_38 : cpGF RX2 38 2 1 := ⟨RX2, TX2, 6, rfl, inlX2, by decide, mw_7_16⟩
theorem gfX2_39 : cpGF RX2 39 10 0 := ⟨RX10, TX10, 17, rfl, inlX10, by decide, mw_70_20⟩
theorem gfX2_49 : cpGF RX2 49 2 5 := ⟨RX2, TX2, 6, rfl, inlX2, by decide, mw_70_21⟩
theorem gfX2_73 : cpGF RX2 73 10 3 := ⟨RX10, TX10, 17, rfl, inlX10, by decide, mw_72_20⟩
theorem gfX2_76 : cpGF RX2 76 10 4 := ⟨RX10, TX10, 17, rfl, inlX10, by decide, mw_72_21⟩
theorem gfX2_79 : cpGF RX2 79 10 5 := ⟨RX10, TX10, 17, rfl, inlX10, by decide, mw_72_22⟩
theorem gfX2_82 : cpGF RX2 82 10 6 := ⟨RX10, TX10, 17, rfl, inlX10, by decide, mw_72_23⟩
theorem gfX3_9 : cpGF RX3 9 3 0 := ⟨RX3, TX3, 7, rfl, inlX3, by decide, mw_4_9⟩
theorem gfX3_15 : cpGF RX3 15 3 6 := ⟨RX3, TX3, 7, rfl, inlX3, by decide, mw_4_10⟩
theorem gfX3_21 : cpGF RX3 21 3 2 := ⟨RX3, TX3, 7, rfl, inlX3, by decide, mw_4_15⟩
theorem gfX3_25 : cpGF RX3 25 3 3 := ⟨RX3, TX3, 7, rfl, inlX3, by decide, mw_4_16⟩
theorem gfX3_28 : cpGF RX3 28 3 4 := ⟨RX3, TX3, 7, rfl, inlX3, by decide, mw_4_17⟩
theorem gfX3_31 : cpGF RX3 31 3 5 := ⟨RX3, TX3, 7, rfl, inlX3, by decide, mw_4_18⟩
theorem gfX3_34 : cpGF RX3 34 3 1 := ⟨RX3, TX3, 7, rfl, inlX3, by decide, mw_4_19⟩
theorem gfX4_9 : cpGF RX4 9 4 1 := ⟨RX4, TX4, 8, rfl, inlX4, by decide, mw_6_3⟩
theorem gfX4_15 : cpGF RX4 15 4 2 := ⟨RX4, TX4, 8, rfl, inlX4, by decide, mw_6_4⟩
theorem gfX4_18 : cpGF RX4 18 4 3 := ⟨RX4, TX4, 8, rfl, inlX4, by decide, mw_6_5⟩
theorem gfX4_21 : cpGF RX4 21 4 4 := ⟨RX4, TX4, 8, rfl, inlX4, by decide, mw_6_7⟩
theorem gfX4_25 : cpGF RX4 25 4 5 := ⟨RX4, TX4, 8, rfl, inlX4, by decide, mw_6_8⟩
theorem gfX4_28 : cpGF RX4 28 4 6 := ⟨RX4, TX4, 8, rfl, inlX4, by decide, mw_6_9⟩
theorem gfX4_31 : cpGF RX4 31 4 7 := ⟨RX4, TX4, 8, rfl, inlX4, by decide, mw_6_10⟩
theorem gfX4_34 : cpGF RX4 34 4 0 := ⟨RX4, TX4, 8, rfl, inlX4, by decide, mw_6_11⟩
theorem gfX4_38 : cpGF RX4 38 0 0 := ⟨RX0, TX0, 3, rfl, inlX0, by decide, mw_48_0⟩
theorem gfX4_44 : cpGF RX4 44 10 0 := ⟨RX10, TX10, 17, rfl, inlX10, by decide, mw_48_1⟩
theorem gfX4_57 : cpGF RX4 57 0 1 := ⟨RX0, TX0, 3, rfl, inlX0, by decide, mw_48_6⟩
theorem gfX4_61 : cpGF RX4 61 5 3 := ⟨RX5, TX5, 5, rfl, inlX5, by decide, mw_48_7⟩
theorem gfX4_129 : cpGF RX4 129 10 11 := ⟨RX10, TX10, 17, rfl, inlX10, by decide, mw_52_22⟩
theorem gfX4_132 : cpGF RX4 132 5 0 := ⟨RX5, TX5, 5, rfl, inlX5, by decide, mw_52_23⟩
theorem gfX4_149 : cpGF RX4 149 10 14 := ⟨RX10, TX10, 17, rfl, inlX10, by decide, mw_53_10⟩
theorem gfX5_9 : cpGF RX5 9 5 0 := ⟨RX5, TX5, 5, rfl, inlX5, by decide, mw_4_23⟩
theorem gfX5_15 : cpGF RX5 15 5 1 := ⟨RX5, TX5, 5, rfl, inlX5, by decide, mw_5_0⟩
theorem gfX5_18 : cpGF RX5 18 5 2 := ⟨RX5, TX5, 5, rfl, inlX5, by decide, mw_5_1⟩
theorem gfX5_21 : cpGF RX5 21 10 12 := ⟨RX10, TX10, 17, rfl, inlX10, by decide, mw_22_17⟩
theorem gfX5_32 : cpGF RX5 32 10 10 := ⟨RX10, TX10, 17, rfl, inlX10, by decide, mw_22_19⟩
theorem gfX5_39 : cpGF RX5 39 10 1 := ⟨RX10, TX10, 17, rfl, inlX10, by decide, mw_22_20⟩
theorem gfX5_43 : cpGF RX5 43 5 3 := ⟨RX5, TX5, 5, rfl, inlX5, by decide, mw_22_21⟩
theorem gfX5_46 : cpGF RX5 46 5 4 := ⟨RX5, TX5, 5, rfl, inlX5, by decide, mw_22_22⟩
theorem gfX6_11 : cpGF RX6 11 6 0 := ⟨RX6, TX6, 3, rfl, inlX6, by decide, mw_5_7⟩
theorem gfX6_18 : cpGF RX6 18 6 1 := ⟨RX6, TX6, 3, rfl, inlX6, by decide, mw_39_3⟩
theorem gfX6_26 : cpGF RX6 26 6 2 := ⟨RX6, TX6, 3, rfl, inlX6, by decide, mw_23_4⟩
theorem gfX7_9 : cpGF RX7 9 7 0 := ⟨RX7, TX7, 12, rfl, inlX7, by decide, mw_5_12⟩
theorem gfX7_18 : cpGF RX7 18 7 2 := ⟨RX7, TX7, 12, rfl, inlX7, by decide, mw_5_14⟩
theorem gfX7_26 : cpGF RX7 26 7 1 := ⟨RX7, TX7, 12, rfl, inlX7, by decide, mw_9_14⟩
theorem gfX7_29 : cpGF RX7 29 7 5 := ⟨RX7, TX7, 12, rfl, inlX7, by decide, mw_10_8⟩
theorem gfX7_32 : cpGF RX7 32 7 8 := ⟨RX7, TX7, 12, rfl, inlX7, by decide, mw_10_9⟩
theorem gfX7_48 : cpGF RX7 48 7 6 := ⟨RX7, TX7, 12, rfl, inlX7, by decide, mw_10_11⟩
theorem gfX7_72 : cpGF RX7 72 7 10 := ⟨RX7, TX7, 12, rfl, inlX7, by decide, mw_15_5⟩
theorem gfX7_75 : cpGF RX7 75 10 0 := ⟨RX10, TX10, 17, rfl, inlX10, by decide, mw_15_6⟩
theorem gfX7_86 : cpGF RX7 86 10 2 := ⟨RX10, TX10, 17, rfl, inlX10, by decide, mw_17_1⟩
theorem gfX7_126 : cpGF RX7 126 10 3 := ⟨RX10, TX10, 17, rfl, inlX10, by decide, mw_17_18⟩
theorem gfX7_129 : cpGF RX7 129 10 4 := ⟨RX10, TX10, 17, rfl, inlX10, by decide, mw_17_19⟩
theorem gfX7_133 : cpGF RX7 133 10 5 := ⟨RX10, TX10, 17, rfl, inlX10, by decide, mw_17_20⟩
theorem gfX7_138 : cpGF RX7 138 10 6 := ⟨RX10, TX10, 17, rfl, inlX10, by decide, mw_17_21⟩
theorem gfX7_141 : cpGF RX7 141 10 7 := ⟨RX10, TX10, 17, rfl, inlX10, by decide, mw_18_2⟩
theorem gfX7_146 : cpGF RX7 146 10 8 := ⟨RX10, TX10, 17, rfl, inlX10, by decide, mw_18_3⟩
theorem gfX7_151 : cpGF RX7 151 10 9 := ⟨RX10, TX10, 17, rfl, inlX10, by decide, mw_18_4⟩
theorem gfX7_154 : cpGF RX7 154 10 10 := ⟨RX10, TX10, 17, rfl, inlX10, by decide, mw_18_9⟩
theorem gfX7_157 : cpGF RX7 157 10 11 := ⟨RX10, TX10, 17, rfl, inlX10, by decide, mw_18_14⟩
theorem gfX7_160 : cpGF RX7 160 10 12 := ⟨RX10, TX10, 17, rfl, inlX10, by decide, mw_18_15⟩
theorem gfX7_165 : cpGF RX7 165 10 13 := ⟨RX10, TX10, 17, rfl, inlX10, by decide, mw_18_16⟩
theorem gfX7_169 : cpGF RX7 169 10 14 := ⟨RX10, TX10, 17, rfl, inlX10, by decide, mw_18_17⟩
theorem gfX7_171 : cpGF RX7 171 7 11 := ⟨RX7, TX7, 12, rfl, inlX7, by decide, mw_18_22⟩
theorem gfX7_175 : cpGF RX7 175 10 16 := ⟨RX10, TX10, 17, rfl, inlX10, by decide, mw_18_23⟩
theorem gfX7_236 : cpGF RX7 236 7 9 := ⟨RX7, TX7, 12, rfl, inlX7, by decide, mw_11_7⟩
theorem gfX7_248 : cpGF RX7 248 7 7 := ⟨RX7, TX7, 12, rfl, inlX7, by decide, mw_11_6⟩
theorem gfX8_9 : cpGF RX8 9 8 2 := ⟨RX8, TX8, 5, rfl, inlX8, by decide, mw_7_0⟩
theorem gfX8_15 : cpGF RX8 15 8 3 := ⟨RX8, TX8, 5, rfl, inlX8, by decide, mw_7_1⟩
theorem gfX8_19 : cpGF RX8 19 8 4 := ⟨RX8, TX8, 5, rfl, inlX8, by decide, mw_7_2⟩
theorem gfX8_22 : cpGF RX8 22 8 0 := ⟨RX8, TX8, 5, rfl, inlX8, by decide, mw_7_3⟩
theorem gfX8_32 : cpGF RX8 32 8 1 := ⟨RX8, TX8, 5, rfl, inlX8, by decide, mw_7_5⟩
theorem gfX8_33 : cpGF RX8 33 9 1 := ⟨RX9, TX9, 3, rfl, inlX9, by decide, mw_64_12⟩
theorem gfX8_45 : cpGF RX8 45 9 0 := ⟨RX9, TX9, 3, rfl, inlX9, by decide, mw_64_14⟩
theorem gfX8_102 : cpGF RX8 102 0 0 := ⟨RX0, TX0, 3, rfl, inlX0, by decide, mw_69_19⟩
theorem gfX9_9 : cpGF RX9 9 9 0 := ⟨RX9, TX9, 3, rfl, inlX9, by decide, mw_7_20⟩
theorem gfX9_15 : cpGF RX9 15 9 2 := ⟨RX9, TX9, 3, rfl, inlX9, by decide, mw_7_21⟩
theorem gfX9_19 : cpGF RX9 19 9 1 := ⟨RX9, TX9, 3, rfl, inlX9, by decide, mw_64_2⟩
theorem pfX0_97 : cpPF RX0 97 5 3 .int := ⟨RX5, TX5, 5, tyX5, rfl, inlX5, by decide, mw_41_12, tyX5_ok, nmX5, rfl, by decide +kernel⟩
theorem pfX1_107 : cpPF RX1 107 1 4 .int := ⟨RX1, TX1, 7, tyX1, rfl, inlX1, by decide, mw_59_18, tyX1_ok, nmX1, rfl, by decide +kernel⟩
theorem pfX1_110 : cpPF RX1 110 1 5 .int := ⟨RX1, TX1, 7, tyX1, rfl, inlX1, by decide, mw_59_19, tyX1_ok, nmX1, rfl, by decide +kernel⟩
theorem pfX1_113 : cpPF RX1 113 1 6 .int := ⟨RX1, TX1, 7, tyX1, rfl, inlX1, by decide, mw_59_20, tyX1_ok, nmX1, rfl, by decide +kernel⟩
theorem pfX10_9 : cpPF RX10 9 10 0 .int := ⟨RX10, TX10, 17, tyX10, rfl, inlX10, by decide, mw_3_13, tyX10_ok, nmX10, rfl, by decide +kernel⟩
theorem pfX10_53 : cpPF RX10 53 10 1 .int := ⟨RX10, TX10, 17, tyX10, rfl, inlX10, by decide, mw_10_16, tyX10_ok, nmX10, rfl, by decide +kernel⟩
theorem pfX10_56 : cpPF RX10 56 10 2 .int := ⟨RX10, TX10, 17, tyX10, rfl, inlX10, by decide, mw_10_17, tyX10_ok, nmX10, rfl, by decide +kernel⟩
theorem pfX10_59 : cpPF RX10 59 10 3 .int := ⟨RX10, TX10, 17, tyX10, rfl, inlX10, by decide, mw_10_18, tyX10_ok, nmX10, rfl, by decide +kernel⟩
theorem pfX10_62 : cpPF RX10 62 10 7 .int := ⟨RX10, TX10, 17, tyX10, rfl, inlX10, by decide, mw_10_19, tyX10_ok, nmX10, rfl, by decide +kernel⟩
theorem pfX10_65 : cpPF RX10 65 10 11 .int := ⟨RX10, TX10, 17, tyX10, rfl, inlX10, by decide, mw_10_20, tyX10_ok, nmX10, rfl, by decide +kernel⟩
theorem pfX11_252 : cpPF RX11 252 11 14 .int := ⟨RX11, TX11, 15, tyX11, rfl, inlX11, by decide, mw_46_7, tyX11_ok, nmX11, rfl, by decide +kernel⟩
theorem pfX12_1 : cpPF RX12 1 12 0 .int := ⟨RX12, TX12, 39, tyX12, rfl, inlX12, by decide, mw_9_19, tyX12_ok, nmX12, rfl, by decide +kernel⟩
theorem pfX12_27 : cpPF RX12 27 12 14 .int := ⟨RX12, TX12, 39, tyX12, rfl, inlX12, by decide, mw_8_6, tyX12_ok, nmX12, rfl, by decide +kernel⟩
theorem pfX12_92 : cpPF RX12 92 12 5 .int := ⟨RX12, TX12, 39, tyX12, rfl, inlX12, by decide, mw_9_20, tyX12_ok, nmX12, rfl, by decide +kernel⟩
theorem pfX12_95 : cpPF RX12 95 12 8 .int := ⟨RX12, TX12, 39, tyX12, rfl, inlX12, by decide, mw_23_9, tyX12_ok, nmX12, rfl, by decide +kernel⟩
theorem pfX12_110 : cpPF RX12 110 12 6 .int := ⟨RX12, TX12, 39, tyX12, rfl, inlX12, by decide, mw_23_22, tyX12_ok, nmX12, rfl, by decide +kernel⟩
theorem pfX12_113 : cpPF RX12 113 12 7 .int := ⟨RX12, TX12, 39, tyX12, rfl, inlX12, by decide, mw_23_10, tyX12_ok, nmX12, rfl, by decide +kernel⟩
theorem pfX12_120 : cpPF RX12 120 12 9 .int := ⟨RX12, TX12, 39, tyX12, rfl, inlX12, by decide, mw_23_12, tyX12_ok, nmX12, rfl, by decide +kernel⟩
theorem pfX12_133 : cpPF RX12 133 12 10 .int := ⟨RX12, TX12, 39, tyX12, rfl, inlX12, by decide, mw_23_23, tyX12_ok, nmX12, rfl, by decide +kernel⟩
theorem pfX12_138 : cpPF RX12 138 12 11 .int := ⟨RX12, TX12, 39, tyX12, rfl, inlX12, by decide, mw_23_11, tyX12_ok, nmX12, rfl, by decide +kernel⟩
theorem pfX12_141 : cpPF RX12 141 12 12 .int := ⟨RX12, TX12, 39, tyX12, rfl, inlX12, by decide, mw_23_14, tyX12_ok, nmX12, rfl, by decide +kernel⟩
theorem pfX12_158 : cpPF RX12 158 12 15 .int := ⟨RX12, TX12, 39, tyX12, rfl, inlX12, by decide, mw_26_20, tyX12_ok, nmX12, rfl, by decide +kernel⟩
theorem pfX12_226 : cpPF RX12 226 12 13 .int := ⟨RX12, TX12, 39, tyX12, rfl, inlX12, by decide, mw_23_13, tyX12_ok, nmX12, rfl, by decide +kernel⟩
theorem pfX12_254 : cpPF RX12 254 12 19 .int := ⟨RX12, TX12, 39, tyX12, rfl, inlX12, by decide, mw_36_11, tyX12_ok, nmX12, rfl, by decide +kernel⟩
theorem pfX12_344 : cpPF RX12 344 12 21 .int := ⟨RX12, TX12, 39, tyX12, rfl, inlX12, by decide, mw_44_9, tyX12_ok, nmX12, rfl, by decide +kernel⟩
theorem pfX12_369 : cpPF RX12 369 12 22 .int := ⟨RX12, TX12, 39, tyX12, rfl, inlX12, by decide, mw_47_1, tyX12_ok, nmX12, rfl, by decide +kernel⟩
theorem pfX12_450 : cpPF RX12 450 12 33 .int := ⟨RX12, TX12, 39, tyX12, rfl, inlX12, by decide, mw_66_1, tyX12_ok, nmX12, rfl, by decide +kernel⟩
theorem pfX2_49 : cpPF RX2 49 2 5 .int := ⟨RX2, TX2, 6, tyX2, rfl, inlX2, by decide, mw_70_21, tyX2_ok, nmX2, rfl, by decide +kernel⟩
theorem pfX3_21 : cpPF RX3 21 3 2 .int := ⟨RX3, TX3, 7, tyX3, rfl, inlX3, by decide, mw_4_15, tyX3_ok, nmX3, rfl, by decide +kernel⟩
theorem pfX3_25 : cpPF RX3 25 3 3 .int := ⟨RX3, TX3, 7, tyX3, rfl, inlX3, by decide, mw_4_16, tyX3_ok, nmX3, rfl, by decide +kernel⟩
theorem pfX3_28 : cpPF RX3 28 3 4 .int := ⟨RX3, TX3, 7, tyX3, rfl, inlX3, by decide, mw_4_17, tyX3_ok, nmX3, rfl, by decide +kernel⟩
theorem pfX3_31 : cpPF RX3 31 3 5 .int := ⟨RX3, TX3, 7, tyX3, rfl, inlX3, by decide, mw_4_18, tyX3_ok, nmX3, rfl, by decide +kernel⟩
theorem pfX3_34 : cpPF RX3 34 3 1 .int := ⟨RX3, TX3, 7, tyX3, rfl, inlX3, by decide, mw_4_19, tyX3_ok, nmX3, rfl, by decide +kernel⟩
theorem pfX5_43 : cpPF RX5 43 5 3 .int := ⟨RX5, TX5, 5, tyX5, rfl, inlX5, by decide, mw_22_21, tyX5_ok, nmX5, rfl, by decide +kernel⟩
theorem pfX5_46 : cpPF RX5 46 5 4 .int := ⟨RX5, TX5, 5, tyX5, rfl, inlX5, by decide, mw_22_22, tyX5_ok, nmX5, rfl, by decide +kernel⟩
theorem pfX6_18 : cpPF RX6 18 6 1 .int := ⟨RX6, TX6, 3, tyX6, rfl, inlX6, by decide, mw_39_3, tyX6_ok, nmX6, rfl, by decide +kernel⟩
theorem pfX6_26 : cpPF RX6 26 6 2 .int := ⟨RX6, TX6, 3, tyX6, rfl, inlX6, by decide, mw_23_4, tyX6_ok, nmX6, rfl, by decide +kernel⟩
theorem pfX7_22 : cpPF RX7 22 7 4 .int := ⟨RX7, TX7, 12, tyX7, rfl, inlX7, by decide, mw_5_15, tyX7_ok, nmX7, rfl, by decide +kernel⟩
theorem pfX7_26 : cpPF RX7 26 7 1 .int := ⟨RX7, TX7, 12, tyX7, rfl, inlX7, by decide, mw_9_14, tyX7_ok, nmX7, rfl, by decide +kernel⟩
theorem pfX7_29 : cpPF RX7 29 7 5 .int := ⟨RX7, TX7, 12, tyX7, rfl, inlX7, by decide, mw_10_8, tyX7_ok, nmX7, rfl, by decide +kernel⟩
theorem pfX7_32 : cpPF RX7 32 7 8 .int := ⟨RX7, TX7, 12, tyX7, rfl, inlX7, by decide, mw_10_9, tyX7_ok, nmX7, rfl, by decide +kernel⟩
theorem pfX7_35 : cpPF RX7 35 7 3 .int := ⟨RX7, TX7, 12, tyX7, rfl, inlX7, by decide, mw_10_10, tyX7_ok, nmX7, rfl, by decide +kernel⟩
theorem pfX7_48 : cpPF RX7 48 7 6 .int := ⟨RX7, TX7, 12, tyX7, rfl, inlX7, by decide, mw_10_11, tyX7_ok, nmX7, rfl, by decide +kernel⟩
theorem pfX7_72 : cpPF RX7 72 7 10 .int := ⟨RX7, TX7, 12, tyX7, rfl, inlX7, by decide, mw_15_5, tyX7_ok, nmX7, rfl, by decide +kernel⟩
theorem pfX7_75 : cpPF RX7 75 10 0 .int := ⟨RX10, TX10, 17, tyX10, rfl, inlX10, by decide, mw_15_6, tyX10_ok, nmX10, rfl, by decide +kernel⟩
theorem pfX7_79 : cpPF RX7 79 10 1 .int := ⟨RX10, TX10, 17, tyX10, rfl, inlX10, by decide, mw_15_7, tyX10_ok, nmX10, rfl, by decide +kernel⟩
theorem pfX7_86 : cpPF RX7 86 10 2 .int := ⟨RX10, TX10, 17, tyX10, rfl, inlX10, by decide, mw_17_1, tyX10_ok, nmX10, rfl, by decide +kernel⟩
theorem pfX7_126 : cpPF RX7 126 10 3 .int := ⟨RX10, TX10, 17, tyX10, rfl, inlX10, by decide, mw_17_18, tyX10_ok, nmX10, rfl, by decide +kernel⟩
theorem pfX7_141 : cpPF RX7 141 10 7 .int := ⟨RX10, TX10, 17, tyX10, rfl, inlX10, by decide, mw_18_2, tyX10_ok, nmX10, rfl, by decide +kernel⟩
theorem pfX7_157 : cpPF RX7 157 10 11 .int := ⟨RX10, TX10, 17, tyX10, rfl, inlX10, by decide, mw_18_14, tyX10_ok, nmX10, rfl, by decide +kernel⟩
theorem pfX7_171 : cpPF RX7 171 7 11 .boolean := ⟨RX7, TX7, 12, tyX7, rfl, inlX7, by decide, mw_18_22, tyX7_ok, nmX7, rfl, by decide +kernel⟩
theorem pfX7_236 : cpPF RX7 236 7 9 .int := ⟨RX7, TX7, 12, tyX7, rfl, inlX7, by decide, mw_11_7, tyX7_ok, nmX7, rfl, by decide +kernel⟩
theorem pfX7_248 : cpPF RX7 248 7 7 .int := ⟨RX7, TX7, 12, tyX7, rfl, inlX7, by decide, mw_11_6, tyX7_ok, nmX7, rfl, by decide +kernel⟩
theorem pfX9_15 : cpPF RX9 15 9 2 .int := ⟨RX9, TX9, 3, tyX9, rfl, inlX9, by decide, mw_7_21, tyX9_ok, nmX9, rfl, by decide +kernel⟩
theorem pfX9_19 : cpPF RX9 19 9 1 .int := ⟨RX9, TX9, 3, tyX9, rfl, inlX9, by decide, mw_64_2, tyX9_ok, nmX9, rfl, by decide +kernel⟩
theorem qJ0_charAt_5068e : cpCal yJ0_charAt_5068e cJ0_charAt_5068e 2 ((some .char)) 1 := ⟨mw_15_18, mw_15_19, mw_11_11, mw_15_20, ⟨by decide, by decide, by decide⟩, by decide⟩
theorem qJ0_checkIndex_df160 : cpCas yJ0_checkIndex_df160 cJ0_checkIndex_df160 2 (none) 2 := ⟨mw_16_1, mw_11_11, mw_16_2, ⟨by decide, by decide, by decide⟩, by decide⟩
theorem qJ0_coder_7d493 : cpCal yJ0_coder_7d493 cJ0_coder_7d493 1 ((some .byte)) 0 := ⟨mw_12_5, mw_12_6, mw_11_11, mw_12_7, ⟨by decide, by decide, by decide⟩, by decide⟩
theorem qJ0_indexOf_0f7a4 : cpCal yJ0_indexOf_0f7a4 cJ0_indexOf_0f7a4 2 ((some .int)) 1 := ⟨mw_11_9, mw_11_10, mw_11_11, mw_11_12, ⟨by decide, by decide, by decide⟩, by decide⟩
theorem qJ0_indexOf_7cf53 : cpCal yJ0_indexOf_7cf53 cJ0_indexOf_7cf53 3 ((some .int)) 2 := ⟨mw_11_14, mw_11_15, mw_11_11, mw_11_16, ⟨by decide, by decide, by decide⟩, by decide⟩
theorem qJ0_isLatin1_aae02 : cpCal yJ0_isLatin1_aae02 cJ0_isLatin1_aae02 1 ((some .boolean)) 0 := ⟨mw_11_19, mw_11_20, mw_11_11, mw_11_21, ⟨by decide, by decide, by decide⟩, by decide⟩
theorem qJ0_length_8abf5 : cpCal yJ0_length_8abf5 cJ0_length_8abf5 1 ((some .int)) 0 := ⟨mw_12_1, mw_12_2, mw_11_11, mw_12_3, ⟨by decide, by decide, by decide⟩, by decide⟩
theorem qJ1_canEncode_9a6ad : cpCas yJ1_canEncode_9a6ad cJ1_canEncode_9a6ad 1 ((some .boolean)) 1 := ⟨mw_12_20, mw_12_10, mw_12_21, ⟨by decide, by decide, by decide⟩, by decide⟩
theorem qJ1_charAt_3b067 : cpCas yJ1_charAt_3b067 cJ1_charAt_3b067 2 ((some .char)) 2 := ⟨mw_15_22, mw_12_10, mw_15_23, ⟨by decide, by decide, by decide⟩, by decide⟩
theorem qJ1_indexOfChar_4cfef : cpCas yJ1_indexOfChar_4cfef cJ1_indexOfChar_4cfef 6 ((some .int)) 4 := ⟨mw_12_23, mw_12_10, mw_13_0, ⟨by decide, by decide, by decide⟩, by decide⟩
theorem qJ1_indexOf_4cfef : cpCas yJ1_indexOf_4cfef cJ1_indexOf_4cfef 4 ((some .int)) 4 := ⟨mw_12_9, mw_12_10, mw_12_11, ⟨by decide, by decide, by decide⟩, by decide⟩
theorem qJ3_checkIndex_8e157 : cpCas yJ3_checkIndex_8e157 cJ3_checkIndex_8e157 3 ((some .int)) 3 := ⟨mw_16_4, mw_13_23, mw_16_5, ⟨by decide, by decide, by decide⟩, by decide⟩
theorem qJ6_bitCount_0f7a4 : cpCas yJ6_bitCount_0f7a4 cJ6_bitCount_0f7a4 1 ((some .int)) 1 := ⟨mw_57_9, mw_57_10, mw_57_11, ⟨by decide, by decide, by decide⟩, by decide⟩
theorem qJ7_fill_53178 : cpCas yJ7_fill_53178 cJ7_fill_53178 4 (none) 2 := ⟨mw_10_22, mw_10_23, mw_11_0, ⟨by decide, by decide, by decide⟩, by decide⟩
theorem qJ7_fill_d0a16 : cpCas yJ7_fill_d0a16 cJ7_fill_d0a16 5 (none) 2 := ⟨mw_51_13, mw_10_23, mw_51_14, ⟨by decide, by decide, by decide⟩, by decide⟩
theorem qJ9_floorMod_7cf53 : cpCas yJ9_floorMod_7cf53 cJ9_floorMod_7cf53 3 ((some .int)) 2 := ⟨mw_42_4, mw_42_5, mw_42_6, ⟨by decide, by decide, by decide⟩, by decide⟩
theorem qX0_allSoAt : cpCal yX0_allSoAt cX0_allSoAt 8 ((some .boolean)) 2 := ⟨mw_68_17, mw_68_18, mw_2_8, mw_68_19, ⟨by decide, by decide, by decide⟩, by decide⟩
theorem qX0_areTwo : cpCal yX0_areTwo cX0_areTwo 3 ((some .boolean)) 2 := ⟨mw_32_22, mw_32_23, mw_2_8, mw_33_0, ⟨by decide, by decide, by decide⟩, by decide⟩
theorem qX0_face : cpCal yX0_face cX0_face 6 (none) 5 := ⟨mw_34_8, mw_34_9, mw_2_8, mw_34_10, ⟨by decide, by decide, by decide⟩, by decide⟩
theorem qX0_hourNow : cpCal yX0_hourNow cX0_hourNow 2 ((some .int)) 1 := ⟨mw_41_9, mw_41_10, mw_2_8, mw_41_11, ⟨by decide, by decide, by decide⟩, by decide⟩
theorem qX0_hoursOf : cpCal yX0_hoursOf cX0_hoursOf 4 ((some .int)) 1 := ⟨mw_68_13, mw_68_14, mw_2_8, mw_68_15, ⟨by decide, by decide, by decide⟩, by decide⟩
theorem qX0_quarrelNow : cpCal yX0_quarrelNow cX0_quarrelNow 3 ((some .int)) 2 := ⟨mw_40_11, mw_40_12, mw_2_8, mw_40_13, ⟨by decide, by decide, by decide⟩, by decide⟩
theorem qX0_roadTaken : cpCal yX0_roadTaken cX0_roadTaken 8 ((some .int)) 6 := ⟨mw_33_12, mw_33_13, mw_2_8, mw_33_14, ⟨by decide, by decide, by decide⟩, by decide⟩
theorem qX0_someMayOn : cpCal yX0_someMayOn cX0_someMayOn 7 ((some .boolean)) 3 := ⟨mw_73_5, mw_73_6, mw_2_8, mw_73_7, ⟨by decide, by decide, by decide⟩, by decide⟩
theorem qX0_tryDeed : cpCal yX0_tryDeed cX0_tryDeed 8 ((some .int)) 1 := ⟨mw_43_7, mw_43_8, mw_2_8, mw_43_9, ⟨by decide, by decide, by decide⟩, by decide⟩
theorem qX0_wearAt : cpCal yX0_wearAt cX0_wearAt 6 ((some .int)) 5 := ⟨mw_32_17, mw_32_18, mw_2_8, mw_32_19, ⟨by decide, by decide, by decide⟩, by decide⟩
theorem qX0_wearFrom : cpCal yX0_wearFrom cX0_wearFrom 8 ((some .int)) 6 := ⟨mw_33_5, mw_33_6, mw_2_8, mw_33_7, ⟨by decide, by decide, by decide⟩, by decide⟩
theorem qX10_clear : cpCal yX10_clear cX10_clear 1 (none) 0 := ⟨mw_10_13, mw_10_14, mw_1_15, mw_10_15, ⟨by decide, by decide, by decide⟩, by decide⟩
theorem qX10_copyFrom : cpCal yX10_copyFrom cX10_copyFrom 2 (none) 1 := ⟨mw_22_1, mw_22_2, mw_1_15, mw_22_3, ⟨by decide, by decide, by decide⟩, by decide⟩
theorem qX10_distance : cpCal yX10_distance cX10_distance 3 ((some .int)) 2 := ⟨mw_21_21, mw_21_22, mw_1_15, mw_21_23, ⟨by decide, by decide, by decide⟩, by decide⟩
theorem qX10_hasCoin : cpCal yX10_hasCoin cX10_hasCoin 2 ((some .boolean)) 1 := ⟨mw_30_2, mw_30_3, mw_1_15, mw_30_4, ⟨by decide, by decide, by decide⟩, by decide⟩
theorem qX10_hasPerson : cpCal yX10_hasPerson cX10_hasPerson 2 ((some .boolean)) 1 := ⟨mw_29_6, mw_29_7, mw_1_15, mw_29_8, ⟨by decide, by decide, by decide⟩, by decide⟩
theorem qX10_hasPlace : cpCal yX10_hasPlace cX10_hasPlace 2 ((some .boolean)) 1 := ⟨mw_31_11, mw_31_12, mw_1_15, mw_31_13, ⟨by decide, by decide, by decide⟩, by decide⟩
theorem qX10_joined : cpCal yX10_joined cX10_joined 4 ((some .boolean)) 2 := ⟨mw_33_18, mw_33_19, mw_1_15, mw_33_20, ⟨by decide, by decide, by decide⟩, by decide⟩
theorem qX10_joins : cpCal yX10_joins cX10_joins 4 ((some .boolean)) 3 := ⟨mw_33_22, mw_33_23, mw_1_15, mw_34_0, ⟨by decide, by decide, by decide⟩, by decide⟩
theorem qX10_measureDistances : cpCal yX10_measureDistances cX10_measureDistances 4 (none) 0 := ⟨mw_21_13, mw_21_14, mw_1_15, mw_21_15, ⟨by decide, by decide, by decide⟩, by decide⟩
theorem qX10_shorten : cpCal yX10_shorten cX10_shorten 4 (none) 3 := ⟨mw_21_17, mw_21_18, mw_1_15, mw_21_19, ⟨by decide, by decide, by decide⟩, by decide⟩
theorem qX11_coinAndPlace : cpCal yX11_coinAndPlace cX11_coinAndPlace 3 ((some .boolean)) 2 := ⟨mw_38_8, mw_38_9, mw_1_2, mw_38_10, ⟨by decide, by decide, by decide⟩, by decide⟩
theorem qX11_deedOf : cpCas yX11_deedOf cX11_deedOf 4 ((some .int)) 4 := ⟨mw_46_18, mw_1_2, mw_46_19, ⟨by decide, by decide, by decide⟩, by decide⟩
theorem qX11_doAll : cpCal yX11_doAll cX11_doAll 3 ((some .int)) 1 := ⟨mw_43_3, mw_43_4, mw_1_2, mw_43_5, ⟨by decide, by decide, by decide⟩, by decide⟩
theorem qX11_draw : cpCal yX11_draw cX11_draw 1 ((some .int)) 0 := ⟨mw_46_13, mw_46_14, mw_1_2, mw_46_15, ⟨by decide, by decide, by decide⟩, by decide⟩
theorem qX11_drawDeed : cpCal yX11_drawDeed cX11_drawDeed 5 ((some .int)) 0 := ⟨mw_46_9, mw_46_10, mw_1_2, mw_46_11, ⟨by decide, by decide, by decide⟩, by decide⟩
theorem qX11_hasTray : cpCal yX11_hasTray cX11_hasTray 2 ((some .boolean)) 1 := ⟨mw_42_19, mw_42_20, mw_1_2, mw_42_21, ⟨by decide, by decide, by decide⟩, by decide⟩
theorem qX11_isIn : cpCas yX11_isIn cX11_isIn 2 ((some .boolean)) 2 := ⟨mw_34_5, mw_1_2, mw_34_6, ⟨by decide, by decide, by decide⟩, by decide⟩
theorem qX11_isWeight : cpCas yX11_isWeight cX11_isWeight 1 ((some .boolean)) 1 := ⟨mw_54_7, mw_1_2, mw_54_8, ⟨by decide, by decide, by decide⟩, by decide⟩
theorem qX11_rimCode : cpCal yX11_rimCode cX11_rimCode 5 ((some .int)) 3 := ⟨mw_63_19, mw_63_20, mw_1_2, mw_63_21, ⟨by decide, by decide, by decide⟩, by decide⟩
theorem qX11_sizeOrSet : cpCas yX11_sizeOrSet cX11_sizeOrSet 2 ((some .int)) 2 := ⟨mw_57_20, mw_1_2, mw_57_21, ⟨by decide, by decide, by decide⟩, by decide⟩
theorem qX11_toldCode : cpCal yX11_toldCode cX11_toldCode 3 ((some .int)) 1 := ⟨mw_68_8, mw_68_9, mw_1_2, mw_68_10, ⟨by decide, by decide, by decide⟩, by decide⟩
theorem qX12_areJoined : cpCal yX12_areJoined cX12_areJoined 4 ((some .boolean)) 2 := ⟨mw_35_17, mw_35_18, mw_1_5, mw_35_19, ⟨by decide, by decide, by decide⟩, by decide⟩
theorem qX12_areTwo : cpCal yX12_areTwo cX12_areTwo 5 ((some .boolean)) 2 := ⟨mw_40_21, mw_40_22, mw_1_5, mw_40_23, ⟨by decide, by decide, by decide⟩, by decide⟩
theorem qX12_bearersOf : cpCal yX12_bearersOf cX12_bearersOf 7 ((some .int)) 3 := ⟨mw_38_16, mw_38_17, mw_1_5, mw_38_18, ⟨by decide, by decide, by decide⟩, by decide⟩
theorem qX12_between : cpCas yX12_between cX12_between 5 ((some .int)) 3 := ⟨mw_37_5, mw_1_5, mw_37_6, ⟨by decide, by decide, by decide⟩, by decide⟩
theorem qX12_bitsOf : cpCas yX12_bitsOf cX12_bitsOf 3 ((some .int)) 1 := ⟨mw_58_4, mw_1_5, mw_58_5, ⟨by decide, by decide, by decide⟩, by decide⟩
theorem qX12_campCost : cpCal yX12_campCost cX12_campCost 5 ((some .int)) 1 := ⟨mw_62_22, mw_62_23, mw_1_5, mw_63_0, ⟨by decide, by decide, by decide⟩, by decide⟩
theorem qX12_canBe : cpCal yX12_canBe cX12_canBe 3 ((some .boolean)) 2 := ⟨mw_71_16, mw_71_17, mw_1_5, mw_71_18, ⟨by decide, by decide, by decide⟩, by decide⟩
theorem qX12_canGo : cpCal yX12_canGo cX12_canGo 5 ((some .boolean)) 4 := ⟨mw_67_4, mw_67_5, mw_1_5, mw_67_6, ⟨by decide, by decide, by decide⟩, by decide⟩
theorem qX12_canPair : cpCal yX12_canPair cX12_canPair 4 ((some .boolean)) 3 := ⟨mw_56_4, mw_56_5, mw_1_5, mw_56_6, ⟨by decide, by decide, by decide⟩, by decide⟩
theorem qX12_carryingAt : cpCal yX12_carryingAt cX12_carryingAt 6 ((some .int)) 2 := ⟨mw_50_15, mw_50_16, mw_1_5, mw_50_17, ⟨by decide, by decide, by decide⟩, by decide⟩
theorem qX12_closes : cpCal yX12_closes cX12_closes 1 (none) 0 := ⟨mw_25_13, mw_25_14, mw_1_5, mw_25_15, ⟨by decide, by decide, by decide⟩, by decide⟩
theorem qX12_codes : cpCal yX12_codes cX12_codes 2 (none) 1 := ⟨mw_27_5, mw_27_6, mw_1_5, mw_27_7, ⟨by decide, by decide, by decide⟩, by decide⟩
theorem qX12_common : cpCas yX12_common cX12_common 4 ((some .long)) 2 := ⟨mw_74_22, mw_1_5, mw_74_23, ⟨by decide, by decide, by decide⟩, by decide⟩
theorem qX12_cut : cpCas yX12_cut cX12_cut 3 ((some .long)) 2 := ⟨mw_76_22, mw_1_5, mw_76_23, ⟨by decide, by decide, by decide⟩, by decide⟩
theorem qX12_deedOf : cpCas yX12_deedOf cX12_deedOf 4 ((some .int)) 4 := ⟨mw_50_23, mw_1_5, mw_51_0, ⟨by decide, by decide, by decide⟩, by decide⟩
theorem qX12_does : cpCal yX12_does cX12_does 2 (none) 1 := ⟨mw_45_8, mw_45_9, mw_1_5, mw_45_10, ⟨by decide, by decide, by decide⟩, by decide⟩
theorem qX12_draw : cpCal yX12_draw cX12_draw 2 ((some .int)) 1 := ⟨mw_47_7, mw_47_8, mw_1_5, mw_47_9, ⟨by decide, by decide, by decide⟩, by decide⟩
theorem qX12_drawn : cpCal yX12_drawn cX12_drawn 5 ((some .int)) 0 := ⟨mw_47_3, mw_47_4, mw_1_5, mw_47_5, ⟨by decide, by decide, by decide⟩, by decide⟩
theorem qX12_eats : cpCal yX12_eats cX12_eats 2 ((some .boolean)) 1 := ⟨mw_24_17, mw_24_18, mw_1_5, mw_24_19, ⟨by decide, by decide, by decide⟩, by decide⟩
theorem qX12_everybody : cpCal yX12_everybody cX12_everybody 1 ((some .int)) 0 := ⟨mw_56_8, mw_56_9, mw_1_5, mw_56_10, ⟨by decide, by decide, by decide⟩, by decide⟩
theorem qX12_fails : cpCal yX12_fails cX12_fails 2 (none) 1 := ⟨mw_25_1, mw_25_2, mw_1_5, mw_25_3, ⟨by decide, by decide, by decide⟩, by decide⟩
theorem qX12_goesCarry : cpCal yX12_goesCarry cX12_goesCarry 6 ((some .int)) 4 := ⟨mw_39_22, mw_39_23, mw_1_5, mw_40_0, ⟨by decide, by decide, by decide⟩, by decide⟩
theorem qX12_goesIn : cpCal yX12_goesIn cX12_goesIn 2 ((some .boolean)) 1 := ⟨mw_27_14, mw_27_15, mw_1_5, mw_27_16, ⟨by decide, by decide, by decide⟩, by decide⟩
theorem qX12_goesLikely : cpCal yX12_goesLikely cX12_goesLikely 8 (none) 5 := ⟨mw_74_7, mw_74_8, mw_1_5, mw_74_9, ⟨by decide, by decide, by decide⟩, by decide⟩
theorem qX12_goesQuarrel : cpCal yX12_goesQuarrel cX12_goesQuarrel 3 (none) 2 := ⟨mw_41_1, mw_41_2, mw_1_5, mw_41_3, ⟨by decide, by decide, by decide⟩, by decide⟩
theorem qX12_haveQuarrelled : cpCal yX12_haveQuarrelled cX12_haveQuarrelled 3 ((some .boolean)) 2 := ⟨mw_36_1, mw_36_2, mw_1_5, mw_36_3, ⟨by decide, by decide, by decide⟩, by decide⟩
theorem qX12_heardTo : cpCal yX12_heardTo cX12_heardTo 4 ((some .int)) 1 := ⟨mw_61_17, mw_61_18, mw_1_5, mw_61_19, ⟨by decide, by decide, by decide⟩, by decide⟩
theorem qX12_hoursOf : cpCal yX12_hoursOf cX12_hoursOf 6 ((some .int)) 1 := ⟨mw_69_4, mw_69_5, mw_1_5, mw_69_6, ⟨by decide, by decide, by decide⟩, by decide⟩
theorem qX12_is : cpCal yX12_is cX12_is 2 ((some .boolean)) 1 := ⟨mw_24_21, mw_24_22, mw_1_5, mw_24_23, ⟨by decide, by decide, by decide⟩, by decide⟩
theorem qX12_isAgain : cpCal yX12_isAgain cX12_isAgain 2 (none) 0 := ⟨mw_45_16, mw_45_17, mw_1_5, mw_45_18, ⟨by decide, by decide, by decide⟩, by decide⟩
theorem qX12_isCoin : cpCal yX12_isCoin cX12_isCoin 3 ((some .boolean)) 1 := ⟨mw_30_10, mw_30_11, mw_1_5, mw_30_12, ⟨by decide, by decide, by decide⟩, by decide⟩
theorem qX12_isDigit : cpCas yX12_isDigit cX12_isDigit 1 ((some .boolean)) 1 := ⟨mw_24_14, mw_1_5, mw_24_15, ⟨by decide, by decide, by decide⟩, by decide⟩
theorem qX12_isIn : cpCas yX12_isIn cX12_isIn 3 ((some .boolean)) 2 := ⟨mw_36_5, mw_1_5, mw_36_6, ⟨by decide, by decide, by decide⟩, by decide⟩
theorem qX12_isPerson : cpCal yX12_isPerson cX12_isPerson 3 ((some .boolean)) 1 := ⟨mw_29_14, mw_29_15, mw_1_5, mw_29_16, ⟨by decide, by decide, by decide⟩, by decide⟩
theorem qX12_isPlace : cpCal yX12_isPlace cX12_isPlace 3 ((some .boolean)) 1 := ⟨mw_31_20, mw_31_21, mw_1_5, mw_31_22, ⟨by decide, by decide, by decide⟩, by decide⟩
theorem qX12_isRoad : cpCal yX12_isRoad cX12_isRoad 2 ((some .boolean)) 1 := ⟨mw_31_3, mw_31_4, mw_1_5, mw_31_5, ⟨by decide, by decide, by decide⟩, by decide⟩
theorem qX12_isSmall : cpCas yX12_isSmall cX12_isSmall 1 ((some .boolean)) 1 := ⟨mw_24_5, mw_1_5, mw_24_6, ⟨by decide, by decide, by decide⟩, by decide⟩
theorem qX12_isTold : cpCal yX12_isTold cX12_isTold 4 ((some .boolean)) 2 := ⟨mw_69_8, mw_69_9, mw_1_5, mw_69_10, ⟨by decide, by decide, by decide⟩, by decide⟩
theorem qX12_isWorn : cpCal yX12_isWorn cX12_isWorn 11 ((some .boolean)) 4 := ⟨mw_66_7, mw_66_8, mw_1_5, mw_66_9, ⟨by decide, by decide, by decide⟩, by decide⟩
theorem qX12_joins : cpCal yX12_joins cX12_joins 6 ((some .boolean)) 3 := ⟨mw_35_21, mw_35_22, mw_1_5, mw_35_23, ⟨by decide, by decide, by decide⟩, by decide⟩
theorem qX12_keyAt : cpCal yX12_keyAt cX12_keyAt 4 ((some .int)) 0 := ⟨mw_24_8, mw_24_9, mw_1_5, mw_24_10, ⟨by decide, by decide, by decide⟩, by decide⟩
theorem qX12_laysBears : cpCal yX12_laysBears cX12_laysBears 4 (none) 1 := ⟨mw_49_16, mw_49_17, mw_1_5, mw_49_18, ⟨by decide, by decide, by decide⟩, by decide⟩
theorem qX12_laysDeeds : cpCal yX12_laysDeeds cX12_laysDeeds 5 (none) 1 := ⟨mw_66_3, mw_66_4, mw_1_5, mw_66_5, ⟨by decide, by decide, by decide⟩, by decide⟩
theorem qX12_laysFar : cpCal yX12_laysFar cX12_laysFar 4 (none) 0 := ⟨mw_32_0, mw_32_1, mw_1_5, mw_32_2, ⟨by decide, by decide, by decide⟩, by decide⟩
theorem qX12_laysForce : cpCal yX12_laysForce cX12_laysForce 7 ((some .int)) 2 := ⟨mw_71_12, mw_71_13, mw_1_5, mw_71_14, ⟨by decide, by decide, by decide⟩, by decide⟩
theorem qX12_laysLikely : cpCal yX12_laysLikely cX12_laysLikely 4 (none) 1 := ⟨mw_74_3, mw_74_4, mw_1_5, mw_74_5, ⟨by decide, by decide, by decide⟩, by decide⟩
theorem qX12_laysNow : cpCal yX12_laysNow cX12_laysNow 2 (none) 1 := ⟨mw_36_8, mw_36_9, mw_1_5, mw_36_10, ⟨by decide, by decide, by decide⟩, by decide⟩
theorem qX12_laysPairs : cpCal yX12_laysPairs cX12_laysPairs 8 (none) 1 := ⟨mw_55_21, mw_55_22, mw_1_5, mw_55_23, ⟨by decide, by decide, by decide⟩, by decide⟩
theorem qX12_laysPaying : cpCal yX12_laysPaying cX12_laysPaying 4 (none) 1 := ⟨mw_53_22, mw_53_23, mw_1_5, mw_54_0, ⟨by decide, by decide, by decide⟩, by decide⟩
theorem qX12_laysStill : cpCal yX12_laysStill cX12_laysStill 6 ((some .int)) 2 := ⟨mw_49_11, mw_49_12, mw_1_5, mw_49_13, ⟨by decide, by decide, by decide⟩, by decide⟩
theorem qX12_laysWords : cpCal yX12_laysWords cX12_laysWords 8 (none) 5 := ⟨mw_36_21, mw_36_22, mw_1_5, mw_36_23, ⟨by decide, by decide, by decide⟩, by decide⟩
theorem qX12_laysWorn : cpCal yX12_laysWorn cX12_laysWorn 9 ((some .long)) 2 := ⟨mw_65_22, mw_65_23, mw_1_5, mw_66_0, ⟨by decide, by decide, by decide⟩, by decide⟩
theorem qX12_leads : cpCal yX12_leads cX12_leads 8 ((some .boolean)) 3 := ⟨mw_59_4, mw_59_5, mw_1_5, mw_59_6, ⟨by decide, by decide, by decide⟩, by decide⟩
theorem qX12_leastOf : cpCas yX12_leastOf cX12_leastOf 2 ((some .int)) 1 := ⟨mw_56_1, mw_1_5, mw_56_2, ⟨by decide, by decide, by decide⟩, by decide⟩
theorem qX12_liftsTo : cpCal yX12_liftsTo cX12_liftsTo 5 ((some .int)) 2 := ⟨mw_60_12, mw_60_13, mw_1_5, mw_60_14, ⟨by decide, by decide, by decide⟩, by decide⟩
theorem qX12_likeliestBy : cpCal yX12_likeliestBy cX12_likeliestBy 8 ((some .int)) 1 := ⟨mw_74_15, mw_74_16, mw_1_5, mw_74_17, ⟨by decide, by decide, by decide⟩, by decide⟩
theorem qX12_longOf : cpCal yX12_longOf cX12_longOf 2 ((some .int)) 1 := ⟨mw_32_4, mw_32_5, mw_1_5, mw_32_6, ⟨by decide, by decide, by decide⟩, by decide⟩
theorem qX12_mayBy : cpCal yX12_mayBy cX12_mayBy 6 ((some .boolean)) 5 := ⟨mw_36_17, mw_36_18, mw_1_5, mw_36_19, ⟨by decide, by decide, by decide⟩, by decide⟩
theorem qX12_mostOften : cpCal yX12_mostOften cX12_mostOften 9 ((some .int)) 5 := ⟨mw_70_9, mw_70_10, mw_1_5, mw_70_11, ⟨by decide, by decide, by decide⟩, by decide⟩
theorem qX12_named : cpCal yX12_named cX12_named 4 ((some .int)) 3 := ⟨mw_25_5, mw_25_6, mw_1_5, mw_25_7, ⟨by decide, by decide, by decide⟩, by decide⟩
theorem qX12_nearer : cpCal yX12_nearer cX12_nearer 4 (none) 3 := ⟨mw_32_8, mw_32_9, mw_1_5, mw_32_10, ⟨by decide, by decide, by decide⟩, by decide⟩
theorem qX12_nearerBy : cpCal yX12_nearerBy cX12_nearerBy 6 ((some .int)) 2 := ⟨mw_50_19, mw_50_20, mw_1_5, mw_50_21, ⟨by decide, by decide, by decide⟩, by decide⟩
theorem qX12_next : cpCal yX12_next cX12_next 2 (none) 0 := ⟨mw_23_19, mw_23_20, mw_1_5, mw_23_21, ⟨by decide, by decide, by decide⟩, by decide⟩
theorem qX12_noCoin : cpCal yX12_noCoin cX12_noCoin 3 ((some .int)) 2 := ⟨mw_49_7, mw_49_8, mw_1_5, mw_49_9, ⟨by decide, by decide, by decide⟩, by decide⟩
theorem qX12_noTold : cpCal yX12_noTold cX12_noTold 6 ((some .int)) 3 := ⟨mw_65_18, mw_65_19, mw_1_5, mw_65_20, ⟨by decide, by decide, by decide⟩, by decide⟩
theorem qX12_noTray : cpCal yX12_noTray cX12_noTray 2 ((some .int)) 1 := ⟨mw_44_11, mw_44_12, mw_1_5, mw_44_13, ⟨by decide, by decide, by decide⟩, by decide⟩
theorem qX12_noWorn : cpCal yX12_noWorn cX12_noWorn 3 ((some .int)) 2 := ⟨mw_65_14, mw_65_15, mw_1_5, mw_65_16, ⟨by decide, by decide, by decide⟩, by decide⟩
theorem qX12_notes : cpCal yX12_notes cX12_notes 2 (none) 0 := ⟨mw_40_2, mw_40_3, mw_1_5, mw_40_4, ⟨by decide, by decide, by decide⟩, by decide⟩
theorem qX12_otherAt : cpCal yX12_otherAt cX12_otherAt 4 ((some .int)) 1 := ⟨mw_71_20, mw_71_21, mw_1_5, mw_71_22, ⟨by decide, by decide, by decide⟩, by decide⟩
theorem qX12_partnerIn : cpCal yX12_partnerIn cX12_partnerIn 6 ((some .int)) 2 := ⟨mw_56_21, mw_56_22, mw_1_5, mw_56_23, ⟨by decide, by decide, by decide⟩, by decide⟩
theorem qX12_plain : cpCas yX12_plain cX12_plain 2 (none) 1 := ⟨mw_9_3, mw_1_5, mw_9_4, ⟨by decide, by decide, by decide⟩, by decide⟩
theorem qX12_quarrelMany : cpCal yX12_quarrelMany cX12_quarrelMany 3 ((some .int)) 0 := ⟨mw_78_19, mw_78_20, mw_1_5, mw_78_21, ⟨by decide, by decide, by decide⟩, by decide⟩
theorem qX12_readAtom : cpCal yX12_readAtom cX12_readAtom 2 (none) 1 := ⟨mw_28_6, mw_28_7, mw_1_5, mw_27_8, ⟨by decide, by decide, by decide⟩, by decide⟩
theorem qX12_readBoth : cpCal yX12_readBoth cX12_readBoth 2 (none) 1 := ⟨mw_28_10, mw_28_11, mw_1_5, mw_27_20, ⟨by decide, by decide, by decide⟩, by decide⟩
theorem qX12_readCoin : cpCal yX12_readCoin cX12_readCoin 2 (none) 0 := ⟨mw_26_13, mw_26_14, mw_1_5, mw_26_15, ⟨by decide, by decide, by decide⟩, by decide⟩
theorem qX12_readIf : cpCal yX12_readIf cX12_readIf 2 (none) 1 := ⟨mw_27_18, mw_27_19, mw_1_5, mw_28_0, ⟨by decide, by decide, by decide⟩, by decide⟩
theorem qX12_readLaw : cpCal yX12_readLaw cX12_readLaw 3 (none) 1 := ⟨mw_26_17, mw_26_18, mw_1_5, mw_26_19, ⟨by decide, by decide, by decide⟩, by decide⟩
theorem qX12_readLine : cpCal yX12_readLine cX12_readLine 1 (none) 0 := ⟨mw_25_17, mw_25_18, mw_1_5, mw_25_19, ⟨by decide, by decide, by decide⟩, by decide⟩
theorem qX12_readPerson : cpCal yX12_readPerson cX12_readPerson 2 (none) 0 := ⟨mw_26_5, mw_26_6, mw_1_5, mw_26_7, ⟨by decide, by decide, by decide⟩, by decide⟩
theorem qX12_readQuarrel : cpCal yX12_readQuarrel cX12_readQuarrel 3 (none) 0 := ⟨mw_26_9, mw_26_10, mw_1_5, mw_26_11, ⟨by decide, by decide, by decide⟩, by decide⟩
theorem qX12_readRoad : cpCal yX12_readRoad cX12_readRoad 2 (none) 0 := ⟨mw_25_21, mw_25_22, mw_1_5, mw_25_23, ⟨by decide, by decide, by decide⟩, by decide⟩
theorem qX12_readSum : cpCal yX12_readSum cX12_readSum 3 (none) 1 := ⟨mw_26_22, mw_26_23, mw_1_5, mw_27_0, ⟨by decide, by decide, by decide⟩, by decide⟩
theorem qX12_readTerm : cpCal yX12_readTerm cX12_readTerm 2 (none) 1 := ⟨mw_27_2, mw_27_3, mw_1_5, mw_28_4, ⟨by decide, by decide, by decide⟩, by decide⟩
theorem qX12_readTruth : cpCal yX12_readTruth cX12_readTruth 2 (none) 1 := ⟨mw_28_2, mw_28_3, mw_1_5, mw_28_8, ⟨by decide, by decide, by decide⟩, by decide⟩
theorem qX12_readUnit : cpCal yX12_readUnit cX12_readUnit 3 (none) 1 := ⟨mw_27_22, mw_27_23, mw_1_5, mw_28_12, ⟨by decide, by decide, by decide⟩, by decide⟩
theorem qX12_reckons : cpCal yX12_reckons cX12_reckons 5 ((some .int)) 1 := ⟨mw_37_1, mw_37_2, mw_1_5, mw_37_3, ⟨by decide, by decide, by decide⟩, by decide⟩
theorem qX12_roadFor : cpCal yX12_roadFor cX12_roadFor 7 ((some .int)) 5 := ⟨mw_36_13, mw_36_14, mw_1_5, mw_36_15, ⟨by decide, by decide, by decide⟩, by decide⟩
theorem qX12_see : cpCal yX12_see cX12_see 2 ((some .int)) 1 := ⟨mw_24_1, mw_24_2, mw_1_5, mw_24_3, ⟨by decide, by decide, by decide⟩, by decide⟩
theorem qX12_someMay : cpCal yX12_someMay cX12_someMay 6 ((some .boolean)) 3 := ⟨mw_74_11, mw_74_12, mw_1_5, mw_74_13, ⟨by decide, by decide, by decide⟩, by decide⟩
theorem qX12_stores : cpCal yX12_stores cX12_stores 2 (none) 0 := ⟨mw_39_18, mw_39_19, mw_1_5, mw_39_20, ⟨by decide, by decide, by decide⟩, by decide⟩
theorem qX12_takes : cpCal yX12_takes cX12_takes 4 ((some .int)) 2 := ⟨mw_25_9, mw_25_10, mw_1_5, mw_25_11, ⟨by decide, by decide, by decide⟩, by decide⟩
theorem qX12_takesOther : cpCal yX12_takesOther cX12_takesOther 3 ((some .int)) 2 := ⟨mw_26_1, mw_26_2, mw_1_5, mw_26_3, ⟨by decide, by decide, by decide⟩, by decide⟩
theorem qX12_tells : cpCal yX12_tells cX12_tells 3 ((some .int)) 1 := ⟨mw_44_15, mw_44_16, mw_1_5, mw_44_17, ⟨by decide, by decide, by decide⟩, by decide⟩
theorem qX12_toldFar : cpCas yX12_toldFar cX12_toldFar 1 ((some .int)) 1 := ⟨mw_49_20, mw_1_5, mw_49_21, ⟨by decide, by decide, by decide⟩, by decide⟩
theorem qX12_wearsBy : cpCal yX12_wearsBy cX12_wearsBy 7 ((some .int)) 5 := ⟨mw_37_22, mw_37_23, mw_1_5, mw_38_0, ⟨by decide, by decide, by decide⟩, by decide⟩
theorem qX12_wholeOf : cpCas yX12_wholeOf cX12_wholeOf 4 ((some .long)) 1 := ⟨mw_74_19, mw_1_5, mw_74_20, ⟨by decide, by decide, by decide⟩, by decide⟩
theorem qX12_whyCarry : cpCal yX12_whyCarry cX12_whyCarry 6 ((some .int)) 5 := ⟨mw_35_13, mw_35_14, mw_1_5, mw_35_15, ⟨by decide, by decide, by decide⟩, by decide⟩
theorem qX12_whyNot : cpCal yX12_whyNot cX12_whyNot 3 ((some .int)) 1 := ⟨mw_44_19, mw_44_20, mw_1_5, mw_44_21, ⟨by decide, by decide, by decide⟩, by decide⟩
theorem qX12_whyTold : cpCal yX12_whyTold cX12_whyTold 5 ((some .int)) 2 := ⟨mw_45_4, mw_45_5, mw_1_5, mw_45_6, ⟨by decide, by decide, by decide⟩, by decide⟩
theorem qX12_within : cpCas yX12_within cX12_within 6 ((some .boolean)) 3 := ⟨mw_23_16, mw_1_5, mw_23_17, ⟨by decide, by decide, by decide⟩, by decide⟩
theorem qX12_wordOf : cpCal yX12_wordOf cX12_wordOf 2 ((some .int)) 1 := ⟨mw_27_10, mw_27_11, mw_1_5, mw_27_12, ⟨by decide, by decide, by decide⟩, by decide⟩
theorem qX12_wornSum : cpCal yX12_wornSum cX12_wornSum 3 ((some .int)) 0 := ⟨mw_45_12, mw_45_13, mw_1_5, mw_45_14, ⟨by decide, by decide, by decide⟩, by decide⟩
theorem qX12_wornTo : cpCal yX12_wornTo cX12_wornTo 7 ((some .int)) 5 := ⟨mw_37_18, mw_37_19, mw_1_5, mw_37_20, ⟨by decide, by decide, by decide⟩, by decide⟩
theorem qX1_bestCamp : cpCal yX1_bestCamp cX1_bestCamp 3 ((some .int)) 0 := ⟨mw_62_9, mw_62_10, mw_2_16, mw_62_11, ⟨by decide, by decide, by decide⟩, by decide⟩
theorem qX1_canPair : cpCal yX1_canPair cX1_canPair 4 ((some .boolean)) 3 := ⟨mw_55_4, mw_55_5, mw_2_16, mw_55_6, ⟨by decide, by decide, by decide⟩, by decide⟩
theorem qX1_changesFor : cpCal yX1_changesFor cX1_changesFor 5 ((some .int)) 1 := ⟨mw_62_13, mw_62_14, mw_2_16, mw_62_15, ⟨by decide, by decide, by decide⟩, by decide⟩
theorem qX1_everybody : cpCal yX1_everybody cX1_everybody 1 ((some .int)) 0 := ⟨mw_54_15, mw_54_16, mw_2_16, mw_54_17, ⟨by decide, by decide, by decide⟩, by decide⟩
theorem qX1_fewestGuards : cpCal yX1_fewestGuards cX1_fewestGuards 6 ((some .int)) 2 := ⟨mw_58_11, mw_58_12, mw_2_16, mw_58_13, ⟨by decide, by decide, by decide⟩, by decide⟩
theorem qX1_fewestLifters : cpCal yX1_fewestLifters cX1_fewestLifters 5 ((some .int)) 1 := ⟨mw_57_5, mw_57_6, mw_2_16, mw_57_7, ⟨by decide, by decide, by decide⟩, by decide⟩
theorem qX1_findRests : cpCal yX1_findRests cX1_findRests 4 (none) 1 := ⟨mw_59_15, mw_59_16, mw_2_16, mw_59_17, ⟨by decide, by decide, by decide⟩, by decide⟩
theorem qX1_firstPartner : cpCal yX1_firstPartner cX1_firstPartner 6 ((some .int)) 3 := ⟨mw_55_11, mw_55_12, mw_2_16, mw_55_13, ⟨by decide, by decide, by decide⟩, by decide⟩
theorem qX1_friendsOf : cpCal yX1_friendsOf cX1_friendsOf 2 ((some .int)) 1 := ⟨mw_60_3, mw_60_4, mw_2_16, mw_60_5, ⟨by decide, by decide, by decide⟩, by decide⟩
theorem qX1_heardBehind : cpCal yX1_heardBehind cX1_heardBehind 5 ((some .int)) 2 := ⟨mw_61_5, mw_61_6, mw_2_16, mw_61_7, ⟨by decide, by decide, by decide⟩, by decide⟩
theorem qX1_leastIn : cpCal yX1_leastIn cX1_leastIn 3 ((some .int)) 1 := ⟨mw_55_0, mw_55_1, mw_2_16, mw_55_2, ⟨by decide, by decide, by decide⟩, by decide⟩
theorem qX1_liftNext : cpCal yX1_liftNext cX1_liftNext 5 ((some .int)) 2 := ⟨mw_59_23, mw_60_0, mw_2_16, mw_60_1, ⟨by decide, by decide, by decide⟩, by decide⟩
theorem qX1_mostPairsIn : cpCal yX1_mostPairsIn cX1_mostPairsIn 7 ((some .int)) 2 := ⟨mw_54_19, mw_54_20, mw_2_16, mw_54_21, ⟨by decide, by decide, by decide⟩, by decide⟩
theorem qX1_part : cpCal yX1_part cX1_part 5 (none) 1 := ⟨mw_54_10, mw_54_11, mw_2_16, mw_54_12, ⟨by decide, by decide, by decide⟩, by decide⟩
theorem qX1_passedFrom : cpCal yX1_passedFrom cX1_passedFrom 7 ((some .int)) 2 := ⟨mw_58_17, mw_58_18, mw_2_16, mw_58_19, ⟨by decide, by decide, by decide⟩, by decide⟩
theorem qX1_quarrelsToMakeUp : cpCal yX1_quarrelsToMakeUp cX1_quarrelsToMakeUp 4 ((some .int)) 0 := ⟨mw_63_6, mw_63_7, mw_2_16, mw_63_8, ⟨by decide, by decide, by decide⟩, by decide⟩
theorem qX1_strengthOf : cpCal yX1_strengthOf cX1_strengthOf 4 ((some .int)) 1 := ⟨mw_57_16, mw_57_17, mw_2_16, mw_57_18, ⟨by decide, by decide, by decide⟩, by decide⟩
theorem qX1_tellOn : cpCal yX1_tellOn cX1_tellOn 4 ((some .int)) 1 := ⟨mw_61_9, mw_61_10, mw_2_16, mw_61_11, ⟨by decide, by decide, by decide⟩, by decide⟩
theorem qX2_allGoInto : cpCal yX2_allGoInto cX2_allGoInto 4 ((some .int)) 1 := ⟨mw_71_4, mw_71_5, mw_3_0, mw_71_6, ⟨by decide, by decide, by decide⟩, by decide⟩
theorem qX2_bestPlace : cpCal yX2_bestPlace cX2_bestPlace 4 ((some .int)) 1 := ⟨mw_72_4, mw_72_5, mw_3_0, mw_72_6, ⟨by decide, by decide, by decide⟩, by decide⟩
theorem qX2_fewestRoads : cpCal yX2_fewestRoads cX2_fewestRoads 4 ((some .int)) 1 := ⟨mw_75_5, mw_75_6, mw_3_0, mw_75_7, ⟨by decide, by decide, by decide⟩, by decide⟩
theorem qX2_forcedWithin : cpCal yX2_forcedWithin cX2_forcedWithin 6 ((some .int)) 2 := ⟨mw_70_17, mw_70_18, mw_3_0, mw_70_19, ⟨by decide, by decide, by decide⟩, by decide⟩
theorem qX2_fraction : cpCal yX2_fraction cX2_fraction 6 ((some .int)) 2 := ⟨mw_73_19, mw_73_20, mw_3_0, mw_73_21, ⟨by decide, by decide, by decide⟩, by decide⟩
theorem qX2_goOn : cpCal yX2_goOn cX2_goOn 7 (none) 4 := ⟨mw_73_10, mw_73_11, mw_3_0, mw_73_12, ⟨by decide, by decide, by decide⟩, by decide⟩
theorem qX2_greatestChance : cpCal yX2_greatestChance cX2_greatestChance 4 ((some .int)) 1 := ⟨mw_73_15, mw_73_16, mw_3_0, mw_73_17, ⟨by decide, by decide, by decide⟩, by decide⟩
theorem qX2_learnChances : cpCal yX2_learnChances cX2_learnChances 5 (none) 2 := ⟨mw_72_16, mw_72_17, mw_3_0, mw_72_18, ⟨by decide, by decide, by decide⟩, by decide⟩
theorem qX2_learnOpenRoads : cpCal yX2_learnOpenRoads cX2_learnOpenRoads 3 (none) 1 := ⟨mw_73_1, mw_73_2, mw_3_0, mw_73_3, ⟨by decide, by decide, by decide⟩, by decide⟩
theorem qX2_someGoInto : cpCal yX2_someGoInto cX2_someGoInto 4 ((some .int)) 1 := ⟨mw_71_0, mw_71_1, mw_3_0, mw_71_2, ⟨by decide, by decide, by decide⟩, by decide⟩
theorem qX3_append : cpCal yX3_append cX3_append 2 (none) 1 := ⟨mw_19_12, mw_19_13, mw_4_3, mw_19_14, ⟨by decide, by decide, by decide⟩, by decide⟩
theorem qX3_clear : cpCal yX3_clear cX3_clear 1 (none) 0 := ⟨mw_4_12, mw_4_13, mw_4_3, mw_4_14, ⟨by decide, by decide, by decide⟩, by decide⟩
theorem qX3_closeMay : cpCal yX3_closeMay cX3_closeMay 2 (none) 1 := ⟨mw_21_1, mw_21_2, mw_4_3, mw_21_3, ⟨by decide, by decide, by decide⟩, by decide⟩
theorem qX3_closeWears : cpCal yX3_closeWears cX3_closeWears 2 (none) 1 := ⟨mw_21_9, mw_21_10, mw_4_3, mw_21_11, ⟨by decide, by decide, by decide⟩, by decide⟩
theorem qX3_codeSoFar : cpCal yX3_codeSoFar cX3_codeSoFar 1 ((some .int)) 0 := ⟨mw_19_1, mw_19_2, mw_4_3, mw_19_3, ⟨by decide, by decide, by decide⟩, by decide⟩
theorem qX3_copyFrom : cpCal yX3_copyFrom cX3_copyFrom 2 (none) 1 := ⟨mw_22_9, mw_22_10, mw_4_3, mw_22_11, ⟨by decide, by decide, by decide⟩, by decide⟩
theorem qX3_joinAbove : cpCal yX3_joinAbove cX3_joinAbove 7 ((some .int)) 2 := ⟨mw_35_1, mw_35_2, mw_4_3, mw_35_3, ⟨by decide, by decide, by decide⟩, by decide⟩
theorem qX3_joinedBy : cpCas yX3_joinedBy cX3_joinedBy 1 ((some .int)) 1 := ⟨mw_34_22, mw_4_3, mw_34_23, ⟨by decide, by decide, by decide⟩, by decide⟩
theorem qX3_reckon : cpCal yX3_reckon cX3_reckon 8 ((some .int)) 2 := ⟨mw_34_17, mw_34_18, mw_4_3, mw_34_19, ⟨by decide, by decide, by decide⟩, by decide⟩
theorem qX4_canGo : cpCal yX4_canGo cX4_canGo 3 ((some .boolean)) 2 := ⟨mw_48_23, mw_49_0, mw_2_12, mw_49_1, ⟨by decide, by decide, by decide⟩, by decide⟩
theorem qX4_carryingsFor : cpCal yX4_carryingsFor cX4_carryingsFor 5 ((some .int)) 1 := ⟨mw_53_12, mw_53_13, mw_2_12, mw_53_14, ⟨by decide, by decide, by decide⟩, by decide⟩
theorem qX4_firstDeed : cpCal yX4_firstDeed cX4_firstDeed 5 ((some .int)) 2 := ⟨mw_50_3, mw_50_4, mw_2_12, mw_50_5, ⟨by decide, by decide, by decide⟩, by decide⟩
theorem qX4_learn : cpCal yX4_learn cX4_learn 5 (none) 2 := ⟨mw_47_17, mw_47_18, mw_2_12, mw_47_19, ⟨by decide, by decide, by decide⟩, by decide⟩
theorem qX4_learnPaying : cpCal yX4_learnPaying cX4_learnPaying 4 (none) 1 := ⟨mw_52_19, mw_52_20, mw_2_12, mw_52_21, ⟨by decide, by decide, by decide⟩, by decide⟩
theorem qX4_learnStep : cpCal yX4_learnStep cX4_learnStep 10 (none) 4 := ⟨mw_48_3, mw_48_4, mw_2_12, mw_48_5, ⟨by decide, by decide, by decide⟩, by decide⟩
theorem qX4_leastPaying : cpCal yX4_leastPaying cX4_leastPaying 9 ((some .int)) 2 := ⟨mw_53_3, mw_53_4, mw_2_12, mw_53_5, ⟨by decide, by decide, by decide⟩, by decide⟩
theorem qX4_measureTo : cpCal yX4_measureTo cX4_measureTo 4 (none) 1 := ⟨mw_48_14, mw_48_15, mw_2_12, mw_48_16, ⟨by decide, by decide, by decide⟩, by decide⟩
theorem qX4_places : cpCal yX4_places cX4_places 1 ((some .int)) 0 := ⟨mw_47_21, mw_47_22, mw_2_12, mw_47_23, ⟨by decide, by decide, by decide⟩, by decide⟩
theorem qX4_placesNextTo : cpCal yX4_placesNextTo cX4_placesNextTo 4 ((some .int)) 1 := ⟨mw_52_7, mw_52_8, mw_2_12, mw_52_9, ⟨by decide, by decide, by decide⟩, by decide⟩
theorem qX4_reachedFrom : cpCal yX4_reachedFrom cX4_reachedFrom 5 ((some .int)) 1 := ⟨mw_52_3, mw_52_4, mw_2_12, mw_52_5, ⟨by decide, by decide, by decide⟩, by decide⟩
theorem qX4_rowsOf : cpCal yX4_rowsOf cX4_rowsOf 7 ((some .long)) 3 := ⟨mw_51_8, mw_51_9, mw_2_12, mw_51_10, ⟨by decide, by decide, by decide⟩, by decide⟩
theorem qX4_stepsOnTo : cpCal yX4_stepsOnTo cX4_stepsOnTo 4 ((some .boolean)) 2 := ⟨mw_48_19, mw_48_20, mw_2_12, mw_48_21, ⟨by decide, by decide, by decide⟩, by decide⟩
theorem qX4_wearOf : cpCal yX4_wearOf cX4_wearOf 4 ((some .int)) 3 := ⟨mw_50_7, mw_50_8, mw_2_12, mw_50_9, ⟨by decide, by decide, by decide⟩, by decide⟩
theorem qX4_worthOf : cpCal yX4_worthOf cX4_worthOf 4 ((some .int)) 1 := ⟨mw_53_7, mw_53_8, mw_2_12, mw_53_9, ⟨by decide, by decide, by decide⟩, by decide⟩
theorem qX5_begin : cpCal yX5_begin cX5_begin 2 (none) 1 := ⟨mw_22_14, mw_22_15, mw_1_19, mw_22_16, ⟨by decide, by decide, by decide⟩, by decide⟩
theorem qX5_copyFrom : cpCal yX5_copyFrom cX5_copyFrom 2 (none) 1 := ⟨mw_39_6, mw_39_7, mw_1_19, mw_39_8, ⟨by decide, by decide, by decide⟩, by decide⟩
theorem qX5_feuding : cpCal yX5_feuding cX5_feuding 3 ((some .boolean)) 2 := ⟨mw_34_2, mw_34_3, mw_1_19, mw_34_4, ⟨by decide, by decide, by decide⟩, by decide⟩
theorem qX5_move : cpCal yX5_move cX5_move 4 (none) 3 := ⟨mw_39_10, mw_39_11, mw_1_19, mw_39_12, ⟨by decide, by decide, by decide⟩, by decide⟩
theorem qX5_placesAsDigits : cpCal yX5_placesAsDigits cX5_placesAsDigits 3 ((some .int)) 0 := ⟨mw_43_21, mw_43_22, mw_1_19, mw_43_23, ⟨by decide, by decide, by decide⟩, by decide⟩
theorem qX5_quarrelsThereAre : cpCal yX5_quarrelsThereAre cX5_quarrelsThereAre 3 ((some .int)) 0 := ⟨mw_78_10, mw_78_11, mw_1_19, mw_78_12, ⟨by decide, by decide, by decide⟩, by decide⟩
theorem qX5_rimsTogether : cpCal yX5_rimsTogether cX5_rimsTogether 3 ((some .int)) 0 := ⟨mw_44_1, mw_44_2, mw_1_19, mw_44_3, ⟨by decide, by decide, by decide⟩, by decide⟩
theorem qX6_forget : cpCal yX6_forget cX6_forget 1 (none) 0 := ⟨mw_23_1, mw_23_2, mw_2_0, mw_23_3, ⟨by decide, by decide, by decide⟩, by decide⟩
theorem qX6_goBack : cpCal yX6_goBack cX6_goBack 3 (none) 2 := ⟨mw_42_0, mw_42_1, mw_2_0, mw_42_2, ⟨by decide, by decide, by decide⟩, by decide⟩
theorem qX6_keep : cpCal yX6_keep cX6_keep 2 (none) 1 := ⟨mw_39_0, mw_39_1, mw_2_0, mw_39_2, ⟨by decide, by decide, by decide⟩, by decide⟩
theorem qX7_advance : cpCal yX7_advance cX7_advance 1 (none) 0 := ⟨mw_11_3, mw_11_4, mw_2_4, mw_11_5, ⟨by decide, by decide, by decide⟩, by decide⟩
theorem qX7_append : cpCal yX7_append cX7_append 3 (none) 1 := ⟨mw_9_11, mw_9_12, mw_2_4, mw_9_13, ⟨by decide, by decide, by decide⟩, by decide⟩
theorem qX7_enter : cpCal yX7_enter cX7_enter 2 ((some .boolean)) 1 := ⟨mw_19_17, mw_19_18, mw_2_4, mw_19_19, ⟨by decide, by decide, by decide⟩, by decide⟩
theorem qX7_factNamed : cpCal yX7_factNamed cX7_factNamed 1 ((some .int)) 0 := ⟨mw_20_3, mw_20_4, mw_2_4, mw_20_5, ⟨by decide, by decide, by decide⟩, by decide⟩
theorem qX7_isSign : cpCal yX7_isSign cX7_isSign 2 ((some .boolean)) 1 := ⟨mw_17_7, mw_17_8, mw_2_4, mw_17_9, ⟨by decide, by decide, by decide⟩, by decide⟩
theorem qX7_isWord : cpCal yX7_isWord cX7_isWord 3 ((some .boolean)) 1 := ⟨mw_15_13, mw_15_14, mw_2_4, mw_15_15, ⟨by decide, by decide, by decide⟩, by decide⟩
theorem qX7_readAtom : cpCal yX7_readAtom cX7_readAtom 3 ((some .boolean)) 1 := ⟨mw_20_18, mw_20_19, mw_2_4, mw_19_15, ⟨by decide, by decide, by decide⟩, by decide⟩
theorem qX7_readBoth : cpCal yX7_readBoth cX7_readBoth 3 ((some .boolean)) 1 := ⟨mw_19_9, mw_19_10, mw_2_4, mw_20_6, ⟨by decide, by decide, by decide⟩, by decide⟩
theorem qX7_readChoice : cpCal yX7_readChoice cX7_readChoice 2 ((some .boolean)) 1 := ⟨mw_20_0, mw_20_1, mw_2_4, mw_20_10, ⟨by decide, by decide, by decide⟩, by decide⟩
theorem qX7_readCoin : cpCal yX7_readCoin cX7_readCoin 2 ((some .boolean)) 0 := ⟨mw_18_11, mw_18_12, mw_2_4, mw_18_13, ⟨by decide, by decide, by decide⟩, by decide⟩
theorem qX7_readComparison : cpCal yX7_readComparison cX7_readComparison 3 ((some .boolean)) 1 := ⟨mw_20_22, mw_20_23, mw_2_4, mw_20_11, ⟨by decide, by decide, by decide⟩, by decide⟩
theorem qX7_readHead : cpCal yX7_readHead cX7_readHead 1 ((some .boolean)) 0 := ⟨mw_15_2, mw_15_3, mw_2_4, mw_15_4, ⟨by decide, by decide, by decide⟩, by decide⟩
theorem qX7_readLine : cpCal yX7_readLine cX7_readLine 1 ((some .boolean)) 0 := ⟨mw_17_11, mw_17_12, mw_2_4, mw_17_13, ⟨by decide, by decide, by decide⟩, by decide⟩
theorem qX7_readMay : cpCal yX7_readMay cX7_readMay 2 ((some .boolean)) 0 := ⟨mw_18_19, mw_18_20, mw_2_4, mw_18_21, ⟨by decide, by decide, by decide⟩, by decide⟩
theorem qX7_readPerson : cpCal yX7_readPerson cX7_readPerson 2 ((some .boolean)) 0 := ⟨mw_17_23, mw_18_0, mw_2_4, mw_18_1, ⟨by decide, by decide, by decide⟩, by decide⟩
theorem qX7_readQuarrel : cpCal yX7_readQuarrel cX7_readQuarrel 2 ((some .boolean)) 0 := ⟨mw_18_6, mw_18_7, mw_2_4, mw_18_8, ⟨by decide, by decide, by decide⟩, by decide⟩
theorem qX7_readRoad : cpCal yX7_readRoad cX7_readRoad 2 ((some .boolean)) 0 := ⟨mw_17_15, mw_17_16, mw_2_4, mw_17_17, ⟨by decide, by decide, by decide⟩, by decide⟩
theorem qX7_readSum : cpCal yX7_readSum cX7_readSum 4 ((some .boolean)) 1 := ⟨mw_19_21, mw_19_22, mw_2_4, mw_20_12, ⟨by decide, by decide, by decide⟩, by decide⟩
theorem qX7_readTerm : cpCal yX7_readTerm cX7_readTerm 3 ((some .boolean)) 1 := ⟨mw_20_14, mw_20_15, mw_2_4, mw_20_16, ⟨by decide, by decide, by decide⟩, by decide⟩
theorem qX7_readText : cpCal yX7_readText cX7_readText 4 ((some .boolean)) 1 := ⟨mw_10_5, mw_10_6, mw_2_4, mw_10_7, ⟨by decide, by decide, by decide⟩, by decide⟩
theorem qX7_readTruth : cpCal yX7_readTruth cX7_readTruth 3 ((some .boolean)) 1 := ⟨mw_19_5, mw_19_6, mw_2_4, mw_19_7, ⟨by decide, by decide, by decide⟩, by decide⟩
theorem qX7_readUnit : cpCal yX7_readUnit cX7_readUnit 2 ((some .boolean)) 1 := ⟨mw_20_8, mw_20_9, mw_2_4, mw_20_20, ⟨by decide, by decide, by decide⟩, by decide⟩
theorem qX7_readWears : cpCal yX7_readWears cX7_readWears 2 ((some .boolean)) 0 := ⟨mw_21_5, mw_21_6, mw_2_4, mw_21_7, ⟨by decide, by decide, by decide⟩, by decide⟩
theorem qX7_refuse : cpCal yX7_refuse cX7_refuse 2 ((some .boolean)) 1 := ⟨mw_16_14, mw_16_15, mw_2_4, mw_16_16, ⟨by decide, by decide, by decide⟩, by decide⟩
theorem qX7_takeLineEnd : cpCal yX7_takeLineEnd cX7_takeLineEnd 1 ((some .boolean)) 0 := ⟨mw_16_22, mw_16_23, mw_2_4, mw_17_0, ⟨by decide, by decide, by decide⟩, by decide⟩
theorem qX7_takeNumber : cpCal yX7_takeNumber cX7_takeNumber 4 ((some .boolean)) 3 := ⟨mw_16_18, mw_16_19, mw_2_4, mw_16_20, ⟨by decide, by decide, by decide⟩, by decide⟩
theorem qX7_takeSign : cpCal yX7_takeSign cX7_takeSign 2 ((some .boolean)) 1 := ⟨mw_17_3, mw_17_4, mw_2_4, mw_17_5, ⟨by decide, by decide, by decide⟩, by decide⟩
theorem qX7_takeWord : cpCal yX7_takeWord cX7_takeWord 2 ((some .boolean)) 1 := ⟨mw_15_9, mw_15_10, mw_2_4, mw_15_11, ⟨by decide, by decide, by decide⟩, by decide⟩
theorem qX8_canHaveBeen : cpCal yX8_canHaveBeen cX8_canHaveBeen 6 ((some .boolean)) 3 := ⟨mw_67_20, mw_67_21, mw_2_20, mw_67_22, ⟨by decide, by decide, by decide⟩, by decide⟩
theorem qX8_firstFitting : cpCal yX8_firstFitting cX8_firstFitting 6 ((some .int)) 3 := ⟨mw_66_20, mw_66_21, mw_2_20, mw_66_22, ⟨by decide, by decide, by decide⟩, by decide⟩
theorem qX8_firstRowsDeed : cpCal yX8_firstRowsDeed cX8_firstRowsDeed 6 ((some .int)) 3 := ⟨mw_66_16, mw_66_17, mw_2_20, mw_66_18, ⟨by decide, by decide, by decide⟩, by decide⟩
theorem qX8_fits : cpCal yX8_fits cX8_fits 3 ((some .boolean)) 2 := ⟨mw_65_0, mw_65_1, mw_2_20, mw_65_2, ⟨by decide, by decide, by decide⟩, by decide⟩
theorem qX8_learn : cpCal yX8_learn cX8_learn 6 (none) 2 := ⟨mw_64_9, mw_64_10, mw_2_20, mw_64_11, ⟨by decide, by decide, by decide⟩, by decide⟩
theorem qX8_mostAlike : cpCal yX8_mostAlike cX8_mostAlike 9 ((some .int)) 4 := ⟨mw_69_22, mw_69_23, mw_2_20, mw_70_0, ⟨by decide, by decide, by decide⟩, by decide⟩
theorem qX8_peopleAt : cpCal yX8_peopleAt cX8_peopleAt 6 ((some .int)) 2 := ⟨mw_67_12, mw_67_13, mw_2_20, mw_67_14, ⟨by decide, by decide, by decide⟩, by decide⟩
theorem qX8_placesBehind : cpCal yX8_placesBehind cX8_placesBehind 7 ((some .int)) 2 := ⟨mw_67_16, mw_67_17, mw_2_20, mw_67_18, ⟨by decide, by decide, by decide⟩, by decide⟩
theorem qX8_rowsFrom : cpCal yX8_rowsFrom cX8_rowsFrom 3 ((some .long)) 2 := ⟨mw_65_5, mw_65_6, mw_2_20, mw_65_7, ⟨by decide, by decide, by decide⟩, by decide⟩
theorem qX8_rowsOnFrom : cpCal yX8_rowsOnFrom cX8_rowsOnFrom 7 ((some .long)) 2 := ⟨mw_64_19, mw_64_20, mw_2_20, mw_64_21, ⟨by decide, by decide, by decide⟩, by decide⟩
theorem qX8_tellingPair : cpCal yX8_tellingPair cX8_tellingPair 8 ((some .int)) 3 := ⟨mw_69_16, mw_69_17, mw_2_20, mw_69_18, ⟨by decide, by decide, by decide⟩, by decide⟩
theorem qX9_allBetween : cpCal yX9_allBetween cX9_allBetween 4 ((some .boolean)) 2 := ⟨mw_64_5, mw_64_6, mw_3_9, mw_64_7, ⟨by decide, by decide, by decide⟩, by decide⟩
theorem qX9_cut : cpCal yX9_cut cX9_cut 3 ((some .long)) 1 := ⟨mw_76_13, mw_76_14, mw_3_9, mw_76_15, ⟨by decide, by decide, by decide⟩, by decide⟩
theorem qX9_isMissing : cpCal yX9_isMissing cX9_isMissing 1 ((some .boolean)) 0 := ⟨mw_42_23, mw_43_0, mw_3_9, mw_43_1, ⟨by decide, by decide, by decide⟩, by decide⟩
theorem qX9_put : cpCal yX9_put cX9_put 4 ((some .long)) 2 := ⟨mw_76_9, mw_76_10, mw_3_9, mw_76_11, ⟨by decide, by decide, by decide⟩, by decide⟩
theorem qX9_renew : cpCal yX9_renew cX9_renew 3 (none) 2 := ⟨mw_75_18, mw_75_19, mw_3_9, mw_75_20, ⟨by decide, by decide, by decide⟩, by decide⟩
theorem qX9_rowCode : cpCal yX9_rowCode cX9_rowCode 1 ((some .int)) 0 := ⟨mw_63_23, mw_64_0, mw_3_9, mw_64_1, ⟨by decide, by decide, by decide⟩, by decide⟩
