def cpTm (i : Nat) : Term := match i with
  | 0 => .string "CoinPairs$Reader" 259
  | 1 => .string "CoinPairs$Reader" 60
  | 2 => .string "CoinPairs$Reader" 66
  | 3 => .string "CoinPairs$Reader" 77
  | 4 => .string "CoinPairs$Reader" 89
  | 5 => .string "CoinPairs$Reader" 136
  | 6 => .string "CoinPairs$Reader" 97
  | 7 => .string "CoinPairs$Reader" 144
  | 8 => .string "CoinPairs$Reader" 149
  | 9 => .string "CoinPairs$Reader" 102
  | 10 => .string "CoinPairs$Reader" 107
  | 11 => .string "CoinPairs$Reader" 163
  | 12 => .string "CoinPairs$Reader" 167
  | 13 => .string "CoinPairs$Reader" 112
  | 14 => .string "CoinPairs$Reader" 211
  | 15 => .string "CoinPairs$Reader" 228
  | 16 => .string "CoinPairs$Reader" 239
  | 17 => .string "CoinPairs$Reader" 241
  | 18 => .string "CoinPairs$Reader" 243
  | 19 => .string "CoinPairs$Reader" 244
  | 20 => .string "CoinPairs$Reader" 246
  | 21 => .string "CoinPairs$Reader" 209
  | 22 => .string "CoinPairs$Reader" 201
  | 23 => .string "CoinPairs$Reader" 117
  | _ => .string "CoinPairsModel" 98
abbrev cpGn : Cond := Jvm.Cond.and given_1 narrow_1
theorem cp25 {P : Nat → Prop} (h0 : P 0) (h1 : P 1) (h2 : P 2) (h3 : P 3) (h4 : P 4) (h5 : P 5) (h6 : P 6) (h7 : P 7) (h8 : P 8) (h9 : P 9) (h10 : P 10) (h11 : P 11) (h12 : P 12) (h13 : P 13) (h14 : P 14) (h15 : P 15) (h16 : P 16) (h17 : P 17) (h18 : P 18) (h19 : P 19) (h20 : P 20) (h21 : P 21) (h22 : P 22) (h23 : P 23) (h24 : P 24) : ∀ i, i < 25 → P i := by
  intro i hi
  match i, hi with
  | 0, _ => exact h0
  | 1, _ => exact h1
  | 2, _ => exact h2
  | 3, _ => exact h3
  | 4, _ => exact h4
  | 5, _ => exact h5
  | 6, _ => exact h6
  | 7, _ => exact h7
  | 8, _ => exact h8
  | 9, _ => exact h9
  | 10, _ => exact h10
  | 11, _ => exact h11
  | 12, _ => exact h12
  | 13, _ => exact h13
  | 14, _ => exact h14
  | 15, _ => exact h15
  | 16, _ => exact h16
  | 17, _ => exact h17
  | 18, _ => exact h18
  | 19, _ => exact h19
  | 20, _ => exact h20
  | 21, _ => exact h21
  | 22, _ => exact h22
  | 23, _ => exact h23
  | 24, _ => exact h24
  | j + 25, h => exact absurd h (by omega)
section CPB
variable {args : Array Value} {s : State}
theorem gA {a b : Cond} (h : (Jvm.Cond.and a b).before args s = true) : a.before args s = true := by
  rw [Cond.before_and, Bool.and_eq_true] at h; exact h.1
theorem gB {a b : Cond} (h : (Jvm.Cond.and a b).before args s = true) : b.before args s = true := by
  rw [Cond.before_and, Bool.and_eq_true] at h; exact h.2
set_option maxRecDepth 100000 in
theorem cs_ex (hgv : cpGn.before args s = true) : ∀ i, i < 25 → (Cond.exactly (cpTm i) "java/lang/String").before args s = true := cp25 (gA (gB (gA (gB (gB (gB (gB (gA (gA (gB hgv)))))))))) (gA (gA (gB (gB (gA (gA (gA (gB (gA (gB hgv)))))))))) (gB (gB (gB (gA (gB (gA (gA (gB (gA (gB hgv)))))))))) (gB (gB (gA (gA (gA (gB (gA (gB (gA (gB hgv)))))))))) (gA (gA (gB (gB (gA (gB (gA (gB (gA (gB hgv)))))))))) (gB (gA (gB (gA (gB (gB (gA (gB (gA (gB hgv)))))))))) (gB (gA (gB (gB (gB (gB (gA (gB (gA (gB hgv)))))))))) (gA (gA (gB (gA (gA (gB (gB (gA (gB hgv))))))))) (gB (gB (gB (gB (gA (gA (gB (gB (gA (gB hgv)))))))))) (gA (gB (gA (gB (gB (gA (gB (gB (gA (gB hgv)))))))))) (gA (gB (gB (gA (gA (gB (gB (gB (gA (gB hgv)))))))))) (gB (gB (gB (gB (gA (gB (gB (gB (gA (gB hgv)))))))))) (gA (gB (gA (gB (gB (gB (gB (gB (gA (gB hgv)))))))))) (gA (gA (gB (gA (gA (gA (gA (gA (gB (gB hgv)))))))))) (gA (gA (gB (gB (gA (gA (gA (gA (gB (gB hgv)))))))))) (gA (gA (gB (gA (gB (gA (gA (gA (gB (gB hgv)))))))))) (gB (gB (gA (gB (gB (gA (gA (gA (gB (gB hgv)))))))))) (gA (gA (gB (gA (gA (gB (gA (gA (gB (gB hgv)))))))))) (gB (gA (gB (gB (gA (gB (gA (gA (gB (gB hgv)))))))))) (gB (gA (gB (gA (gB (gB (gA (gA (gB (gB hgv)))))))))) (gA (gA (gB (gB (gB (gB (gA (gA (gB (gB hgv)))))))))) (gB (gB (gB (gA (gA (gA (gB (gA (gB (gB hgv)))))))))) (gB (gB (gB (gB (gA (gA (gB (gA (gB (gB hgv)))))))))) (gA (gB (gB (gA (gB (gA (gB (gA (gB (gB hgv)))))))))) (gB (gB (gB (gB (gB (gA (gB (gA (gB (gB hgv))))))))))
set_option maxRecDepth 100000 in
theorem cs_co (hgv : cpGn.before args s = true) : ∀ i, i < 25 → (Cond.eq (.field (cpTm i) "java/lang/String" "coder" "B") (.int 0)).before args s = true := cp25 (gB (gB (gA (gB (gB (gB (gB (gA (gA (gB hgv)))))))))) (gB (gA (gB (gB (gA (gA (gA (gB (gA (gB hgv)))))))))) (gA (gA (gB (gB (gA (gA (gB (gA (gB hgv))))))))) (gA (gA (gB (gA (gA (gB (gA (gB (gA (gB hgv)))))))))) (gB (gA (gB (gB (gA (gB (gA (gB (gA (gB hgv)))))))))) (gA (gB (gB (gA (gB (gB (gA (gB (gA (gB hgv)))))))))) (gA (gB (gB (gB (gB (gB (gA (gB (gA (gB hgv)))))))))) (gA (gB (gA (gB (gA (gA (gB (gB (gA (gB hgv)))))))))) (gA (gA (gA (gB (gA (gB (gB (gA (gB hgv))))))))) (gB (gB (gA (gB (gB (gA (gB (gB (gA (gB hgv)))))))))) (gB (gB (gB (gA (gA (gB (gB (gB (gA (gB hgv)))))))))) (gA (gA (gA (gB (gB (gB (gB (gA (gB hgv))))))))) (gB (gB (gA (gB (gB (gB (gB (gB (gA (gB hgv)))))))))) (gB (gA (gB (gA (gA (gA (gA (gA (gB (gB hgv)))))))))) (gB (gA (gB (gB (gA (gA (gA (gA (gB (gB hgv)))))))))) (gB (gA (gB (gA (gB (gA (gA (gA (gB (gB hgv)))))))))) (gA (gA (gB (gB (gB (gA (gA (gA (gB (gB hgv)))))))))) (gB (gA (gB (gA (gA (gB (gA (gA (gB (gB hgv)))))))))) (gA (gB (gB (gB (gA (gB (gA (gA (gB (gB hgv)))))))))) (gA (gB (gB (gA (gB (gB (gA (gA (gB (gB hgv)))))))))) (gB (gA (gB (gB (gB (gB (gA (gA (gB (gB hgv)))))))))) (gA (gA (gB (gA (gA (gB (gA (gB (gB hgv))))))))) (gA (gA (gA (gB (gA (gB (gA (gB (gB hgv))))))))) (gB (gB (gB (gA (gB (gA (gB (gA (gB (gB hgv)))))))))) (gA (gA (gA (gA (gB (gB (gA (gB (gB hgv)))))))))
set_option maxRecDepth 100000 in
theorem cs_ar (hgv : cpGn.before args s = true) : ∀ i, i < 25 → (Cond.arrayOf (.field (cpTm i) "java/lang/String" "value" "[B") .byte).before args s = true := cp25 (gA (gA (gB (gB (gB (gB (gB (gA (gA (gB hgv)))))))))) (gA (gB (gB (gB (gA (gA (gA (gB (gA (gB hgv)))))))))) (gA (gB (gA (gB (gB (gA (gA (gB (gA (gB hgv)))))))))) (gB (gA (gB (gA (gA (gB (gA (gB (gA (gB hgv)))))))))) (gA (gB (gB (gB (gA (gB (gA (gB (gA (gB hgv)))))))))) (gB (gB (gB (gA (gB (gB (gA (gB (gA (gB hgv)))))))))) (gB (gB (gB (gB (gB (gB (gA (gB (gA (gB hgv)))))))))) (gB (gB (gA (gB (gA (gA (gB (gB (gA (gB hgv)))))))))) (gA (gB (gA (gA (gB (gA (gB (gB (gA (gB hgv)))))))))) (gA (gA (gB (gB (gB (gA (gB (gB (gA (gB hgv)))))))))) (gA (gA (gB (gA (gB (gB (gB (gA (gB hgv))))))))) (gA (gB (gA (gA (gB (gB (gB (gB (gA (gB hgv)))))))))) (gA (gA (gB (gB (gB (gB (gB (gB (gA (gB hgv)))))))))) (gA (gB (gB (gA (gA (gA (gA (gA (gB (gB hgv)))))))))) (gA (gB (gB (gB (gA (gA (gA (gA (gB (gB hgv)))))))))) (gA (gB (gB (gA (gB (gA (gA (gA (gB (gB hgv)))))))))) (gB (gA (gB (gB (gB (gA (gA (gA (gB (gB hgv)))))))))) (gA (gB (gB (gA (gA (gB (gA (gA (gB (gB hgv)))))))))) (gB (gB (gB (gB (gA (gB (gA (gA (gB (gB hgv)))))))))) (gB (gB (gB (gA (gB (gB (gA (gA (gB (gB hgv)))))))))) (gA (gB (gB (gB (gB (gB (gA (gA (gB (gB hgv)))))))))) (gA (gB (gA (gB (gA (gA (gB (gA (gB (gB hgv)))))))))) (gA (gB (gA (gA (gB (gA (gB (gA (gB (gB hgv)))))))))) (gA (gA (gA (gB (gB (gA (gB (gA (gB (gB hgv)))))))))) (gA (gB (gA (gA (gA (gB (gB (gA (gB (gB hgv))))))))))
set_option maxRecDepth 100000 in
theorem cs_le (hgv : cpGn.before args s = true) : ∀ i, i < 25 → (Cond.eq (.length (.field (cpTm i) "java/lang/String" "value" "[B")) (.int (Int32.ofNat (cpLen.getD i 0)))).before args s = true := cp25 (gB (gA (gB (gB (gB (gB (gB (gA (gA (gB hgv)))))))))) (gB (gB (gB (gB (gA (gA (gA (gB (gA (gB hgv)))))))))) (gB (gB (gA (gB (gB (gA (gA (gB (gA (gB hgv)))))))))) (gA (gB (gB (gA (gA (gB (gA (gB (gA (gB hgv)))))))))) (gB (gB (gB (gB (gA (gB (gA (gB (gA (gB hgv)))))))))) (gA (gA (gA (gB (gB (gB (gA (gB (gA (gB hgv)))))))))) (gA (gA (gA (gA (gA (gB (gB (gA (gB hgv))))))))) (gA (gA (gB (gB (gA (gA (gB (gB (gA (gB hgv)))))))))) (gB (gB (gA (gA (gB (gA (gB (gB (gA (gB hgv)))))))))) (gB (gA (gB (gB (gB (gA (gB (gB (gA (gB hgv)))))))))) (gA (gB (gA (gB (gA (gB (gB (gB (gA (gB hgv)))))))))) (gB (gB (gA (gA (gB (gB (gB (gB (gA (gB hgv)))))))))) (gB (gA (gB (gB (gB (gB (gB (gB (gA (gB hgv)))))))))) (gB (gB (gB (gA (gA (gA (gA (gA (gB (gB hgv)))))))))) (gB (gB (gB (gB (gA (gA (gA (gA (gB (gB hgv)))))))))) (gB (gB (gB (gA (gB (gA (gA (gA (gB (gB hgv)))))))))) (gA (gB (gB (gB (gB (gA (gA (gA (gB (gB hgv)))))))))) (gB (gB (gB (gA (gA (gB (gA (gA (gB (gB hgv)))))))))) (gA (gA (gA (gB (gB (gA (gA (gB (gB hgv))))))))) (gA (gA (gA (gB (gB (gB (gA (gA (gB (gB hgv)))))))))) (gB (gB (gB (gB (gB (gB (gA (gA (gB (gB hgv)))))))))) (gB (gB (gA (gB (gA (gA (gB (gA (gB (gB hgv)))))))))) (gB (gB (gA (gA (gB (gA (gB (gA (gB (gB hgv)))))))))) (gB (gA (gA (gB (gB (gA (gB (gA (gB (gB hgv)))))))))) (gB (gB (gA (gA (gA (gB (gB (gA (gB (gB hgv))))))))))
set_option maxRecDepth 100000 in
theorem ce_0 (hgv : cpGn.before args s = true) : ∀ j, j < 12 → (Cond.eq (.elem (.field (cpTm 0) "java/lang/String" "value" "[B") (.int (Int32.ofNat j))) (.int ((cpByt.getD 0 []).getD j 0))).before args s = true := fun j hj => match j, hj with
  | 0, _ => (gA (gB (gB (gB (gB (gB (gB (gA (gA (gB hgv))))))))))
  | 1, _ => (gB (gB (gB (gB (gB (gB (gB (gA (gA (gB hgv))))))))))
  | 2, _ => (gA (gA (gA (gA (gA (gA (gB (gA (gB hgv)))))))))
  | 3, _ => (gA (gB (gA (gA (gA (gA (gA (gB (gA (gB hgv))))))))))
  | 4, _ => (gB (gB (gA (gA (gA (gA (gA (gB (gA (gB hgv))))))))))
  | 5, _ => (gA (gA (gB (gA (gA (gA (gA (gB (gA (gB hgv))))))))))
  | 6, _ => (gB (gA (gB (gA (gA (gA (gA (gB (gA (gB hgv))))))))))
  | 7, _ => (gA (gB (gB (gA (gA (gA (gA (gB (gA (gB hgv))))))))))
  | 8, _ => (gB (gB (gB (gA (gA (gA (gA (gB (gA (gB hgv))))))))))
  | 9, _ => (gA (gA (gB (gA (gA (gA (gB (gA (gB hgv)))))))))
  | 10, _ => (gA (gB (gA (gB (gA (gA (gA (gB (gA (gB hgv))))))))))
  | 11, _ => (gB (gB (gA (gB (gA (gA (gA (gB (gA (gB hgv))))))))))
  | j + 12, h => absurd h (by omega)
set_option maxRecDepth 100000 in
theorem ce_1 (hgv : cpGn.before args s = true) : ∀ j, j < 6 → (Cond.eq (.elem (.field (cpTm 1) "java/lang/String" "value" "[B") (.int (Int32.ofNat j))) (.int ((cpByt.getD 1 []).getD j 0))).before args s = true := fun j hj => match j, hj with
  | 0, _ => (gA (gA (gA (gB (gA (gA (gB (gA (gB hgv)))))))))
  | 1, _ => (gA (gB (gA (gA (gB (gA (gA (gB (gA (gB hgv))))))))))
  | 2, _ => (gB (gB (gA (gA (gB (gA (gA (gB (gA (gB hgv))))))))))
  | 3, _ => (gA (gA (gB (gA (gB (gA (gA (gB (gA (gB hgv))))))))))
  | 4, _ => (gB (gA (gB (gA (gB (gA (gA (gB (gA (gB hgv))))))))))
  | 5, _ => (gA (gB (gB (gA (gB (gA (gA (gB (gA (gB hgv))))))))))
  | j + 6, h => absurd h (by omega)
set_option maxRecDepth 100000 in
theorem ce_2 (hgv : cpGn.before args s = true) : ∀ j, j < 6 → (Cond.eq (.elem (.field (cpTm 2) "java/lang/String" "value" "[B") (.int (Int32.ofNat j))) (.int ((cpByt.getD 2 []).getD j 0))).before args s = true := fun j hj => match j, hj with
  | 0, _ => (gA (gA (gB (gB (gB (gA (gA (gB (gA (gB hgv))))))))))
  | 1, _ => (gB (gA (gB (gB (gB (gA (gA (gB (gA (gB hgv))))))))))
  | 2, _ => (gA (gB (gB (gB (gB (gA (gA (gB (gA (gB hgv))))))))))
  | 3, _ => (gB (gB (gB (gB (gB (gA (gA (gB (gA (gB hgv))))))))))
  | 4, _ => (gA (gA (gA (gA (gB (gA (gB (gA (gB hgv)))))))))
  | 5, _ => (gA (gB (gA (gA (gA (gB (gA (gB (gA (gB hgv))))))))))
  | j + 6, h => absurd h (by omega)
set_option maxRecDepth 100000 in
theorem ce_3 (hgv : cpGn.before args s = true) : ∀ j, j < 4 → (Cond.eq (.elem (.field (cpTm 3) "java/lang/String" "value" "[B") (.int (Int32.ofNat j))) (.int ((cpByt.getD 3 []).getD j 0))).before args s = true := fun j hj => match j, hj with
  | 0, _ => (gB (gB (gB (gA (gA (gB (gA (gB (gA (gB hgv))))))))))
  | 1, _ => (gA (gA (gB (gA (gB (gA (gB (gA (gB hgv)))))))))
  | 2, _ => (gA (gB (gA (gB (gA (gB (gA (gB (gA (gB hgv))))))))))
  | 3, _ => (gB (gB (gA (gB (gA (gB (gA (gB (gA (gB hgv))))))))))
  | j + 4, h => absurd h (by omega)
set_option maxRecDepth 100000 in
theorem ce_4 (hgv : cpGn.before args s = true) : ∀ j, j < 4 → (Cond.eq (.elem (.field (cpTm 4) "java/lang/String" "value" "[B") (.int (Int32.ofNat j))) (.int ((cpByt.getD 4 []).getD j 0))).before args s = true := fun j hj => match j, hj with
  | 0, _ => (gA (gA (gA (gB (gB (gA (gB (gA (gB hgv)))))))))
  | 1, _ => (gA (gB (gA (gA (gB (gB (gA (gB (gA (gB hgv))))))))))
  | 2, _ => (gB (gB (gA (gA (gB (gB (gA (gB (gA (gB hgv))))))))))
  | 3, _ => (gA (gA (gB (gA (gB (gB (gA (gB (gA (gB hgv))))))))))
  | j + 4, h => absurd h (by omega)
set_option maxRecDepth 100000 in
theorem ce_5 (hgv : cpGn.before args s = true) : ∀ j, j < 4 → (Cond.eq (.elem (.field (cpTm 5) "java/lang/String" "value" "[B") (.int (Int32.ofNat j))) (.int ((cpByt.getD 5 []).getD j 0))).before args s = true := fun j hj => match j, hj with
  | 0, _ => (gB (gA (gA (gB (gB (gB (gA (gB (gA (gB hgv))))))))))
  | 1, _ => (gA (gB (gA (gB (gB (gB (gA (gB (gA (gB hgv))))))))))
  | 2, _ => (gB (gB (gA (gB (gB (gB (gA (gB (gA (gB hgv))))))))))
  | 3, _ => (gA (gA (gB (gB (gB (gB (gA (gB (gA (gB hgv))))))))))
  | j + 4, h => absurd h (by omega)
set_option maxRecDepth 100000 in
theorem ce_6 (hgv : cpGn.before args s = true) : ∀ j, j < 6 → (Cond.eq (.elem (.field (cpTm 6) "java/lang/String" "value" "[B") (.int (Int32.ofNat j))) (.int ((cpByt.getD 6 []).getD j 0))).before args s = true := fun j hj => match j, hj with
  | 0, _ => (gA (gB (gA (gA (gA (gA (gB (gB (gA (gB hgv))))))))))
  | 1, _ => (gB (gB (gA (gA (gA (gA (gB (gB (gA (gB hgv))))))))))
  | 2, _ => (gA (gA (gB (gA (gA (gA (gB (gB (gA (gB hgv))))))))))
  | 3, _ => (gB (gA (gB (gA (gA (gA (gB (gB (gA (gB hgv))))))))))
  | 4, _ => (gA (gB (gB (gA (gA (gA (gB (gB (gA (gB hgv))))))))))
  | 5, _ => (gB (gB (gB (gA (gA (gA (gB (gB (gA (gB hgv))))))))))
  | j + 6, h => absurd h (by omega)
set_option maxRecDepth 100000 in
theorem ce_7 (hgv : cpGn.before args s = true) : ∀ j, j < 2 → (Cond.eq (.elem (.field (cpTm 7) "java/lang/String" "value" "[B") (.int (Int32.ofNat j))) (.int ((cpByt.getD 7 []).getD j 0))).before args s = true := fun j hj => match j, hj with
  | 0, _ => (gB (gA (gB (gB (gA (gA (gB (gB (gA (gB hgv))))))))))
  | 1, _ => (gA (gB (gB (gB (gA (gA (gB (gB (gA (gB hgv))))))))))
  | j + 2, h => absurd h (by omega)
set_option maxRecDepth 100000 in
theorem ce_8 (hgv : cpGn.before args s = true) : ∀ j, j < 6 → (Cond.eq (.elem (.field (cpTm 8) "java/lang/String" "value" "[B") (.int (Int32.ofNat j))) (.int ((cpByt.getD 8 []).getD j 0))).before args s = true := fun j hj => match j, hj with
  | 0, _ => (gA (gA (gB (gA (gB (gA (gB (gB (gA (gB hgv))))))))))
  | 1, _ => (gB (gA (gB (gA (gB (gA (gB (gB (gA (gB hgv))))))))))
  | 2, _ => (gA (gB (gB (gA (gB (gA (gB (gB (gA (gB hgv))))))))))
  | 3, _ => (gB (gB (gB (gA (gB (gA (gB (gB (gA (gB hgv))))))))))
  | 4, _ => (gA (gA (gA (gB (gB (gA (gB (gB (gA (gB hgv))))))))))
  | 5, _ => (gB (gA (gA (gB (gB (gA (gB (gB (gA (gB hgv))))))))))
  | j + 6, h => absurd h (by omega)
set_option maxRecDepth 100000 in
theorem ce_9 (hgv : cpGn.before args s = true) : ∀ j, j < 7 → (Cond.eq (.elem (.field (cpTm 9) "java/lang/String" "value" "[B") (.int (Int32.ofNat j))) (.int ((cpByt.getD 9 []).getD j 0))).before args s = true := fun j hj => match j, hj with
  | 0, _ => (gA (gB (gB (gB (gB (gA (gB (gB (gA (gB hgv))))))))))
  | 1, _ => (gB (gB (gB (gB (gB (gA (gB (gB (gA (gB hgv))))))))))
  | 2, _ => (gA (gA (gA (gA (gB (gB (gB (gA (gB hgv)))))))))
  | 3, _ => (gA (gB (gA (gA (gA (gB (gB (gB (gA (gB hgv))))))))))
  | 4, _ => (gB (gB (gA (gA (gA (gB (gB (gB (gA (gB hgv))))))))))
  | 5, _ => (gA (gA (gB (gA (gA (gB (gB (gB (gA (gB hgv))))))))))
  | 6, _ => (gB (gA (gB (gA (gA (gB (gB (gB (gA (gB hgv))))))))))
  | j + 7, h => absurd h (by omega)
set_option maxRecDepth 100000 in
theorem ce_10 (hgv : cpGn.before args s = true) : ∀ j, j < 4 → (Cond.eq (.elem (.field (cpTm 10) "java/lang/String" "value" "[B") (.int (Int32.ofNat j))) (.int ((cpByt.getD 10 []).getD j 0))).before args s = true := fun j hj => match j, hj with
  | 0, _ => (gB (gB (gA (gB (gA (gB (gB (gB (gA (gB hgv))))))))))
  | 1, _ => (gA (gA (gB (gB (gA (gB (gB (gB (gA (gB hgv))))))))))
  | 2, _ => (gB (gA (gB (gB (gA (gB (gB (gB (gA (gB hgv))))))))))
  | 3, _ => (gA (gB (gB (gB (gA (gB (gB (gB (gA (gB hgv))))))))))
  | j + 4, h => absurd h (by omega)
set_option maxRecDepth 100000 in
theorem ce_11 (hgv : cpGn.before args s = true) : ∀ j, j < 6 → (Cond.eq (.elem (.field (cpTm 11) "java/lang/String" "value" "[B") (.int (Int32.ofNat j))) (.int ((cpByt.getD 11 []).getD j 0))).before args s = true := fun j hj => match j, hj with
  | 0, _ => (gA (gA (gB (gA (gB (gB (gB (gB (gA (gB hgv))))))))))
  | 1, _ => (gB (gA (gB (gA (gB (gB (gB (gB (gA (gB hgv))))))))))
  | 2, _ => (gA (gB (gB (gA (gB (gB (gB (gB (gA (gB hgv))))))))))
  | 3, _ => (gB (gB (gB (gA (gB (gB (gB (gB (gA (gB hgv))))))))))
  | 4, _ => (gA (gA (gA (gB (gB (gB (gB (gB (gA (gB hgv))))))))))
  | 5, _ => (gB (gA (gA (gB (gB (gB (gB (gB (gA (gB hgv))))))))))
  | j + 6, h => absurd h (by omega)
set_option maxRecDepth 100000 in
theorem ce_12 (hgv : cpGn.before args s = true) : ∀ j, j < 5 → (Cond.eq (.elem (.field (cpTm 12) "java/lang/String" "value" "[B") (.int (Int32.ofNat j))) (.int ((cpByt.getD 12 []).getD j 0))).before args s = true := fun j hj => match j, hj with
  | 0, _ => (gA (gB (gB (gB (gB (gB (gB (gB (gA (gB hgv))))))))))
  | 1, _ => (gB (gB (gB (gB (gB (gB (gB (gB (gA (gB hgv))))))))))
  | 2, _ => (gA (gA (gA (gA (gA (gA (gA (gB (gB hgv)))))))))
  | 3, _ => (gA (gB (gA (gA (gA (gA (gA (gA (gB (gB hgv))))))))))
  | 4, _ => (gB (gB (gA (gA (gA (gA (gA (gA (gB (gB hgv))))))))))
  | j + 5, h => absurd h (by omega)
set_option maxRecDepth 100000 in
theorem ce_13 (hgv : cpGn.before args s = true) : ∀ j, j < 3 → (Cond.eq (.elem (.field (cpTm 13) "java/lang/String" "value" "[B") (.int (Int32.ofNat j))) (.int ((cpByt.getD 13 []).getD j 0))).before args s = true := fun j hj => match j, hj with
  | 0, _ => (gA (gA (gB (gA (gA (gA (gA (gB (gB hgv)))))))))
  | 1, _ => (gA (gB (gA (gB (gA (gA (gA (gA (gB (gB hgv))))))))))
  | 2, _ => (gB (gB (gA (gB (gA (gA (gA (gA (gB (gB hgv))))))))))
  | j + 3, h => absurd h (by omega)
set_option maxRecDepth 100000 in
theorem ce_14 (hgv : cpGn.before args s = true) : ∀ j, j < 3 → (Cond.eq (.elem (.field (cpTm 14) "java/lang/String" "value" "[B") (.int (Int32.ofNat j))) (.int ((cpByt.getD 14 []).getD j 0))).before args s = true := fun j hj => match j, hj with
  | 0, _ => (gA (gA (gA (gB (gA (gA (gA (gB (gB hgv)))))))))
  | 1, _ => (gA (gB (gA (gA (gB (gA (gA (gA (gB (gB hgv))))))))))
  | 2, _ => (gB (gB (gA (gA (gB (gA (gA (gA (gB (gB hgv))))))))))
  | j + 3, h => absurd h (by omega)
set_option maxRecDepth 100000 in
theorem ce_15 (hgv : cpGn.before args s = true) : ∀ j, j < 2 → (Cond.eq (.elem (.field (cpTm 15) "java/lang/String" "value" "[B") (.int (Int32.ofNat j))) (.int ((cpByt.getD 15 []).getD j 0))).before args s = true := fun j hj => match j, hj with
  | 0, _ => (gA (gA (gB (gB (gA (gA (gA (gB (gB hgv)))))))))
  | 1, _ => (gA (gB (gA (gB (gB (gA (gA (gA (gB (gB hgv))))))))))
  | j + 2, h => absurd h (by omega)
set_option maxRecDepth 100000 in
theorem ce_16 (hgv : cpGn.before args s = true) : ∀ j, j < 4 → (Cond.eq (.elem (.field (cpTm 16) "java/lang/String" "value" "[B") (.int (Int32.ofNat j))) (.int ((cpByt.getD 16 []).getD j 0))).before args s = true := fun j hj => match j, hj with
  | 0, _ => (gB (gB (gB (gB (gB (gA (gA (gA (gB (gB hgv))))))))))
  | 1, _ => (gA (gA (gA (gA (gB (gA (gA (gB (gB hgv)))))))))
  | 2, _ => (gA (gB (gA (gA (gA (gB (gA (gA (gB (gB hgv))))))))))
  | 3, _ => (gB (gB (gA (gA (gA (gB (gA (gA (gB (gB hgv))))))))))
  | j + 4, h => absurd h (by omega)
set_option maxRecDepth 100000 in
theorem ce_17 (hgv : cpGn.before args s = true) : ∀ j, j < 4 → (Cond.eq (.elem (.field (cpTm 17) "java/lang/String" "value" "[B") (.int (Int32.ofNat j))) (.int ((cpByt.getD 17 []).getD j 0))).before args s = true := fun j hj => match j, hj with
  | 0, _ => (gA (gA (gB (gA (gB (gA (gA (gB (gB hgv)))))))))
  | 1, _ => (gA (gB (gA (gB (gA (gB (gA (gA (gB (gB hgv))))))))))
  | 2, _ => (gB (gB (gA (gB (gA (gB (gA (gA (gB (gB hgv))))))))))
  | 3, _ => (gA (gA (gB (gB (gA (gB (gA (gA (gB (gB hgv))))))))))
  | j + 4, h => absurd h (by omega)
set_option maxRecDepth 100000 in
theorem ce_18 (hgv : cpGn.before args s = true) : ∀ j, j < 3 → (Cond.eq (.elem (.field (cpTm 18) "java/lang/String" "value" "[B") (.int (Int32.ofNat j))) (.int ((cpByt.getD 18 []).getD j 0))).before args s = true := fun j hj => match j, hj with
  | 0, _ => (gA (gB (gA (gA (gB (gB (gA (gA (gB (gB hgv))))))))))
  | 1, _ => (gB (gB (gA (gA (gB (gB (gA (gA (gB (gB hgv))))))))))
  | 2, _ => (gA (gA (gB (gA (gB (gB (gA (gA (gB (gB hgv))))))))))
  | j + 3, h => absurd h (by omega)
set_option maxRecDepth 100000 in
theorem ce_19 (hgv : cpGn.before args s = true) : ∀ j, j < 3 → (Cond.eq (.elem (.field (cpTm 19) "java/lang/String" "value" "[B") (.int (Int32.ofNat j))) (.int ((cpByt.getD 19 []).getD j 0))).before args s = true := fun j hj => match j, hj with
  | 0, _ => (gB (gA (gA (gB (gB (gB (gA (gA (gB (gB hgv))))))))))
  | 1, _ => (gA (gB (gA (gB (gB (gB (gA (gA (gB (gB hgv))))))))))
  | 2, _ => (gB (gB (gA (gB (gB (gB (gA (gA (gB (gB hgv))))))))))
  | j + 3, h => absurd h (by omega)
set_option maxRecDepth 100000 in
theorem ce_20 (hgv : cpGn.before args s = true) : ∀ j, j < 6 → (Cond.eq (.elem (.field (cpTm 20) "java/lang/String" "value" "[B") (.int (Int32.ofNat j))) (.int ((cpByt.getD 20 []).getD j 0))).before args s = true := fun j hj => match j, hj with
  | 0, _ => (gA (gA (gA (gA (gA (gB (gA (gB (gB hgv)))))))))
  | 1, _ => (gA (gB (gA (gA (gA (gA (gB (gA (gB (gB hgv))))))))))
  | 2, _ => (gB (gB (gA (gA (gA (gA (gB (gA (gB (gB hgv))))))))))
  | 3, _ => (gA (gA (gB (gA (gA (gA (gB (gA (gB (gB hgv))))))))))
  | 4, _ => (gB (gA (gB (gA (gA (gA (gB (gA (gB (gB hgv))))))))))
  | 5, _ => (gA (gB (gB (gA (gA (gA (gB (gA (gB (gB hgv))))))))))
  | j + 6, h => absurd h (by omega)
set_option maxRecDepth 100000 in
theorem ce_21 (hgv : cpGn.before args s = true) : ∀ j, j < 3 → (Cond.eq (.elem (.field (cpTm 21) "java/lang/String" "value" "[B") (.int (Int32.ofNat j))) (.int ((cpByt.getD 21 []).getD j 0))).before args s = true := fun j hj => match j, hj with
  | 0, _ => (gA (gA (gB (gB (gA (gA (gB (gA (gB (gB hgv))))))))))
  | 1, _ => (gB (gA (gB (gB (gA (gA (gB (gA (gB (gB hgv))))))))))
  | 2, _ => (gA (gB (gB (gB (gA (gA (gB (gA (gB (gB hgv))))))))))
  | j + 3, h => absurd h (by omega)
set_option maxRecDepth 100000 in
theorem ce_22 (hgv : cpGn.before args s = true) : ∀ j, j < 2 → (Cond.eq (.elem (.field (cpTm 22) "java/lang/String" "value" "[B") (.int (Int32.ofNat j))) (.int ((cpByt.getD 22 []).getD j 0))).before args s = true := fun j hj => match j, hj with
  | 0, _ => (gA (gA (gB (gA (gB (gA (gB (gA (gB (gB hgv))))))))))
  | 1, _ => (gB (gA (gB (gA (gB (gA (gB (gA (gB (gB hgv))))))))))
  | j + 2, h => absurd h (by omega)
set_option maxRecDepth 100000 in
theorem ce_23 (hgv : cpGn.before args s = true) : ∀ j, j < 5 → (Cond.eq (.elem (.field (cpTm 23) "java/lang/String" "value" "[B") (.int (Int32.ofNat j))) (.int ((cpByt.getD 23 []).getD j 0))).before args s = true := fun j hj => match j, hj with
  | 0, _ => (gA (gB (gA (gB (gB (gA (gB (gA (gB (gB hgv))))))))))
  | 1, _ => (gB (gB (gA (gB (gB (gA (gB (gA (gB (gB hgv))))))))))
  | 2, _ => (gA (gA (gB (gB (gB (gA (gB (gA (gB (gB hgv))))))))))
  | 3, _ => (gB (gA (gB (gB (gB (gA (gB (gA (gB (gB hgv))))))))))
  | 4, _ => (gA (gB (gB (gB (gB (gA (gB (gA (gB (gB hgv))))))))))
  | j + 5, h => absurd h (by omega)
set_option maxRecDepth 100000 in
theorem ce_24 (hgv : cpGn.before args s = true) : ∀ j, j < 122 → (Cond.eq (.elem (.field (cpTm 24) "java/lang/String" "value" "[B") (.int (Int32.ofNat j))) (.int ((cpByt.getD 24 []).getD j 0))).before args s = true := fun j hj => match j, hj with
  | 0, _ => (gA (gA (gB (gA (gA (gB (gB (gA (gB (gB hgv))))))))))
  | 1, _ => (gB (gA (gB (gA (gA (gB (gB (gA (gB (gB hgv))))))))))
  | 2, _ => (gA (gB (gB (gA (gA (gB (gB (gA (gB (gB hgv))))))))))
  | 3, _ => (gB (gB (gB (gA (gA (gB (gB (gA (gB (gB hgv))))))))))
  | 4, _ => (gA (gA (gB (gA (gB (gB (gA (gB (gB hgv)))))))))
  | 5, _ => (gA (gB (gA (gB (gA (gB (gB (gA (gB (gB hgv))))))))))
  | 6, _ => (gB (gB (gA (gB (gA (gB (gB (gA (gB (gB hgv))))))))))
  | 7, _ => (gA (gA (gB (gB (gA (gB (gB (gA (gB (gB hgv))))))))))
  | 8, _ => (gB (gA (gB (gB (gA (gB (gB (gA (gB (gB hgv))))))))))
  | 9, _ => (gA (gB (gB (gB (gA (gB (gB (gA (gB (gB hgv))))))))))
  | 10, _ => (gB (gB (gB (gB (gA (gB (gB (gA (gB (gB hgv))))))))))
  | 11, _ => (gA (gA (gA (gB (gB (gB (gA (gB (gB hgv)))))))))
  | 12, _ => (gA (gB (gA (gA (gB (gB (gB (gA (gB (gB hgv))))))))))
  | 13, _ => (gB (gB (gA (gA (gB (gB (gB (gA (gB (gB hgv))))))))))
  | 14, _ => (gA (gA (gB (gA (gB (gB (gB (gA (gB (gB hgv))))))))))
  | 15, _ => (gB (gA (gB (gA (gB (gB (gB (gA (gB (gB hgv))))))))))
  | 16, _ => (gA (gB (gB (gA (gB (gB (gB (gA (gB (gB hgv))))))))))
  | 17, _ => (gB (gB (gB (gA (gB (gB (gB (gA (gB (gB hgv))))))))))
  | 18, _ => (gA (gA (gA (gB (gB (gB (gB (gA (gB (gB hgv))))))))))
  | 19, _ => (gB (gA (gA (gB (gB (gB (gB (gA (gB (gB hgv))))))))))
  | 20, _ => (gA (gB (gA (gB (gB (gB (gB (gA (gB (gB hgv))))))))))
  | 21, _ => (gB (gB (gA (gB (gB (gB (gB (gA (gB (gB hgv))))))))))
  | 22, _ => (gA (gA (gB (gB (gB (gB (gB (gA (gB (gB hgv))))))))))
  | 23, _ => (gB (gA (gB (gB (gB (gB (gB (gA (gB (gB hgv))))))))))
  | 24, _ => (gA (gB (gB (gB (gB (gB (gB (gA (gB (gB hgv))))))))))
  | 25, _ => (gB (gB (gB (gB (gB (gB (gB (gA (gB (gB hgv))))))))))
  | 26, _ => (gA (gA (gA (gA (gA (gA (gB (gB (gB hgv)))))))))
  | 27, _ => (gA (gB (gA (gA (gA (gA (gA (gB (gB (gB hgv))))))))))
  | 28, _ => (gB (gB (gA (gA (gA (gA (gA (gB (gB (gB hgv))))))))))
  | 29, _ => (gA (gA (gB (gA (gA (gA (gA (gB (gB (gB hgv))))))))))
  | 30, _ => (gB (gA (gB (gA (gA (gA (gA (gB (gB (gB hgv))))))))))
  | 31, _ => (gA (gB (gB (gA (gA (gA (gA (gB (gB (gB hgv))))))))))
  | 32, _ => (gB (gB (gB (gA (gA (gA (gA (gB (gB (gB hgv))))))))))
  | 33, _ => (gA (gA (gB (gA (gA (gA (gB (gB (gB hgv)))))))))
  | 34, _ => (gA (gB (gA (gB (gA (gA (gA (gB (gB (gB hgv))))))))))
  | 35, _ => (gB (gB (gA (gB (gA (gA (gA (gB (gB (gB hgv))))))))))
  | 36, _ => (gA (gA (gB (gB (gA (gA (gA (gB (gB (gB hgv))))))))))
  | 37, _ => (gB (gA (gB (gB (gA (gA (gA (gB (gB (gB hgv))))))))))
  | 38, _ => (gA (gB (gB (gB (gA (gA (gA (gB (gB (gB hgv))))))))))
  | 39, _ => (gB (gB (gB (gB (gA (gA (gA (gB (gB (gB hgv))))))))))
  | 40, _ => (gA (gA (gA (gB (gA (gA (gB (gB (gB hgv)))))))))
  | 41, _ => (gA (gB (gA (gA (gB (gA (gA (gB (gB (gB hgv))))))))))
  | 42, _ => (gB (gB (gA (gA (gB (gA (gA (gB (gB (gB hgv))))))))))
  | 43, _ => (gA (gA (gB (gA (gB (gA (gA (gB (gB (gB hgv))))))))))
  | 44, _ => (gB (gA (gB (gA (gB (gA (gA (gB (gB (gB hgv))))))))))
  | 45, _ => (gA (gB (gB (gA (gB (gA (gA (gB (gB (gB hgv))))))))))
  | 46, _ => (gB (gB (gB (gA (gB (gA (gA (gB (gB (gB hgv))))))))))
  | 47, _ => (gA (gA (gB (gB (gA (gA (gB (gB (gB hgv)))))))))
  | 48, _ => (gA (gB (gA (gB (gB (gA (gA (gB (gB (gB hgv))))))))))
  | 49, _ => (gB (gB (gA (gB (gB (gA (gA (gB (gB (gB hgv))))))))))
  | 50, _ => (gA (gA (gB (gB (gB (gA (gA (gB (gB (gB hgv))))))))))
  | 51, _ => (gB (gA (gB (gB (gB (gA (gA (gB (gB (gB hgv))))))))))
  | 52, _ => (gA (gB (gB (gB (gB (gA (gA (gB (gB (gB hgv))))))))))
  | 53, _ => (gB (gB (gB (gB (gB (gA (gA (gB (gB (gB hgv))))))))))
  | 54, _ => (gA (gA (gA (gA (gB (gA (gB (gB (gB hgv)))))))))
  | 55, _ => (gA (gB (gA (gA (gA (gB (gA (gB (gB (gB hgv))))))))))
  | 56, _ => (gB (gB (gA (gA (gA (gB (gA (gB (gB (gB hgv))))))))))
  | 57, _ => (gA (gA (gB (gA (gA (gB (gA (gB (gB (gB hgv))))))))))
  | 58, _ => (gB (gA (gB (gA (gA (gB (gA (gB (gB (gB hgv))))))))))
  | 59, _ => (gA (gB (gB (gA (gA (gB (gA (gB (gB (gB hgv))))))))))
  | 60, _ => (gB (gB (gB (gA (gA (gB (gA (gB (gB (gB hgv))))))))))
  | 61, _ => (gA (gA (gB (gA (gB (gA (gB (gB (gB hgv)))))))))
  | 62, _ => (gA (gB (gA (gB (gA (gB (gA (gB (gB (gB hgv))))))))))
  | 63, _ => (gB (gB (gA (gB (gA (gB (gA (gB (gB (gB hgv))))))))))
  | 64, _ => (gA (gA (gB (gB (gA (gB (gA (gB (gB (gB hgv))))))))))
  | 65, _ => (gB (gA (gB (gB (gA (gB (gA (gB (gB (gB hgv))))))))))
  | 66, _ => (gA (gB (gB (gB (gA (gB (gA (gB (gB (gB hgv))))))))))
  | 67, _ => (gB (gB (gB (gB (gA (gB (gA (gB (gB (gB hgv))))))))))
  | 68, _ => (gA (gA (gA (gB (gB (gA (gB (gB (gB hgv)))))))))
  | 69, _ => (gA (gB (gA (gA (gB (gB (gA (gB (gB (gB hgv))))))))))
  | 70, _ => (gB (gB (gA (gA (gB (gB (gA (gB (gB (gB hgv))))))))))
  | 71, _ => (gA (gA (gB (gA (gB (gB (gA (gB (gB (gB hgv))))))))))
  | 72, _ => (gB (gA (gB (gA (gB (gB (gA (gB (gB (gB hgv))))))))))
  | 73, _ => (gA (gB (gB (gA (gB (gB (gA (gB (gB (gB hgv))))))))))
  | 74, _ => (gB (gB (gB (gA (gB (gB (gA (gB (gB (gB hgv))))))))))
  | 75, _ => (gA (gA (gA (gB (gB (gB (gA (gB (gB (gB hgv))))))))))
  | 76, _ => (gB (gA (gA (gB (gB (gB (gA (gB (gB (gB hgv))))))))))
  | 77, _ => (gA (gB (gA (gB (gB (gB (gA (gB (gB (gB hgv))))))))))
  | 78, _ => (gB (gB (gA (gB (gB (gB (gA (gB (gB (gB hgv))))))))))
  | 79, _ => (gA (gA (gB (gB (gB (gB (gA (gB (gB (gB hgv))))))))))
  | 80, _ => (gB (gA (gB (gB (gB (gB (gA (gB (gB (gB hgv))))))))))
  | 81, _ => (gA (gB (gB (gB (gB (gB (gA (gB (gB (gB hgv))))))))))
  | 82, _ => (gB (gB (gB (gB (gB (gB (gA (gB (gB (gB hgv))))))))))
  | 83, _ => (gA (gA (gA (gA (gA (gB (gB (gB (gB hgv)))))))))
  | 84, _ => (gA (gB (gA (gA (gA (gA (gB (gB (gB (gB hgv))))))))))
  | 85, _ => (gB (gB (gA (gA (gA (gA (gB (gB (gB (gB hgv))))))))))
  | 86, _ => (gA (gA (gB (gA (gA (gA (gB (gB (gB (gB hgv))))))))))
  | 87, _ => (gB (gA (gB (gA (gA (gA (gB (gB (gB (gB hgv))))))))))
  | 88, _ => (gA (gB (gB (gA (gA (gA (gB (gB (gB (gB hgv))))))))))
  | 89, _ => (gB (gB (gB (gA (gA (gA (gB (gB (gB (gB hgv))))))))))
  | 90, _ => (gA (gA (gB (gA (gA (gB (gB (gB (gB hgv)))))))))
  | 91, _ => (gA (gB (gA (gB (gA (gA (gB (gB (gB (gB hgv))))))))))
  | 92, _ => (gB (gB (gA (gB (gA (gA (gB (gB (gB (gB hgv))))))))))
  | 93, _ => (gA (gA (gB (gB (gA (gA (gB (gB (gB (gB hgv))))))))))
  | 94, _ => (gB (gA (gB (gB (gA (gA (gB (gB (gB (gB hgv))))))))))
  | 95, _ => (gA (gB (gB (gB (gA (gA (gB (gB (gB (gB hgv))))))))))
  | 96, _ => (gB (gB (gB (gB (gA (gA (gB (gB (gB (gB hgv))))))))))
  | 97, _ => (gA (gA (gA (gB (gA (gB (gB (gB (gB hgv)))))))))
  | 98, _ => (gA (gB (gA (gA (gB (gA (gB (gB (gB (gB hgv))))))))))
  | 99, _ => (gB (gB (gA (gA (gB (gA (gB (gB (gB (gB hgv))))))))))
  | 100, _ => (gA (gA (gB (gA (gB (gA (gB (gB (gB (gB hgv))))))))))
  | 101, _ => (gB (gA (gB (gA (gB (gA (gB (gB (gB (gB hgv))))))))))
  | 102, _ => (gA (gB (gB (gA (gB (gA (gB (gB (gB (gB hgv))))))))))
  | 103, _ => (gB (gB (gB (gA (gB (gA (gB (gB (gB (gB hgv))))))))))
  | 104, _ => (gA (gA (gA (gB (gB (gA (gB (gB (gB (gB hgv))))))))))
  | 105, _ => (gB (gA (gA (gB (gB (gA (gB (gB (gB (gB hgv))))))))))
  | 106, _ => (gA (gB (gA (gB (gB (gA (gB (gB (gB (gB hgv))))))))))
  | 107, _ => (gB (gB (gA (gB (gB (gA (gB (gB (gB (gB hgv))))))))))
  | 108, _ => (gA (gA (gB (gB (gB (gA (gB (gB (gB (gB hgv))))))))))
  | 109, _ => (gB (gA (gB (gB (gB (gA (gB (gB (gB (gB hgv))))))))))
  | 110, _ => (gA (gB (gB (gB (gB (gA (gB (gB (gB (gB hgv))))))))))
  | 111, _ => (gB (gB (gB (gB (gB (gA (gB (gB (gB (gB hgv))))))))))
  | 112, _ => (gA (gA (gA (gA (gB (gB (gB (gB (gB hgv)))))))))
  | 113, _ => (gA (gB (gA (gA (gA (gB (gB (gB (gB (gB hgv))))))))))
  | 114, _ => (gB (gB (gA (gA (gA (gB (gB (gB (gB (gB hgv))))))))))
  | 115, _ => (gA (gA (gB (gA (gA (gB (gB (gB (gB (gB hgv))))))))))
  | 116, _ => (gB (gA (gB (gA (gA (gB (gB (gB (gB (gB hgv))))))))))
  | 117, _ => (gA (gB (gB (gA (gA (gB (gB (gB (gB (gB hgv))))))))))
  | 118, _ => (gB (gB (gB (gA (gA (gB (gB (gB (gB (gB hgv))))))))))
  | 119, _ => (gA (gA (gB (gA (gB (gB (gB (gB (gB hgv)))))))))
  | 120, _ => (gA (gB (gA (gB (gA (gB (gB (gB (gB (gB hgv))))))))))
  | 121, _ => (gB (gB (gA (gB (gA (gB (gB (gB (gB (gB hgv))))))))))
  | j + 122, h => absurd h (by omega)
theorem cs_el (hgv : cpGn.before args s = true) : ∀ i, i < 25 → ∀ j, j < cpLen.getD i 0 → (Cond.eq (.elem (.field (cpTm i) "java/lang/String" "value" "[B") (.int (Int32.ofNat j))) (.int ((cpByt.getD i []).getD j 0))).before args s = true := cp25 (ce_0 hgv) (ce_1 hgv) (ce_2 hgv) (ce_3 hgv) (ce_4 hgv) (ce_5 hgv) (ce_6 hgv) (ce_7 hgv) (ce_8 hgv) (ce_9 hgv) (ce_10 hgv) (ce_11 hgv) (ce_12 hgv) (ce_13 hgv) (ce_14 hgv) (ce_15 hgv) (ce_16 hgv) (ce_17 hgv) (ce_18 hgv) (ce_19 hgv) (ce_20 hgv) (ce_21 hgv) (ce_22 hgv) (ce_23 hgv) (ce_24 hgv)
set_option maxRecDepth 100000 in
theorem cs_df : ∀ i, i < 25 → ∀ j, j < 25 → (cpLen.getD i 0 = cpLen.getD j 0 ∧ ∀ k, k < cpLen.getD i 0 → (cpByt.getD i []).getD k 0 = (cpByt.getD j []).getD k 0) → i = j := by decide +kernel
set_option maxRecDepth 100000 in
theorem cs_sm : ∀ i, i < 25 → cpLen.getD i 0 < 2 ^ 31 := by decide +kernel
theorem cs_S {A : Nat → Prop} (hgv : cpGn.before args s = true) (hA : ∀ a : Nat, a < s.heap.size → ¬ A a) : ∃ adK adV : Nat → Nat, vk_S 25 cpLen cpByt adK adV A s s.heap ∧ ∀ i : Nat, i < 25 → (cpTm i).eval args s none [] s = some (.ref (adK i)) := by
  have h0 : ∀ i : Nat, ∃ q : Nat × Nat, i < 25 → (cpTm i).eval args s none [] s = some (.ref q.1) ∧ va_O "java/lang/String" q.1 A s s.heap ∧ va_OF "java/lang/String" "coder" "B" (.int 0) q.1 A s s.heap ∧ va_OF "java/lang/String" "value" "[B" (.ref q.2) q.1 A s s.heap ∧ va_T .byte q.2 (cpLen.getD i 0) (fun j => .int ((cpByt.getD i []).getD j 0)) A s s.heap := by
    intro i
    by_cases hi : i < 25
    · obtain ⟨a, c, cA, kA, q1, q2, q3, q4, q5, q6, -⟩ := Cond.exactly_spec (args := args) (first := s) (o := none) (s := s) (idx := []) (t := cpTm i) (cls := "java/lang/String") (cs_ex hgv i hi)
      obtain ⟨t, ht, hT⟩ := va_Tof (f := fun j => .int ((cpByt.getD i []).getD j 0)) (A := A) (cs_sm i hi) (cs_ar hgv i hi) (va_eqt (cs_le hgv i hi)) (fun j hj => va_eqt (cs_el hgv i hi j hj)) hA
      exact ⟨(a, t), fun _ => ⟨q1, ⟨cA, q3, q5, by rw [q6]; exact q2, hA a (Array.getElem?_eq_some_iff.mp q3).1⟩, vk_OFof q1 (va_eqt (cs_co hgv i hi)) hA, vk_OFof q1 ht hA, hT⟩⟩
    · exact ⟨(0, 0), fun h => absurd h hi⟩
  obtain ⟨ad, had⟩ := Classical.axiomOfChoice h0
  refine ⟨fun i => (ad i).1, fun i => (ad i).2, ⟨fun i hi => (had i hi).2, fun i j hi hj e => ?_⟩, fun i hi => (had i hi).1⟩
  have hev : (cpTm i).eval args s none [] s = (cpTm j).eval args s none [] s := by
    have e' : (ad i).1 = (ad j).1 := e
    rw [(had i hi).1, (had j hj).1, e']
  have hfe : ∀ (t u : Term), t.eval args s none [] s = u.eval args s none [] s → (Term.length (.field t "java/lang/String" "value" "[B")).eval args s none [] s = (Term.length (.field u "java/lang/String" "value" "[B")).eval args s none [] s := fun t u h => by simp only [Term.eval, h]
  have hge : ∀ (t u : Term) (k : Term), t.eval args s none [] s = u.eval args s none [] s → (Term.elem (.field t "java/lang/String" "value" "[B") k).eval args s none [] s = (Term.elem (.field u "java/lang/String" "value" "[B") k).eval args s none [] s := fun t u k h => by simp only [Term.eval, h]
  have hl : cpLen.getD i 0 = cpLen.getD j 0 := by
    have h1 := va_eqt (cs_le hgv i hi)
    have h2 := va_eqt (cs_le hgv j hj)
    rw [hfe _ _ hev, h2] at h1
    have h3 := Value.int.inj (Option.some.inj h1)
    exact ((nI_eq (cs_sm j hj) (cs_sm i hi)).mp h3).symm
  refine cs_df i hi j hj ⟨hl, fun k hk => ?_⟩
  have h1 := va_eqt (cs_el hgv i hi k hk)
  have h2 := va_eqt (cs_el hgv j hj k (by rw [← hl]; exact hk))
  rw [hge _ _ _ hev, h2] at h1
  exact (Value.int.inj (Option.some.inj h1)).symm
set_option maxRecDepth 100000 in
theorem ct_lb (hgv : cpGn.before args s = true) : ∀ j, j < 28 → (Cond.eq (.elem (.static "CoinPairs" "LESSER_ONE" "[I") (.int (Int32.ofNat j))) (.int (cpLs j))).before args s = true := fun j hj => match j, hj with
  | 0, _ => (gA (gA (gB (gB (gA (gA (gA (gA (gA (gB hgv))))))))))
  | 1, _ => (gB (gA (gB (gB (gA (gA (gA (gA (gA (gB hgv))))))))))
  | 2, _ => (gA (gB (gB (gB (gA (gA (gA (gA (gA (gB hgv))))))))))
  | 3, _ => (gB (gB (gB (gB (gA (gA (gA (gA (gA (gB hgv))))))))))
  | 4, _ => (gA (gA (gA (gB (gA (gA (gA (gA (gB hgv)))))))))
  | 5, _ => (gA (gB (gA (gA (gB (gA (gA (gA (gA (gB hgv))))))))))
  | 6, _ => (gB (gB (gA (gA (gB (gA (gA (gA (gA (gB hgv))))))))))
  | 7, _ => (gA (gA (gB (gA (gB (gA (gA (gA (gA (gB hgv))))))))))
  | 8, _ => (gB (gA (gB (gA (gB (gA (gA (gA (gA (gB hgv))))))))))
  | 9, _ => (gA (gB (gB (gA (gB (gA (gA (gA (gA (gB hgv))))))))))
  | 10, _ => (gB (gB (gB (gA (gB (gA (gA (gA (gA (gB hgv))))))))))
  | 11, _ => (gA (gA (gB (gB (gA (gA (gA (gA (gB hgv)))))))))
  | 12, _ => (gA (gB (gA (gB (gB (gA (gA (gA (gA (gB hgv))))))))))
  | 13, _ => (gB (gB (gA (gB (gB (gA (gA (gA (gA (gB hgv))))))))))
  | 14, _ => (gA (gA (gB (gB (gB (gA (gA (gA (gA (gB hgv))))))))))
  | 15, _ => (gB (gA (gB (gB (gB (gA (gA (gA (gA (gB hgv))))))))))
  | 16, _ => (gA (gB (gB (gB (gB (gA (gA (gA (gA (gB hgv))))))))))
  | 17, _ => (gB (gB (gB (gB (gB (gA (gA (gA (gA (gB hgv))))))))))
  | 18, _ => (gA (gA (gA (gA (gB (gA (gA (gA (gB hgv)))))))))
  | 19, _ => (gA (gB (gA (gA (gA (gB (gA (gA (gA (gB hgv))))))))))
  | 20, _ => (gB (gB (gA (gA (gA (gB (gA (gA (gA (gB hgv))))))))))
  | 21, _ => (gA (gA (gB (gA (gA (gB (gA (gA (gA (gB hgv))))))))))
  | 22, _ => (gB (gA (gB (gA (gA (gB (gA (gA (gA (gB hgv))))))))))
  | 23, _ => (gA (gB (gB (gA (gA (gB (gA (gA (gA (gB hgv))))))))))
  | 24, _ => (gB (gB (gB (gA (gA (gB (gA (gA (gA (gB hgv))))))))))
  | 25, _ => (gA (gA (gB (gA (gB (gA (gA (gA (gB hgv)))))))))
  | 26, _ => (gA (gB (gA (gB (gA (gB (gA (gA (gA (gB hgv))))))))))
  | 27, _ => (gB (gB (gA (gB (gA (gB (gA (gA (gA (gB hgv))))))))))
  | j + 28, h => absurd h (by omega)
theorem ct_l {A : Nat → Prop} (hgv : cpGn.before args s = true) (hA : ∀ a : Nat, a < s.heap.size → ¬ A a) : ∃ t : Nat, (Term.static "CoinPairs" "LESSER_ONE" "[I").eval args s none [] s = some (.ref t) ∧ va_T .int t 28 (fun j => .int (cpLs j)) A s s.heap :=
  va_Tof (by decide) (gA (gB (gA (gB (gA (gA (gA (gA (gA (gB hgv)))))))))) (va_eqt (z := 28) (gB (gB (gA (gB (gA (gA (gA (gA (gA (gB hgv))))))))))) (fun j hj => va_eqt (ct_lb hgv j hj)) hA
set_option maxRecDepth 100000 in
theorem ct_ob (hgv : cpGn.before args s = true) : ∀ j, j < 28 → (Cond.eq (.elem (.static "CoinPairs" "OTHER_ONE" "[I") (.int (Int32.ofNat j))) (.int (cpOs j))).before args s = true := fun j hj => match j, hj with
  | 0, _ => (gB (gB (gB (gB (gA (gB (gA (gA (gA (gB hgv))))))))))
  | 1, _ => (gA (gA (gA (gB (gB (gA (gA (gA (gB hgv)))))))))
  | 2, _ => (gA (gB (gA (gA (gB (gB (gA (gA (gA (gB hgv))))))))))
  | 3, _ => (gB (gB (gA (gA (gB (gB (gA (gA (gA (gB hgv))))))))))
  | 4, _ => (gA (gA (gB (gA (gB (gB (gA (gA (gA (gB hgv))))))))))
  | 5, _ => (gB (gA (gB (gA (gB (gB (gA (gA (gA (gB hgv))))))))))
  | 6, _ => (gA (gB (gB (gA (gB (gB (gA (gA (gA (gB hgv))))))))))
  | 7, _ => (gB (gB (gB (gA (gB (gB (gA (gA (gA (gB hgv))))))))))
  | 8, _ => (gA (gA (gA (gB (gB (gB (gA (gA (gA (gB hgv))))))))))
  | 9, _ => (gB (gA (gA (gB (gB (gB (gA (gA (gA (gB hgv))))))))))
  | 10, _ => (gA (gB (gA (gB (gB (gB (gA (gA (gA (gB hgv))))))))))
  | 11, _ => (gB (gB (gA (gB (gB (gB (gA (gA (gA (gB hgv))))))))))
  | 12, _ => (gA (gA (gB (gB (gB (gB (gA (gA (gA (gB hgv))))))))))
  | 13, _ => (gB (gA (gB (gB (gB (gB (gA (gA (gA (gB hgv))))))))))
  | 14, _ => (gA (gB (gB (gB (gB (gB (gA (gA (gA (gB hgv))))))))))
  | 15, _ => (gB (gB (gB (gB (gB (gB (gA (gA (gA (gB hgv))))))))))
  | 16, _ => (gA (gA (gA (gA (gA (gB (gA (gA (gB hgv)))))))))
  | 17, _ => (gA (gB (gA (gA (gA (gA (gB (gA (gA (gB hgv))))))))))
  | 18, _ => (gB (gB (gA (gA (gA (gA (gB (gA (gA (gB hgv))))))))))
  | 19, _ => (gA (gA (gB (gA (gA (gA (gB (gA (gA (gB hgv))))))))))
  | 20, _ => (gB (gA (gB (gA (gA (gA (gB (gA (gA (gB hgv))))))))))
  | 21, _ => (gA (gB (gB (gA (gA (gA (gB (gA (gA (gB hgv))))))))))
  | 22, _ => (gB (gB (gB (gA (gA (gA (gB (gA (gA (gB hgv))))))))))
  | 23, _ => (gA (gA (gB (gA (gA (gB (gA (gA (gB hgv)))))))))
  | 24, _ => (gA (gB (gA (gB (gA (gA (gB (gA (gA (gB hgv))))))))))
  | 25, _ => (gB (gB (gA (gB (gA (gA (gB (gA (gA (gB hgv))))))))))
  | 26, _ => (gA (gA (gB (gB (gA (gA (gB (gA (gA (gB hgv))))))))))
  | 27, _ => (gB (gA (gB (gB (gA (gA (gB (gA (gA (gB hgv))))))))))
  | j + 28, h => absurd h (by omega)
theorem ct_o {A : Nat → Prop} (hgv : cpGn.before args s = true) (hA : ∀ a : Nat, a < s.heap.size → ¬ A a) : ∃ t : Nat, (Term.static "CoinPairs" "OTHER_ONE" "[I").eval args s none [] s = some (.ref t) ∧ va_T .int t 28 (fun j => .int (cpOs j)) A s s.heap :=
  va_Tof (by decide) (gB (gA (gB (gB (gA (gB (gA (gA (gA (gB hgv)))))))))) (va_eqt (z := 28) (gA (gB (gB (gB (gA (gB (gA (gA (gA (gB hgv))))))))))) (fun j hj => va_eqt (ct_ob hgv j hj)) hA
end CPB
