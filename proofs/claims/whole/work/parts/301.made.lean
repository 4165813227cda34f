set_option maxRecDepth 100000 in
set_option maxHeartbeats 8000000 in
theorem mk_X3_clear (l : Launch) (w : cpW) (h0 h1 h2 : Nat) : cgM l yX3_clear cX3_clear 1 1 0 0 w [.ref h0] ([(h0, .inr (3, [.ref h1, .int 0, .int 0, .int 0, .int 0, .int 0, .ref h2])), (h1, .inl (w.2.2.1 1, 900, .inl (fun _ => 0))), (h2, .inl (w.2.2.1 1, 102, .inl (fun _ => 0)))] : va_W) (fun u => u = (fun j => ([h0, h1, h2] : List Nat).getD j 0)) (fun u => bX3 w u) := by
  refine cgM.of (lv := [some (.ref h0)]) (by decide) (Nat.le_of_ble_eq_true rfl) rfl (fun p e s m args below meth c A C hr hin => ?_)
  replace C : cgCx p s m args meth c w A cX3_clear RX3 1 := C
  refine cg_aload_n C (i := 0) dX3_clear_0 rfl rfl ?_
  refine cg_get C (k := 0) (j := 0) rfl rfl gfX3_9 dX3_clear_1 ?_
  refine cg_iconst C (v := (0 : Int32)) dX3_clear_4 rfl ?_
  refine cg_sipush C (v := (1000 : Int32)) dX3_clear_5 rfl ?_
  refine cg_iastore C (ws' := ([(h0, .inr (3, [.ref h1, .int 0, .int 0, .int 0, .int 0, .int 0, .ref h2])), (h1, .inl (w.2.2.1 1, 900, .inl (upd (fun _ => 0) 0 (1000 : Int32)))), (h2, .inl (w.2.2.1 1, 102, .inl (fun _ => 0)))] : va_W)) (k := 1) (j := 0) rfl (by decide) (by decide) dX3_clear_8 rfl ?_
  refine cg_aload_n C (i := 0) dX3_clear_9 rfl rfl ?_
  refine cg_get C (k := 0) (j := 0) rfl rfl gfX3_9 dX3_clear_10 ?_
  refine cg_iconst C (v := (1 : Int32)) dX3_clear_13 rfl ?_
  refine cg_sipush C (v := (1001 : Int32)) dX3_clear_14 rfl ?_
  refine cg_iastore C (ws' := ([(h0, .inr (3, [.ref h1, .int 0, .int 0, .int 0, .int 0, .int 0, .ref h2])), (h1, .inl (w.2.2.1 1, 900, .inl (upd (upd (fun _ => 0) 0 (1000 : Int32)) 1 (1001 : Int32)))), (h2, .inl (w.2.2.1 1, 102, .inl (fun _ => 0)))] : va_W)) (k := 1) (j := 1) rfl (by decide) (by decide) dX3_clear_17 rfl ?_
  refine cg_aload_n C (i := 0) dX3_clear_18 rfl rfl ?_
  refine cg_get C (k := 0) (j := 0) rfl rfl gfX3_9 dX3_clear_19 ?_
  refine cg_iconst C (v := (2 : Int32)) dX3_clear_22 rfl ?_
  refine cg_sipush C (v := (2004 : Int32)) dX3_clear_23 rfl ?_
  refine cg_iastore C (ws' := ([(h0, .inr (3, [.ref h1, .int 0, .int 0, .int 0, .int 0, .int 0, .ref h2])), (h1, .inl (w.2.2.1 1, 900, .inl (upd (upd (upd (fun _ => 0) 0 (1000 : Int32)) 1 (1001 : Int32)) 2 (2004 : Int32)))), (h2, .inl (w.2.2.1 1, 102, .inl (fun _ => 0)))] : va_W)) (k := 1) (j := 2) rfl (by decide) (by decide) dX3_clear_26 rfl ?_
  refine cg_aload_n C (i := 0) dX3_clear_27 rfl rfl ?_
  refine cg_get C (k := 0) (j := 0) rfl rfl gfX3_9 dX3_clear_28 ?_
  refine cg_iconst C (v := (3 : Int32)) dX3_clear_31 rfl ?_
  refine cg_sipush C (v := (2008 : Int32)) dX3_clear_32 rfl ?_
  refine cg_iastore C (ws' := ([(h0, .inr (3, [.ref h1, .int 0, .int 0, .int 0, .int 0, .int 0, .ref h2])), (h1, .inl (w.2.2.1 1, 900, .inl (upd (upd (upd (upd (fun _ => 0) 0 (1000 : Int32)) 1 (1001 : Int32)) 2 (2004 : Int32)) 3 (2008 : Int32)))), (h2, .inl (w.2.2.1 1, 102, .inl (fun _ => 0)))] : va_W)) (k := 1) (j := 3) rfl (by decide) (by decide) dX3_clear_35 rfl ?_
  refine cg_aload_n C (i := 0) dX3_clear_36 rfl rfl ?_
  refine cg_get C (k := 0) (j := 0) rfl rfl gfX3_9 dX3_clear_37 ?_
  refine cg_iconst C (v := (4 : Int32)) dX3_clear_40 rfl ?_
  refine cg_sipush C (v := (1003 : Int32)) dX3_clear_41 rfl ?_
  refine cg_iastore C (ws' := ([(h0, .inr (3, [.ref h1, .int 0, .int 0, .int 0, .int 0, .int 0, .ref h2])), (h1, .inl (w.2.2.1 1, 900, .inl (upd (upd (upd (upd (upd (fun _ => 0) 0 (1000 : Int32)) 1 (1001 : Int32)) 2 (2004 : Int32)) 3 (2008 : Int32)) 4 (1003 : Int32)))), (h2, .inl (w.2.2.1 1, 102, .inl (fun _ => 0)))] : va_W)) (k := 1) (j := 4) rfl (by decide) (by decide) dX3_clear_44 rfl ?_
  refine cg_aload_n C (i := 0) dX3_clear_45 rfl rfl ?_
  refine cg_iconst C (v := (0 : Int32)) dX3_clear_46 rfl ?_
  refine cg_put C (ws' := ([(h0, .inr (3, [.ref h1, .int 0, .int (0 : Int32), .int 0, .int 0, .int 0, .ref h2])), (h1, .inl (w.2.2.1 1, 900, .inl (upd (upd (upd (upd (upd (fun _ => 0) 0 (1000 : Int32)) 1 (1001 : Int32)) 2 (2004 : Int32)) 3 (2008 : Int32)) 4 (1003 : Int32)))), (h2, .inl (w.2.2.1 1, 102, .inl (fun _ => 0)))] : va_W)) (k := 0) (j := 2) rfl pfX3_21 rfl rfl (Nat.le_of_ble_eq_true rfl) dX3_clear_47 rfl ?_
  refine cg_aload_n C (i := 0) dX3_clear_50 rfl rfl ?_
  refine cg_iconst C (v := (4 : Int32)) dX3_clear_51 rfl ?_
  refine cg_put C (ws' := ([(h0, .inr (3, [.ref h1, .int 0, .int (0 : Int32), .int (4 : Int32), .int 0, .int 0, .ref h2])), (h1, .inl (w.2.2.1 1, 900, .inl (upd (upd (upd (upd (upd (fun _ => 0) 0 (1000 : Int32)) 1 (1001 : Int32)) 2 (2004 : Int32)) 3 (2008 : Int32)) 4 (1003 : Int32)))), (h2, .inl (w.2.2.1 1, 102, .inl (fun _ => 0)))] : va_W)) (k := 0) (j := 3) rfl pfX3_25 rfl rfl (Nat.le_of_ble_eq_true rfl) dX3_clear_52 rfl ?_
  refine cg_aload_n C (i := 0) dX3_clear_55 rfl rfl ?_
  refine cg_iconst C (v := (4 : Int32)) dX3_clear_56 rfl ?_
  refine cg_put C (ws' := ([(h0, .inr (3, [.ref h1, .int 0, .int (0 : Int32), .int (4 : Int32), .int (4 : Int32), .int 0, .ref h2])), (h1, .inl (w.2.2.1 1, 900, .inl (upd (upd (upd (upd (upd (fun _ => 0) 0 (1000 : Int32)) 1 (1001 : Int32)) 2 (2004 : Int32)) 3 (2008 : Int32)) 4 (1003 : Int32)))), (h2, .inl (w.2.2.1 1, 102, .inl (fun _ => 0)))] : va_W)) (k := 0) (j := 4) rfl pfX3_28 rfl rfl (Nat.le_of_ble_eq_true rfl) dX3_clear_57 rfl ?_
  refine cg_aload_n C (i := 0) dX3_clear_60 rfl rfl ?_
  refine cg_iconst C (v := (5 : Int32)) dX3_clear_61 rfl ?_
  refine cg_put C (ws' := ([(h0, .inr (3, [.ref h1, .int 0, .int (0 : Int32), .int (4 : Int32), .int (4 : Int32), .int (5 : Int32), .ref h2])), (h1, .inl (w.2.2.1 1, 900, .inl (upd (upd (upd (upd (upd (fun _ => 0) 0 (1000 : Int32)) 1 (1001 : Int32)) 2 (2004 : Int32)) 3 (2008 : Int32)) 4 (1003 : Int32)))), (h2, .inl (w.2.2.1 1, 102, .inl (fun _ => 0)))] : va_W)) (k := 0) (j := 5) rfl pfX3_31 rfl rfl (Nat.le_of_ble_eq_true rfl) dX3_clear_62 rfl ?_
  refine cg_aload_n C (i := 0) dX3_clear_65 rfl rfl ?_
  refine cg_iconst C (v := (5 : Int32)) dX3_clear_66 rfl ?_
  refine cg_put C (ws' := ([(h0, .inr (3, [.ref h1, .int (5 : Int32), .int (0 : Int32), .int (4 : Int32), .int (4 : Int32), .int (5 : Int32), .ref h2])), (h1, .inl (w.2.2.1 1, 900, .inl (upd (upd (upd (upd (upd (fun _ => 0) 0 (1000 : Int32)) 1 (1001 : Int32)) 2 (2004 : Int32)) 3 (2008 : Int32)) 4 (1003 : Int32)))), (h2, .inl (w.2.2.1 1, 102, .inl (fun _ => 0)))] : va_W)) (k := 0) (j := 1) rfl pfX3_34 rfl rfl (Nat.le_of_ble_eq_true rfl) dX3_clear_67 rfl ?_
  exact cg_retE C hr (fun j => ([h0, h1, h2] : List Nat).getD j 0) rfl rfl dX3_clear_70
set_option maxRecDepth 100000 in
set_option maxHeartbeats 8000000 in
theorem mk_X3_init (l : Launch) (w : cpW) (h0 : Nat) : cgM l yX3_init cX3_init 1 2 2 1002 w [.ref h0] ([(h0, .inr (3, [.null, .int 0, .int 0, .int 0, .int 0, .int 0, .null]))] : va_W) (fun u => u 0 = h0) (fun u => bX3 w u) := by
  refine cgM.of (lv := [some (.ref h0)]) (by decide) (Nat.le_of_ble_eq_true rfl) rfl (fun p e s m args below meth c A C hr hin => ?_)
  replace C : cgCx p s m args meth c w A cX3_init RX3 1 := C
  refine cg_aload_n C (i := 0) dX3_init_0 rfl rfl ?_
  refine cg_obj C mw_4_8 mw_1_11 mw_1_12 (by decide) (Nat.le_of_ble_eq_true rfl) dX3_init_1 ?_
  refine cg_aload_n C (i := 0) dX3_init_4 rfl rfl ?_
  refine cg_sipush C (v := (900 : Int32)) dX3_init_5 rfl ?_
  refine cg_newa1 C (ws' := fun q1 => ([(h0, .inr (3, [.null, .int 0, .int 0, .int 0, .int 0, .int 0, .null])), (q1, .inl (w.2.2.1 1, 900, .inl (fun _ => 0)))] : va_W)) mw_3_14 (by decide) (N' := 900) (by decide) (by decide) (by decide) (by decide) dX3_init_8 (fun _ => rfl) (fun q1 => ?_)
  refine cg_putF C (ws' := ([(h0, .inr (3, [.ref q1, .int 0, .int 0, .int 0, .int 0, .int 0, .null])), (q1, .inl (w.2.2.1 1, 900, .inl (fun _ => 0)))] : va_W)) (k := 0) (j := 0) hin rfl gpX3_9 rfl rfl (Nat.le_of_ble_eq_true rfl) dX3_init_10 rfl ?_
  refine cg_aload_n C (i := 0) dX3_init_13 rfl rfl ?_
  refine cg_bipush C (v := (102 : Int32)) dX3_init_14 rfl ?_
  refine cg_newa1 C (ws' := fun q2 => ([(h0, .inr (3, [.ref q1, .int 0, .int 0, .int 0, .int 0, .int 0, .null])), (q1, .inl (w.2.2.1 1, 900, .inl (fun _ => 0))), (q2, .inl (w.2.2.1 1, 102, .inl (fun _ => 0)))] : va_W)) mw_3_14 (by decide) (N' := 102) (by decide) (by decide) (by decide) (by decide) dX3_init_16 (fun _ => rfl) (fun q2 => ?_)
  refine cg_putF C (ws' := ([(h0, .inr (3, [.ref q1, .int 0, .int 0, .int 0, .int 0, .int 0, .ref q2])), (q1, .inl (w.2.2.1 1, 900, .inl (fun _ => 0))), (q2, .inl (w.2.2.1 1, 102, .inl (fun _ => 0)))] : va_W)) (k := 0) (j := 6) hin rfl gpX3_15 rfl rfl (Nat.le_of_ble_eq_true rfl) dX3_init_18 rfl ?_
  refine cg_aload_n C (i := 0) dX3_init_21 rfl rfl ?_
  refine cg_callV C (As := []) (rest := []) (pre := ([(h0, .inr (3, [.ref q1, .int 0, .int 0, .int 0, .int 0, .int 0, .ref q2])), (q1, .inl (w.2.2.1 1, 900, .inl (fun _ => 0))), (q2, .inl (w.2.2.1 1, 102, .inl (fun _ => 0)))] : va_W)) (wr := ([] : va_W)) (ws' := fun u3 => ([((u3 0), .inr (3, [.ref (u3 1), .int 5, .int 0, .int 4, .int 4, .int 5, .ref (u3 2)])), ((u3 1), .inl (w.2.2.1 1, 900, .inl cpCode0)), ((u3 2), .inl (w.2.2.1 1, 102, .inl (fun _ => 0)))] : va_W)) (k0 := 0) qX3_clear mw_4_11 rfl rfl (mk_X3_clear l w h0 q1 q2) [0, 1, 2] [] rfl rfl (by decide) rfl (by decide) (by decide) rfl rfl (Nat.le_of_ble_eq_true rfl) (cgRm_ok (by decide) (by decide)) ⟨by decide, by decide⟩ dX3_init_22 (fun _ => rfl) (fun u3 hu4 => ?_)
  exact cg_retE C hr u3 (by rw [hu4]; rfl) rfl dX3_init_25
set_option maxRecDepth 100000 in
set_option maxHeartbeats 8000000 in
theorem mk_X5_init (l : Launch) (w : cpW) (h0 : Nat) : cgM l yX5_init cX5_init 1 1 3 16 w [.ref h0] ([(h0, .inr (5, [.null, .null, .null, .int 0, .int 0]))] : va_W) (fun u => u 0 = h0) (fun u => bX5 w u) := by
  refine cgM.of (lv := [some (.ref h0)]) (by decide) (Nat.le_of_ble_eq_true rfl) rfl (fun p e s m args below meth c A C hr hin => ?_)
  replace C : cgCx p s m args meth c w A cX5_init RX5 1 := C
  refine cg_aload_n C (i := 0) dX5_init_0 rfl rfl ?_
  refine cg_obj C mw_4_22 mw_1_11 mw_1_12 (by decide) (Nat.le_of_ble_eq_true rfl) dX5_init_1 ?_
  refine cg_aload_n C (i := 0) dX5_init_4 rfl rfl ?_
  refine cg_iconst C (v := (4 : Int32)) dX5_init_5 rfl ?_
  refine cg_newa1 C (ws' := fun q1 => ([(h0, .inr (5, [.null, .null, .null, .int 0, .int 0])), (q1, .inl (w.2.2.1 1, 4, .inl (fun _ => 0)))] : va_W)) mw_3_14 (by decide) (N' := 4) (by decide) (by decide) (by decide) (by decide) dX5_init_6 (fun _ => rfl) (fun q1 => ?_)
  refine cg_putF C (ws' := ([(h0, .inr (5, [.ref q1, .null, .null, .int 0, .int 0])), (q1, .inl (w.2.2.1 1, 4, .inl (fun _ => 0)))] : va_W)) (k := 0) (j := 0) hin rfl gpX5_9 rfl rfl (Nat.le_of_ble_eq_true rfl) dX5_init_8 rfl ?_
  refine cg_aload_n C (i := 0) dX5_init_11 rfl rfl ?_
  refine cg_iconst C (v := (4 : Int32)) dX5_init_12 rfl ?_
  refine cg_newa1 C (ws' := fun q2 => ([(h0, .inr (5, [.ref q1, .null, .null, .int 0, .int 0])), (q1, .inl (w.2.2.1 1, 4, .inl (fun _ => 0))), (q2, .inl (w.2.2.1 1, 4, .inl (fun _ => 0)))] : va_W)) mw_3_14 (by decide) (N' := 4) (by decide) (by decide) (by decide) (by decide) dX5_init_13 (fun _ => rfl) (fun q2 => ?_)
  refine cg_putF C (ws' := ([(h0, .inr (5, [.ref q1, .ref q2, .null, .int 0, .int 0])), (q1, .inl (w.2.2.1 1, 4, .inl (fun _ => 0))), (q2, .inl (w.2.2.1 1, 4, .inl (fun _ => 0)))] : va_W)) (k := 0) (j := 1) hin rfl gpX5_15 rfl rfl (Nat.le_of_ble_eq_true rfl) dX5_init_15 rfl ?_
  refine cg_aload_n C (i := 0) dX5_init_18 rfl rfl ?_
  refine cg_bipush C (v := (8 : Int32)) dX5_init_19 rfl ?_
  refine cg_newa1 C (ws' := fun q3 => ([(h0, .inr (5, [.ref q1, .ref q2, .null, .int 0, .int 0])), (q1, .inl (w.2.2.1 1, 4, .inl (fun _ => 0))), (q2, .inl (w.2.2.1 1, 4, .inl (fun _ => 0))), (q3, .inl (w.2.2.1 1, 8, .inl (fun _ => 0)))] : va_W)) mw_3_14 (by decide) (N' := 8) (by decide) (by decide) (by decide) (by decide) dX5_init_21 (fun _ => rfl) (fun q3 => ?_)
  refine cg_putF C (ws' := ([(h0, .inr (5, [.ref q1, .ref q2, .ref q3, .int 0, .int 0])), (q1, .inl (w.2.2.1 1, 4, .inl (fun _ => 0))), (q2, .inl (w.2.2.1 1, 4, .inl (fun _ => 0))), (q3, .inl (w.2.2.1 1, 8, .inl (fun _ => 0)))] : va_W)) (k := 0) (j := 2) hin rfl gpX5_18 rfl rfl (Nat.le_of_ble_eq_true rfl) dX5_init_23 rfl ?_
  exact cg_retE C hr (fun j => ([h0, q1, q2, q3] : List Nat).getD j 0) rfl rfl dX5_init_26
set_option maxRecDepth 100000 in
set_option maxHeartbeats 8000000 in
theorem mk_X9_init (l : Launch) (w : cpW) (h0 : Nat) : cgM l yX9_init cX9_init 1 1 1 40 w [.ref h0] ([(h0, .inr (9, [.null, .int 0, .int 0]))] : va_W) (fun u => u 0 = h0) (fun u => bX9 w u) := by
  refine cgM.of (lv := [some (.ref h0)]) (by decide) (Nat.le_of_ble_eq_true rfl) rfl (fun p e s m args below meth c A C hr hin => ?_)
  replace C : cgCx p s m args meth c w A cX9_init RX9 1 := C
  refine cg_aload_n C (i := 0) dX9_init_0 rfl rfl ?_
  refine cg_obj C mw_7_19 mw_1_11 mw_1_12 (by decide) (Nat.le_of_ble_eq_true rfl) dX9_init_1 ?_
  refine cg_aload_n C (i := 0) dX9_init_4 rfl rfl ?_
  refine cg_bipush C (v := (40 : Int32)) dX9_init_5 rfl ?_
  refine cg_newa4 C (ws' := fun q1 => ([(h0, .inr (9, [.null, .int 0, .int 0])), (q1, .inl (w.2.2.1 4, 40, .inr (.inl (fun _ => 0))))] : va_W)) mw_6_6 (by decide) (N' := 40) (by decide) (by decide) (by decide) (by decide) dX9_init_7 (fun _ => rfl) (fun q1 => ?_)
  refine cg_putF C (ws' := ([(h0, .inr (9, [.ref q1, .int 0, .int 0])), (q1, .inl (w.2.2.1 4, 40, .inr (.inl (fun _ => 0))))] : va_W)) (k := 0) (j := 0) hin rfl gpX9_9 rfl rfl (Nat.le_of_ble_eq_true rfl) dX9_init_9 rfl ?_
  refine cg_aload_n C (i := 0) dX9_init_12 rfl rfl ?_
  refine cg_iconst C (v := (-1 : Int32)) dX9_init_13 rfl ?_
  refine cg_put C (ws' := ([(h0, .inr (9, [.ref q1, .int 0, .int (-1 : Int32)])), (q1, .inl (w.2.2.1 4, 40, .inr (.inl (fun _ => 0))))] : va_W)) (k := 0) (j := 2) rfl pfX9_15 rfl rfl (Nat.le_of_ble_eq_true rfl) dX9_init_14 rfl ?_
  exact cg_retE C hr (fun j => ([h0, q1] : List Nat).getD j 0) rfl rfl dX9_init_17
set_option maxRecDepth 100000 in
set_option maxHeartbeats 8000000 in
theorem mk_X0_init (l : Launch) (w : cpW) (h0 va na : Nat) : cgM l yX0_init cX0_init 3 1 1 6 w [.ref h0, .ref va, .ref na] ([(h0, .inr (0, [.null, .null, .null]))] : va_W) (fun u => u 0 = h0) (fun u => bX0 w va na u) := by
  refine cgM.of (lv := [some (.ref h0), some (.ref va), some (.ref na)]) (by decide) (Nat.le_of_ble_eq_true rfl) rfl (fun p e s m args below meth c A C hr hin => ?_)
  replace C : cgCx p s m args meth c w A cX0_init RX0 3 := C
  refine cg_aload_n C (i := 0) dX0_init_0 rfl rfl ?_
  refine cg_obj C mw_5_19 mw_1_11 mw_1_12 (by decide) (Nat.le_of_ble_eq_true rfl) dX0_init_1 ?_
  refine cg_aload_n C (i := 0) dX0_init_4 rfl rfl ?_
  refine cg_bipush C (v := (6 : Int32)) dX0_init_5 rfl ?_
  refine cg_newa1 C (ws' := fun q1 => ([(h0, .inr (0, [.null, .null, .null])), (q1, .inl (w.2.2.1 1, 6, .inl (fun _ => 0)))] : va_W)) mw_3_14 (by decide) (N' := 6) (by decide) (by decide) (by decide) (by decide) dX0_init_7 (fun _ => rfl) (fun q1 => ?_)
  refine cg_putF C (ws' := ([(h0, .inr (0, [.null, .null, .ref q1])), (q1, .inl (w.2.2.1 1, 6, .inl (fun _ => 0)))] : va_W)) (k := 0) (j := 2) hin rfl gpX0_11 rfl rfl (Nat.le_of_ble_eq_true rfl) dX0_init_9 rfl ?_
  refine cg_aload_n C (i := 0) dX0_init_12 rfl rfl ?_
  refine cg_aload_n C (i := 1) dX0_init_13 rfl rfl ?_
  refine cg_putF C (ws' := ([(h0, .inr (0, [.ref va, .null, .ref q1])), (q1, .inl (w.2.2.1 1, 6, .inl (fun _ => 0)))] : va_W)) (k := 0) (j := 0) hin rfl gpX0_17 rfl rfl (Nat.le_of_ble_eq_true rfl) dX0_init_14 rfl ?_
  refine cg_aload_n C (i := 0) dX0_init_17 rfl rfl ?_
  refine cg_aload_n C (i := 2) dX0_init_18 rfl rfl ?_
  refine cg_putF C (ws' := ([(h0, .inr (0, [.ref va, .ref na, .ref q1])), (q1, .inl (w.2.2.1 1, 6, .inl (fun _ => 0)))] : va_W)) (k := 0) (j := 1) hin rfl gpX0_21 rfl rfl (Nat.le_of_ble_eq_true rfl) dX0_init_19 rfl ?_
  exact cg_retE C hr (fun j => ([h0, q1] : List Nat).getD j 0) rfl rfl dX0_init_22
set_option maxRecDepth 100000 in
set_option maxHeartbeats 8000000 in
theorem mk_X1_init (l : Launch) (w : cpW) (h0 va na : Nat) : cgM l yX1_init cX1_init 3 1 2 264 w [.ref h0, .ref va, .ref na] ([(h0, .inr (1, [.null, .null, .null, .null, .int 0, .int 0, .int 0]))] : va_W) (fun u => u 0 = h0) (fun u => bX1 w va na u) := by
  refine cgM.of (lv := [some (.ref h0), some (.ref va), some (.ref na)]) (by decide) (Nat.le_of_ble_eq_true rfl) rfl (fun p e s m args below meth c A C hr hin => ?_)
  replace C : cgCx p s m args meth c w A cX1_init RX1 3 := C
  refine cg_aload_n C (i := 0) dX1_init_0 rfl rfl ?_
  refine cg_obj C mw_6_15 mw_1_11 mw_1_12 (by decide) (Nat.le_of_ble_eq_true rfl) dX1_init_1 ?_
  refine cg_aload_n C (i := 0) dX1_init_4 rfl rfl ?_
  refine cg_sipush C (v := (256 : Int32)) dX1_init_5 rfl ?_
  refine cg_newa1 C (ws' := fun q1 => ([(h0, .inr (1, [.null, .null, .null, .null, .int 0, .int 0, .int 0])), (q1, .inl (w.2.2.1 1, 256, .inl (fun _ => 0)))] : va_W)) mw_3_14 (by decide) (N' := 256) (by decide) (by decide) (by decide) (by decide) dX1_init_8 (fun _ => rfl) (fun q1 => ?_)
  refine cg_putF C (ws' := ([(h0, .inr (1, [.null, .null, .ref q1, .null, .int 0, .int 0, .int 0])), (q1, .inl (w.2.2.1 1, 256, .inl (fun _ => 0)))] : va_W)) (k := 0) (j := 2) hin rfl gpX1_9 rfl rfl (Nat.le_of_ble_eq_true rfl) dX1_init_10 rfl ?_
  refine cg_aload_n C (i := 0) dX1_init_13 rfl rfl ?_
  refine cg_bipush C (v := (8 : Int32)) dX1_init_14 rfl ?_
  refine cg_newa1 C (ws' := fun q2 => ([(h0, .inr (1, [.null, .null, .ref q1, .null, .int 0, .int 0, .int 0])), (q1, .inl (w.2.2.1 1, 256, .inl (fun _ => 0))), (q2, .inl (w.2.2.1 1, 8, .inl (fun _ => 0)))] : va_W)) mw_3_14 (by decide) (N' := 8) (by decide) (by decide) (by decide) (by decide) dX1_init_16 (fun _ => rfl) (fun q2 => ?_)
  refine cg_putF C (ws' := ([(h0, .inr (1, [.null, .null, .ref q1, .ref q2, .int 0, .int 0, .int 0])), (q1, .inl (w.2.2.1 1, 256, .inl (fun _ => 0))), (q2, .inl (w.2.2.1 1, 8, .inl (fun _ => 0)))] : va_W)) (k := 0) (j := 3) hin rfl gpX1_15 rfl rfl (Nat.le_of_ble_eq_true rfl) dX1_init_18 rfl ?_
  refine cg_aload_n C (i := 0) dX1_init_21 rfl rfl ?_
  refine cg_aload_n C (i := 1) dX1_init_22 rfl rfl ?_
  refine cg_putF C (ws' := ([(h0, .inr (1, [.ref va, .null, .ref q1, .ref q2, .int 0, .int 0, .int 0])), (q1, .inl (w.2.2.1 1, 256, .inl (fun _ => 0))), (q2, .inl (w.2.2.1 1, 8, .inl (fun _ => 0)))] : va_W)) (k := 0) (j := 0) hin rfl gpX1_18 rfl rfl (Nat.le_of_ble_eq_true rfl) dX1_init_23 rfl ?_
  refine cg_aload_n C (i := 0) dX1_init_26 rfl rfl ?_
  refine cg_aload_n C (i := 2) dX1_init_27 rfl rfl ?_
  refine cg_putF C (ws' := ([(h0, .inr (1, [.ref va, .ref na, .ref q1, .ref q2, .int 0, .int 0, .int 0])), (q1, .inl (w.2.2.1 1, 256, .inl (fun _ => 0))), (q2, .inl (w.2.2.1 1, 8, .inl (fun _ => 0)))] : va_W)) (k := 0) (j := 1) hin rfl gpX1_22 rfl rfl (Nat.le_of_ble_eq_true rfl) dX1_init_28 rfl ?_
  exact cg_retE C hr (fun j => ([h0, q1, q2] : List Nat).getD j 0) rfl rfl dX1_init_31
