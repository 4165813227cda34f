set_option maxRecDepth 100000 in
set_option maxHeartbeats 8000000 in
theorem mk_X7_init (l : Launch) (w : cpW) (h0 : Nat) : cgM l yX7_init cX7_init 1 4 15 2025 w [.ref h0] ([(h0, .inr (7, [.null, .int 0, .null, .int 0, .int 0, .int 0, .int 0, .int 0, .int 0, .int 0, .int 0, .int 0]))]) (fun u => u 0 = h0) (fun u => bX7 w u) := by
  refine cgM.of (lv := [some (.ref h0)]) (by decide) (Nat.le_of_ble_eq_true rfl) rfl (fun p e s m args below meth c A C hr hin => ?_)
  replace C : cgCx p s m args meth c w A cX7_init RX7 1 := C
  refine cg_aload_n C (i := 0) dX7_init_0 rfl rfl ?_
  refine cg_obj C mw_5_10 mw_1_11 mw_1_12 (by decide) (Nat.le_of_ble_eq_true rfl) dX7_init_1 ?_
  refine cg_aload_n C (i := 0) dX7_init_4 rfl rfl ?_
  refine cg_sipush C (v := (900 : Int32)) dX7_init_5 rfl ?_
  refine cg_newa2 C (ws' := fun q1 => ([(h0, .inr (7, [.null, .int 0, .null, .int 0, .int 0, .int 0, .int 0, .int 0, .int 0, .int 0, .int 0, .int 0])), (q1, .inl (w.2.2.1 2, 900, .inl (fun _ => 0)))])) mw_5_11 (by decide) (N' := 900) (by decide) (by decide) (by decide) (by decide) dX7_init_8 (fun _ => rfl) (fun q1 => ?_)
  refine cg_putF C (ws' := ([(h0, .inr (7, [.ref q1, .int 0, .null, .int 0, .int 0, .int 0, .int 0, .int 0, .int 0, .int 0, .int 0, .int 0])), (q1, .inl (w.2.2.1 2, 900, .inl (fun _ => 0)))])) (k := 0) (j := 0) hin rfl gpX7_9 rfl rfl (Nat.le_of_ble_eq_true rfl) dX7_init_10 rfl ?_
  refine cg_aload_n C (i := 0) dX7_init_13 rfl rfl ?_
  refine cg_new C (ws' := fun q2 => ([(h0, .inr (7, [.ref q1, .int 0, .null, .int 0, .int 0, .int 0, .int 0, .int 0, .int 0, .int 0, .int 0, .int 0])), (q1, .inl (w.2.2.1 2, 900, .inl (fun _ => 0))), (q2, .inr (10, [.int 0, .int 0, .int 0, .int 0, .null, .null, .null, .int 0, .null, .null, .null, .int 0, .null, .null, .null, .null, .null]))])) gnX7_15 (by decide) (by decide) dX7_init_14 (fun _ => rfl) (fun q2 => ?_)
  refine cg_dup C dX7_init_17 rfl ?_
  refine cg_initN C (As := []) (rest := [.ref q2, .ref h0]) (pre := ([(q2, .inr (10, [.int 0, .int 0, .int 0, .int 0, .null, .null, .null, .int 0, .null, .null, .null, .int 0, .null, .null, .null, .null, .null]))])) (wr := ([(h0, .inr (7, [.ref q1, .int 0, .null, .int 0, .int 0, .int 0, .int 0, .int 0, .int 0, .int 0, .int 0, .int 0])), (q1, .inl (w.2.2.1 2, 900, .inl (fun _ => 0)))])) (ws' := fun u3 => ([(h0, .inr (7, [.ref q1, .int 0, .null, .int 0, .int 0, .int 0, .int 0, .int 0, .int 0, .int 0, .int 0, .int 0])), (q1, .inl (w.2.2.1 2, 900, .inl (fun _ => 0)))] ++ bX10 w u3)) gcX10_init (List.mem_of_getElem? (i := 4) rfl) (mk_X10_init l w q2) [2] [0, 1] rfl rfl (by decide) rfl (by decide) (by decide) rfl rfl (Nat.le_of_ble_eq_true rfl) (cgRm_ok (by decide) (by decide)) ⟨by decide, by decide⟩ dX7_init_18 (fun _ => rfl) (fun u3 hu4 => ?_)
  obtain rfl : q2 = u3 0 := hu4.symm
  refine cg_putF C (ws' := ([(h0, .inr (7, [.ref q1, .int 0, .ref (u3 0), .int 0, .int 0, .int 0, .int 0, .int 0, .int 0, .int 0, .int 0, .int 0])), (q1, .inl (w.2.2.1 2, 900, .inl (fun _ => 0)))] ++ bX10 w u3)) (k := 0) (j := 2) hin rfl gpX7_18 rfl rfl (Nat.le_of_ble_eq_true rfl) dX7_init_21 rfl ?_
  refine cg_aload_n C (i := 0) dX7_init_24 rfl rfl ?_
  refine cg_iconst C (v := (-1 : Int32)) dX7_init_25 rfl ?_
  refine cg_put C (ws' := ([(h0, .inr (7, [.ref q1, .int 0, .ref (u3 0), .int 0, .int (-1 : Int32), .int 0, .int 0, .int 0, .int 0, .int 0, .int 0, .int 0])), (q1, .inl (w.2.2.1 2, 900, .inl (fun _ => 0)))] ++ bX10 w u3)) (k := 0) (j := 4) rfl pfX7_22 rfl rfl (Nat.le_of_ble_eq_true rfl) dX7_init_26 rfl ?_
  exact cg_ret C hr (fun j => ([h0, q1, u3 0, u3 1, u3 2, u3 3, u3 4, u3 5, u3 6, u3 7, u3 8, u3 9, u3 10, u3 11, u3 12, u3 13] : List Nat).getD j 0) rfl [0, 1, 2, 3, 4, 5, 6, 7, 8, 9, 10, 11, 12, 13, 14, 15] (by decide) rfl rfl dX7_init_29
