section S93
variable {l : Launch} {D : va_G} {cy : Nat → ClassId}
theorem n_X0_init (h0 : Nat) : CtrN l D cy 1 0 0 yX0_init cX0_init 1 h0 (.inr (0, [.int 0, .int 0, .int 0])) (fun u => [(h0, .inr (0, [.int 0, .int 0, .int 0]))]) := by
  refine CtrN.of (by decide) (Nat.le_refl 1) ?_
  intro p e s m args below meth c C hr hlk hnm
  refine Y_aload_n C 0 dX0_init_0 rfl rfl ?_
  refine Y_obj C qob_X0_3 qoi qoc (Nat.le_of_ble_eq_true rfl) (Nat.le_of_ble_eq_true rfl) (Nat.le_of_ble_eq_true rfl) dX0_init_1 ?_
  exact Y_vret C hr hlk (fun k => [].getD k 0) rfl dX0_init_4
theorem n_X1_init (h0 : Nat) : CtrN l D cy 1 3 63 yX1_init cX1_init 1 h0 (.inr (1, [.null, .null, .null])) (fun u => [(h0, .inr (1, [.ref (u 0), .ref (u 1), .ref (u 2)])), (u 0, .inl (cy 0, 49, .inl (fun _ => 0))), (u 1, .inl (cy 0, 7, .inl (fun _ => 0))), (u 2, .inl (cy 0, 7, .inl (fun _ => 0)))]) := by
  refine CtrN.of (by decide) (Nat.le_refl 1) ?_
  intro p e s m args below meth c C hr hlk hnm
  refine Y_aload_n C 0 dX1_init_0 rfl rfl ?_
  refine Y_obj C qob_X1_3 qoi qoc (Nat.le_of_ble_eq_true rfl) (Nat.le_of_ble_eq_true rfl) (Nat.le_of_ble_eq_true rfl) dX1_init_1 ?_
  refine Y_aload_n C 0 dX1_init_4 rfl rfl ?_
  refine Y_bipush (v := 49) C dX1_init_5 (by decide) ?_
  refine Y_newa C 49 (by decide) (by decide) qar_int (Nat.le_of_ble_eq_true rfl) (Nat.le_of_ble_eq_true rfl) dX1_init_7 (fun q7 => ?_)
  refine Y_L (L' := [(h0, .inr (1, [.null, .null, .null])), (q7, .inl (cy 0, 49, .inl (fun _ => 0)))]) rfl ?_
  refine Y_putF (k := 0) (v := .ref q7) (ty := .array .int) C hnm 0 rfl rfl (by decide) inX1 rfl tyX1 tyX1_ok nmX1 rfl rfl rfl rfl (Nat.le_of_ble_eq_true rfl) qf_X1_9 dX1_init_9 ?_
  refine Y_L (L' := [(h0, .inr (1, [.ref q7, .null, .null])), (q7, .inl (cy 0, 49, .inl (fun _ => 0)))]) rfl ?_
  refine Y_aload_n C 0 dX1_init_12 rfl rfl ?_
  refine Y_bipush (v := 7) C dX1_init_13 (by decide) ?_
  refine Y_newa C 7 (by decide) (by decide) qar_int (Nat.le_of_ble_eq_true rfl) (Nat.le_of_ble_eq_true rfl) dX1_init_15 (fun q15 => ?_)
  refine Y_L (L' := [(h0, .inr (1, [.ref q7, .null, .null])), (q7, .inl (cy 0, 49, .inl (fun _ => 0))), (q15, .inl (cy 0, 7, .inl (fun _ => 0)))]) rfl ?_
  refine Y_putF (k := 1) (v := .ref q15) (ty := .array .int) C hnm 0 rfl rfl (by decide) inX1 rfl tyX1 tyX1_ok nmX1 rfl rfl rfl rfl (Nat.le_of_ble_eq_true rfl) qf_X1_15 dX1_init_17 ?_
  refine Y_L (L' := [(h0, .inr (1, [.ref q7, .ref q15, .null])), (q7, .inl (cy 0, 49, .inl (fun _ => 0))), (q15, .inl (cy 0, 7, .inl (fun _ => 0)))]) rfl ?_
  refine Y_aload_n C 0 dX1_init_20 rfl rfl ?_
  refine Y_bipush (v := 7) C dX1_init_21 (by decide) ?_
  refine Y_newa C 7 (by decide) (by decide) qar_int (Nat.le_of_ble_eq_true rfl) (Nat.le_of_ble_eq_true rfl) dX1_init_23 (fun q23 => ?_)
  refine Y_L (L' := [(h0, .inr (1, [.ref q7, .ref q15, .null])), (q7, .inl (cy 0, 49, .inl (fun _ => 0))), (q15, .inl (cy 0, 7, .inl (fun _ => 0))), (q23, .inl (cy 0, 7, .inl (fun _ => 0)))]) rfl ?_
  refine Y_putF (k := 2) (v := .ref q23) (ty := .array .int) C hnm 0 rfl rfl (by decide) inX1 rfl tyX1 tyX1_ok nmX1 rfl rfl rfl rfl (Nat.le_of_ble_eq_true rfl) qf_X1_18 dX1_init_25 ?_
  refine Y_L (L' := [(h0, .inr (1, [.ref q7, .ref q15, .ref q23])), (q7, .inl (cy 0, 49, .inl (fun _ => 0))), (q15, .inl (cy 0, 7, .inl (fun _ => 0))), (q23, .inl (cy 0, 7, .inl (fun _ => 0)))]) rfl ?_
  exact Y_vret C hr hlk (fun k => [q7, q15, q23].getD k 0) rfl dX1_init_28
theorem n_X2_init (h0 : Nat) : CtrN l D cy 1 5 640 yX2_init cX2_init 1 h0 (.inr (2, [.null, .null, .null, .null, .null])) (fun u => [(h0, .inr (2, [.ref (u 0), .ref (u 1), .ref (u 2), .ref (u 3), .ref (u 4)])), (u 0, .inl (cy 0, 128, .inl (fun _ => 0))), (u 1, .inl (cy 0, 128, .inl (fun _ => 0))), (u 2, .inl (cy 0, 128, .inl (fun _ => 0))), (u 3, .inl (cy 0, 128, .inl (fun _ => 0))), (u 4, .inl (cy 0, 128, .inl (fun _ => 0)))]) := by
  refine CtrN.of (by decide) (Nat.le_refl 1) ?_
  intro p e s m args below meth c C hr hlk hnm
  refine Y_aload_n C 0 dX2_init_0 rfl rfl ?_
  refine Y_obj C qob_X2_3 qoi qoc (Nat.le_of_ble_eq_true rfl) (Nat.le_of_ble_eq_true rfl) (Nat.le_of_ble_eq_true rfl) dX2_init_1 ?_
  refine Y_aload_n C 0 dX2_init_4 rfl rfl ?_
  refine Y_sipush (v := 128) C dX2_init_5 (by decide) ?_
  refine Y_newa C 128 (by decide) (by decide) qar_int (Nat.le_of_ble_eq_true rfl) (Nat.le_of_ble_eq_true rfl) dX2_init_8 (fun q8 => ?_)
  refine Y_L (L' := [(h0, .inr (2, [.null, .null, .null, .null, .null])), (q8, .inl (cy 0, 128, .inl (fun _ => 0)))]) rfl ?_
  refine Y_putF (k := 0) (v := .ref q8) (ty := .array .int) C hnm 0 rfl rfl (by decide) inX2 rfl tyX2 tyX2_ok nmX2 rfl rfl rfl rfl (Nat.le_of_ble_eq_true rfl) qf_X2_9 dX2_init_10 ?_
  refine Y_L (L' := [(h0, .inr (2, [.ref q8, .null, .null, .null, .null])), (q8, .inl (cy 0, 128, .inl (fun _ => 0)))]) rfl ?_
  refine Y_aload_n C 0 dX2_init_13 rfl rfl ?_
  refine Y_sipush (v := 128) C dX2_init_14 (by decide) ?_
  refine Y_newa C 128 (by decide) (by decide) qar_int (Nat.le_of_ble_eq_true rfl) (Nat.le_of_ble_eq_true rfl) dX2_init_17 (fun q17 => ?_)
  refine Y_L (L' := [(h0, .inr (2, [.ref q8, .null, .null, .null, .null])), (q8, .inl (cy 0, 128, .inl (fun _ => 0))), (q17, .inl (cy 0, 128, .inl (fun _ => 0)))]) rfl ?_
  refine Y_putF (k := 1) (v := .ref q17) (ty := .array .int) C hnm 0 rfl rfl (by decide) inX2 rfl tyX2 tyX2_ok nmX2 rfl rfl rfl rfl (Nat.le_of_ble_eq_true rfl) qf_X2_15 dX2_init_19 ?_
  refine Y_L (L' := [(h0, .inr (2, [.ref q8, .ref q17, .null, .null, .null])), (q8, .inl (cy 0, 128, .inl (fun _ => 0))), (q17, .inl (cy 0, 128, .inl (fun _ => 0)))]) rfl ?_
  refine Y_aload_n C 0 dX2_init_22 rfl rfl ?_
  refine Y_sipush (v := 128) C dX2_init_23 (by decide) ?_
  refine Y_newa C 128 (by decide) (by decide) qar_int (Nat.le_of_ble_eq_true rfl) (Nat.le_of_ble_eq_true rfl) dX2_init_26 (fun q26 => ?_)
  refine Y_L (L' := [(h0, .inr (2, [.ref q8, .ref q17, .null, .null, .null])), (q8, .inl (cy 0, 128, .inl (fun _ => 0))), (q17, .inl (cy 0, 128, .inl (fun _ => 0))), (q26, .inl (cy 0, 128, .inl (fun _ => 0)))]) rfl ?_
  refine Y_putF (k := 2) (v := .ref q26) (ty := .array .int) C hnm 0 rfl rfl (by decide) inX2 rfl tyX2 tyX2_ok nmX2 rfl rfl rfl rfl (Nat.le_of_ble_eq_true rfl) qf_X2_18 dX2_init_28 ?_
  refine Y_L (L' := [(h0, .inr (2, [.ref q8, .ref q17, .ref q26, .null, .null])), (q8, .inl (cy 0, 128, .inl (fun _ => 0))), (q17, .inl (cy 0, 128, .inl (fun _ => 0))), (q26, .inl (cy 0, 128, .inl (fun _ => 0)))]) rfl ?_
  refine Y_aload_n C 0 dX2_init_31 rfl rfl ?_
  refine Y_sipush (v := 128) C dX2_init_32 (by decide) ?_
  refine Y_newa C 128 (by decide) (by decide) qar_int (Nat.le_of_ble_eq_true rfl) (Nat.le_of_ble_eq_true rfl) dX2_init_35 (fun q35 => ?_)
  refine Y_L (L' := [(h0, .inr (2, [.ref q8, .ref q17, .ref q26, .null, .null])), (q8, .inl (cy 0, 128, .inl (fun _ => 0))), (q17, .inl (cy 0, 128, .inl (fun _ => 0))), (q26, .inl (cy 0, 128, .inl (fun _ => 0))), (q35, .inl (cy 0, 128, .inl (fun _ => 0)))]) rfl ?_
  refine Y_putF (k := 3) (v := .ref q35) (ty := .array .int) C hnm 0 rfl rfl (by decide) inX2 rfl tyX2 tyX2_ok nmX2 rfl rfl rfl rfl (Nat.le_of_ble_eq_true rfl) qf_X2_21 dX2_init_37 ?_
  refine Y_L (L' := [(h0, .inr (2, [.ref q8, .ref q17, .ref q26, .ref q35, .null])), (q8, .inl (cy 0, 128, .inl (fun _ => 0))), (q17, .inl (cy 0, 128, .inl (fun _ => 0))), (q26, .inl (cy 0, 128, .inl (fun _ => 0))), (q35, .inl (cy 0, 128, .inl (fun _ => 0)))]) rfl ?_
  refine Y_aload_n C 0 dX2_init_40 rfl rfl ?_
  refine Y_sipush (v := 128) C dX2_init_41 (by decide) ?_
  refine Y_newa C 128 (by decide) (by decide) qar_int (Nat.le_of_ble_eq_true rfl) (Nat.le_of_ble_eq_true rfl) dX2_init_44 (fun q44 => ?_)
  refine Y_L (L' := [(h0, .inr (2, [.ref q8, .ref q17, .ref q26, .ref q35, .null])), (q8, .inl (cy 0, 128, .inl (fun _ => 0))), (q17, .inl (cy 0, 128, .inl (fun _ => 0))), (q26, .inl (cy 0, 128, .inl (fun _ => 0))), (q35, .inl (cy 0, 128, .inl (fun _ => 0))), (q44, .inl (cy 0, 128, .inl (fun _ => 0)))]) rfl ?_
  refine Y_putF (k := 4) (v := .ref q44) (ty := .array .int) C hnm 0 rfl rfl (by decide) inX2 rfl tyX2 tyX2_ok nmX2 rfl rfl rfl rfl (Nat.le_of_ble_eq_true rfl) qf_X2_24 dX2_init_46 ?_
  refine Y_L (L' := [(h0, .inr (2, [.ref q8, .ref q17, .ref q26, .ref q35, .ref q44])), (q8, .inl (cy 0, 128, .inl (fun _ => 0))), (q17, .inl (cy 0, 128, .inl (fun _ => 0))), (q26, .inl (cy 0, 128, .inl (fun _ => 0))), (q35, .inl (cy 0, 128, .inl (fun _ => 0))), (q44, .inl (cy 0, 128, .inl (fun _ => 0)))]) rfl ?_
  exact Y_vret C hr hlk (fun k => [q8, q17, q26, q35, q44].getD k 0) rfl dX2_init_49
theorem n_X3_init (h0 : Nat) : CtrN l D cy 1 1 160 yX3_init cX3_init 1 h0 (.inr (3, [.null, .int 0, .int 0, .int 0, .int 0, .int 0, .int 0, .int 0])) (fun u => [(h0, .inr (3, [.ref (u 0), .int 0, .int 0, .int 0, .int 0, .int 0, .int 0, .int 0])), (u 0, .inl (cy 0, 160, .inl (fun _ => 0)))]) := by
  refine CtrN.of (by decide) (Nat.le_refl 1) ?_
  intro p e s m args below meth c C hr hlk hnm
  refine Y_aload_n C 0 dX3_init_0 rfl rfl ?_
  refine Y_obj C qob_X3_3 qoi qoc (Nat.le_of_ble_eq_true rfl) (Nat.le_of_ble_eq_true rfl) (Nat.le_of_ble_eq_true rfl) dX3_init_1 ?_
  refine Y_aload_n C 0 dX3_init_4 rfl rfl ?_
  refine Y_sipush (v := 160) C dX3_init_5 (by decide) ?_
  refine Y_newa C 160 (by decide) (by decide) qar_int (Nat.le_of_ble_eq_true rfl) (Nat.le_of_ble_eq_true rfl) dX3_init_8 (fun q8 => ?_)
  refine Y_L (L' := [(h0, .inr (3, [.null, .int 0, .int 0, .int 0, .int 0, .int 0, .int 0, .int 0])), (q8, .inl (cy 0, 160, .inl (fun _ => 0)))]) rfl ?_
  refine Y_putF (k := 0) (v := .ref q8) (ty := .array .int) C hnm 0 rfl rfl (by decide) inX3 rfl tyX3 tyX3_ok nmX3 rfl rfl rfl rfl (Nat.le_of_ble_eq_true rfl) qf_X3_9 dX3_init_10 ?_
  refine Y_L (L' := [(h0, .inr (3, [.ref q8, .int 0, .int 0, .int 0, .int 0, .int 0, .int 0, .int 0])), (q8, .inl (cy 0, 160, .inl (fun _ => 0)))]) rfl ?_
  exact Y_vret C hr hlk (fun k => [q8].getD k 0) rfl dX3_init_13
theorem n_X4_init (h0 : Nat) : CtrN l D cy 1 2 166 yX4_init cX4_init 1 h0 (.inr (4, [.null, .null, .int 0])) (fun u => [(h0, .inr (4, [.ref (u 0), .ref (u 1), .int (-1)])), (u 0, .inl (cy 0, 6, .inl (fun _ => 0))), (u 1, .inl (cy 0, 160, .inl (fun _ => 0)))]) := by
  refine CtrN.of (by decide) (Nat.le_refl 1) ?_
  intro p e s m args below meth c C hr hlk hnm
  refine Y_aload_n C 0 dX4_init_0 rfl rfl ?_
  refine Y_obj C qob_X4_3 qoi qoc (Nat.le_of_ble_eq_true rfl) (Nat.le_of_ble_eq_true rfl) (Nat.le_of_ble_eq_true rfl) dX4_init_1 ?_
  refine Y_aload_n C 0 dX4_init_4 rfl rfl ?_
  refine Y_bipush (v := 6) C dX4_init_5 (by decide) ?_
  refine Y_newa C 6 (by decide) (by decide) qar_int (Nat.le_of_ble_eq_true rfl) (Nat.le_of_ble_eq_true rfl) dX4_init_7 (fun q7 => ?_)
  refine Y_L (L' := [(h0, .inr (4, [.null, .null, .int 0])), (q7, .inl (cy 0, 6, .inl (fun _ => 0)))]) rfl ?_
  refine Y_putF (k := 0) (v := .ref q7) (ty := .array .int) C hnm 0 rfl rfl (by decide) inX4 rfl tyX4 tyX4_ok nmX4 rfl rfl rfl rfl (Nat.le_of_ble_eq_true rfl) qf_X4_9 dX4_init_9 ?_
  refine Y_L (L' := [(h0, .inr (4, [.ref q7, .null, .int 0])), (q7, .inl (cy 0, 6, .inl (fun _ => 0)))]) rfl ?_
  refine Y_aload_n C 0 dX4_init_12 rfl rfl ?_
  refine Y_sipush (v := 160) C dX4_init_13 (by decide) ?_
  refine Y_newa C 160 (by decide) (by decide) qar_int (Nat.le_of_ble_eq_true rfl) (Nat.le_of_ble_eq_true rfl) dX4_init_16 (fun q16 => ?_)
  refine Y_L (L' := [(h0, .inr (4, [.ref q7, .null, .int 0])), (q7, .inl (cy 0, 6, .inl (fun _ => 0))), (q16, .inl (cy 0, 160, .inl (fun _ => 0)))]) rfl ?_
  refine Y_putF (k := 1) (v := .ref q16) (ty := .array .int) C hnm 0 rfl rfl (by decide) inX4 rfl tyX4 tyX4_ok nmX4 rfl rfl rfl rfl (Nat.le_of_ble_eq_true rfl) qf_X4_15 dX4_init_18 ?_
  refine Y_L (L' := [(h0, .inr (4, [.ref q7, .ref q16, .int 0])), (q7, .inl (cy 0, 6, .inl (fun _ => 0))), (q16, .inl (cy 0, 160, .inl (fun _ => 0)))]) rfl ?_
  refine Y_aload_n C 0 dX4_init_21 rfl rfl ?_
  refine Y_iconst (v := (-1)) C dX4_init_22 (by decide) ?_
  refine Y_put (k := 2) (v := .int (-1)) (ty := .int) C 0 rfl rfl (by decide) inX4 rfl tyX4 tyX4_ok nmX4 rfl rfl rfl rfl (Nat.le_of_ble_eq_true rfl) qf_X4_18 dX4_init_23 ?_
  refine Y_L (L' := [(h0, .inr (4, [.ref q7, .ref q16, .int (-1)])), (q7, .inl (cy 0, 6, .inl (fun _ => 0))), (q16, .inl (cy 0, 160, .inl (fun _ => 0)))]) rfl ?_
  exact Y_vret C hr hlk (fun k => [q7, q16].getD k 0) rfl dX4_init_26
theorem n_X5_init (h0 : Nat) : CtrN l D cy 1 1 40 yX5_init cX5_init 1 h0 (.inr (5, [.null, .int 0, .int 0])) (fun u => [(h0, .inr (5, [.ref (u 0), .int (-1), .int 0])), (u 0, .inl (cy 0, 40, .inl (fun _ => 0)))]) := by
  refine CtrN.of (by decide) (Nat.le_refl 1) ?_
  intro p e s m args below meth c C hr hlk hnm
  refine Y_aload_n C 0 dX5_init_0 rfl rfl ?_
  refine Y_obj C qob_X5_3 qoi qoc (Nat.le_of_ble_eq_true rfl) (Nat.le_of_ble_eq_true rfl) (Nat.le_of_ble_eq_true rfl) dX5_init_1 ?_
  refine Y_aload_n C 0 dX5_init_4 rfl rfl ?_
  refine Y_bipush (v := 40) C dX5_init_5 (by decide) ?_
  refine Y_newa C 40 (by decide) (by decide) qar_int (Nat.le_of_ble_eq_true rfl) (Nat.le_of_ble_eq_true rfl) dX5_init_7 (fun q7 => ?_)
  refine Y_L (L' := [(h0, .inr (5, [.null, .int 0, .int 0])), (q7, .inl (cy 0, 40, .inl (fun _ => 0)))]) rfl ?_
  refine Y_putF (k := 0) (v := .ref q7) (ty := .array .int) C hnm 0 rfl rfl (by decide) inX5 rfl tyX5 tyX5_ok nmX5 rfl rfl rfl rfl (Nat.le_of_ble_eq_true rfl) qf_X5_9 dX5_init_9 ?_
  refine Y_L (L' := [(h0, .inr (5, [.ref q7, .int 0, .int 0])), (q7, .inl (cy 0, 40, .inl (fun _ => 0)))]) rfl ?_
  refine Y_aload_n C 0 dX5_init_12 rfl rfl ?_
  refine Y_iconst (v := (-1)) C dX5_init_13 (by decide) ?_
  refine Y_put (k := 1) (v := .int (-1)) (ty := .int) C 0 rfl rfl (by decide) inX5 rfl tyX5 tyX5_ok nmX5 rfl rfl rfl rfl (Nat.le_of_ble_eq_true rfl) qf_X5_15 dX5_init_14 ?_
  refine Y_L (L' := [(h0, .inr (5, [.ref q7, .int (-1), .int 0])), (q7, .inl (cy 0, 40, .inl (fun _ => 0)))]) rfl ?_
  exact Y_vret C hr hlk (fun k => [q7].getD k 0) rfl dX5_init_17
theorem n_X6_init (h0 : Nat) : CtrN l D cy 1 3 21 yX6_init cX6_init 1 h0 (.inr (6, [.null, .null, .null, .int 0, .int 0, .int 0, .int 0, .int 0, .int 0, .int 0, .int 0])) (fun u => [(h0, .inr (6, [.ref (u 0), .ref (u 1), .ref (u 2), .int 0, .int 0, .int 0, .int 0, .int 0, .int 0, .int 0, .int 0])), (u 0, .inl (cy 0, 7, .inl (fun _ => 0))), (u 1, .inl (cy 0, 7, .inl (fun _ => 0))), (u 2, .inl (cy 0, 7, .inl (fun _ => 0)))]) := by
  refine CtrN.of (by decide) (Nat.le_refl 1) ?_
  intro p e s m args below meth c C hr hlk hnm
  refine Y_aload_n C 0 dX6_init_0 rfl rfl ?_
  refine Y_obj C qob_X6_3 qoi qoc (Nat.le_of_ble_eq_true rfl) (Nat.le_of_ble_eq_true rfl) (Nat.le_of_ble_eq_true rfl) dX6_init_1 ?_
  refine Y_aload_n C 0 dX6_init_4 rfl rfl ?_
  refine Y_bipush (v := 7) C dX6_init_5 (by decide) ?_
  refine Y_newa C 7 (by decide) (by decide) qar_int (Nat.le_of_ble_eq_true rfl) (Nat.le_of_ble_eq_true rfl) dX6_init_7 (fun q7 => ?_)
  refine Y_L (L' := [(h0, .inr (6, [.null, .null, .null, .int 0, .int 0, .int 0, .int 0, .int 0, .int 0, .int 0, .int 0])), (q7, .inl (cy 0, 7, .inl (fun _ => 0)))]) rfl ?_
  refine Y_putF (k := 0) (v := .ref q7) (ty := .array .int) C hnm 0 rfl rfl (by decide) inX6 rfl tyX6 tyX6_ok nmX6 rfl rfl rfl rfl (Nat.le_of_ble_eq_true rfl) qf_X6_9 dX6_init_9 ?_
  refine Y_L (L' := [(h0, .inr (6, [.ref q7, .null, .null, .int 0, .int 0, .int 0, .int 0, .int 0, .int 0, .int 0, .int 0])), (q7, .inl (cy 0, 7, .inl (fun _ => 0)))]) rfl ?_
  refine Y_aload_n C 0 dX6_init_12 rfl rfl ?_
  refine Y_bipush (v := 7) C dX6_init_13 (by decide) ?_
  refine Y_newa C 7 (by decide) (by decide) qar_int (Nat.le_of_ble_eq_true rfl) (Nat.le_of_ble_eq_true rfl) dX6_init_15 (fun q15 => ?_)
  refine Y_L (L' := [(h0, .inr (6, [.ref q7, .null, .null, .int 0, .int 0, .int 0, .int 0, .int 0, .int 0, .int 0, .int 0])), (q7, .inl (cy 0, 7, .inl (fun _ => 0))), (q15, .inl (cy 0, 7, .inl (fun _ => 0)))]) rfl ?_
  refine Y_putF (k := 1) (v := .ref q15) (ty := .array .int) C hnm 0 rfl rfl (by decide) inX6 rfl tyX6 tyX6_ok nmX6 rfl rfl rfl rfl (Nat.le_of_ble_eq_true rfl) qf_X6_15 dX6_init_17 ?_
  refine Y_L (L' := [(h0, .inr (6, [.ref q7, .ref q15, .null, .int 0, .int 0, .int 0, .int 0, .int 0, .int 0, .int 0, .int 0])), (q7, .inl (cy 0, 7, .inl (fun _ => 0))), (q15, .inl (cy 0, 7, .inl (fun _ => 0)))]) rfl ?_
  refine Y_aload_n C 0 dX6_init_20 rfl rfl ?_
  refine Y_bipush (v := 7) C dX6_init_21 (by decide) ?_
  refine Y_newa C 7 (by decide) (by decide) qar_int (Nat.le_of_ble_eq_true rfl) (Nat.le_of_ble_eq_true rfl) dX6_init_23 (fun q23 => ?_)
  refine Y_L (L' := [(h0, .inr (6, [.ref q7, .ref q15, .null, .int 0, .int 0, .int 0, .int 0, .int 0, .int 0, .int 0, .int 0])), (q7, .inl (cy 0, 7, .inl (fun _ => 0))), (q15, .inl (cy 0, 7, .inl (fun _ => 0))), (q23, .inl (cy 0, 7, .inl (fun _ => 0)))]) rfl ?_
  refine Y_putF (k := 2) (v := .ref q23) (ty := .array .int) C hnm 0 rfl rfl (by decide) inX6 rfl tyX6 tyX6_ok nmX6 rfl rfl rfl rfl (Nat.le_of_ble_eq_true rfl) qf_X6_18 dX6_init_25 ?_
  refine Y_L (L' := [(h0, .inr (6, [.ref q7, .ref q15, .ref q23, .int 0, .int 0, .int 0, .int 0, .int 0, .int 0, .int 0, .int 0])), (q7, .inl (cy 0, 7, .inl (fun _ => 0))), (q15, .inl (cy 0, 7, .inl (fun _ => 0))), (q23, .inl (cy 0, 7, .inl (fun _ => 0)))]) rfl ?_
  exact Y_vret C hr hlk (fun k => [q7, q15, q23].getD k 0) rfl dX6_init_28
theorem n_X7_init (h0 : Nat) : CtrN l D cy 1 1 160 yX7_init cX7_init 1 h0 (.inr (7, [.null, .int 0, .int 0, .int 0])) (fun u => [(h0, .inr (7, [.ref (u 0), .int 0, .int 0, .int 0])), (u 0, .inl (cy 0, 160, .inl (fun _ => 0)))]) := by
  refine CtrN.of (by decide) (Nat.le_refl 1) ?_
  intro p e s m args below meth c C hr hlk hnm
  refine Y_aload_n C 0 dX7_init_0 rfl rfl ?_
  refine Y_obj C qob_X7_3 qoi qoc (Nat.le_of_ble_eq_true rfl) (Nat.le_of_ble_eq_true rfl) (Nat.le_of_ble_eq_true rfl) dX7_init_1 ?_
  refine Y_aload_n C 0 dX7_init_4 rfl rfl ?_
  refine Y_sipush (v := 160) C dX7_init_5 (by decide) ?_
  refine Y_newa C 160 (by decide) (by decide) qar_int (Nat.le_of_ble_eq_true rfl) (Nat.le_of_ble_eq_true rfl) dX7_init_8 (fun q8 => ?_)
  refine Y_L (L' := [(h0, .inr (7, [.null, .int 0, .int 0, .int 0])), (q8, .inl (cy 0, 160, .inl (fun _ => 0)))]) rfl ?_
  refine Y_putF (k := 0) (v := .ref q8) (ty := .array .int) C hnm 0 rfl rfl (by decide) inX7 rfl tyX7 tyX7_ok nmX7 rfl rfl rfl rfl (Nat.le_of_ble_eq_true rfl) qf_X7_9 dX7_init_10 ?_
  refine Y_L (L' := [(h0, .inr (7, [.ref q8, .int 0, .int 0, .int 0])), (q8, .inl (cy 0, 160, .inl (fun _ => 0)))]) rfl ?_
  exact Y_vret C hr hlk (fun k => [q8].getD k 0) rfl dX7_init_13
theorem n_X8_init (h0 : Nat) : CtrN l D cy 1 0 0 yX8_init cX8_init 1 h0 (.inr (8, [.int 0, .int 0])) (fun u => [(h0, .inr (8, [.int 0, .int 0]))]) := by
  refine CtrN.of (by decide) (Nat.le_refl 1) ?_
  intro p e s m args below meth c C hr hlk hnm
  refine Y_aload_n C 0 dX8_init_0 rfl rfl ?_
  refine Y_obj C qob_X8_1 qoi qoc (Nat.le_of_ble_eq_true rfl) (Nat.le_of_ble_eq_true rfl) (Nat.le_of_ble_eq_true rfl) dX8_init_1 ?_
  exact Y_vret C hr hlk (fun k => [].getD k 0) rfl dX8_init_4
end S93
