set_option maxRecDepth 100000 in
set_option maxHeartbeats 4000000 in
theorem n_E_init {l : Launch} {D : va_G} {cI cJ cZ cL : ClassId} (h0 : Nat) : Cn l y_E_init prog_4_method_1_code 1 rm_E_init D (tyT cI cJ cZ cL) X0 [.ref h0] [(h0, .inr (2, [.null, .int 0]))] (fun b => [(h0, .inr (2, [.ref (b 0), .int 0])), ((b 0), .inl (cI, 13, .inl (fun _ => 0)))]) 1 13 := by
  refine Cn.of (lv0 := [(0, .ref h0)]) (by decide) (Nat.le_of_ble_eq_true rfl) rfl rfl (fun p e s m args below meth c A C hi hT => ?_)
  refine i_aload_n C 0 rfl rfl d_E_init_0 ?_
  refine i_obj C u_32 u_18 u_19 (by decide) (Nat.le_of_ble_eq_true rfl) d_E_init_1 ?_
  refine i_aload_n C 0 rfl rfl d_E_init_4 ?_
  refine i_bipush (v := 13) C (by decide) d_E_init_5 ?_
  refine i_newa (atype := .int) (ty := .int) (cA := cI) (N := 13) (a0 := (13, .inl (fun _ => 0))) (ws2 := fun q1 => [(h0, .inr (2, [.null, .int 0])), (q1, .inl (cI, 13, .inl (fun _ => 0)))]) C 0 rfl u_43 rfl (fun _ => rfl) (by decide) (by decide) (by decide) (Nat.le_of_ble_eq_true rfl) (Nat.le_of_ble_eq_true rfl) (fun _ => rfl) d_E_init_7 (fun q1 => ?_)
  refine i_putF (ci := 2) (ty := (.array .int)) (ws2 := [(h0, .inr (2, [.ref q1, .int 0])), (q1, .inl (cI, 13, .inl (fun _ => 0)))]) C hi 0 0 in_E tk_E nm_E rfl rfl (Nat.le_of_ble_eq_true rfl) rfl (by decide) rfl rfl (by decide +kernel) rfl rfl u_33 d_E_init_9 ?_
  exact i_vret C (fun k => [q1].getD k 0) rfl d_E_init_12
set_option maxRecDepth 100000 in
set_option maxHeartbeats 4000000 in
theorem n_J_init {l : Launch} {D : va_G} {cI cJ cZ cL : ClassId} (h0 : Nat) : Cn l y_J_init prog_3_method_1_code 1 rm_J_init D (tyT cI cJ cZ cL) X0 [.ref h0] [(h0, .inr (1, [.null, .null, .null, .null, .int 0]))] (fun b => [(h0, .inr (1, [.ref (b 0), .ref (b 1), .ref (b 2), .ref (b 3), .int 0])), ((b 0), .inl (cI, 300, .inl (fun _ => 0))), ((b 1), .inl (cI, 300, .inl (fun _ => 0))), ((b 2), .inl (cI, 300, .inl (fun _ => 0))), ((b 3), .inl (cI, 300, .inl (fun _ => 0)))]) 4 1200 := by
  refine Cn.of (lv0 := [(0, .ref h0)]) (by decide) (Nat.le_of_ble_eq_true rfl) rfl rfl (fun p e s m args below meth c A C hi hT => ?_)
  refine i_aload_n C 0 rfl rfl d_J_init_0 ?_
  refine i_obj C u_164 u_18 u_19 (by decide) (Nat.le_of_ble_eq_true rfl) d_J_init_1 ?_
  refine i_aload_n C 0 rfl rfl d_J_init_4 ?_
  refine i_sipush (v := 300) C (by decide) d_J_init_5 ?_
  refine i_newa (atype := .int) (ty := .int) (cA := cI) (N := 300) (a0 := (300, .inl (fun _ => 0))) (ws2 := fun q1 => [(h0, .inr (1, [.null, .null, .null, .null, .int 0])), (q1, .inl (cI, 300, .inl (fun _ => 0)))]) C 0 rfl u_43 rfl (fun _ => rfl) (by decide) (by decide) (by decide) (Nat.le_of_ble_eq_true rfl) (Nat.le_of_ble_eq_true rfl) (fun _ => rfl) d_J_init_8 (fun q1 => ?_)
  refine i_putF (ci := 1) (ty := (.array .int)) (ws2 := [(h0, .inr (1, [.ref q1, .null, .null, .null, .int 0])), (q1, .inl (cI, 300, .inl (fun _ => 0)))]) C hi 0 0 in_J tk_J nm_J rfl rfl (Nat.le_of_ble_eq_true rfl) rfl (by decide) rfl rfl (by decide +kernel) rfl rfl u_165 d_J_init_10 ?_
  refine i_aload_n C 0 rfl rfl d_J_init_13 ?_
  refine i_sipush (v := 300) C (by decide) d_J_init_14 ?_
  refine i_newa (atype := .int) (ty := .int) (cA := cI) (N := 300) (a0 := (300, .inl (fun _ => 0))) (ws2 := fun q2 => [(h0, .inr (1, [.ref q1, .null, .null, .null, .int 0])), (q1, .inl (cI, 300, .inl (fun _ => 0))), (q2, .inl (cI, 300, .inl (fun _ => 0)))]) C 0 rfl u_43 rfl (fun _ => rfl) (by decide) (by decide) (by decide) (Nat.le_of_ble_eq_true rfl) (Nat.le_of_ble_eq_true rfl) (fun _ => rfl) d_J_init_17 (fun q2 => ?_)
  refine i_putF (ci := 1) (ty := (.array .int)) (ws2 := [(h0, .inr (1, [.ref q1, .ref q2, .null, .null, .int 0])), (q1, .inl (cI, 300, .inl (fun _ => 0))), (q2, .inl (cI, 300, .inl (fun _ => 0)))]) C hi 0 1 in_J tk_J nm_J rfl rfl (Nat.le_of_ble_eq_true rfl) rfl (by decide) rfl rfl (by decide +kernel) rfl rfl u_166 d_J_init_19 ?_
  refine i_aload_n C 0 rfl rfl d_J_init_22 ?_
  refine i_sipush (v := 300) C (by decide) d_J_init_23 ?_
  refine i_newa (atype := .int) (ty := .int) (cA := cI) (N := 300) (a0 := (300, .inl (fun _ => 0))) (ws2 := fun q3 => [(h0, .inr (1, [.ref q1, .ref q2, .null, .null, .int 0])), (q1, .inl (cI, 300, .inl (fun _ => 0))), (q2, .inl (cI, 300, .inl (fun _ => 0))), (q3, .inl (cI, 300, .inl (fun _ => 0)))]) C 0 rfl u_43 rfl (fun _ => rfl) (by decide) (by decide) (by decide) (Nat.le_of_ble_eq_true rfl) (Nat.le_of_ble_eq_true rfl) (fun _ => rfl) d_J_init_26 (fun q3 => ?_)
  refine i_putF (ci := 1) (ty := (.array .int)) (ws2 := [(h0, .inr (1, [.ref q1, .ref q2, .ref q3, .null, .int 0])), (q1, .inl (cI, 300, .inl (fun _ => 0))), (q2, .inl (cI, 300, .inl (fun _ => 0))), (q3, .inl (cI, 300, .inl (fun _ => 0)))]) C hi 0 2 in_J tk_J nm_J rfl rfl (Nat.le_of_ble_eq_true rfl) rfl (by decide) rfl rfl (by decide +kernel) rfl rfl u_167 d_J_init_28 ?_
  refine i_aload_n C 0 rfl rfl d_J_init_31 ?_
  refine i_sipush (v := 300) C (by decide) d_J_init_32 ?_
  refine i_newa (atype := .int) (ty := .int) (cA := cI) (N := 300) (a0 := (300, .inl (fun _ => 0))) (ws2 := fun q4 => [(h0, .inr (1, [.ref q1, .ref q2, .ref q3, .null, .int 0])), (q1, .inl (cI, 300, .inl (fun _ => 0))), (q2, .inl (cI, 300, .inl (fun _ => 0))), (q3, .inl (cI, 300, .inl (fun _ => 0))), (q4, .inl (cI, 300, .inl (fun _ => 0)))]) C 0 rfl u_43 rfl (fun _ => rfl) (by decide) (by decide) (by decide) (Nat.le_of_ble_eq_true rfl) (Nat.le_of_ble_eq_true rfl) (fun _ => rfl) d_J_init_35 (fun q4 => ?_)
  refine i_putF (ci := 1) (ty := (.array .int)) (ws2 := [(h0, .inr (1, [.ref q1, .ref q2, .ref q3, .ref q4, .int 0])), (q1, .inl (cI, 300, .inl (fun _ => 0))), (q2, .inl (cI, 300, .inl (fun _ => 0))), (q3, .inl (cI, 300, .inl (fun _ => 0))), (q4, .inl (cI, 300, .inl (fun _ => 0)))]) C hi 0 3 in_J tk_J nm_J rfl rfl (Nat.le_of_ble_eq_true rfl) rfl (by decide) rfl rfl (by decide +kernel) rfl rfl u_168 d_J_init_37 ?_
  exact i_vret C (fun k => [q1, q2, q3, q4].getD k 0) rfl d_J_init_40
set_option maxRecDepth 100000 in
set_option maxHeartbeats 4000000 in
theorem n_O_init {l : Launch} {D : va_G} {cI cJ cZ cL : ClassId} {t : Nat} (h0 : Nat) : Cn l y_O_init prog_7_method_1_code 1 rm_O_init D (tyT cI cJ cZ cL) (ST t cI) [.ref h0] [(h0, .inr (5, [.null, .null, .null, .null, .null, .int 0, .int 0, .long 0, .null, .int 0, .int 0]))] (fun b => [(h0, .inr (5, [.ref (b 0), .ref (b 1), .ref (b 2), .ref (b 3), .ref (b 4), .int 0, .int 0, .long 0, .ref (b 5), .int 0, .int 0])), ((b 0), .inl (cI, 4, .inl dn0)), ((b 1), .inl (cI, 4, .inl (fun _ => 0))), ((b 2), .inl (cI, 4, .inl (fun _ => 0))), ((b 3), .inl (cI, 4, .inl (fun _ => 0))), ((b 4), .inl (cI, 4, .inl (fun _ => 0))), ((b 5), .inl (cI, 4, .inl (fun _ => 0)))]) 6 24 := by
  refine Cn.of (lv0 := [(0, .ref h0)]) (by decide) (Nat.le_of_ble_eq_true rfl) rfl rfl (fun p e s m args below meth c A C hi hT => ?_)
  have htl : t < s.heap.size := by obtain ⟨-, -, -, -, cell, k1, -⟩ := hT; exact (Array.getElem?_eq_some_iff.mp k1).1
  have hcI : s.vm.findClass "[I" = some cI := by obtain ⟨-, -, -, -, cell, k1, k2, k3, k4, k5, -⟩ := hT; exact k5
  refine i_aload_n C 0 rfl rfl d_O_init_0 ?_
  refine i_obj C u_113 u_18 u_19 (by decide) (Nat.le_of_ble_eq_true rfl) d_O_init_1 ?_
  refine i_aload_n C 0 rfl rfl d_O_init_4 ?_
  refine i_gets C hT n_114 d_O_init_5 ?_
  refine i_clone (t0 := 0) (ws2 := fun q1 => [(h0, .inr (5, [.null, .null, .null, .null, .null, .int 0, .int 0, .long 0, .null, .int 0, .int 0])), (q1, .inl (cI, 4, .inl dn0))]) C hT htl rfl u_116 u_117 u_118 u_119 u_120 (by decide) (Nat.le_of_ble_eq_true rfl) (Nat.le_of_ble_eq_true rfl) (Nat.le_of_ble_eq_true rfl) (fun _ => rfl) d_O_init_8 (fun q1 => ?_)
  refine i_castA C 1 rfl hcI u_122 d_O_init_11 ?_
  refine i_putF (ci := 5) (ty := (.array .int)) (ws2 := [(h0, .inr (5, [.ref q1, .null, .null, .null, .null, .int 0, .int 0, .long 0, .null, .int 0, .int 0])), (q1, .inl (cI, 4, .inl dn0))]) C hi 0 0 in_O tk_O nm_O rfl rfl (Nat.le_of_ble_eq_true rfl) rfl (by decide) rfl rfl (by decide +kernel) rfl rfl u_123 d_O_init_14 ?_
  refine i_aload_n C 0 rfl rfl d_O_init_17 ?_
  refine i_iconst (v := 4) C (by decide) d_O_init_18 ?_
  refine i_newa (atype := .int) (ty := .int) (cA := cI) (N := 4) (a0 := (4, .inl (fun _ => 0))) (ws2 := fun q2 => [(h0, .inr (5, [.ref q1, .null, .null, .null, .null, .int 0, .int 0, .long 0, .null, .int 0, .int 0])), (q1, .inl (cI, 4, .inl dn0)), (q2, .inl (cI, 4, .inl (fun _ => 0)))]) C 0 rfl u_43 rfl (fun _ => rfl) (by decide) (by decide) (by decide) (Nat.le_of_ble_eq_true rfl) (Nat.le_of_ble_eq_true rfl) (fun _ => rfl) d_O_init_19 (fun q2 => ?_)
  refine i_putF (ci := 5) (ty := (.array .int)) (ws2 := [(h0, .inr (5, [.ref q1, .ref q2, .null, .null, .null, .int 0, .int 0, .long 0, .null, .int 0, .int 0])), (q1, .inl (cI, 4, .inl dn0)), (q2, .inl (cI, 4, .inl (fun _ => 0)))]) C hi 0 1 in_O tk_O nm_O rfl rfl (Nat.le_of_ble_eq_true rfl) rfl (by decide) rfl rfl (by decide +kernel) rfl rfl u_124 d_O_init_21 ?_
  refine i_aload_n C 0 rfl rfl d_O_init_24 ?_
  refine i_iconst (v := 4) C (by decide) d_O_init_25 ?_
  refine i_newa (atype := .int) (ty := .int) (cA := cI) (N := 4) (a0 := (4, .inl (fun _ => 0))) (ws2 := fun q3 => [(h0, .inr (5, [.ref q1, .ref q2, .null, .null, .null, .int 0, .int 0, .long 0, .null, .int 0, .int 0])), (q1, .inl (cI, 4, .inl dn0)), (q2, .inl (cI, 4, .inl (fun _ => 0))), (q3, .inl (cI, 4, .inl (fun _ => 0)))]) C 0 rfl u_43 rfl (fun _ => rfl) (by decide) (by decide) (by decide) (Nat.le_of_ble_eq_true rfl) (Nat.le_of_ble_eq_true rfl) (fun _ => rfl) d_O_init_26 (fun q3 => ?_)
  refine i_putF (ci := 5) (ty := (.array .int)) (ws2 := [(h0, .inr (5, [.ref q1, .ref q2, .ref q3, .null, .null, .int 0, .int 0, .long 0, .null, .int 0, .int 0])), (q1, .inl (cI, 4, .inl dn0)), (q2, .inl (cI, 4, .inl (fun _ => 0))), (q3, .inl (cI, 4, .inl (fun _ => 0)))]) C hi 0 2 in_O tk_O nm_O rfl rfl (Nat.le_of_ble_eq_true rfl) rfl (by decide) rfl rfl (by decide +kernel) rfl rfl u_125 d_O_init_28 ?_
  refine i_aload_n C 0 rfl rfl d_O_init_31 ?_
  refine i_iconst (v := 4) C (by decide) d_O_init_32 ?_
  refine i_newa (atype := .int) (ty := .int) (cA := cI) (N := 4) (a0 := (4, .inl (fun _ => 0))) (ws2 := fun q4 => [(h0, .inr (5, [.ref q1, .ref q2, .ref q3, .null, .null, .int 0, .int 0, .long 0, .null, .int 0, .int 0])), (q1, .inl (cI, 4, .inl dn0)), (q2, .inl (cI, 4, .inl (fun _ => 0))), (q3, .inl (cI, 4, .inl (fun _ => 0))), (q4, .inl (cI, 4, .inl (fun _ => 0)))]) C 0 rfl u_43 rfl (fun _ => rfl) (by decide) (by decide) (by decide) (Nat.le_of_ble_eq_true rfl) (Nat.le_of_ble_eq_true rfl) (fun _ => rfl) d_O_init_33 (fun q4 => ?_)
  refine i_putF (ci := 5) (ty := (.array .int)) (ws2 := [(h0, .inr (5, [.ref q1, .ref q2, .ref q3, .ref q4, .null, .int 0, .int 0, .long 0, .null, .int 0, .int 0])), (q1, .inl (cI, 4, .inl dn0)), (q2, .inl (cI, 4, .inl (fun _ => 0))), (q3, .inl (cI, 4, .inl (fun _ => 0))), (q4, .inl (cI, 4, .inl (fun _ => 0)))]) C hi 0 3 in_O tk_O nm_O rfl rfl (Nat.le_of_ble_eq_true rfl) rfl (by decide) rfl rfl (by decide +kernel) rfl rfl u_126 d_O_init_35 ?_
  refine i_aload_n C 0 rfl rfl d_O_init_38 ?_
  refine i_iconst (v := 4) C (by decide) d_O_init_39 ?_
  refine i_newa (atype := .int) (ty := .int) (cA := cI) (N := 4) (a0 := (4, .inl (fun _ => 0))) (ws2 := fun q5 => [(h0, .inr (5, [.ref q1, .ref q2, .ref q3, .ref q4, .null, .int 0, .int 0, .long 0, .null, .int 0, .int 0])), (q1, .inl (cI, 4, .inl dn0)), (q2, .inl (cI, 4, .inl (fun _ => 0))), (q3, .inl (cI, 4, .inl (fun _ => 0))), (q4, .inl (cI, 4, .inl (fun _ => 0))), (q5, .inl (cI, 4, .inl (fun _ => 0)))]) C 0 rfl u_43 rfl (fun _ => rfl) (by decide) (by decide) (by decide) (Nat.le_of_ble_eq_true rfl) (Nat.le_of_ble_eq_true rfl) (fun _ => rfl) d_O_init_40 (fun q5 => ?_)
  refine i_putF (ci := 5) (ty := (.array .int)) (ws2 := [(h0, .inr (5, [.ref q1, .ref q2, .ref q3, .ref q4, .ref q5, .int 0, .int 0, .long 0, .null, .int 0, .int 0])), (q1, .inl (cI, 4, .inl dn0)), (q2, .inl (cI, 4, .inl (fun _ => 0))), (q3, .inl (cI, 4, .inl (fun _ => 0))), (q4, .inl (cI, 4, .inl (fun _ => 0))), (q5, .inl (cI, 4, .inl (fun _ => 0)))]) C hi 0 4 in_O tk_O nm_O rfl rfl (Nat.le_of_ble_eq_true rfl) rfl (by decide) rfl rfl (by decide +kernel) rfl rfl u_127 d_O_init_42 ?_
  refine i_aload_n C 0 rfl rfl d_O_init_45 ?_
  refine i_iconst (v := 4) C (by decide) d_O_init_46 ?_
  refine i_newa (atype := .int) (ty := .int) (cA := cI) (N := 4) (a0 := (4, .inl (fun _ => 0))) (ws2 := fun q6 => [(h0, .inr (5, [.ref q1, .ref q2, .ref q3, .ref q4, .ref q5, .int 0, .int 0, .long 0, .null, .int 0, .int 0])), (q1, .inl (cI, 4, .inl dn0)), (q2, .inl (cI, 4, .inl (fun _ => 0))), (q3, .inl (cI, 4, .inl (fun _ => 0))), (q4, .inl (cI, 4, .inl (fun _ => 0))), (q5, .inl (cI, 4, .inl (fun _ => 0))), (q6, .inl (cI, 4, .inl (fun _ => 0)))]) C 0 rfl u_43 rfl (fun _ => rfl) (by decide) (by decide) (by decide) (Nat.le_of_ble_eq_true rfl) (Nat.le_of_ble_eq_true rfl) (fun _ => rfl) d_O_init_47 (fun q6 => ?_)
  refine i_putF (ci := 5) (ty := (.array .int)) (ws2 := [(h0, .inr (5, [.ref q1, .ref q2, .ref q3, .ref q4, .ref q5, .int 0, .int 0, .long 0, .ref q6, .int 0, .int 0])), (q1, .inl (cI, 4, .inl dn0)), (q2, .inl (cI, 4, .inl (fun _ => 0))), (q3, .inl (cI, 4, .inl (fun _ => 0))), (q4, .inl (cI, 4, .inl (fun _ => 0))), (q5, .inl (cI, 4, .inl (fun _ => 0))), (q6, .inl (cI, 4, .inl (fun _ => 0)))]) C hi 0 8 in_O tk_O nm_O rfl rfl (Nat.le_of_ble_eq_true rfl) rfl (by decide) rfl rfl (by decide +kernel) rfl rfl u_132 d_O_init_49 ?_
  exact i_vret C (fun k => [q1, q2, q3, q4, q5, q6].getD k 0) rfl d_O_init_52
