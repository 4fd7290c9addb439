def f_H_receive (g : Nat) (j1 : Nat) (S : Mem) : Option (Unit × Mem) := bnd (f_E_isSound g j1 S) (fun r21 S22 => if r21 = 0 then (lt (sI S22 9 0 ((S22.1 9 0) + (1 : Int32))) (fun S25 => some ((), S25))) else (bnd (f_H_isUsable g j1 S22) (fun r26 S27 => if r26 = 0 then (lt (sI S27 9 0 ((S27.1 9 0) + (1 : Int32))) (fun S30 => some ((), S30))) else (bnd (f_E_kind g j1 S27) (fun r31 S32 => bnd (f_E_trace g j1 S32) (fun r34 S35 => lt (r34.toInt32) (fun x37 => bnd (f_E_cardNumber g j1 S35) (fun r38 S39 => bnd (f_E_value g j1 S39) (fun r41 S42 => bnd (f_H_decide g S42 r31 x37 r38 r41) (fun r44 S45 => bnd (f_N_post g S45 (0 : Int32) (r31 + (128 : Int32)) x37 r38 r41 r44) (fun _ S48 => some ((), S48))))))))))))
set_option maxRecDepth 100000 in
set_option maxHeartbeats 4000000 in
theorem c_H_receive {l : Launch} {D : va_G} {cI cJ cZ cL : ClassId} {a : Nat → Nat} (g : Nat) (j1 : Nat) (hj1 : j1 < 25) (S : Mem) {r : Unit} {S9 : Mem} (h : f_H_receive g j1 S = some (r, S9)) : Ctr l y_H_receive prog_2_method_7_code 8 none rm_H_receive D (tyT cI cJ cZ cL) (wdC cI cJ cZ cL a) [.ref (a 2), .ref (a (100 + j1))] S (vV r, S9) := by
  refine Ctr.of (lv0 := [(0, .ref (a 2)), (1, .ref (a (100 + j1)))]) (vv := vV) (by decide) rfl (wdC_fst cI cJ cZ cL a) (Nat.le_of_ble_eq_true rfl) rfl (fun p e s m args below meth c A C => ?_) r S9 h
  unfold f_H_receive
  refine j_aload_n C 1 rfl rfl d_H_receive_0 ?_
  refine j_bnd (fun r21 S22 e23 => ?_)
  refine j_callVi (As := []) (rest := []) C (26 + j1) 2 Y_E_isSound u_474 (c_E_isSound g j1 hj1 S e23) rfl rfl ⟨by decide, by decide⟩ rfl (wdC_E hj1) rfl rfl (Nat.le_of_ble_eq_true rfl) d_H_receive_1 ?_
  refine j_if_eq (tgt := 14) C d_H_receive_4 (by decide) (fun h24 => ?_) (fun h24 => ?_)
  · refine j_aload_n C 0 rfl rfl d_H_receive_14 ?_
    refine j_dup C rfl d_H_receive_15 ?_
    refine gC_H_dropped C u_76 d_H_receive_16 ?_
    refine j_iconst (v := 1) C (by decide) d_H_receive_19 ?_
    refine j_iadd C d_H_receive_20 ?_
    refine pC_H_dropped C u_76 d_H_receive_21 ?_
    refine j_ltS (fun S25 => ?_)
    exact j_vret C rfl rfl d_H_receive_24
  · refine j_aload_n C 1 rfl rfl d_H_receive_7 ?_
    refine j_bnd (fun r26 S27 e28 => ?_)
    refine j_callSi (As := [.ref (a (100 + j1))]) (rest := []) C Y_H_isUsable u_478 (c_H_isUsable g j1 hj1 S22 e28) rfl rfl ⟨by decide, by decide⟩ rfl rfl (Nat.le_of_ble_eq_true rfl) d_H_receive_8 ?_
    refine j_if_ne (tgt := 25) C d_H_receive_11 (by decide) (fun h29 => ?_) (fun h29 => ?_)
    · refine j_aload_n C 0 rfl rfl d_H_receive_14 ?_
      refine j_dup C rfl d_H_receive_15 ?_
      refine gC_H_dropped C u_76 d_H_receive_16 ?_
      refine j_iconst (v := 1) C (by decide) d_H_receive_19 ?_
      refine j_iadd C d_H_receive_20 ?_
      refine pC_H_dropped C u_76 d_H_receive_21 ?_
      refine j_ltS (fun S30 => ?_)
      exact j_vret C rfl rfl d_H_receive_24
    · refine j_aload_n C 1 rfl rfl d_H_receive_25 ?_
      refine j_bnd (fun r31 S32 e33 => ?_)
      refine j_callVi (As := []) (rest := []) C (26 + j1) 2 Y_E_kind u_495 (c_E_kind g j1 hj1 S27 e33) rfl rfl ⟨by decide, by decide⟩ rfl (wdC_E hj1) rfl rfl (Nat.le_of_ble_eq_true rfl) d_H_receive_26 ?_
      refine j_istore_n (i := 2) (lv2 := [(2, .int r31), (0, .ref (a 2)), (1, .ref (a (100 + j1)))]) C rfl (by decide) rfl d_H_receive_29 ?_
      refine j_aload_n C 2 rfl rfl d_H_receive_30 ?_
      refine j_bnd (fun r34 S35 e36 => ?_)
      refine j_callVl (As := []) (rest := []) C (26 + j1) 2 Y_E_trace u_481 (c_E_trace g j1 hj1 S32 e36) rfl rfl ⟨by decide, by decide⟩ rfl (wdC_E hj1) rfl rfl (Nat.le_of_ble_eq_true rfl) d_H_receive_31 ?_
      refine j_l2i C d_H_receive_34 ?_
      refine j_lti (fun x37 => ?_)
      refine j_istore_n (i := 3) (lv2 := [(3, .int x37), (2, .int r31), (0, .ref (a 2)), (1, .ref (a (100 + j1)))]) C rfl (by decide) rfl d_H_receive_35 ?_
      refine j_aload_n C 3 rfl rfl d_H_receive_36 ?_
      refine j_bnd (fun r38 S39 e40 => ?_)
      refine j_callVi (As := []) (rest := []) C (26 + j1) 2 Y_E_cardNumber u_491 (c_E_cardNumber g j1 hj1 S35 e40) rfl rfl ⟨by decide, by decide⟩ rfl (wdC_E hj1) rfl rfl (Nat.le_of_ble_eq_true rfl) d_H_receive_37 ?_
      refine j_istore (i := 4) (lv2 := [(4, .int r38), (3, .int x37), (2, .int r31), (0, .ref (a 2)), (1, .ref (a (100 + j1)))]) C (by decide) rfl d_H_receive_40 ?_
      refine j_aload_n C 4 rfl rfl d_H_receive_42 ?_
      refine j_bnd (fun r41 S42 e43 => ?_)
      refine j_callVl (As := []) (rest := []) C (26 + j1) 2 Y_E_value u_499 (c_E_value g j1 hj1 S39 e43) rfl rfl ⟨by decide, by decide⟩ rfl (wdC_E hj1) rfl rfl (Nat.le_of_ble_eq_true rfl) d_H_receive_43 ?_
      refine j_lstore (i := 5) (lv2 := [(5, .long r41), (4, .int r38), (3, .int x37), (2, .int r31), (0, .ref (a 2)), (1, .ref (a (100 + j1)))]) C (by decide) rfl d_H_receive_46 ?_
      refine j_aload_n C 4 rfl rfl d_H_receive_48 ?_
      refine j_iload_n C 3 rfl rfl d_H_receive_49 ?_
      refine j_iload_n C 2 rfl rfl d_H_receive_50 ?_
      refine j_iload C 1 rfl d_H_receive_51 ?_
      refine j_lload C 0 rfl d_H_receive_53 ?_
      refine j_bnd (fun r44 S45 e46 => ?_)
      refine j_callVi (As := [.int r31, .int x37, .int r38, .long r41]) (rest := []) C 2 0 Y_H_decide u_504 (c_H_decide g S42 r31 x37 r38 r41 e46) rfl rfl ⟨by decide, by decide⟩ rfl rfl rfl rfl (Nat.le_of_ble_eq_true rfl) d_H_receive_55 ?_
      refine j_istore (i := 7) (lv2 := [(7, .int r44), (5, .long r41), (4, .int r38), (3, .int x37), (2, .int r31), (0, .ref (a 2)), (1, .ref (a (100 + j1)))]) C (by decide) rfl d_H_receive_58 ?_
      refine j_aload_n C 5 rfl rfl d_H_receive_60 ?_
      refine gC_H_line C u_65 d_H_receive_61 ?_
      refine j_iconst (v := 0) C (by decide) d_H_receive_64 ?_
      refine j_iload_n C 4 rfl rfl d_H_receive_65 ?_
      refine j_sipush (v := 128) C (by decide) d_H_receive_66 ?_
      refine j_iadd C d_H_receive_69 ?_
      refine j_iload_n C 3 rfl rfl d_H_receive_70 ?_
      refine j_iload C 2 rfl d_H_receive_71 ?_
      refine j_lload C 1 rfl d_H_receive_73 ?_
      refine j_iload C 0 rfl d_H_receive_75 ?_
      refine j_bnd (fun _ S48 e49 => ?_)
      refine j_callVv (As := [.int (0 : Int32), .int (r31 + (128 : Int32)), .int x37, .int r38, .long r41, .int r44]) (rest := []) C 1 3 Y_N_post u_520 (c_N_post g S45 (0 : Int32) (r31 + (128 : Int32)) x37 r38 r41 r44 e49) rfl rfl ⟨by decide, by decide⟩ rfl rfl rfl rfl (Nat.le_of_ble_eq_true rfl) d_H_receive_77 ?_
      exact j_vret C rfl rfl d_H_receive_80
def f_A_handOver (g : Nat) (S : Mem) : Option (Unit × Mem) := if (S.2.2.2.1 24) = 0 then (bnd (f_M_receive g 24 S) (fun _ S23 => some ((), S23))) else (bnd (f_H_receive g 24 S) (fun _ S26 => some ((), S26)))
set_option maxRecDepth 100000 in
set_option maxHeartbeats 4000000 in
theorem c_A_handOver {l : Launch} {D : va_G} {cI cJ cZ cL : ClassId} {a : Nat → Nat} (g : Nat) (S : Mem) {r : Unit} {S9 : Mem} (h : f_A_handOver g S = some (r, S9)) : Ctr l y_A_handOver prog_1_method_25_code 1 none rm_A_handOver D (tyT cI cJ cZ cL) (wdC cI cJ cZ cL a) [.ref (a 0)] S (vV r, S9) := by
  refine Ctr.of (lv0 := [(0, .ref (a 0))]) (vv := vV) (by decide) rfl (wdC_fst cI cJ cZ cL a) (Nat.le_of_ble_eq_true rfl) rfl (fun p e s m args below meth c A C => ?_) r S9 h
  unfold f_A_handOver
  refine j_aload_n C 0 rfl rfl d_A_handOver_0 ?_
  refine gC_A_arriving C u_243 d_A_handOver_1 ?_
  refine gnC_E_forHost C (by decide) n_37 d_A_handOver_4 ?_
  refine j_if_eq (tgt := 24) C d_A_handOver_7 (by decide) (fun h21 => ?_) (fun h21 => ?_)
  · refine j_aload_n C 0 rfl rfl d_A_handOver_24 ?_
    refine gC_A_machine C u_242 d_A_handOver_25 ?_
    refine j_aload_n C 0 rfl rfl d_A_handOver_28 ?_
    refine gC_A_arriving C u_243 d_A_handOver_29 ?_
    refine j_bnd (fun _ S23 e24 => ?_)
    refine j_callVv (As := [.ref (a (100 + 24))]) (rest := []) C 3 4 Y_M_receive u_521 (c_M_receive g 24 (by decide) S e24) rfl rfl ⟨by decide, by decide⟩ rfl rfl rfl rfl (Nat.le_of_ble_eq_true rfl) d_A_handOver_32 ?_
    exact j_vret C rfl rfl d_A_handOver_35
  · refine j_aload_n C 0 rfl rfl d_A_handOver_10 ?_
    refine gC_A_host C u_241 d_A_handOver_11 ?_
    refine j_aload_n C 0 rfl rfl d_A_handOver_14 ?_
    refine gC_A_arriving C u_243 d_A_handOver_15 ?_
    refine j_bnd (fun _ S26 e27 => ?_)
    refine j_callVv (As := [.ref (a (100 + 24))]) (rest := []) C 2 0 Y_H_receive u_470 (c_H_receive g 24 (by decide) S e27) rfl rfl ⟨by decide, by decide⟩ rfl rfl rfl rfl (Nat.le_of_ble_eq_true rfl) d_A_handOver_18 ?_
    refine j_goto (tgt := 35) C d_A_handOver_21 (by decide) ?_
    exact j_vret C rfl rfl d_A_handOver_35
def f_A_deliver (g : Nat) (S : Mem) (x1 : Int32) : Option (Int32 × Mem) := bnd (f_N_has g S x1) (fun r21 S22 => if r21 = 0 then (some ((-1 : Int32), S22)) else (bnd (f_N_copyTo g 24 S22 x1) (fun _ S26 => bnd (f_N_remove g S26 x1) (fun _ S29 => bnd (f_A_handOver g S29) (fun _ S32 => some (S32.1 0 0, S32))))))
set_option maxRecDepth 100000 in
set_option maxHeartbeats 4000000 in
theorem c_A_deliver {l : Launch} {D : va_G} {cI cJ cZ cL : ClassId} {a : Nat → Nat} (g : Nat) (S : Mem) (x1 : Int32) {r : Int32} {S9 : Mem} (h : f_A_deliver g S x1 = some (r, S9)) : Ctr l y_A_deliver prog_1_method_11_code 2 (some .int) rm_A_deliver D (tyT cI cJ cZ cL) (wdC cI cJ cZ cL a) [.ref (a 0), .int x1] S (vI r, S9) := by
  refine Ctr.of (lv0 := [(0, .ref (a 0)), (1, .int x1)]) (vv := vI) (by decide) rfl (wdC_fst cI cJ cZ cL a) (Nat.le_of_ble_eq_true rfl) rfl (fun p e s m args below meth c A C => ?_) r S9 h
  unfold f_A_deliver
  refine j_aload_n C 0 rfl rfl d_A_deliver_0 ?_
  refine gC_A_line C u_240 d_A_deliver_1 ?_
  refine j_iload_n C 1 rfl rfl d_A_deliver_4 ?_
  refine j_bnd (fun r21 S22 e23 => ?_)
  refine j_callVi (As := [.int x1]) (rest := []) C 1 3 Y_N_has u_453 (c_N_has g S x1 e23) rfl rfl ⟨by decide, by decide⟩ rfl rfl rfl rfl (Nat.le_of_ble_eq_true rfl) d_A_deliver_5 ?_
  refine j_if_ne (tgt := 13) C d_A_deliver_8 (by decide) (fun h24 => ?_) (fun h24 => ?_)
  · refine j_iconst (v := -1) C (by decide) d_A_deliver_11 ?_
    exact j_iret C rfl rfl d_A_deliver_12
  · refine j_aload_n C 0 rfl rfl d_A_deliver_13 ?_
    refine gC_A_line C u_240 d_A_deliver_14 ?_
    refine j_iload_n C 1 rfl rfl d_A_deliver_17 ?_
    refine j_aload_n C 0 rfl rfl d_A_deliver_18 ?_
    refine gC_A_arriving C u_243 d_A_deliver_19 ?_
    refine j_bnd (fun _ S26 e27 => ?_)
    refine j_callVv (As := [.int x1, .ref (a (100 + 24))]) (rest := []) C 1 3 Y_N_copyTo u_454 (c_N_copyTo g 24 (by decide) S22 x1 e27) rfl rfl ⟨by decide, by decide⟩ rfl rfl rfl rfl (Nat.le_of_ble_eq_true rfl) d_A_deliver_22 ?_
    refine j_aload_n C 0 rfl rfl d_A_deliver_25 ?_
    refine gC_A_line C u_240 d_A_deliver_26 ?_
    refine j_iload_n C 1 rfl rfl d_A_deliver_29 ?_
    refine j_bnd (fun _ S29 e30 => ?_)
    refine j_callVv (As := [.int x1]) (rest := []) C 1 3 Y_N_remove u_465 (c_N_remove g S26 x1 e30) rfl rfl ⟨by decide, by decide⟩ rfl rfl rfl rfl (Nat.le_of_ble_eq_true rfl) d_A_deliver_30 ?_
    refine j_aload_n C 0 rfl rfl d_A_deliver_33 ?_
    refine j_bnd (fun _ S32 e33 => ?_)
    refine j_callVv (As := []) (rest := []) C 0 6 Y_A_handOver u_466 (c_A_handOver g S29 e33) rfl rfl ⟨by decide, by decide⟩ rfl rfl rfl rfl (Nat.le_of_ble_eq_true rfl) d_A_deliver_34 ?_
    refine j_aload_n C 0 rfl rfl d_A_deliver_37 ?_
    refine gC_A_line C u_240 d_A_deliver_38 ?_
    refine gnC_N_inFlight C n_46 d_A_deliver_41 ?_
    exact j_iret C rfl rfl d_A_deliver_44
def f_A_twice (g : Nat) (S : Mem) (x1 : Int32) : Option (Int32 × Mem) := bnd (f_N_has g S x1) (fun r21 S22 => if r21 = 0 then (some ((-1 : Int32), S22)) else (bnd (f_N_copyTo g 24 S22 x1) (fun _ S26 => bnd (f_A_handOver g S26) (fun _ S29 => some (S29.1 0 0, S29)))))
set_option maxRecDepth 100000 in
set_option maxHeartbeats 4000000 in
theorem c_A_twice {l : Launch} {D : va_G} {cI cJ cZ cL : ClassId} {a : Nat → Nat} (g : Nat) (S : Mem) (x1 : Int32) {r : Int32} {S9 : Mem} (h : f_A_twice g S x1 = some (r, S9)) : Ctr l y_A_twice prog_1_method_12_code 2 (some .int) rm_A_twice D (tyT cI cJ cZ cL) (wdC cI cJ cZ cL a) [.ref (a 0), .int x1] S (vI r, S9) := by
  refine Ctr.of (lv0 := [(0, .ref (a 0)), (1, .int x1)]) (vv := vI) (by decide) rfl (wdC_fst cI cJ cZ cL a) (Nat.le_of_ble_eq_true rfl) rfl (fun p e s m args below meth c A C => ?_) r S9 h
  unfold f_A_twice
  refine j_aload_n C 0 rfl rfl d_A_twice_0 ?_
  refine gC_A_line C u_240 d_A_twice_1 ?_
  refine j_iload_n C 1 rfl rfl d_A_twice_4 ?_
  refine j_bnd (fun r21 S22 e23 => ?_)
  refine j_callVi (As := [.int x1]) (rest := []) C 1 3 Y_N_has u_453 (c_N_has g S x1 e23) rfl rfl ⟨by decide, by decide⟩ rfl rfl rfl rfl (Nat.le_of_ble_eq_true rfl) d_A_twice_5 ?_
  refine j_if_ne (tgt := 13) C d_A_twice_8 (by decide) (fun h24 => ?_) (fun h24 => ?_)
  · refine j_iconst (v := -1) C (by decide) d_A_twice_11 ?_
    exact j_iret C rfl rfl d_A_twice_12
  · refine j_aload_n C 0 rfl rfl d_A_twice_13 ?_
    refine gC_A_line C u_240 d_A_twice_14 ?_
    refine j_iload_n C 1 rfl rfl d_A_twice_17 ?_
    refine j_aload_n C 0 rfl rfl d_A_twice_18 ?_
    refine gC_A_arriving C u_243 d_A_twice_19 ?_
    refine j_bnd (fun _ S26 e27 => ?_)
    refine j_callVv (As := [.int x1, .ref (a (100 + 24))]) (rest := []) C 1 3 Y_N_copyTo u_454 (c_N_copyTo g 24 (by decide) S22 x1 e27) rfl rfl ⟨by decide, by decide⟩ rfl rfl rfl rfl (Nat.le_of_ble_eq_true rfl) d_A_twice_22 ?_
    refine j_aload_n C 0 rfl rfl d_A_twice_25 ?_
    refine j_bnd (fun _ S29 e30 => ?_)
    refine j_callVv (As := []) (rest := []) C 0 6 Y_A_handOver u_466 (c_A_handOver g S26 e30) rfl rfl ⟨by decide, by decide⟩ rfl rfl rfl rfl (Nat.le_of_ble_eq_true rfl) d_A_twice_26 ?_
    refine j_aload_n C 0 rfl rfl d_A_twice_29 ?_
    refine gC_A_line C u_240 d_A_twice_30 ?_
    refine gnC_N_inFlight C n_46 d_A_twice_33 ?_
    exact j_iret C rfl rfl d_A_twice_36
def f_A_lose (g : Nat) (S : Mem) (x1 : Int32) : Option (Int32 × Mem) := bnd (f_N_has g S x1) (fun r21 S22 => if r21 = 0 then (some ((-1 : Int32), S22)) else (bnd (f_N_remove g S22 x1) (fun _ S26 => some (S26.1 0 0, S26))))
set_option maxRecDepth 100000 in
set_option maxHeartbeats 4000000 in
theorem c_A_lose {l : Launch} {D : va_G} {cI cJ cZ cL : ClassId} {a : Nat → Nat} (g : Nat) (S : Mem) (x1 : Int32) {r : Int32} {S9 : Mem} (h : f_A_lose g S x1 = some (r, S9)) : Ctr l y_A_lose prog_1_method_13_code 2 (some .int) rm_A_lose D (tyT cI cJ cZ cL) (wdC cI cJ cZ cL a) [.ref (a 0), .int x1] S (vI r, S9) := by
  refine Ctr.of (lv0 := [(0, .ref (a 0)), (1, .int x1)]) (vv := vI) (by decide) rfl (wdC_fst cI cJ cZ cL a) (Nat.le_of_ble_eq_true rfl) rfl (fun p e s m args below meth c A C => ?_) r S9 h
  unfold f_A_lose
  refine j_aload_n C 0 rfl rfl d_A_lose_0 ?_
  refine gC_A_line C u_240 d_A_lose_1 ?_
  refine j_iload_n C 1 rfl rfl d_A_lose_4 ?_
  refine j_bnd (fun r21 S22 e23 => ?_)
  refine j_callVi (As := [.int x1]) (rest := []) C 1 3 Y_N_has u_453 (c_N_has g S x1 e23) rfl rfl ⟨by decide, by decide⟩ rfl rfl rfl rfl (Nat.le_of_ble_eq_true rfl) d_A_lose_5 ?_
  refine j_if_ne (tgt := 13) C d_A_lose_8 (by decide) (fun h24 => ?_) (fun h24 => ?_)
  · refine j_iconst (v := -1) C (by decide) d_A_lose_11 ?_
    exact j_iret C rfl rfl d_A_lose_12
  · refine j_aload_n C 0 rfl rfl d_A_lose_13 ?_
    refine gC_A_line C u_240 d_A_lose_14 ?_
    refine j_iload_n C 1 rfl rfl d_A_lose_17 ?_
    refine j_bnd (fun _ S26 e27 => ?_)
    refine j_callVv (As := [.int x1]) (rest := []) C 1 3 Y_N_remove u_465 (c_N_remove g S22 x1 e27) rfl rfl ⟨by decide, by decide⟩ rfl rfl rfl rfl (Nat.le_of_ble_eq_true rfl) d_A_lose_18 ?_
    refine j_aload_n C 0 rfl rfl d_A_lose_21 ?_
    refine gC_A_line C u_240 d_A_lose_22 ?_
    refine gnC_N_inFlight C n_46 d_A_lose_25 ?_
    exact j_iret C rfl rfl d_A_lose_28
def f_N_changeByte (g : Nat) (S : Mem) (x1 : Int32) (x2 : Int32) (x3 : Int32) : Option (Int32 × Mem) := bnd (f_N_has g S x1) (fun r21 S22 => if r21 = 0 then (some ((0 : Int32), S22)) else (bnd (f_A_isWithin g S22 x2.toInt64 (0 : Int64) (12 : Int64)) (fun r25 S26 => if r25 = 0 then (some ((0 : Int32), S26)) else (bnd (f_A_isWithin g S26 x3.toInt64 (1 : Int64) (255 : Int64)) (fun r29 S30 => if r29 = 0 then (some ((0 : Int32), S30)) else (grd (¬ (x1 < 0 ∨ 24 ≤ x1.toNatClampNeg)) (lt (S30.2.2.1 x1.toNatClampNeg) (fun j34 => grd (j34 < 25) (grd (¬ (x2 < 0 ∨ 13 ≤ x2.toNatClampNeg)) (grd (¬ (x2 < 0 ∨ 13 ≤ x2.toNatClampNeg)) (lt (sB S30 j34 x2.toNatClampNeg ((S30.2.2.2.2 j34 x2.toNatClampNeg) ^^^ x3)) (fun S37 => some ((1 : Int32), S37)))))))))))))
set_option maxRecDepth 100000 in
set_option maxHeartbeats 4000000 in
theorem c_N_changeByte {l : Launch} {D : va_G} {cI cJ cZ cL : ClassId} {a : Nat → Nat} (g : Nat) (S : Mem) (x1 : Int32) (x2 : Int32) (x3 : Int32) {r : Int32} {S9 : Mem} (h : f_N_changeByte g S x1 x2 x3 = some (r, S9)) : Ctr l y_N_changeByte prog_5_method_6_code 4 (some .boolean) rm_N_changeByte D (tyT cI cJ cZ cL) (wdC cI cJ cZ cL a) [.ref (a 1), .int x1, .int x2, .int x3] S (vI r, S9) := by
  refine Ctr.of (lv0 := [(0, .ref (a 1)), (1, .int x1), (2, .int x2), (3, .int x3)]) (vv := vI) (by decide) rfl (wdC_fst cI cJ cZ cL a) (Nat.le_of_ble_eq_true rfl) rfl (fun p e s m args below meth c A C => ?_) r S9 h
  unfold f_N_changeByte
  refine j_aload_n C 0 rfl rfl d_N_changeByte_0 ?_
  refine j_iload_n C 1 rfl rfl d_N_changeByte_1 ?_
  refine j_bnd (fun r21 S22 e23 => ?_)
  refine j_callVi (As := [.int x1]) (rest := []) C 1 3 Y_N_has u_342 (c_N_has g S x1 e23) rfl rfl ⟨by decide, by decide⟩ rfl rfl rfl rfl (Nat.le_of_ble_eq_true rfl) d_N_changeByte_2 ?_
  refine j_if_eq (tgt := 32) C d_N_changeByte_5 (by decide) (fun h24 => ?_) (fun h24 => ?_)
  · refine j_iconst (v := 0) C (by decide) d_N_changeByte_32 ?_
    exact j_zret C (Or.inl rfl) rfl rfl d_N_changeByte_33
  · refine j_iload_n C 2 rfl rfl d_N_changeByte_8 ?_
    refine j_i2l C d_N_changeByte_9 ?_
    refine j_lconst (v := 0) C rfl d_N_changeByte_10 ?_
    refine j_ldc2 (v := 12) C u_572 d_N_changeByte_11 ?_
    refine j_bnd (fun r25 S26 e27 => ?_)
    refine j_callSNi (As := [.long x2.toInt64, .long (0 : Int64), .long (12 : Int64)]) (rest := []) C Y_A_isWithin n_573 (c_A_isWithin g S22 x2.toInt64 (0 : Int64) (12 : Int64) e27) rfl rfl ⟨by decide, by decide⟩ rfl rfl (Nat.le_of_ble_eq_true rfl) d_N_changeByte_14 ?_
    refine j_if_eq (tgt := 32) C d_N_changeByte_17 (by decide) (fun h28 => ?_) (fun h28 => ?_)
    · refine j_iconst (v := 0) C (by decide) d_N_changeByte_32 ?_
      exact j_zret C (Or.inl rfl) rfl rfl d_N_changeByte_33
    · refine j_iload_n C 3 rfl rfl d_N_changeByte_20 ?_
      refine j_i2l C d_N_changeByte_21 ?_
      refine j_lconst (v := 1) C rfl d_N_changeByte_22 ?_
      refine j_ldc2 (v := 255) C u_574 d_N_changeByte_23 ?_
      refine j_bnd (fun r29 S30 e31 => ?_)
      refine j_callSNi (As := [.long x3.toInt64, .long (1 : Int64), .long (255 : Int64)]) (rest := []) C Y_A_isWithin n_573 (c_A_isWithin g S26 x3.toInt64 (1 : Int64) (255 : Int64) e31) rfl rfl ⟨by decide, by decide⟩ rfl rfl (Nat.le_of_ble_eq_true rfl) d_N_changeByte_26 ?_
      refine j_if_ne (tgt := 34) C d_N_changeByte_29 (by decide) (fun h32 => ?_) (fun h32 => ?_)
      · refine j_iconst (v := 0) C (by decide) d_N_changeByte_32 ?_
        exact j_zret C (Or.inl rfl) rfl rfl d_N_changeByte_33
      · refine j_aload_n C 0 rfl rfl d_N_changeByte_34 ?_
        refine gC_N_letters C u_44 d_N_changeByte_35 ?_
        refine j_iload_n C 1 rfl rfl d_N_changeByte_38 ?_
        refine j_grd (fun h33 => ?_)
        refine lC_N_letters C h33 d_N_changeByte_39 ?_
        refine j_ltE (fun j34 => ?_)
        refine j_grd (fun hj34 => ?_)
        refine gnC_E_bytes C hj34 n_34 d_N_changeByte_40 ?_
        refine j_iload_n C 2 rfl rfl d_N_changeByte_43 ?_
        refine j_dup2 C rfl rfl d_N_changeByte_44 ?_
        refine j_grd (fun h35 => ?_)
        refine lC_bytes C hj34 h35 d_N_changeByte_45 ?_
        refine j_iload_n C 3 rfl rfl d_N_changeByte_46 ?_
        refine j_ixor C d_N_changeByte_47 ?_
        refine j_grd (fun h36 => ?_)
        refine sC_bytes C hj34 h36 d_N_changeByte_48 ?_
        refine j_ltS (fun S37 => ?_)
        refine j_iconst (v := 1) C (by decide) d_N_changeByte_49 ?_
        exact j_zret C (Or.inr rfl) rfl rfl d_N_changeByte_50
def f_A_poke (g : Nat) (S : Mem) (x1 : Int32) (x2 : Int32) (x3 : Int32) : Option (Int32 × Mem) := bnd (f_N_changeByte g S x1 x2 x3) (fun r21 S22 => grd (r21 = 0 ∨ r21 = 1) (some (r21, S22)))
set_option maxRecDepth 100000 in
set_option maxHeartbeats 4000000 in
theorem c_A_poke {l : Launch} {D : va_G} {cI cJ cZ cL : ClassId} {a : Nat → Nat} (g : Nat) (S : Mem) (x1 : Int32) (x2 : Int32) (x3 : Int32) {r : Int32} {S9 : Mem} (h : f_A_poke g S x1 x2 x3 = some (r, S9)) : Ctr l y_A_poke prog_1_method_14_code 4 (some .boolean) rm_A_poke D (tyT cI cJ cZ cL) (wdC cI cJ cZ cL a) [.ref (a 0), .int x1, .int x2, .int x3] S (vI r, S9) := by
  refine Ctr.of (lv0 := [(0, .ref (a 0)), (1, .int x1), (2, .int x2), (3, .int x3)]) (vv := vI) (by decide) rfl (wdC_fst cI cJ cZ cL a) (Nat.le_of_ble_eq_true rfl) rfl (fun p e s m args below meth c A C => ?_) r S9 h
  unfold f_A_poke
  refine j_aload_n C 0 rfl rfl d_A_poke_0 ?_
  refine gC_A_line C u_240 d_A_poke_1 ?_
  refine j_iload_n C 1 rfl rfl d_A_poke_4 ?_
  refine j_iload_n C 2 rfl rfl d_A_poke_5 ?_
  refine j_iload_n C 3 rfl rfl d_A_poke_6 ?_
  refine j_bnd (fun r21 S22 e23 => ?_)
  refine j_callVi (As := [.int x1, .int x2, .int x3]) (rest := []) C 1 3 Y_N_changeByte u_568 (c_N_changeByte g S x1 x2 x3 e23) rfl rfl ⟨by decide, by decide⟩ rfl rfl rfl rfl (Nat.le_of_ble_eq_true rfl) d_A_poke_7 ?_
  refine j_grd (fun h24 => ?_)
  exact j_zret C h24 rfl rfl d_A_poke_10
def f_N_byteOf (g : Nat) (S : Mem) (x1 : Int32) (x2 : Int32) : Option (Int32 × Mem) := bnd (f_N_has g S x1) (fun r21 S22 => if r21 = 0 then (some ((-1 : Int32), S22)) else (bnd (f_A_isWithin g S22 x2.toInt64 (0 : Int64) (12 : Int64)) (fun r25 S26 => if r25 = 0 then (some ((-1 : Int32), S26)) else (grd (¬ (x1 < 0 ∨ 24 ≤ x1.toNatClampNeg)) (lt (S26.2.2.1 x1.toNatClampNeg) (fun j30 => grd (j30 < 25) (grd (¬ (x2 < 0 ∨ 13 ≤ x2.toNatClampNeg)) (some (S26.2.2.2.2 j30 x2.toNatClampNeg, S26)))))))))
set_option maxRecDepth 100000 in
set_option maxHeartbeats 4000000 in
theorem c_N_byteOf {l : Launch} {D : va_G} {cI cJ cZ cL : ClassId} {a : Nat → Nat} (g : Nat) (S : Mem) (x1 : Int32) (x2 : Int32) {r : Int32} {S9 : Mem} (h : f_N_byteOf g S x1 x2 = some (r, S9)) : Ctr l y_N_byteOf prog_5_method_7_code 3 (some .int) rm_N_byteOf D (tyT cI cJ cZ cL) (wdC cI cJ cZ cL a) [.ref (a 1), .int x1, .int x2] S (vI r, S9) := by
  refine Ctr.of (lv0 := [(0, .ref (a 1)), (1, .int x1), (2, .int x2)]) (vv := vI) (by decide) rfl (wdC_fst cI cJ cZ cL a) (Nat.le_of_ble_eq_true rfl) rfl (fun p e s m args below meth c A C => ?_) r S9 h
  unfold f_N_byteOf
  refine j_aload_n C 0 rfl rfl d_N_byteOf_0 ?_
  refine j_iload_n C 1 rfl rfl d_N_byteOf_1 ?_
  refine j_bnd (fun r21 S22 e23 => ?_)
  refine j_callVi (As := [.int x1]) (rest := []) C 1 3 Y_N_has u_342 (c_N_has g S x1 e23) rfl rfl ⟨by decide, by decide⟩ rfl rfl rfl rfl (Nat.le_of_ble_eq_true rfl) d_N_byteOf_2 ?_
  refine j_if_eq (tgt := 20) C d_N_byteOf_5 (by decide) (fun h24 => ?_) (fun h24 => ?_)
  · refine j_iconst (v := -1) C (by decide) d_N_byteOf_20 ?_
    exact j_iret C rfl rfl d_N_byteOf_21
  · refine j_iload_n C 2 rfl rfl d_N_byteOf_8 ?_
    refine j_i2l C d_N_byteOf_9 ?_
    refine j_lconst (v := 0) C rfl d_N_byteOf_10 ?_
    refine j_ldc2 (v := 12) C u_572 d_N_byteOf_11 ?_
    refine j_bnd (fun r25 S26 e27 => ?_)
    refine j_callSNi (As := [.long x2.toInt64, .long (0 : Int64), .long (12 : Int64)]) (rest := []) C Y_A_isWithin n_573 (c_A_isWithin g S22 x2.toInt64 (0 : Int64) (12 : Int64) e27) rfl rfl ⟨by decide, by decide⟩ rfl rfl (Nat.le_of_ble_eq_true rfl) d_N_byteOf_14 ?_
    refine j_if_ne (tgt := 22) C d_N_byteOf_17 (by decide) (fun h28 => ?_) (fun h28 => ?_)
    · refine j_iconst (v := -1) C (by decide) d_N_byteOf_20 ?_
      exact j_iret C rfl rfl d_N_byteOf_21
    · refine j_aload_n C 0 rfl rfl d_N_byteOf_22 ?_
      refine gC_N_letters C u_44 d_N_byteOf_23 ?_
      refine j_iload_n C 1 rfl rfl d_N_byteOf_26 ?_
      refine j_grd (fun h29 => ?_)
      refine lC_N_letters C h29 d_N_byteOf_27 ?_
      refine j_ltE (fun j30 => ?_)
      refine j_grd (fun hj30 => ?_)
      refine gnC_E_bytes C hj30 n_34 d_N_byteOf_28 ?_
      refine j_iload_n C 2 rfl rfl d_N_byteOf_31 ?_
      refine j_grd (fun h31 => ?_)
      refine lC_bytes C hj30 h31 d_N_byteOf_32 ?_
      exact j_iret C rfl rfl d_N_byteOf_33
def f_A_letter (g : Nat) (S : Mem) (x1 : Int32) (x2 : Int32) : Option (Int32 × Mem) := bnd (f_N_byteOf g S x1 x2) (fun r21 S22 => some (r21, S22))
set_option maxRecDepth 100000 in
set_option maxHeartbeats 4000000 in
theorem c_A_letter {l : Launch} {D : va_G} {cI cJ cZ cL : ClassId} {a : Nat → Nat} (g : Nat) (S : Mem) (x1 : Int32) (x2 : Int32) {r : Int32} {S9 : Mem} (h : f_A_letter g S x1 x2 = some (r, S9)) : Ctr l y_A_letter prog_1_method_15_code 3 (some .int) rm_A_letter D (tyT cI cJ cZ cL) (wdC cI cJ cZ cL a) [.ref (a 0), .int x1, .int x2] S (vI r, S9) := by
  refine Ctr.of (lv0 := [(0, .ref (a 0)), (1, .int x1), (2, .int x2)]) (vv := vI) (by decide) rfl (wdC_fst cI cJ cZ cL a) (Nat.le_of_ble_eq_true rfl) rfl (fun p e s m args below meth c A C => ?_) r S9 h
  unfold f_A_letter
  refine j_aload_n C 0 rfl rfl d_A_letter_0 ?_
  refine gC_A_line C u_240 d_A_letter_1 ?_
  refine j_iload_n C 1 rfl rfl d_A_letter_4 ?_
  refine j_iload_n C 2 rfl rfl d_A_letter_5 ?_
  refine j_bnd (fun r21 S22 e23 => ?_)
  refine j_callVi (As := [.int x1, .int x2]) (rest := []) C 1 3 Y_N_byteOf u_579 (c_N_byteOf g S x1 x2 e23) rfl rfl ⟨by decide, by decide⟩ rfl rfl rfl rfl (Nat.le_of_ble_eq_true rfl) d_A_letter_6 ?_
  exact j_iret C rfl rfl d_A_letter_9
def f_M_switchOff (g : Nat) (S : Mem) : Option (Int32 × Mem) := if (S.1 11 0) = 0 then (some ((0 : Int32), S)) else (lt (sI S 11 0 (0 : Int32)) (fun S22 => some ((1 : Int32), S22)))
set_option maxRecDepth 100000 in
set_option maxHeartbeats 4000000 in
theorem c_M_switchOff {l : Launch} {D : va_G} {cI cJ cZ cL : ClassId} {a : Nat → Nat} (g : Nat) (S : Mem) {r : Int32} {S9 : Mem} (h : f_M_switchOff g S = some (r, S9)) : Ctr l y_M_switchOff prog_6_method_15_code 1 (some .boolean) rm_M_switchOff D (tyT cI cJ cZ cL) (wdC cI cJ cZ cL a) [.ref (a 3)] S (vI r, S9) := by
  refine Ctr.of (lv0 := [(0, .ref (a 3))]) (vv := vI) (by decide) rfl (wdC_fst cI cJ cZ cL a) (Nat.le_of_ble_eq_true rfl) rfl (fun p e s m args below meth c A C => ?_) r S9 h
  unfold f_M_switchOff
  refine j_aload_n C 0 rfl rfl d_M_switchOff_0 ?_
  refine gC_M_on C u_189 d_M_switchOff_1 ?_
  refine j_if_ne (tgt := 9) C d_M_switchOff_4 (by decide) (fun h21 => ?_) (fun h21 => ?_)
  · refine j_iconst (v := 0) C (by decide) d_M_switchOff_7 ?_
    exact j_zret C (Or.inl rfl) rfl rfl d_M_switchOff_8
  · refine j_aload_n C 0 rfl rfl d_M_switchOff_9 ?_
    refine j_iconst (v := 0) C (by decide) d_M_switchOff_10 ?_
    refine pC_M_on C (Or.inl rfl) u_189 d_M_switchOff_11 ?_
    refine j_ltS (fun S22 => ?_)
    refine j_iconst (v := 1) C (by decide) d_M_switchOff_14 ?_
    exact j_zret C (Or.inr rfl) rfl rfl d_M_switchOff_15
def f_A_cut (g : Nat) (S : Mem) : Option (Int32 × Mem) := bnd (f_M_switchOff g S) (fun r21 S22 => grd (r21 = 0 ∨ r21 = 1) (some (r21, S22)))
set_option maxRecDepth 100000 in
set_option maxHeartbeats 4000000 in
theorem c_A_cut {l : Launch} {D : va_G} {cI cJ cZ cL : ClassId} {a : Nat → Nat} (g : Nat) (S : Mem) {r : Int32} {S9 : Mem} (h : f_A_cut g S = some (r, S9)) : Ctr l y_A_cut prog_1_method_16_code 1 (some .boolean) rm_A_cut D (tyT cI cJ cZ cL) (wdC cI cJ cZ cL a) [.ref (a 0)] S (vI r, S9) := by
  refine Ctr.of (lv0 := [(0, .ref (a 0))]) (vv := vI) (by decide) rfl (wdC_fst cI cJ cZ cL a) (Nat.le_of_ble_eq_true rfl) rfl (fun p e s m args below meth c A C => ?_) r S9 h
  unfold f_A_cut
  refine j_aload_n C 0 rfl rfl d_A_cut_0 ?_
  refine gC_A_machine C u_242 d_A_cut_1 ?_
  refine j_bnd (fun r21 S22 e23 => ?_)
  refine j_callVi (As := []) (rest := []) C 3 4 Y_M_switchOff u_587 (c_M_switchOff g S e23) rfl rfl ⟨by decide, by decide⟩ rfl rfl rfl rfl (Nat.le_of_ble_eq_true rfl) d_A_cut_4 ?_
  refine j_grd (fun h24 => ?_)
  exact j_zret C h24 rfl rfl d_A_cut_7
def f_M_allowSteps (g : Nat) (S : Mem) (x1 : Int32) : Option (Int32 × Mem) := if (S.1 11 0) = 0 then (some ((0 : Int32), S)) else (bnd (f_A_isWithin g S x1.toInt64 (0 : Int64) (100 : Int64)) (fun r22 S23 => if r22 = 0 then (some ((0 : Int32), S23)) else (lt (sI S23 12 0 x1) (fun S26 => some ((1 : Int32), S26)))))
set_option maxRecDepth 100000 in
set_option maxHeartbeats 4000000 in
theorem c_M_allowSteps {l : Launch} {D : va_G} {cI cJ cZ cL : ClassId} {a : Nat → Nat} (g : Nat) (S : Mem) (x1 : Int32) {r : Int32} {S9 : Mem} (h : f_M_allowSteps g S x1 = some (r, S9)) : Ctr l y_M_allowSteps prog_6_method_16_code 2 (some .boolean) rm_M_allowSteps D (tyT cI cJ cZ cL) (wdC cI cJ cZ cL a) [.ref (a 3), .int x1] S (vI r, S9) := by
  refine Ctr.of (lv0 := [(0, .ref (a 3)), (1, .int x1)]) (vv := vI) (by decide) rfl (wdC_fst cI cJ cZ cL a) (Nat.le_of_ble_eq_true rfl) rfl (fun p e s m args below meth c A C => ?_) r S9 h
  unfold f_M_allowSteps
  refine j_aload_n C 0 rfl rfl d_M_allowSteps_0 ?_
  refine gC_M_on C u_189 d_M_allowSteps_1 ?_
  refine j_if_eq (tgt := 19) C d_M_allowSteps_4 (by decide) (fun h21 => ?_) (fun h21 => ?_)
  · refine j_iconst (v := 0) C (by decide) d_M_allowSteps_19 ?_
    exact j_zret C (Or.inl rfl) rfl rfl d_M_allowSteps_20
  · refine j_iload_n C 1 rfl rfl d_M_allowSteps_7 ?_
    refine j_i2l C d_M_allowSteps_8 ?_
    refine j_lconst (v := 0) C rfl d_M_allowSteps_9 ?_
    refine j_ldc2 (v := 100) C u_599 d_M_allowSteps_10 ?_
    refine j_bnd (fun r22 S23 e24 => ?_)
    refine j_callSNi (As := [.long x1.toInt64, .long (0 : Int64), .long (100 : Int64)]) (rest := []) C Y_A_isWithin n_600 (c_A_isWithin g S x1.toInt64 (0 : Int64) (100 : Int64) e24) rfl rfl ⟨by decide, by decide⟩ rfl rfl (Nat.le_of_ble_eq_true rfl) d_M_allowSteps_13 ?_
    refine j_if_ne (tgt := 21) C d_M_allowSteps_16 (by decide) (fun h25 => ?_) (fun h25 => ?_)
    · refine j_iconst (v := 0) C (by decide) d_M_allowSteps_19 ?_
      exact j_zret C (Or.inl rfl) rfl rfl d_M_allowSteps_20
    · refine j_aload_n C 0 rfl rfl d_M_allowSteps_21 ?_
      refine j_iload_n C 1 rfl rfl d_M_allowSteps_22 ?_
      refine pC_M_stepsLeft C u_191 d_M_allowSteps_23 ?_
      refine j_ltS (fun S26 => ?_)
      refine j_iconst (v := 1) C (by decide) d_M_allowSteps_26 ?_
      exact j_zret C (Or.inr rfl) rfl rfl d_M_allowSteps_27
def f_A_arm (g : Nat) (S : Mem) (x1 : Int32) : Option (Int32 × Mem) := bnd (f_M_allowSteps g S x1) (fun r21 S22 => grd (r21 = 0 ∨ r21 = 1) (some (r21, S22)))
set_option maxRecDepth 100000 in
set_option maxHeartbeats 4000000 in
theorem c_A_arm {l : Launch} {D : va_G} {cI cJ cZ cL : ClassId} {a : Nat → Nat} (g : Nat) (S : Mem) (x1 : Int32) {r : Int32} {S9 : Mem} (h : f_A_arm g S x1 = some (r, S9)) : Ctr l y_A_arm prog_1_method_17_code 2 (some .boolean) rm_A_arm D (tyT cI cJ cZ cL) (wdC cI cJ cZ cL a) [.ref (a 0), .int x1] S (vI r, S9) := by
  refine Ctr.of (lv0 := [(0, .ref (a 0)), (1, .int x1)]) (vv := vI) (by decide) rfl (wdC_fst cI cJ cZ cL a) (Nat.le_of_ble_eq_true rfl) rfl (fun p e s m args below meth c A C => ?_) r S9 h
  unfold f_A_arm
  refine j_aload_n C 0 rfl rfl d_A_arm_0 ?_
  refine gC_A_machine C u_242 d_A_arm_1 ?_
  refine j_iload_n C 1 rfl rfl d_A_arm_4 ?_
  refine j_bnd (fun r21 S22 e23 => ?_)
  refine j_callVi (As := [.int x1]) (rest := []) C 3 4 Y_M_allowSteps u_595 (c_M_allowSteps g S x1 e23) rfl rfl ⟨by decide, by decide⟩ rfl rfl rfl rfl (Nat.le_of_ble_eq_true rfl) d_A_arm_5 ?_
  refine j_grd (fun h24 => ?_)
  exact j_zret C h24 rfl rfl d_A_arm_8
def f_J_tell (g : Nat) (S : Mem) (x1 : Int32) (x2 : Int32) : Option (Int32 × Mem) := bnd (f_A_isWithin g S x1.toInt64 (0 : Int64) (((S.1 36 0) - (1 : Int32)).toInt64)) (fun r21 S22 => if r21 = 0 then (some ((-1 : Int32), S22)) else (if x2 = (0 : Int32) then (grd (¬ (x1 < 0 ∨ 300 ≤ x1.toNatClampNeg)) (some (S22.1 32 x1.toNatClampNeg, S22))) else (if x2 = (1 : Int32) then (grd (¬ (x1 < 0 ∨ 300 ≤ x1.toNatClampNeg)) (some (S22.1 33 x1.toNatClampNeg, S22))) else (if x2 = (2 : Int32) then (grd (¬ (x1 < 0 ∨ 300 ≤ x1.toNatClampNeg)) (some (S22.1 34 x1.toNatClampNeg, S22))) else (if x2 = (3 : Int32) then (grd (¬ (x1 < 0 ∨ 300 ≤ x1.toNatClampNeg)) (some (S22.1 35 x1.toNatClampNeg, S22))) else (some ((-1 : Int32), S22)))))))
set_option maxRecDepth 100000 in
set_option maxHeartbeats 4000000 in
theorem c_J_tell {l : Launch} {D : va_G} {cI cJ cZ cL : ClassId} {a : Nat → Nat} (g : Nat) (S : Mem) (x1 : Int32) (x2 : Int32) {r : Int32} {S9 : Mem} (h : f_J_tell g S x1 x2 = some (r, S9)) : Ctr l y_J_tell prog_3_method_4_code 3 (some .int) rm_J_tell D (tyT cI cJ cZ cL) (wdC cI cJ cZ cL a) [.ref (a 5), .int x1, .int x2] S (vI r, S9) := by
  refine Ctr.of (lv0 := [(0, .ref (a 5)), (1, .int x1), (2, .int x2)]) (vv := vI) (by decide) rfl (wdC_fst cI cJ cZ cL a) (Nat.le_of_ble_eq_true rfl) rfl (fun p e s m args below meth c A C => ?_) r S9 h
  unfold f_J_tell
  refine j_iload_n C 1 rfl rfl d_J_tell_0 ?_
  refine j_i2l C d_J_tell_1 ?_
  refine j_lconst (v := 0) C rfl d_J_tell_2 ?_
  refine j_aload_n C 0 rfl rfl d_J_tell_3 ?_
  refine gC_J_size C u_169 d_J_tell_4 ?_
  refine j_iconst (v := 1) C (by decide) d_J_tell_7 ?_
  refine j_isub C d_J_tell_8 ?_
  refine j_i2l C d_J_tell_9 ?_
  refine j_bnd (fun r21 S22 e23 => ?_)
  refine j_callSNi (As := [.long x1.toInt64, .long (0 : Int64), .long (((S.1 36 0) - (1 : Int32)).toInt64)]) (rest := []) C Y_A_isWithin n_621 (c_A_isWithin g S x1.toInt64 (0 : Int64) (((S.1 36 0) - (1 : Int32)).toInt64) e23) rfl rfl ⟨by decide, by decide⟩ rfl rfl (Nat.le_of_ble_eq_true rfl) d_J_tell_10 ?_
  refine j_if_ne (tgt := 18) C d_J_tell_13 (by decide) (fun h24 => ?_) (fun h24 => ?_)
  · refine j_iconst (v := -1) C (by decide) d_J_tell_16 ?_
    exact j_iret C rfl rfl d_J_tell_17
  · refine j_iload_n C 2 rfl rfl d_J_tell_18 ?_
    refine j_if (fun h25 => ?_) (fun h25 => ?_)
    · refine j_tabIn (off := 29) (tgt := 48) C d_J_tell_19 (by rw [h25]; decide) (by rw [h25]; decide) (by rw [h25]; rfl) (by decide) ?_
      refine j_aload_n C 0 rfl rfl d_J_tell_48 ?_
      refine gC_J_kinds C u_165 d_J_tell_49 ?_
      refine j_iload_n C 1 rfl rfl d_J_tell_52 ?_
      refine j_grd (fun h26 => ?_)
      refine lC_J_kinds C h26 d_J_tell_53 ?_
      exact j_iret C rfl rfl d_J_tell_54
    refine j_if (fun h27 => ?_) (fun h27 => ?_)
    · refine j_tabIn (off := 36) (tgt := 55) C d_J_tell_19 (by rw [h27]; decide) (by rw [h27]; decide) (by rw [h27]; rfl) (by decide) ?_
      refine j_aload_n C 0 rfl rfl d_J_tell_55 ?_
      refine gC_J_traces C u_166 d_J_tell_56 ?_
      refine j_iload_n C 1 rfl rfl d_J_tell_59 ?_
      refine j_grd (fun h28 => ?_)
      refine lC_J_traces C h28 d_J_tell_60 ?_
      exact j_iret C rfl rfl d_J_tell_61
    refine j_if (fun h29 => ?_) (fun h29 => ?_)
    · refine j_tabIn (off := 43) (tgt := 62) C d_J_tell_19 (by rw [h29]; decide) (by rw [h29]; decide) (by rw [h29]; rfl) (by decide) ?_
      refine j_aload_n C 0 rfl rfl d_J_tell_62 ?_
      refine gC_J_amounts C u_167 d_J_tell_63 ?_
      refine j_iload_n C 1 rfl rfl d_J_tell_66 ?_
      refine j_grd (fun h30 => ?_)
      refine lC_J_amounts C h30 d_J_tell_67 ?_
      exact j_iret C rfl rfl d_J_tell_68
    refine j_if (fun h31 => ?_) (fun h31 => ?_)
    · refine j_tabIn (off := 50) (tgt := 69) C d_J_tell_19 (by rw [h31]; decide) (by rw [h31]; decide) (by rw [h31]; rfl) (by decide) ?_
      refine j_aload_n C 0 rfl rfl d_J_tell_69 ?_
      refine gC_J_cards C u_168 d_J_tell_70 ?_
      refine j_iload_n C 1 rfl rfl d_J_tell_73 ?_
      refine j_grd (fun h32 => ?_)
      refine lC_J_cards C h32 d_J_tell_74 ?_
      exact j_iret C rfl rfl d_J_tell_75
    refine j_tabOut (tgt := 76) C d_J_tell_19 (by have gh25 : x2.toInt ≠ 0 := fun z => h25 (Int32.toInt_inj.mp (z.trans (by decide))); have gh27 : x2.toInt ≠ 1 := fun z => h27 (Int32.toInt_inj.mp (z.trans (by decide))); have gh29 : x2.toInt ≠ 2 := fun z => h29 (Int32.toInt_inj.mp (z.trans (by decide))); have gh31 : x2.toInt ≠ 3 := fun z => h31 (Int32.toInt_inj.mp (z.trans (by decide))); omega) (by decide) ?_
    refine j_iconst (v := -1) C (by decide) d_J_tell_76 ?_
    exact j_iret C rfl rfl d_J_tell_77
def f_J_lastBegun_7 (g : Nat) : Nat → Mem → Int32 → Option ((Int32 × Mem) ⊕ (Mem × (Unit)))
  | 0, _, _ => none
  | n + 1, S, x1 => if x1 < 0 then (some (.inr (S, ()))) else (bnd (f_J_tell g S x1 (0 : Int32)) (fun r23 S24 => if r23 = (1 : Int32) then (some (.inl (x1, S24))) else (lt (x1 + (-1 : Int32)) (fun x27 => f_J_lastBegun_7 g n S24 x27))))
set_option maxRecDepth 100000 in
set_option maxHeartbeats 4000000 in
theorem lp_J_lastBegun_7 {l : Launch} {D : va_G} {cI cJ cZ cL : ClassId} {a : Nat → Nat} {p : Program} {e : Env} {s : State} {m : MethodId} {args : Array Value} {below : List Frame} {meth : Method} {c : Code} {A : Nat → Prop} (C : Cx p s m args meth c "AutoTeller$Journal" prog_3_method_6_code 2 (some .int) D (tyT cI cJ cZ cL) (wdC cI cJ cZ cL a) A) (g : Nat) {K : ((Int32 × Mem) ⊕ (Mem × (Unit))) → Option (Int32 × Mem)} (hret : ∀ t, K (.inl t) = some t) (hx : ∀ (S : Mem) (y : Unit), Tj p l e rm_J_lastBegun s m args below meth c D (wdC cI cJ cZ cL a) A 2 vI K (some (.inr (S, y))) S 29 [] []) : ∀ (n : Nat) (S : Mem) (x1 : Int32), Tj p l e rm_J_lastBegun s m args below meth c D (wdC cI cJ cZ cL a) A 2 vI K (f_J_lastBegun_7 g n S x1) S 7 [(0, .ref (a 5)), (1, .int x1)] [] := by
  intro n
  induction n with
  | zero =>
    intro S x1
    exact j_none
  | succ n ih =>
    intro S x1
    rw [f_J_lastBegun_7]
    refine j_iload_n C 1 rfl rfl d_J_lastBegun_7 ?_
    refine j_if_lt (tgt := 29) C d_J_lastBegun_8 (by decide) (fun h22 => ?_) (fun h22 => ?_)
    · refine j_sub [] rfl ?_
      exact hx S ()
    · refine j_aload_n C 0 rfl rfl d_J_lastBegun_11 ?_
      refine j_iload_n C 1 rfl rfl d_J_lastBegun_12 ?_
      refine j_iconst (v := 0) C (by decide) d_J_lastBegun_13 ?_
      refine j_bnd (fun r23 S24 e25 => ?_)
      refine j_callVi (As := [.int x1, .int (0 : Int32)]) (rest := []) C 5 1 Y_J_tell u_617 (c_J_tell g S x1 (0 : Int32) e25) rfl rfl ⟨by decide, by decide⟩ rfl rfl rfl rfl (Nat.le_of_ble_eq_true rfl) d_J_lastBegun_14 ?_
      refine j_iconst (v := 1) C (by decide) d_J_lastBegun_17 ?_
      refine j_icmp_ne (tgt := 23) C d_J_lastBegun_18 (by decide) (fun h26 => ?_) (fun h26 => ?_)
      · refine j_iload_n C 1 rfl rfl d_J_lastBegun_21 ?_
        exact j_iret C (hret _) rfl d_J_lastBegun_22
      · refine j_iincN (n2 := -1) (lv2 := fun x27 => [(1, .int x27), (0, .ref (a 5))]) C 1 rfl (by decide) (by decide) (fun _ => rfl) d_J_lastBegun_23 (fun x27 => ?_)
        refine j_goto (tgt := 7) C d_J_lastBegun_26 (by decide) ?_
        refine j_sub [1, 0] rfl ?_
        exact ih S24 x27
def f_J_lastBegun (g : Nat) (S : Mem) : Option (Int32 × Mem) := lt ((S.1 36 0) - (1 : Int32)) (fun x21 => seqR (f_J_lastBegun_7 g g S x21) some (fun S28 y29 => some ((-1 : Int32), S28)))
set_option maxRecDepth 100000 in
set_option maxHeartbeats 4000000 in
theorem c_J_lastBegun {l : Launch} {D : va_G} {cI cJ cZ cL : ClassId} {a : Nat → Nat} (g : Nat) (S : Mem) {r : Int32} {S9 : Mem} (h : f_J_lastBegun g S = some (r, S9)) : Ctr l y_J_lastBegun prog_3_method_6_code 2 (some .int) rm_J_lastBegun D (tyT cI cJ cZ cL) (wdC cI cJ cZ cL a) [.ref (a 5)] S (vI r, S9) := by
  refine Ctr.of (lv0 := [(0, .ref (a 5))]) (vv := vI) (by decide) rfl (wdC_fst cI cJ cZ cL a) (Nat.le_of_ble_eq_true rfl) rfl (fun p e s m args below meth c A C => ?_) r S9 h
  unfold f_J_lastBegun
  refine j_aload_n C 0 rfl rfl d_J_lastBegun_0 ?_
  refine gC_J_size C u_169 d_J_lastBegun_1 ?_
  refine j_iconst (v := 1) C (by decide) d_J_lastBegun_4 ?_
  refine j_isub C d_J_lastBegun_5 ?_
  refine j_lti (fun x21 => ?_)
  refine j_istore_n (i := 1) (lv2 := [(1, .int x21), (0, .ref (a 5))]) C rfl (by decide) rfl d_J_lastBegun_6 ?_
  refine j_sub [1, 0] rfl ?_
  refine j_seqR ?_
  refine lp_J_lastBegun_7 C g  (fun _ => rfl) (fun S28 y29 => ?_) g S x21
  refine j_outR ?_
  refine j_iconst (v := -1) C (by decide) d_J_lastBegun_29 ?_
  exact j_iret C rfl rfl d_J_lastBegun_30
def f_M_recallLastBegun (g : Nat) (S : Mem) : Option (Unit × Mem) := bnd (f_J_lastBegun g S) (fun r21 S22 => if r21 = (-1 : Int32) then (some ((), S22)) else (bnd (f_J_tell g S22 r21 (1 : Int32)) (fun r25 S26 => lt (sI S26 19 0 r25) (fun S28 => bnd (f_J_tell g S28 r21 (2 : Int32)) (fun r29 S30 => lt (sI S30 21 0 r29) (fun S32 => bnd (f_J_tell g S32 r21 (3 : Int32)) (fun r33 S34 => lt (sI S34 20 0 r33) (fun S36 => some ((), S36)))))))))
set_option maxRecDepth 100000 in
set_option maxHeartbeats 4000000 in
theorem c_M_recallLastBegun {l : Launch} {D : va_G} {cI cJ cZ cL : ClassId} {a : Nat → Nat} (g : Nat) (S : Mem) {r : Unit} {S9 : Mem} (h : f_M_recallLastBegun g S = some (r, S9)) : Ctr l y_M_recallLastBegun prog_6_method_18_code 2 none rm_M_recallLastBegun D (tyT cI cJ cZ cL) (wdC cI cJ cZ cL a) [.ref (a 3)] S (vV r, S9) := by
  refine Ctr.of (lv0 := [(0, .ref (a 3))]) (vv := vV) (by decide) rfl (wdC_fst cI cJ cZ cL a) (Nat.le_of_ble_eq_true rfl) rfl (fun p e s m args below meth c A C => ?_) r S9 h
  unfold f_M_recallLastBegun
  refine j_aload_n C 0 rfl rfl d_M_recallLastBegun_0 ?_
  refine gC_M_journal C u_186 d_M_recallLastBegun_1 ?_
  refine j_bnd (fun r21 S22 e23 => ?_)
  refine j_callVi (As := []) (rest := []) C 5 1 Y_J_lastBegun u_613 (c_J_lastBegun g S e23) rfl rfl ⟨by decide, by decide⟩ rfl rfl rfl rfl (Nat.le_of_ble_eq_true rfl) d_M_recallLastBegun_4 ?_
  refine j_istore_n (i := 1) (lv2 := [(1, .int r21), (0, .ref (a 3))]) C rfl (by decide) rfl d_M_recallLastBegun_7 ?_
  refine j_iload_n C 0 rfl rfl d_M_recallLastBegun_8 ?_
  refine j_iconst (v := -1) C (by decide) d_M_recallLastBegun_9 ?_
  refine j_icmp_eq (tgt := 52) C d_M_recallLastBegun_10 (by decide) (fun h24 => ?_) (fun h24 => ?_)
  · exact j_vret C rfl rfl d_M_recallLastBegun_52
  · refine j_aload_n C 1 rfl rfl d_M_recallLastBegun_13 ?_
    refine j_aload_n C 1 rfl rfl d_M_recallLastBegun_14 ?_
    refine gC_M_journal C u_186 d_M_recallLastBegun_15 ?_
    refine j_iload_n C 0 rfl rfl d_M_recallLastBegun_18 ?_
    refine j_iconst (v := 1) C (by decide) d_M_recallLastBegun_19 ?_
    refine j_bnd (fun r25 S26 e27 => ?_)
    refine j_callVi (As := [.int r21, .int (1 : Int32)]) (rest := [.ref (a 3)]) C 5 1 Y_J_tell u_622 (c_J_tell g S22 r21 (1 : Int32) e27) rfl rfl ⟨by decide, by decide⟩ rfl rfl rfl rfl (Nat.le_of_ble_eq_true rfl) d_M_recallLastBegun_20 ?_
    refine pC_M_traceAtHand C u_203 d_M_recallLastBegun_23 ?_
    refine j_ltS (fun S28 => ?_)
    refine j_aload_n C 1 rfl rfl d_M_recallLastBegun_26 ?_
    refine j_aload_n C 1 rfl rfl d_M_recallLastBegun_27 ?_
    refine gC_M_journal C u_186 d_M_recallLastBegun_28 ?_
    refine j_iload_n C 0 rfl rfl d_M_recallLastBegun_31 ?_
    refine j_iconst (v := 2) C (by decide) d_M_recallLastBegun_32 ?_
    refine j_bnd (fun r29 S30 e31 => ?_)
    refine j_callVi (As := [.int r21, .int (2 : Int32)]) (rest := [.ref (a 3)]) C 5 1 Y_J_tell u_622 (c_J_tell g S28 r21 (2 : Int32) e31) rfl rfl ⟨by decide, by decide⟩ rfl rfl rfl rfl (Nat.le_of_ble_eq_true rfl) d_M_recallLastBegun_33 ?_
    refine pC_M_amountAtHand C u_205 d_M_recallLastBegun_36 ?_
    refine j_ltS (fun S32 => ?_)
    refine j_aload_n C 1 rfl rfl d_M_recallLastBegun_39 ?_
    refine j_aload_n C 1 rfl rfl d_M_recallLastBegun_40 ?_
    refine gC_M_journal C u_186 d_M_recallLastBegun_41 ?_
    refine j_iload_n C 0 rfl rfl d_M_recallLastBegun_44 ?_
    refine j_iconst (v := 3) C (by decide) d_M_recallLastBegun_45 ?_
    refine j_bnd (fun r33 S34 e35 => ?_)
    refine j_callVi (As := [.int r21, .int (3 : Int32)]) (rest := [.ref (a 3)]) C 5 1 Y_J_tell u_622 (c_J_tell g S32 r21 (3 : Int32) e35) rfl rfl ⟨by decide, by decide⟩ rfl rfl rfl rfl (Nat.le_of_ble_eq_true rfl) d_M_recallLastBegun_46 ?_
    refine pC_M_cardAtHand C u_204 d_M_recallLastBegun_49 ?_
    refine j_ltS (fun S36 => ?_)
    exact j_vret C rfl rfl d_M_recallLastBegun_52
def f_J_lastKind (g : Nat) (S : Mem) : Option (Int32 × Mem) := bnd (f_J_tell g S ((S.1 36 0) - (1 : Int32)) (0 : Int32)) (fun r21 S22 => some (r21, S22))
set_option maxRecDepth 100000 in
set_option maxHeartbeats 4000000 in
theorem c_J_lastKind {l : Launch} {D : va_G} {cI cJ cZ cL : ClassId} {a : Nat → Nat} (g : Nat) (S : Mem) {r : Int32} {S9 : Mem} (h : f_J_lastKind g S = some (r, S9)) : Ctr l y_J_lastKind prog_3_method_5_code 1 (some .int) rm_J_lastKind D (tyT cI cJ cZ cL) (wdC cI cJ cZ cL a) [.ref (a 5)] S (vI r, S9) := by
  refine Ctr.of (lv0 := [(0, .ref (a 5))]) (vv := vI) (by decide) rfl (wdC_fst cI cJ cZ cL a) (Nat.le_of_ble_eq_true rfl) rfl (fun p e s m args below meth c A C => ?_) r S9 h
  unfold f_J_lastKind
  refine j_aload_n C 0 rfl rfl d_J_lastKind_0 ?_
  refine j_aload_n C 0 rfl rfl d_J_lastKind_1 ?_
  refine gC_J_size C u_169 d_J_lastKind_2 ?_
  refine j_iconst (v := 1) C (by decide) d_J_lastKind_5 ?_
  refine j_isub C d_J_lastKind_6 ?_
  refine j_iconst (v := 0) C (by decide) d_J_lastKind_7 ?_
  refine j_bnd (fun r21 S22 e23 => ?_)
  refine j_callVi (As := [.int ((S.1 36 0) - (1 : Int32)), .int (0 : Int32)]) (rest := []) C 5 1 Y_J_tell u_617 (c_J_tell g S ((S.1 36 0) - (1 : Int32)) (0 : Int32) e23) rfl rfl ⟨by decide, by decide⟩ rfl rfl rfl rfl (Nat.le_of_ble_eq_true rfl) d_J_lastKind_8 ?_
  exact j_iret C rfl rfl d_J_lastKind_11
def f_M_switchOn (g : Nat) (S : Mem) : Option (Int32 × Mem) := if (S.1 11 0) = 0 then (lt (sI S 11 0 (1 : Int32)) (fun S22 => lt (sI S22 12 0 (-1 : Int32)) (fun S23 => bnd (f_M_endWithoutCard g S23) (fun _ S25 => bnd (f_M_recallLastBegun g S25) (fun _ S28 => bnd (f_J_lastKind g S28) (fun r30 S31 => if r30 = (1 : Int32) then (bnd (f_M_reverse g S31 (1 : Int32)) (fun _ S35 => some ((1 : Int32), S35))) else (if r30 = (2 : Int32) then (if (S31.1 16 0) ≤ (S31.1 17 0) then (bnd (f_J_lastKind g S31) (fun r39 S40 => if r39 = (2 : Int32) then (bnd (f_M_reverse g S40 (1 : Int32)) (fun _ S44 => some ((1 : Int32), S44))) else (bnd (f_M_reverse g S40 (0 : Int32)) (fun _ S47 => some ((1 : Int32), S47))))) else (bnd (f_M_write g S31 (3 : Int32)) (fun r49 S50 => some ((1 : Int32), S50)))) else (if r30 = (3 : Int32) then (some ((1 : Int32), S31)) else (if r30 = (4 : Int32) then (if (S31.1 16 0) ≤ (S31.1 17 0) then (bnd (f_J_lastKind g S31) (fun r55 S56 => if r55 = (2 : Int32) then (bnd (f_M_reverse g S56 (1 : Int32)) (fun _ S60 => some ((1 : Int32), S60))) else (bnd (f_M_reverse g S56 (0 : Int32)) (fun _ S63 => some ((1 : Int32), S63))))) else (bnd (f_M_write g S31 (3 : Int32)) (fun r65 S66 => some ((1 : Int32), S66)))) else (some ((1 : Int32), S31))))))))))) else (some ((0 : Int32), S))
set_option maxRecDepth 100000 in
set_option maxHeartbeats 4000000 in
theorem c_M_switchOn {l : Launch} {D : va_G} {cI cJ cZ cL : ClassId} {a : Nat → Nat} (g : Nat) (S : Mem) {r : Int32} {S9 : Mem} (h : f_M_switchOn g S = some (r, S9)) : Ctr l y_M_switchOn prog_6_method_17_code 1 (some .boolean) rm_M_switchOn D (tyT cI cJ cZ cL) (wdC cI cJ cZ cL a) [.ref (a 3)] S (vI r, S9) := by
  refine Ctr.of (lv0 := [(0, .ref (a 3))]) (vv := vI) (by decide) rfl (wdC_fst cI cJ cZ cL a) (Nat.le_of_ble_eq_true rfl) rfl (fun p e s m args below meth c A C => ?_) r S9 h
  unfold f_M_switchOn
  refine j_aload_n C 0 rfl rfl d_M_switchOn_0 ?_
  refine gC_M_on C u_189 d_M_switchOn_1 ?_
  refine j_if_eq (tgt := 9) C d_M_switchOn_4 (by decide) (fun h21 => ?_) (fun h21 => ?_)
  · refine j_aload_n C 0 rfl rfl d_M_switchOn_9 ?_
    refine j_iconst (v := 1) C (by decide) d_M_switchOn_10 ?_
    refine pC_M_on C (Or.inr rfl) u_189 d_M_switchOn_11 ?_
    refine j_ltS (fun S22 => ?_)
    refine j_aload_n C 0 rfl rfl d_M_switchOn_14 ?_
    refine j_iconst (v := -1) C (by decide) d_M_switchOn_15 ?_
    refine pC_M_stepsLeft C u_191 d_M_switchOn_16 ?_
    refine j_ltS (fun S23 => ?_)
    refine j_aload_n C 0 rfl rfl d_M_switchOn_19 ?_
    refine j_bnd (fun _ S25 e26 => ?_)
    refine j_callVv (As := []) (rest := []) C 3 4 Y_M_endWithoutCard u_412 (c_M_endWithoutCard g S23 e26) rfl rfl ⟨by decide, by decide⟩ rfl rfl rfl rfl (Nat.le_of_ble_eq_true rfl) d_M_switchOn_20 ?_
    refine j_aload_n C 0 rfl rfl d_M_switchOn_23 ?_
    refine j_bnd (fun _ S28 e29 => ?_)
    refine j_callVv (As := []) (rest := []) C 3 4 Y_M_recallLastBegun u_609 (c_M_recallLastBegun g S25 e29) rfl rfl ⟨by decide, by decide⟩ rfl rfl rfl rfl (Nat.le_of_ble_eq_true rfl) d_M_switchOn_24 ?_
    refine j_aload_n C 0 rfl rfl d_M_switchOn_27 ?_
    refine gC_M_journal C u_186 d_M_switchOn_28 ?_
    refine j_bnd (fun r30 S31 e32 => ?_)
    refine j_callVi (As := []) (rest := []) C 5 1 Y_J_lastKind u_623 (c_J_lastKind g S28 e32) rfl rfl ⟨by decide, by decide⟩ rfl rfl rfl rfl (Nat.le_of_ble_eq_true rfl) d_M_switchOn_31 ?_
    refine j_if (fun h33 => ?_) (fun h33 => ?_)
    · refine j_tabIn (off := 30) (tgt := 64) C d_M_switchOn_34 (by rw [h33]; decide) (by rw [h33]; decide) (by rw [h33]; rfl) (by decide) ?_
      refine j_aload_n C 0 rfl rfl d_M_switchOn_64 ?_
      refine j_iconst (v := 1) C (by decide) d_M_switchOn_65 ?_
      refine j_bnd (fun _ S35 e36 => ?_)
      refine j_callVv (As := [.int (1 : Int32)]) (rest := []) C 3 4 Y_M_reverse u_433 (c_M_reverse g S31 (1 : Int32) e36) rfl rfl ⟨by decide, by decide⟩ rfl rfl rfl rfl (Nat.le_of_ble_eq_true rfl) d_M_switchOn_66 ?_
      refine j_goto (tgt := 115) C d_M_switchOn_69 (by decide) ?_
      refine j_iconst (v := 1) C (by decide) d_M_switchOn_115 ?_
      exact j_zret C (Or.inr rfl) rfl rfl d_M_switchOn_116
    refine j_if (fun h37 => ?_) (fun h37 => ?_)
    · refine j_tabIn (off := 38) (tgt := 72) C d_M_switchOn_34 (by rw [h37]; decide) (by rw [h37]; decide) (by rw [h37]; rfl) (by decide) ?_
      refine j_aload_n C 0 rfl rfl d_M_switchOn_72 ?_
      refine gC_M_openings C u_198 d_M_switchOn_73 ?_
      refine j_aload_n C 0 rfl rfl d_M_switchOn_76 ?_
      refine gC_M_openingsWhenBegun C u_200 d_M_switchOn_77 ?_
      refine j_icmp_le (tgt := 92) C d_M_switchOn_80 (by decide) (fun h38 => ?_) (fun h38 => ?_)
      · refine j_aload_n C 0 rfl rfl d_M_switchOn_92 ?_
        refine j_aload_n C 0 rfl rfl d_M_switchOn_93 ?_
        refine gC_M_journal C u_186 d_M_switchOn_94 ?_
        refine j_bnd (fun r39 S40 e41 => ?_)
        refine j_callVi (As := []) (rest := [.ref (a 3)]) C 5 1 Y_J_lastKind u_623 (c_J_lastKind g S31 e41) rfl rfl ⟨by decide, by decide⟩ rfl rfl rfl rfl (Nat.le_of_ble_eq_true rfl) d_M_switchOn_97 ?_
        refine j_iconst (v := 2) C (by decide) d_M_switchOn_100 ?_
        refine j_icmp_ne (tgt := 108) C d_M_switchOn_101 (by decide) (fun h42 => ?_) (fun h42 => ?_)
        · refine j_iconst (v := 1) C (by decide) d_M_switchOn_104 ?_
          refine j_goto (tgt := 109) C d_M_switchOn_105 (by decide) ?_
          refine j_bnd (fun _ S44 e45 => ?_)
          refine j_callVv (As := [.int (1 : Int32)]) (rest := []) C 3 4 Y_M_reverse u_433 (c_M_reverse g S40 (1 : Int32) e45) rfl rfl ⟨by decide, by decide⟩ rfl rfl rfl rfl (Nat.le_of_ble_eq_true rfl) d_M_switchOn_109 ?_
          refine j_goto (tgt := 115) C d_M_switchOn_112 (by decide) ?_
          refine j_iconst (v := 1) C (by decide) d_M_switchOn_115 ?_
          exact j_zret C (Or.inr rfl) rfl rfl d_M_switchOn_116
        · refine j_iconst (v := 0) C (by decide) d_M_switchOn_108 ?_
          refine j_bnd (fun _ S47 e48 => ?_)
          refine j_callVv (As := [.int (0 : Int32)]) (rest := []) C 3 4 Y_M_reverse u_433 (c_M_reverse g S40 (0 : Int32) e48) rfl rfl ⟨by decide, by decide⟩ rfl rfl rfl rfl (Nat.le_of_ble_eq_true rfl) d_M_switchOn_109 ?_
          refine j_goto (tgt := 115) C d_M_switchOn_112 (by decide) ?_
          refine j_iconst (v := 1) C (by decide) d_M_switchOn_115 ?_
          exact j_zret C (Or.inr rfl) rfl rfl d_M_switchOn_116
      · refine j_aload_n C 0 rfl rfl d_M_switchOn_83 ?_
        refine j_iconst (v := 3) C (by decide) d_M_switchOn_84 ?_
        refine j_bnd (fun r49 S50 e51 => ?_)
        refine j_callVi (As := [.int (3 : Int32)]) (rest := []) C 3 4 Y_M_write u_391 (c_M_write g S31 (3 : Int32) e51) rfl rfl ⟨by decide, by decide⟩ rfl rfl rfl rfl (Nat.le_of_ble_eq_true rfl) d_M_switchOn_85 ?_
        refine j_pop C rfl d_M_switchOn_88 ?_
        refine j_goto (tgt := 115) C d_M_switchOn_89 (by decide) ?_
        refine j_iconst (v := 1) C (by decide) d_M_switchOn_115 ?_
        exact j_zret C (Or.inr rfl) rfl rfl d_M_switchOn_116
    refine j_if (fun h52 => ?_) (fun h52 => ?_)
    · refine j_tabIn (off := 81) (tgt := 115) C d_M_switchOn_34 (by rw [h52]; decide) (by rw [h52]; decide) (by rw [h52]; rfl) (by decide) ?_
      refine j_iconst (v := 1) C (by decide) d_M_switchOn_115 ?_
      exact j_zret C (Or.inr rfl) rfl rfl d_M_switchOn_116
    refine j_if (fun h53 => ?_) (fun h53 => ?_)
    · refine j_tabIn (off := 38) (tgt := 72) C d_M_switchOn_34 (by rw [h53]; decide) (by rw [h53]; decide) (by rw [h53]; rfl) (by decide) ?_
      refine j_aload_n C 0 rfl rfl d_M_switchOn_72 ?_
      refine gC_M_openings C u_198 d_M_switchOn_73 ?_
      refine j_aload_n C 0 rfl rfl d_M_switchOn_76 ?_
      refine gC_M_openingsWhenBegun C u_200 d_M_switchOn_77 ?_
      refine j_icmp_le (tgt := 92) C d_M_switchOn_80 (by decide) (fun h54 => ?_) (fun h54 => ?_)
      · refine j_aload_n C 0 rfl rfl d_M_switchOn_92 ?_
        refine j_aload_n C 0 rfl rfl d_M_switchOn_93 ?_
        refine gC_M_journal C u_186 d_M_switchOn_94 ?_
        refine j_bnd (fun r55 S56 e57 => ?_)
        refine j_callVi (As := []) (rest := [.ref (a 3)]) C 5 1 Y_J_lastKind u_623 (c_J_lastKind g S31 e57) rfl rfl ⟨by decide, by decide⟩ rfl rfl rfl rfl (Nat.le_of_ble_eq_true rfl) d_M_switchOn_97 ?_
        refine j_iconst (v := 2) C (by decide) d_M_switchOn_100 ?_
        refine j_icmp_ne (tgt := 108) C d_M_switchOn_101 (by decide) (fun h58 => ?_) (fun h58 => ?_)
        · refine j_iconst (v := 1) C (by decide) d_M_switchOn_104 ?_
          refine j_goto (tgt := 109) C d_M_switchOn_105 (by decide) ?_
          refine j_bnd (fun _ S60 e61 => ?_)
          refine j_callVv (As := [.int (1 : Int32)]) (rest := []) C 3 4 Y_M_reverse u_433 (c_M_reverse g S56 (1 : Int32) e61) rfl rfl ⟨by decide, by decide⟩ rfl rfl rfl rfl (Nat.le_of_ble_eq_true rfl) d_M_switchOn_109 ?_
          refine j_goto (tgt := 115) C d_M_switchOn_112 (by decide) ?_
          refine j_iconst (v := 1) C (by decide) d_M_switchOn_115 ?_
          exact j_zret C (Or.inr rfl) rfl rfl d_M_switchOn_116
        · refine j_iconst (v := 0) C (by decide) d_M_switchOn_108 ?_
          refine j_bnd (fun _ S63 e64 => ?_)
          refine j_callVv (As := [.int (0 : Int32)]) (rest := []) C 3 4 Y_M_reverse u_433 (c_M_reverse g S56 (0 : Int32) e64) rfl rfl ⟨by decide, by decide⟩ rfl rfl rfl rfl (Nat.le_of_ble_eq_true rfl) d_M_switchOn_109 ?_
          refine j_goto (tgt := 115) C d_M_switchOn_112 (by decide) ?_
          refine j_iconst (v := 1) C (by decide) d_M_switchOn_115 ?_
          exact j_zret C (Or.inr rfl) rfl rfl d_M_switchOn_116
      · refine j_aload_n C 0 rfl rfl d_M_switchOn_83 ?_
        refine j_iconst (v := 3) C (by decide) d_M_switchOn_84 ?_
        refine j_bnd (fun r65 S66 e67 => ?_)
        refine j_callVi (As := [.int (3 : Int32)]) (rest := []) C 3 4 Y_M_write u_391 (c_M_write g S31 (3 : Int32) e67) rfl rfl ⟨by decide, by decide⟩ rfl rfl rfl rfl (Nat.le_of_ble_eq_true rfl) d_M_switchOn_85 ?_
        refine j_pop C rfl d_M_switchOn_88 ?_
        refine j_goto (tgt := 115) C d_M_switchOn_89 (by decide) ?_
        refine j_iconst (v := 1) C (by decide) d_M_switchOn_115 ?_
        exact j_zret C (Or.inr rfl) rfl rfl d_M_switchOn_116
    refine j_tabOut (tgt := 115) C d_M_switchOn_34 (by have gh33 : r30.toInt ≠ 1 := fun z => h33 (Int32.toInt_inj.mp (z.trans (by decide))); have gh37 : r30.toInt ≠ 2 := fun z => h37 (Int32.toInt_inj.mp (z.trans (by decide))); have gh52 : r30.toInt ≠ 3 := fun z => h52 (Int32.toInt_inj.mp (z.trans (by decide))); have gh53 : r30.toInt ≠ 4 := fun z => h53 (Int32.toInt_inj.mp (z.trans (by decide))); omega) (by decide) ?_
    refine j_iconst (v := 1) C (by decide) d_M_switchOn_115 ?_
    exact j_zret C (Or.inr rfl) rfl rfl d_M_switchOn_116
  · refine j_iconst (v := 0) C (by decide) d_M_switchOn_7 ?_
    exact j_zret C (Or.inl rfl) rfl rfl d_M_switchOn_8
def f_A_power (g : Nat) (S : Mem) : Option (Int32 × Mem) := bnd (f_M_switchOn g S) (fun r21 S22 => grd (r21 = 0 ∨ r21 = 1) (some (r21, S22)))
set_option maxRecDepth 100000 in
set_option maxHeartbeats 4000000 in
theorem c_A_power {l : Launch} {D : va_G} {cI cJ cZ cL : ClassId} {a : Nat → Nat} (g : Nat) (S : Mem) {r : Int32} {S9 : Mem} (h : f_A_power g S = some (r, S9)) : Ctr l y_A_power prog_1_method_18_code 1 (some .boolean) rm_A_power D (tyT cI cJ cZ cL) (wdC cI cJ cZ cL a) [.ref (a 0)] S (vI r, S9) := by
  refine Ctr.of (lv0 := [(0, .ref (a 0))]) (vv := vI) (by decide) rfl (wdC_fst cI cJ cZ cL a) (Nat.le_of_ble_eq_true rfl) rfl (fun p e s m args below meth c A C => ?_) r S9 h
  unfold f_A_power
  refine j_aload_n C 0 rfl rfl d_A_power_0 ?_
  refine gC_A_machine C u_242 d_A_power_1 ?_
  refine j_bnd (fun r21 S22 e23 => ?_)
  refine j_callVi (As := []) (rest := []) C 3 4 Y_M_switchOn u_605 (c_M_switchOn g S e23) rfl rfl ⟨by decide, by decide⟩ rfl rfl rfl rfl (Nat.le_of_ble_eq_true rfl) d_A_power_4 ?_
  refine j_grd (fun h24 => ?_)
  exact j_zret C h24 rfl rfl d_A_power_7
def f_O_tell (g : Nat) (S : Mem) (x1 : Int32) (x2 : Int32) : Option (Int32 × Mem) := bnd (f_O_isCassette g S x1) (fun r21 S22 => if r21 = 0 then (some ((-1 : Int32), S22)) else (if x2 = (0 : Int32) then (grd (¬ (x1 < 0 ∨ 4 ≤ x1.toNatClampNeg)) (some (S22.1 22 x1.toNatClampNeg, S22))) else (if x2 = (1 : Int32) then (grd (¬ (x1 < 0 ∨ 4 ≤ x1.toNatClampNeg)) (some (S22.1 23 x1.toNatClampNeg, S22))) else (if x2 = (2 : Int32) then (grd (¬ (x1 < 0 ∨ 4 ≤ x1.toNatClampNeg)) (some (S22.1 24 x1.toNatClampNeg, S22))) else (if x2 = (3 : Int32) then (grd (¬ (x1 < 0 ∨ 4 ≤ x1.toNatClampNeg)) (some (S22.1 25 x1.toNatClampNeg, S22))) else (if x2 = (4 : Int32) then (grd (¬ (x1 < 0 ∨ 4 ≤ x1.toNatClampNeg)) (some (S22.1 26 x1.toNatClampNeg, S22))) else (some ((-1 : Int32), S22))))))))
set_option maxRecDepth 100000 in
set_option maxHeartbeats 4000000 in
theorem c_O_tell {l : Launch} {D : va_G} {cI cJ cZ cL : ClassId} {a : Nat → Nat} (g : Nat) (S : Mem) (x1 : Int32) (x2 : Int32) {r : Int32} {S9 : Mem} (h : f_O_tell g S x1 x2 = some (r, S9)) : Ctr l y_O_tell prog_7_method_3_code 3 (some .int) rm_O_tell D (tyT cI cJ cZ cL) (wdC cI cJ cZ cL a) [.ref (a 4), .int x1, .int x2] S (vI r, S9) := by
  refine Ctr.of (lv0 := [(0, .ref (a 4)), (1, .int x1), (2, .int x2)]) (vv := vI) (by decide) rfl (wdC_fst cI cJ cZ cL a) (Nat.le_of_ble_eq_true rfl) rfl (fun p e s m args below meth c A C => ?_) r S9 h
  unfold f_O_tell
  refine j_iload_n C 1 rfl rfl d_O_tell_0 ?_
  refine j_bnd (fun r21 S22 e23 => ?_)
  refine j_callSi (As := [.int x1]) (rest := []) C Y_O_isCassette u_298 (c_O_isCassette g S x1 e23) rfl rfl ⟨by decide, by decide⟩ rfl rfl (Nat.le_of_ble_eq_true rfl) d_O_tell_1 ?_
  refine j_if_ne (tgt := 9) C d_O_tell_4 (by decide) (fun h24 => ?_) (fun h24 => ?_)
  · refine j_iconst (v := -1) C (by decide) d_O_tell_7 ?_
    exact j_iret C rfl rfl d_O_tell_8
  · refine j_iload_n C 2 rfl rfl d_O_tell_9 ?_
    refine j_if (fun h25 => ?_) (fun h25 => ?_)
    · refine j_tabIn (off := 34) (tgt := 44) C d_O_tell_10 (by rw [h25]; decide) (by rw [h25]; decide) (by rw [h25]; rfl) (by decide) ?_
      refine j_aload_n C 0 rfl rfl d_O_tell_44 ?_
      refine gC_O_denominations C u_123 d_O_tell_45 ?_
      refine j_iload_n C 1 rfl rfl d_O_tell_48 ?_
      refine j_grd (fun h26 => ?_)
      refine lC_O_denominations C h26 d_O_tell_49 ?_
      exact j_iret C rfl rfl d_O_tell_50
    refine j_if (fun h27 => ?_) (fun h27 => ?_)
    · refine j_tabIn (off := 41) (tgt := 51) C d_O_tell_10 (by rw [h27]; decide) (by rw [h27]; decide) (by rw [h27]; rfl) (by decide) ?_
      refine j_aload_n C 0 rfl rfl d_O_tell_51 ?_
      refine gC_O_inCassette C u_124 d_O_tell_52 ?_
      refine j_iload_n C 1 rfl rfl d_O_tell_55 ?_
      refine j_grd (fun h28 => ?_)
      refine lC_O_inCassette C h28 d_O_tell_56 ?_
      exact j_iret C rfl rfl d_O_tell_57
    refine j_if (fun h29 => ?_) (fun h29 => ?_)
    · refine j_tabIn (off := 48) (tgt := 58) C d_O_tell_10 (by rw [h29]; decide) (by rw [h29]; decide) (by rw [h29]; rfl) (by decide) ?_
      refine j_aload_n C 0 rfl rfl d_O_tell_58 ?_
      refine gC_O_inStacker C u_125 d_O_tell_59 ?_
      refine j_iload_n C 1 rfl rfl d_O_tell_62 ?_
      refine j_grd (fun h30 => ?_)
      refine lC_O_inStacker C h30 d_O_tell_63 ?_
      exact j_iret C rfl rfl d_O_tell_64
    refine j_if (fun h31 => ?_) (fun h31 => ?_)
    · refine j_tabIn (off := 55) (tgt := 65) C d_O_tell_10 (by rw [h31]; decide) (by rw [h31]; decide) (by rw [h31]; rfl) (by decide) ?_
      refine j_aload_n C 0 rfl rfl d_O_tell_65 ?_
      refine gC_O_inTray C u_126 d_O_tell_66 ?_
      refine j_iload_n C 1 rfl rfl d_O_tell_69 ?_
      refine j_grd (fun h32 => ?_)
      refine lC_O_inTray C h32 d_O_tell_70 ?_
      exact j_iret C rfl rfl d_O_tell_71
    refine j_if (fun h33 => ?_) (fun h33 => ?_)
    · refine j_tabIn (off := 62) (tgt := 72) C d_O_tell_10 (by rw [h33]; decide) (by rw [h33]; decide) (by rw [h33]; rfl) (by decide) ?_
      refine j_aload_n C 0 rfl rfl d_O_tell_72 ?_
      refine gC_O_inBin C u_127 d_O_tell_73 ?_
      refine j_iload_n C 1 rfl rfl d_O_tell_76 ?_
      refine j_grd (fun h34 => ?_)
      refine lC_O_inBin C h34 d_O_tell_77 ?_
      exact j_iret C rfl rfl d_O_tell_78
    refine j_tabOut (tgt := 79) C d_O_tell_10 (by have gh25 : x2.toInt ≠ 0 := fun z => h25 (Int32.toInt_inj.mp (z.trans (by decide))); have gh27 : x2.toInt ≠ 1 := fun z => h27 (Int32.toInt_inj.mp (z.trans (by decide))); have gh29 : x2.toInt ≠ 2 := fun z => h29 (Int32.toInt_inj.mp (z.trans (by decide))); have gh31 : x2.toInt ≠ 3 := fun z => h31 (Int32.toInt_inj.mp (z.trans (by decide))); have gh33 : x2.toInt ≠ 4 := fun z => h33 (Int32.toInt_inj.mp (z.trans (by decide))); omega) (by decide) ?_
    refine j_iconst (v := -1) C (by decide) d_O_tell_79 ?_
    exact j_iret C rfl rfl d_O_tell_80
