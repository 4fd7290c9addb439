def f_A_cassette (g : Nat) (S : Mem) (x1 : Int32) (x2 : Int32) : Option (Int32 × Mem) := bnd (f_O_tell g S x1 x2) (fun r21 S22 => some (r21, S22))
set_option maxRecDepth 100000 in
set_option maxHeartbeats 4000000 in
theorem c_A_cassette {l : Launch} {D : va_G} {cI cJ cZ cL : ClassId} {a : Nat → Nat} (g : Nat) (S : Mem) (x1 : Int32) (x2 : Int32) {r : Int32} {S9 : Mem} (h : f_A_cassette g S x1 x2 = some (r, S9)) : Ctr l y_A_cassette prog_1_method_19_code 3 (some .int) rm_A_cassette D (tyT cI cJ cZ cL) (wdC cI cJ cZ cL a) [.ref (a 0), .int x1, .int x2] S (vI r, S9) := by
  refine Ctr.of (lv0 := [(0, .ref (a 0)), (1, .int x1), (2, .int x2)]) (vv := vI) (by decide) rfl (wdC_fst cI cJ cZ cL a) (Nat.le_of_ble_eq_true rfl) rfl (fun p e s m args below meth c A C => ?_) r S9 h
  unfold f_A_cassette
  refine j_aload_n C 0 rfl rfl d_A_cassette_0 ?_
  refine gC_A_machine C u_242 d_A_cassette_1 ?_
  refine gnC_M_notes C n_185 d_A_cassette_4 ?_
  refine j_iload_n C 1 rfl rfl d_A_cassette_7 ?_
  refine j_iload_n C 2 rfl rfl d_A_cassette_8 ?_
  refine j_bnd (fun r21 S22 e23 => ?_)
  refine j_callVi (As := [.int x1, .int x2]) (rest := []) C 4 5 Y_O_tell u_631 (c_O_tell g S x1 x2 e23) rfl rfl ⟨by decide, by decide⟩ rfl rfl rfl rfl (Nat.le_of_ble_eq_true rfl) d_A_cassette_9 ?_
  exact j_iret C rfl rfl d_A_cassette_12
def f_O_mixedOf (g : Nat) (S : Mem) (x1 : Int32) (x2 : Int32) : Option (Int32 × Mem) := bnd (f_O_isCassette g S x2) (fun r21 S22 => if r21 = 0 then (some ((-1 : Int32), S22)) else (bnd (f_O_findMix g S22 x1) (fun r25 S26 => if r25 = 0 then (some ((-1 : Int32), S26)) else (grd (¬ (x2 < 0 ∨ 4 ≤ x2.toNatClampNeg)) (some (S26.1 29 x2.toNatClampNeg, S26))))))
set_option maxRecDepth 100000 in
set_option maxHeartbeats 4000000 in
theorem c_O_mixedOf {l : Launch} {D : va_G} {cI cJ cZ cL : ClassId} {a : Nat → Nat} (g : Nat) (S : Mem) (x1 : Int32) (x2 : Int32) {r : Int32} {S9 : Mem} (h : f_O_mixedOf g S x1 x2 = some (r, S9)) : Ctr l y_O_mixedOf prog_7_method_4_code 3 (some .int) rm_O_mixedOf D (tyT cI cJ cZ cL) (wdC cI cJ cZ cL a) [.ref (a 4), .int x1, .int x2] S (vI r, S9) := by
  refine Ctr.of (lv0 := [(0, .ref (a 4)), (1, .int x1), (2, .int x2)]) (vv := vI) (by decide) rfl (wdC_fst cI cJ cZ cL a) (Nat.le_of_ble_eq_true rfl) rfl (fun p e s m args below meth c A C => ?_) r S9 h
  unfold f_O_mixedOf
  refine j_iload_n C 2 rfl rfl d_O_mixedOf_0 ?_
  refine j_bnd (fun r21 S22 e23 => ?_)
  refine j_callSi (As := [.int x2]) (rest := []) C Y_O_isCassette u_298 (c_O_isCassette g S x2 e23) rfl rfl ⟨by decide, by decide⟩ rfl rfl (Nat.le_of_ble_eq_true rfl) d_O_mixedOf_1 ?_
  refine j_if_eq (tgt := 15) C d_O_mixedOf_4 (by decide) (fun h24 => ?_) (fun h24 => ?_)
  · refine j_iconst (v := -1) C (by decide) d_O_mixedOf_15 ?_
    exact j_iret C rfl rfl d_O_mixedOf_16
  · refine j_aload_n C 0 rfl rfl d_O_mixedOf_7 ?_
    refine j_iload_n C 1 rfl rfl d_O_mixedOf_8 ?_
    refine j_bnd (fun r25 S26 e27 => ?_)
    refine j_callVi (As := [.int x1]) (rest := []) C 4 5 Y_O_findMix u_643 (c_O_findMix g S22 x1 e27) rfl rfl ⟨by decide, by decide⟩ rfl rfl rfl rfl (Nat.le_of_ble_eq_true rfl) d_O_mixedOf_9 ?_
    refine j_if_ne (tgt := 17) C d_O_mixedOf_12 (by decide) (fun h28 => ?_) (fun h28 => ?_)
    · refine j_iconst (v := -1) C (by decide) d_O_mixedOf_15 ?_
      exact j_iret C rfl rfl d_O_mixedOf_16
    · refine j_aload_n C 0 rfl rfl d_O_mixedOf_17 ?_
      refine gC_O_mixed C u_132 d_O_mixedOf_18 ?_
      refine j_iload_n C 2 rfl rfl d_O_mixedOf_21 ?_
      refine j_grd (fun h29 => ?_)
      refine lC_O_mixed C h29 d_O_mixedOf_22 ?_
      exact j_iret C rfl rfl d_O_mixedOf_23
def f_A_mix (g : Nat) (S : Mem) (x1 : Int32) (x2 : Int32) : Option (Int32 × Mem) := bnd (f_O_mixedOf g S x1 x2) (fun r21 S22 => some (r21, S22))
set_option maxRecDepth 100000 in
set_option maxHeartbeats 4000000 in
theorem c_A_mix {l : Launch} {D : va_G} {cI cJ cZ cL : ClassId} {a : Nat → Nat} (g : Nat) (S : Mem) (x1 : Int32) (x2 : Int32) {r : Int32} {S9 : Mem} (h : f_A_mix g S x1 x2 = some (r, S9)) : Ctr l y_A_mix prog_1_method_20_code 3 (some .int) rm_A_mix D (tyT cI cJ cZ cL) (wdC cI cJ cZ cL a) [.ref (a 0), .int x1, .int x2] S (vI r, S9) := by
  refine Ctr.of (lv0 := [(0, .ref (a 0)), (1, .int x1), (2, .int x2)]) (vv := vI) (by decide) rfl (wdC_fst cI cJ cZ cL a) (Nat.le_of_ble_eq_true rfl) rfl (fun p e s m args below meth c A C => ?_) r S9 h
  unfold f_A_mix
  refine j_aload_n C 0 rfl rfl d_A_mix_0 ?_
  refine gC_A_machine C u_242 d_A_mix_1 ?_
  refine gnC_M_notes C n_185 d_A_mix_4 ?_
  refine j_iload_n C 1 rfl rfl d_A_mix_7 ?_
  refine j_iload_n C 2 rfl rfl d_A_mix_8 ?_
  refine j_bnd (fun r21 S22 e23 => ?_)
  refine j_callVi (As := [.int x1, .int x2]) (rest := []) C 4 5 Y_O_mixedOf u_639 (c_O_mixedOf g S x1 x2 e23) rfl rfl ⟨by decide, by decide⟩ rfl rfl rfl rfl (Nat.le_of_ble_eq_true rfl) d_A_mix_9 ?_
  exact j_iret C rfl rfl d_A_mix_12
def f_H_balanceOf (g : Nat) (S : Mem) (x1 : Int32) : Option (Int64 × Mem) := bnd (f_H_isAccount g S x1) (fun r21 S22 => if r21 = 0 then (some ((-1 : Int64), S22)) else (grd (¬ (x1 < 0 ∨ 8 ≤ x1.toNatClampNeg)) (some (S22.2.1 0 x1.toNatClampNeg, S22))))
set_option maxRecDepth 100000 in
set_option maxHeartbeats 4000000 in
theorem c_H_balanceOf {l : Launch} {D : va_G} {cI cJ cZ cL : ClassId} {a : Nat → Nat} (g : Nat) (S : Mem) (x1 : Int32) {r : Int64} {S9 : Mem} (h : f_H_balanceOf g S x1 = some (r, S9)) : Ctr l y_H_balanceOf prog_2_method_4_code 2 (some .long) rm_H_balanceOf D (tyT cI cJ cZ cL) (wdC cI cJ cZ cL a) [.ref (a 2), .int x1] S (vL r, S9) := by
  refine Ctr.of (lv0 := [(0, .ref (a 2)), (1, .int x1)]) (vv := vL) (by decide) rfl (wdC_fst cI cJ cZ cL a) (Nat.le_of_ble_eq_true rfl) rfl (fun p e s m args below meth c A C => ?_) r S9 h
  unfold f_H_balanceOf
  refine j_iload_n C 1 rfl rfl d_H_balanceOf_0 ?_
  refine j_bnd (fun r21 S22 e23 => ?_)
  refine j_callSi (As := [.int x1]) (rest := []) C Y_H_isAccount u_261 (c_H_isAccount g S x1 e23) rfl rfl ⟨by decide, by decide⟩ rfl rfl (Nat.le_of_ble_eq_true rfl) d_H_balanceOf_1 ?_
  refine j_if_eq (tgt := 16) C d_H_balanceOf_4 (by decide) (fun h24 => ?_) (fun h24 => ?_)
  · refine j_ldc2 (v := -1) C u_652 d_H_balanceOf_16 ?_
    exact j_lret C rfl rfl d_H_balanceOf_19
  · refine j_aload_n C 0 rfl rfl d_H_balanceOf_7 ?_
    refine gC_H_balances C u_66 d_H_balanceOf_8 ?_
    refine j_iload_n C 1 rfl rfl d_H_balanceOf_11 ?_
    refine j_grd (fun h25 => ?_)
    refine lC_H_balances C h25 d_H_balanceOf_12 ?_
    refine j_goto (tgt := 19) C d_H_balanceOf_13 (by decide) ?_
    exact j_lret C rfl rfl d_H_balanceOf_19
def f_A_balance (g : Nat) (S : Mem) (x1 : Int32) : Option (Int64 × Mem) := bnd (f_H_balanceOf g S x1) (fun r21 S22 => some (r21, S22))
set_option maxRecDepth 100000 in
set_option maxHeartbeats 4000000 in
theorem c_A_balance {l : Launch} {D : va_G} {cI cJ cZ cL : ClassId} {a : Nat → Nat} (g : Nat) (S : Mem) (x1 : Int32) {r : Int64} {S9 : Mem} (h : f_A_balance g S x1 = some (r, S9)) : Ctr l y_A_balance prog_1_method_21_code 2 (some .long) rm_A_balance D (tyT cI cJ cZ cL) (wdC cI cJ cZ cL a) [.ref (a 0), .int x1] S (vL r, S9) := by
  refine Ctr.of (lv0 := [(0, .ref (a 0)), (1, .int x1)]) (vv := vL) (by decide) rfl (wdC_fst cI cJ cZ cL a) (Nat.le_of_ble_eq_true rfl) rfl (fun p e s m args below meth c A C => ?_) r S9 h
  unfold f_A_balance
  refine j_aload_n C 0 rfl rfl d_A_balance_0 ?_
  refine gC_A_host C u_241 d_A_balance_1 ?_
  refine j_iload_n C 1 rfl rfl d_A_balance_4 ?_
  refine j_bnd (fun r21 S22 e23 => ?_)
  refine j_callVl (As := [.int x1]) (rest := []) C 2 0 Y_H_balanceOf u_648 (c_H_balanceOf g S x1 e23) rfl rfl ⟨by decide, by decide⟩ rfl rfl rfl rfl (Nat.le_of_ble_eq_true rfl) d_A_balance_5 ?_
  exact j_lret C rfl rfl d_A_balance_8
def f_H_triesOf (g : Nat) (S : Mem) (x1 : Int32) : Option (Int32 × Mem) := bnd (f_A_isCard g S x1) (fun r21 S22 => if r21 = 0 then (some ((-1 : Int32), S22)) else (grd (¬ (x1 < 0 ∨ 16 ≤ x1.toNatClampNeg)) (some (S22.1 4 x1.toNatClampNeg, S22))))
set_option maxRecDepth 100000 in
set_option maxHeartbeats 4000000 in
theorem c_H_triesOf {l : Launch} {D : va_G} {cI cJ cZ cL : ClassId} {a : Nat → Nat} (g : Nat) (S : Mem) (x1 : Int32) {r : Int32} {S9 : Mem} (h : f_H_triesOf g S x1 = some (r, S9)) : Ctr l y_H_triesOf prog_2_method_5_code 2 (some .int) rm_H_triesOf D (tyT cI cJ cZ cL) (wdC cI cJ cZ cL a) [.ref (a 2), .int x1] S (vI r, S9) := by
  refine Ctr.of (lv0 := [(0, .ref (a 2)), (1, .int x1)]) (vv := vI) (by decide) rfl (wdC_fst cI cJ cZ cL a) (Nat.le_of_ble_eq_true rfl) rfl (fun p e s m args below meth c A C => ?_) r S9 h
  unfold f_H_triesOf
  refine j_iload_n C 1 rfl rfl d_H_triesOf_0 ?_
  refine j_bnd (fun r21 S22 e23 => ?_)
  refine j_callSNi (As := [.int x1]) (rest := []) C Y_A_isCard n_277 (c_A_isCard g S x1 e23) rfl rfl ⟨by decide, by decide⟩ rfl rfl (Nat.le_of_ble_eq_true rfl) d_H_triesOf_1 ?_
  refine j_if_eq (tgt := 16) C d_H_triesOf_4 (by decide) (fun h24 => ?_) (fun h24 => ?_)
  · refine j_iconst (v := -1) C (by decide) d_H_triesOf_16 ?_
    exact j_iret C rfl rfl d_H_triesOf_17
  · refine j_aload_n C 0 rfl rfl d_H_triesOf_7 ?_
    refine gC_H_triesOfCard C u_69 d_H_triesOf_8 ?_
    refine j_iload_n C 1 rfl rfl d_H_triesOf_11 ?_
    refine j_grd (fun h25 => ?_)
    refine lC_H_triesOfCard C h25 d_H_triesOf_12 ?_
    refine j_goto (tgt := 17) C d_H_triesOf_13 (by decide) ?_
    exact j_iret C rfl rfl d_H_triesOf_17
def f_M_keptOf (g : Nat) (S : Mem) (x1 : Int32) : Option (Int32 × Mem) := bnd (f_A_isCard g S x1) (fun r21 S22 => if r21 = 0 then (some ((-1 : Int32), S22)) else (grd (¬ (x1 < 0 ∨ 16 ≤ x1.toNatClampNeg)) (if (S22.1 10 x1.toNatClampNeg) = 0 then (some ((0 : Int32), S22)) else (some ((1 : Int32), S22)))))
set_option maxRecDepth 100000 in
set_option maxHeartbeats 4000000 in
theorem c_M_keptOf {l : Launch} {D : va_G} {cI cJ cZ cL : ClassId} {a : Nat → Nat} (g : Nat) (S : Mem) (x1 : Int32) {r : Int32} {S9 : Mem} (h : f_M_keptOf g S x1 = some (r, S9)) : Ctr l y_M_keptOf prog_6_method_5_code 2 (some .int) rm_M_keptOf D (tyT cI cJ cZ cL) (wdC cI cJ cZ cL a) [.ref (a 3), .int x1] S (vI r, S9) := by
  refine Ctr.of (lv0 := [(0, .ref (a 3)), (1, .int x1)]) (vv := vI) (by decide) rfl (wdC_fst cI cJ cZ cL a) (Nat.le_of_ble_eq_true rfl) rfl (fun p e s m args below meth c A C => ?_) r S9 h
  unfold f_M_keptOf
  refine j_iload_n C 1 rfl rfl d_M_keptOf_0 ?_
  refine j_bnd (fun r21 S22 e23 => ?_)
  refine j_callSNi (As := [.int x1]) (rest := []) C Y_A_isCard n_312 (c_A_isCard g S x1 e23) rfl rfl ⟨by decide, by decide⟩ rfl rfl (Nat.le_of_ble_eq_true rfl) d_M_keptOf_1 ?_
  refine j_if_ne (tgt := 9) C d_M_keptOf_4 (by decide) (fun h24 => ?_) (fun h24 => ?_)
  · refine j_iconst (v := -1) C (by decide) d_M_keptOf_7 ?_
    exact j_iret C rfl rfl d_M_keptOf_8
  · refine j_aload_n C 0 rfl rfl d_M_keptOf_9 ?_
    refine gC_M_kept C u_188 d_M_keptOf_10 ?_
    refine j_iload_n C 1 rfl rfl d_M_keptOf_13 ?_
    refine j_grd (fun h25 => ?_)
    refine lC_M_kept C h25 d_M_keptOf_14 ?_
    refine j_if_eq (tgt := 22) C d_M_keptOf_15 (by decide) (fun h26 => ?_) (fun h26 => ?_)
    · refine j_iconst (v := 0) C (by decide) d_M_keptOf_22 ?_
      exact j_iret C rfl rfl d_M_keptOf_23
    · refine j_iconst (v := 1) C (by decide) d_M_keptOf_18 ?_
      refine j_goto (tgt := 23) C d_M_keptOf_19 (by decide) ?_
      exact j_iret C rfl rfl d_M_keptOf_23
def f_H_accountOf (g : Nat) (S : Mem) (x1 : Int32) : Option (Int32 × Mem) := bnd (f_A_isCard g S x1) (fun r21 S22 => if r21 = 0 then (some ((-1 : Int32), S22)) else (grd (¬ (x1 < 0 ∨ 16 ≤ x1.toNatClampNeg)) (some (S22.1 2 x1.toNatClampNeg, S22))))
set_option maxRecDepth 100000 in
set_option maxHeartbeats 4000000 in
theorem c_H_accountOf {l : Launch} {D : va_G} {cI cJ cZ cL : ClassId} {a : Nat → Nat} (g : Nat) (S : Mem) (x1 : Int32) {r : Int32} {S9 : Mem} (h : f_H_accountOf g S x1 = some (r, S9)) : Ctr l y_H_accountOf prog_2_method_6_code 2 (some .int) rm_H_accountOf D (tyT cI cJ cZ cL) (wdC cI cJ cZ cL a) [.ref (a 2), .int x1] S (vI r, S9) := by
  refine Ctr.of (lv0 := [(0, .ref (a 2)), (1, .int x1)]) (vv := vI) (by decide) rfl (wdC_fst cI cJ cZ cL a) (Nat.le_of_ble_eq_true rfl) rfl (fun p e s m args below meth c A C => ?_) r S9 h
  unfold f_H_accountOf
  refine j_iload_n C 1 rfl rfl d_H_accountOf_0 ?_
  refine j_bnd (fun r21 S22 e23 => ?_)
  refine j_callSNi (As := [.int x1]) (rest := []) C Y_A_isCard n_277 (c_A_isCard g S x1 e23) rfl rfl ⟨by decide, by decide⟩ rfl rfl (Nat.le_of_ble_eq_true rfl) d_H_accountOf_1 ?_
  refine j_if_eq (tgt := 16) C d_H_accountOf_4 (by decide) (fun h24 => ?_) (fun h24 => ?_)
  · refine j_iconst (v := -1) C (by decide) d_H_accountOf_16 ?_
    exact j_iret C rfl rfl d_H_accountOf_17
  · refine j_aload_n C 0 rfl rfl d_H_accountOf_7 ?_
    refine gC_H_accountOfCard C u_67 d_H_accountOf_8 ?_
    refine j_iload_n C 1 rfl rfl d_H_accountOf_11 ?_
    refine j_grd (fun h25 => ?_)
    refine lC_H_accountOfCard C h25 d_H_accountOf_12 ?_
    refine j_goto (tgt := 17) C d_H_accountOf_13 (by decide) ?_
    exact j_iret C rfl rfl d_H_accountOf_17
def f_A_ofCard (g : Nat) (S : Mem) (x1 : Int32) (x2 : Int32) : Option (Int32 × Mem) := if x2 = (0 : Int32) then (bnd (f_H_triesOf g S x1) (fun r22 S23 => some (r22, S23))) else (if x2 = (1 : Int32) then (bnd (f_M_keptOf g S x1) (fun r26 S27 => some (r26, S27))) else (if x2 = (2 : Int32) then (bnd (f_H_accountOf g S x1) (fun r30 S31 => some (r30, S31))) else (some ((-1 : Int32), S))))
set_option maxRecDepth 100000 in
set_option maxHeartbeats 4000000 in
theorem c_A_ofCard {l : Launch} {D : va_G} {cI cJ cZ cL : ClassId} {a : Nat → Nat} (g : Nat) (S : Mem) (x1 : Int32) (x2 : Int32) {r : Int32} {S9 : Mem} (h : f_A_ofCard g S x1 x2 = some (r, S9)) : Ctr l y_A_ofCard prog_1_method_22_code 3 (some .int) rm_A_ofCard D (tyT cI cJ cZ cL) (wdC cI cJ cZ cL a) [.ref (a 0), .int x1, .int x2] S (vI r, S9) := by
  refine Ctr.of (lv0 := [(0, .ref (a 0)), (1, .int x1), (2, .int x2)]) (vv := vI) (by decide) rfl (wdC_fst cI cJ cZ cL a) (Nat.le_of_ble_eq_true rfl) rfl (fun p e s m args below meth c A C => ?_) r S9 h
  unfold f_A_ofCard
  refine j_iload_n C 2 rfl rfl d_A_ofCard_0 ?_
  refine j_if (fun h21 => ?_) (fun h21 => ?_)
  · refine j_tabIn (off := 27) (tgt := 28) C d_A_ofCard_1 (by rw [h21]; decide) (by rw [h21]; decide) (by rw [h21]; rfl) (by decide) ?_
    refine j_aload_n C 0 rfl rfl d_A_ofCard_28 ?_
    refine gC_A_host C u_241 d_A_ofCard_29 ?_
    refine j_iload_n C 1 rfl rfl d_A_ofCard_32 ?_
    refine j_bnd (fun r22 S23 e24 => ?_)
    refine j_callVi (As := [.int x1]) (rest := []) C 2 0 Y_H_triesOf u_657 (c_H_triesOf g S x1 e24) rfl rfl ⟨by decide, by decide⟩ rfl rfl rfl rfl (Nat.le_of_ble_eq_true rfl) d_A_ofCard_33 ?_
    exact j_iret C rfl rfl d_A_ofCard_36
  refine j_if (fun h25 => ?_) (fun h25 => ?_)
  · refine j_tabIn (off := 36) (tgt := 37) C d_A_ofCard_1 (by rw [h25]; decide) (by rw [h25]; decide) (by rw [h25]; rfl) (by decide) ?_
    refine j_aload_n C 0 rfl rfl d_A_ofCard_37 ?_
    refine gC_A_machine C u_242 d_A_ofCard_38 ?_
    refine j_iload_n C 1 rfl rfl d_A_ofCard_41 ?_
    refine j_bnd (fun r26 S27 e28 => ?_)
    refine j_callVi (As := [.int x1]) (rest := []) C 3 4 Y_M_keptOf u_661 (c_M_keptOf g S x1 e28) rfl rfl ⟨by decide, by decide⟩ rfl rfl rfl rfl (Nat.le_of_ble_eq_true rfl) d_A_ofCard_42 ?_
    exact j_iret C rfl rfl d_A_ofCard_45
  refine j_if (fun h29 => ?_) (fun h29 => ?_)
  · refine j_tabIn (off := 45) (tgt := 46) C d_A_ofCard_1 (by rw [h29]; decide) (by rw [h29]; decide) (by rw [h29]; rfl) (by decide) ?_
    refine j_aload_n C 0 rfl rfl d_A_ofCard_46 ?_
    refine gC_A_host C u_241 d_A_ofCard_47 ?_
    refine j_iload_n C 1 rfl rfl d_A_ofCard_50 ?_
    refine j_bnd (fun r30 S31 e32 => ?_)
    refine j_callVi (As := [.int x1]) (rest := []) C 2 0 Y_H_accountOf u_665 (c_H_accountOf g S x1 e32) rfl rfl ⟨by decide, by decide⟩ rfl rfl rfl rfl (Nat.le_of_ble_eq_true rfl) d_A_ofCard_51 ?_
    exact j_iret C rfl rfl d_A_ofCard_54
  refine j_tabOut (tgt := 55) C d_A_ofCard_1 (by have gh21 : x2.toInt ≠ 0 := fun z => h21 (Int32.toInt_inj.mp (z.trans (by decide))); have gh25 : x2.toInt ≠ 1 := fun z => h25 (Int32.toInt_inj.mp (z.trans (by decide))); have gh29 : x2.toInt ≠ 2 := fun z => h29 (Int32.toInt_inj.mp (z.trans (by decide))); omega) (by decide) ?_
  refine j_iconst (v := -1) C (by decide) d_A_ofCard_55 ?_
  exact j_iret C rfl rfl d_A_ofCard_56
def f_A_record (g : Nat) (S : Mem) (x1 : Int32) (x2 : Int32) : Option (Int32 × Mem) := bnd (f_J_tell g S x1 x2) (fun r21 S22 => some (r21, S22))
set_option maxRecDepth 100000 in
set_option maxHeartbeats 4000000 in
theorem c_A_record {l : Launch} {D : va_G} {cI cJ cZ cL : ClassId} {a : Nat → Nat} (g : Nat) (S : Mem) (x1 : Int32) (x2 : Int32) {r : Int32} {S9 : Mem} (h : f_A_record g S x1 x2 = some (r, S9)) : Ctr l y_A_record prog_1_method_23_code 3 (some .int) rm_A_record D (tyT cI cJ cZ cL) (wdC cI cJ cZ cL a) [.ref (a 0), .int x1, .int x2] S (vI r, S9) := by
  refine Ctr.of (lv0 := [(0, .ref (a 0)), (1, .int x1), (2, .int x2)]) (vv := vI) (by decide) rfl (wdC_fst cI cJ cZ cL a) (Nat.le_of_ble_eq_true rfl) rfl (fun p e s m args below meth c A C => ?_) r S9 h
  unfold f_A_record
  refine j_aload_n C 0 rfl rfl d_A_record_0 ?_
  refine gC_A_machine C u_242 d_A_record_1 ?_
  refine gnC_M_journal C n_187 d_A_record_4 ?_
  refine j_iload_n C 1 rfl rfl d_A_record_7 ?_
  refine j_iload_n C 2 rfl rfl d_A_record_8 ?_
  refine j_bnd (fun r21 S22 e23 => ?_)
  refine j_callVi (As := [.int x1, .int x2]) (rest := []) C 5 1 Y_J_tell u_673 (c_J_tell g S x1 x2 e23) rfl rfl ⟨by decide, by decide⟩ rfl rfl rfl rfl (Nat.le_of_ble_eq_true rfl) d_A_record_9 ?_
  exact j_iret C rfl rfl d_A_record_12
def f_A_count (g : Nat) (S : Mem) (x1 : Int32) : Option (Int64 × Mem) := if x1 = (0 : Int32) then (if (S.1 11 0) = 0 then (some ((0 : Int64), S)) else (some ((1 : Int64), S))) else (if x1 = (1 : Int32) then (if (S.1 11 0) = 0 then (some ((-1 : Int64), S)) else (some ((S.1 13 0).toInt64, S))) else (if x1 = (2 : Int32) then (some ((S.1 14 0).toInt64, S)) else (if x1 = (3 : Int32) then (some ((S.1 36 0).toInt64, S)) else (if x1 = (4 : Int32) then (some ((S.1 15 0).toInt64, S)) else (if x1 = (5 : Int32) then (some ((S.1 16 0).toInt64, S)) else (if x1 = (6 : Int32) then (some ((S.1 0 0).toInt64, S)) else (if x1 = (7 : Int32) then (some (((S.1 9 0) + (S.1 18 0)).toInt64, S)) else (if x1 = (8 : Int32) then (some ((S.1 1 0).toInt64, S)) else (if x1 = (9 : Int32) then (some (S.2.1 1 0, S)) else (if x1 = (10 : Int32) then (some (S.2.1 2 0, S)) else (some ((-1 : Int64), S))))))))))))
set_option maxRecDepth 100000 in
set_option maxHeartbeats 4000000 in
theorem c_A_count {l : Launch} {D : va_G} {cI cJ cZ cL : ClassId} {a : Nat → Nat} (g : Nat) (S : Mem) (x1 : Int32) {r : Int64} {S9 : Mem} (h : f_A_count g S x1 = some (r, S9)) : Ctr l y_A_count prog_1_method_24_code 2 (some .long) rm_A_count D (tyT cI cJ cZ cL) (wdC cI cJ cZ cL a) [.ref (a 0), .int x1] S (vL r, S9) := by
  refine Ctr.of (lv0 := [(0, .ref (a 0)), (1, .int x1)]) (vv := vL) (by decide) rfl (wdC_fst cI cJ cZ cL a) (Nat.le_of_ble_eq_true rfl) rfl (fun p e s m args below meth c A C => ?_) r S9 h
  unfold f_A_count
  refine j_iload_n C 1 rfl rfl d_A_count_0 ?_
  refine j_if (fun h21 => ?_) (fun h21 => ?_)
  · refine j_tabIn (off := 59) (tgt := 60) C d_A_count_1 (by rw [h21]; decide) (by rw [h21]; decide) (by rw [h21]; rfl) (by decide) ?_
    refine j_aload_n C 0 rfl rfl d_A_count_60 ?_
    refine gC_A_machine C u_242 d_A_count_61 ?_
    refine gnC_M_on C n_190 d_A_count_64 ?_
    refine j_if_eq (tgt := 74) C d_A_count_67 (by decide) (fun h22 => ?_) (fun h22 => ?_)
    · refine j_lconst (v := 0) C rfl d_A_count_74 ?_
      exact j_lret C rfl rfl d_A_count_75
    · refine j_lconst (v := 1) C rfl d_A_count_70 ?_
      refine j_goto (tgt := 75) C d_A_count_71 (by decide) ?_
      exact j_lret C rfl rfl d_A_count_75
  refine j_if (fun h23 => ?_) (fun h23 => ?_)
  · refine j_tabIn (off := 75) (tgt := 76) C d_A_count_1 (by rw [h23]; decide) (by rw [h23]; decide) (by rw [h23]; rfl) (by decide) ?_
    refine j_aload_n C 0 rfl rfl d_A_count_76 ?_
    refine gC_A_machine C u_242 d_A_count_77 ?_
    refine gnC_M_on C n_190 d_A_count_80 ?_
    refine j_if_eq (tgt := 97) C d_A_count_83 (by decide) (fun h24 => ?_) (fun h24 => ?_)
    · refine j_ldc2 (v := -1) C u_678 d_A_count_97 ?_
      exact j_lret C rfl rfl d_A_count_100
    · refine j_aload_n C 0 rfl rfl d_A_count_86 ?_
      refine gC_A_machine C u_242 d_A_count_87 ?_
      refine gnC_M_phase C n_193 d_A_count_90 ?_
      refine j_i2l C d_A_count_93 ?_
      refine j_goto (tgt := 100) C d_A_count_94 (by decide) ?_
      exact j_lret C rfl rfl d_A_count_100
  refine j_if (fun h25 => ?_) (fun h25 => ?_)
  · refine j_tabIn (off := 100) (tgt := 101) C d_A_count_1 (by rw [h25]; decide) (by rw [h25]; decide) (by rw [h25]; rfl) (by decide) ?_
    refine j_aload_n C 0 rfl rfl d_A_count_101 ?_
    refine gC_A_machine C u_242 d_A_count_102 ?_
    refine gnC_M_slot C n_195 d_A_count_105 ?_
    refine j_i2l C d_A_count_108 ?_
    exact j_lret C rfl rfl d_A_count_109
  refine j_if (fun h26 => ?_) (fun h26 => ?_)
  · refine j_tabIn (off := 109) (tgt := 110) C d_A_count_1 (by rw [h26]; decide) (by rw [h26]; decide) (by rw [h26]; rfl) (by decide) ?_
    refine j_aload_n C 0 rfl rfl d_A_count_110 ?_
    refine gC_A_machine C u_242 d_A_count_111 ?_
    refine gnC_M_journal C n_187 d_A_count_114 ?_
    refine gnC_J_size C n_171 d_A_count_117 ?_
    refine j_i2l C d_A_count_120 ?_
    exact j_lret C rfl rfl d_A_count_121
  refine j_if (fun h27 => ?_) (fun h27 => ?_)
  · refine j_tabIn (off := 121) (tgt := 122) C d_A_count_1 (by rw [h27]; decide) (by rw [h27]; decide) (by rw [h27]; rfl) (by decide) ?_
    refine j_aload_n C 0 rfl rfl d_A_count_122 ?_
    refine gC_A_machine C u_242 d_A_count_123 ?_
    refine gnC_M_nextTrace C n_197 d_A_count_126 ?_
    refine j_i2l C d_A_count_129 ?_
    exact j_lret C rfl rfl d_A_count_130
  refine j_if (fun h28 => ?_) (fun h28 => ?_)
  · refine j_tabIn (off := 130) (tgt := 131) C d_A_count_1 (by rw [h28]; decide) (by rw [h28]; decide) (by rw [h28]; rfl) (by decide) ?_
    refine j_aload_n C 0 rfl rfl d_A_count_131 ?_
    refine gC_A_machine C u_242 d_A_count_132 ?_
    refine gnC_M_openings C n_199 d_A_count_135 ?_
    refine j_i2l C d_A_count_138 ?_
    exact j_lret C rfl rfl d_A_count_139
  refine j_if (fun h29 => ?_) (fun h29 => ?_)
  · refine j_tabIn (off := 139) (tgt := 140) C d_A_count_1 (by rw [h29]; decide) (by rw [h29]; decide) (by rw [h29]; rfl) (by decide) ?_
    refine j_aload_n C 0 rfl rfl d_A_count_140 ?_
    refine gC_A_line C u_240 d_A_count_141 ?_
    refine gnC_N_inFlight C n_46 d_A_count_144 ?_
    refine j_i2l C d_A_count_147 ?_
    exact j_lret C rfl rfl d_A_count_148
  refine j_if (fun h30 => ?_) (fun h30 => ?_)
  · refine j_tabIn (off := 148) (tgt := 149) C d_A_count_1 (by rw [h30]; decide) (by rw [h30]; decide) (by rw [h30]; rfl) (by decide) ?_
    refine j_aload_n C 0 rfl rfl d_A_count_149 ?_
    refine gC_A_host C u_241 d_A_count_150 ?_
    refine gnC_H_dropped C n_77 d_A_count_153 ?_
    refine j_aload_n C 0 rfl rfl d_A_count_156 ?_
    refine gC_A_machine C u_242 d_A_count_157 ?_
    refine gnC_M_dropped C n_202 d_A_count_160 ?_
    refine j_iadd C d_A_count_163 ?_
    refine j_i2l C d_A_count_164 ?_
    exact j_lret C rfl rfl d_A_count_165
  refine j_if (fun h31 => ?_) (fun h31 => ?_)
  · refine j_tabIn (off := 165) (tgt := 166) C d_A_count_1 (by rw [h31]; decide) (by rw [h31]; decide) (by rw [h31]; rfl) (by decide) ?_
    refine j_aload_n C 0 rfl rfl d_A_count_166 ?_
    refine gC_A_line C u_240 d_A_count_167 ?_
    refine gnC_N_lostForRoom C n_48 d_A_count_170 ?_
    refine j_i2l C d_A_count_173 ?_
    exact j_lret C rfl rfl d_A_count_174
  refine j_if (fun h32 => ?_) (fun h32 => ?_)
  · refine j_tabIn (off := 174) (tgt := 175) C d_A_count_1 (by rw [h32]; decide) (by rw [h32]; decide) (by rw [h32]; rfl) (by decide) ?_
    refine j_aload_n C 0 rfl rfl d_A_count_175 ?_
    refine gC_A_host C u_241 d_A_count_176 ?_
    refine gnC_H_takenOff C n_75 d_A_count_179 ?_
    exact j_lret C rfl rfl d_A_count_182
  refine j_if (fun h33 => ?_) (fun h33 => ?_)
  · refine j_tabIn (off := 182) (tgt := 183) C d_A_count_1 (by rw [h33]; decide) (by rw [h33]; decide) (by rw [h33]; rfl) (by decide) ?_
    refine j_aload_n C 0 rfl rfl d_A_count_183 ?_
    refine gC_A_machine C u_242 d_A_count_184 ?_
    refine gnC_M_notes C n_185 d_A_count_187 ?_
    refine gnC_O_everInTray C n_131 d_A_count_190 ?_
    exact j_lret C rfl rfl d_A_count_193
  refine j_tabOut (tgt := 194) C d_A_count_1 (by have gh21 : x1.toInt ≠ 0 := fun z => h21 (Int32.toInt_inj.mp (z.trans (by decide))); have gh23 : x1.toInt ≠ 1 := fun z => h23 (Int32.toInt_inj.mp (z.trans (by decide))); have gh25 : x1.toInt ≠ 2 := fun z => h25 (Int32.toInt_inj.mp (z.trans (by decide))); have gh26 : x1.toInt ≠ 3 := fun z => h26 (Int32.toInt_inj.mp (z.trans (by decide))); have gh27 : x1.toInt ≠ 4 := fun z => h27 (Int32.toInt_inj.mp (z.trans (by decide))); have gh28 : x1.toInt ≠ 5 := fun z => h28 (Int32.toInt_inj.mp (z.trans (by decide))); have gh29 : x1.toInt ≠ 6 := fun z => h29 (Int32.toInt_inj.mp (z.trans (by decide))); have gh30 : x1.toInt ≠ 7 := fun z => h30 (Int32.toInt_inj.mp (z.trans (by decide))); have gh31 : x1.toInt ≠ 8 := fun z => h31 (Int32.toInt_inj.mp (z.trans (by decide))); have gh32 : x1.toInt ≠ 9 := fun z => h32 (Int32.toInt_inj.mp (z.trans (by decide))); have gh33 : x1.toInt ≠ 10 := fun z => h33 (Int32.toInt_inj.mp (z.trans (by decide))); omega) (by decide) ?_
  refine j_ldc2 (v := -1) C u_678 d_A_count_194 ?_
  exact j_lret C rfl rfl d_A_count_197
def f_R_account (g : Nat) (S : Mem) (x1 : Int32) (x2 : Int64) : Option (Int32 × Mem) := if x1 < 0 then (some ((0 : Int32), S)) else (if (7 : Int32) < x1 then (some ((0 : Int32), S)) else (if (lg_cmp x2 (0 : Int64)) < 0 then (some ((0 : Int32), S)) else (if (lg_cmp x2 (1000000000 : Int64)) ≤ 0 then (grd (¬ (x1 < 0 ∨ 8 ≤ x1.toNatClampNeg)) (lt (sL S 0 x1.toNatClampNeg x2) (fun S26 => some ((1 : Int32), S26)))) else (some ((0 : Int32), S)))))
set_option maxRecDepth 100000 in
set_option maxHeartbeats 4000000 in
theorem c_R_account {l : Launch} {D : va_G} {cI cJ cZ cL : ClassId} {a : Nat → Nat} (g : Nat) (S : Mem) (x1 : Int32) (x2 : Int64) {r : Int32} {S9 : Mem} (h : f_R_account g S x1 x2 = some (r, S9)) : Ctr l y_R_account prog_9_method_3_code 4 (some .boolean) rm_R_account D (tyT cI cJ cZ cL) (wdR cI cJ cZ cL a) [.ref (a 0), .int x1, .long x2] S (vI r, S9) := by
  refine Ctr.of (lv0 := [(0, .ref (a 0)), (1, .int x1), (2, .long x2)]) (vv := vI) (by decide) rfl (wdR_fst cI cJ cZ cL a) (Nat.le_of_ble_eq_true rfl) rfl (fun p e s m args below meth c A C => ?_) r S9 h
  unfold f_R_account
  refine j_iload_n C 1 rfl rfl d_R_account_0 ?_
  refine j_if_lt (tgt := 24) C d_R_account_1 (by decide) (fun h21 => ?_) (fun h21 => ?_)
  · refine j_iconst (v := 0) C (by decide) d_R_account_24 ?_
    exact j_zret C (Or.inl rfl) rfl rfl d_R_account_25
  · refine j_iload_n C 1 rfl rfl d_R_account_4 ?_
    refine j_bipush (v := 7) C (by decide) d_R_account_5 ?_
    refine j_icmp_gt (tgt := 24) C d_R_account_7 (by decide) (fun h22 => ?_) (fun h22 => ?_)
    · refine j_iconst (v := 0) C (by decide) d_R_account_24 ?_
      exact j_zret C (Or.inl rfl) rfl rfl d_R_account_25
    · refine j_lload_n C 2 rfl rfl d_R_account_10 ?_
      refine j_lconst (v := 0) C rfl d_R_account_11 ?_
      refine j_lcmp C d_R_account_12 ?_
      refine j_if_lt (tgt := 24) C d_R_account_13 (by decide) (fun h23 => ?_) (fun h23 => ?_)
      · refine j_iconst (v := 0) C (by decide) d_R_account_24 ?_
        exact j_zret C (Or.inl rfl) rfl rfl d_R_account_25
      · refine j_lload_n C 2 rfl rfl d_R_account_16 ?_
        refine j_ldc2 (v := 1000000000) C u_798 d_R_account_17 ?_
        refine j_lcmp C d_R_account_20 ?_
        refine j_if_le (tgt := 26) C d_R_account_21 (by decide) (fun h24 => ?_) (fun h24 => ?_)
        · refine j_aload_n C 0 rfl rfl d_R_account_26 ?_
          refine gR_R_balances C u_685 d_R_account_27 ?_
          refine j_iload_n C 1 rfl rfl d_R_account_30 ?_
          refine j_lload_n C 2 rfl rfl d_R_account_31 ?_
          refine j_grd (fun h25 => ?_)
          refine sR_R_balances C h25 d_R_account_32 ?_
          refine j_ltS (fun S26 => ?_)
          refine j_iconst (v := 1) C (by decide) d_R_account_33 ?_
          exact j_zret C (Or.inr rfl) rfl rfl d_R_account_34
        · refine j_iconst (v := 0) C (by decide) d_R_account_24 ?_
          exact j_zret C (Or.inl rfl) rfl rfl d_R_account_25
def f_R_card (g : Nat) (S : Mem) (x1 : Int32) (x2 : Int32) (x3 : Int32) : Option (Int32 × Mem) := if x1 < 0 then (some ((0 : Int32), S)) else (if (15 : Int32) < x1 then (some ((0 : Int32), S)) else (if x2 < 0 then (some ((0 : Int32), S)) else (if (7 : Int32) < x2 then (some ((0 : Int32), S)) else (if x3 < 0 then (some ((0 : Int32), S)) else (if x3 ≤ (9999 : Int32) then (grd (¬ (x1 < 0 ∨ 16 ≤ x1.toNatClampNeg)) (lt (sI S 0 x1.toNatClampNeg x2) (fun S28 => grd (¬ (x1 < 0 ∨ 16 ≤ x1.toNatClampNeg)) (lt (sI S28 1 x1.toNatClampNeg x3) (fun S30 => grd (¬ (x1 < 0 ∨ 16 ≤ x1.toNatClampNeg)) (lt (sI S30 2 x1.toNatClampNeg (0 : Int32)) (fun S32 => some ((1 : Int32), S32)))))))) else (some ((0 : Int32), S)))))))
set_option maxRecDepth 100000 in
set_option maxHeartbeats 4000000 in
theorem c_R_card {l : Launch} {D : va_G} {cI cJ cZ cL : ClassId} {a : Nat → Nat} (g : Nat) (S : Mem) (x1 : Int32) (x2 : Int32) (x3 : Int32) {r : Int32} {S9 : Mem} (h : f_R_card g S x1 x2 x3 = some (r, S9)) : Ctr l y_R_card prog_9_method_4_code 4 (some .boolean) rm_R_card D (tyT cI cJ cZ cL) (wdR cI cJ cZ cL a) [.ref (a 0), .int x1, .int x2, .int x3] S (vI r, S9) := by
  refine Ctr.of (lv0 := [(0, .ref (a 0)), (1, .int x1), (2, .int x2), (3, .int x3)]) (vv := vI) (by decide) rfl (wdR_fst cI cJ cZ cL a) (Nat.le_of_ble_eq_true rfl) rfl (fun p e s m args below meth c A C => ?_) r S9 h
  unfold f_R_card
  refine j_iload_n C 1 rfl rfl d_R_card_0 ?_
  refine j_if_lt (tgt := 31) C d_R_card_1 (by decide) (fun h21 => ?_) (fun h21 => ?_)
  · refine j_iconst (v := 0) C (by decide) d_R_card_31 ?_
    exact j_zret C (Or.inl rfl) rfl rfl d_R_card_32
  · refine j_iload_n C 1 rfl rfl d_R_card_4 ?_
    refine j_bipush (v := 15) C (by decide) d_R_card_5 ?_
    refine j_icmp_gt (tgt := 31) C d_R_card_7 (by decide) (fun h22 => ?_) (fun h22 => ?_)
    · refine j_iconst (v := 0) C (by decide) d_R_card_31 ?_
      exact j_zret C (Or.inl rfl) rfl rfl d_R_card_32
    · refine j_iload_n C 2 rfl rfl d_R_card_10 ?_
      refine j_if_lt (tgt := 31) C d_R_card_11 (by decide) (fun h23 => ?_) (fun h23 => ?_)
      · refine j_iconst (v := 0) C (by decide) d_R_card_31 ?_
        exact j_zret C (Or.inl rfl) rfl rfl d_R_card_32
      · refine j_iload_n C 2 rfl rfl d_R_card_14 ?_
        refine j_bipush (v := 7) C (by decide) d_R_card_15 ?_
        refine j_icmp_gt (tgt := 31) C d_R_card_17 (by decide) (fun h24 => ?_) (fun h24 => ?_)
        · refine j_iconst (v := 0) C (by decide) d_R_card_31 ?_
          exact j_zret C (Or.inl rfl) rfl rfl d_R_card_32
        · refine j_iload_n C 3 rfl rfl d_R_card_20 ?_
          refine j_if_lt (tgt := 31) C d_R_card_21 (by decide) (fun h25 => ?_) (fun h25 => ?_)
          · refine j_iconst (v := 0) C (by decide) d_R_card_31 ?_
            exact j_zret C (Or.inl rfl) rfl rfl d_R_card_32
          · refine j_iload_n C 3 rfl rfl d_R_card_24 ?_
            refine j_sipush (v := 9999) C (by decide) d_R_card_25 ?_
            refine j_icmp_le (tgt := 33) C d_R_card_28 (by decide) (fun h26 => ?_) (fun h26 => ?_)
            · refine j_aload_n C 0 rfl rfl d_R_card_33 ?_
              refine gR_R_accountOf C u_686 d_R_card_34 ?_
              refine j_iload_n C 1 rfl rfl d_R_card_37 ?_
              refine j_iload_n C 2 rfl rfl d_R_card_38 ?_
              refine j_grd (fun h27 => ?_)
              refine sR_R_accountOf C h27 d_R_card_39 ?_
              refine j_ltS (fun S28 => ?_)
              refine j_aload_n C 0 rfl rfl d_R_card_40 ?_
              refine gR_R_pinOf C u_687 d_R_card_41 ?_
              refine j_iload_n C 1 rfl rfl d_R_card_44 ?_
              refine j_iload_n C 3 rfl rfl d_R_card_45 ?_
              refine j_grd (fun h29 => ?_)
              refine sR_R_pinOf C h29 d_R_card_46 ?_
              refine j_ltS (fun S30 => ?_)
              refine j_aload_n C 0 rfl rfl d_R_card_47 ?_
              refine gR_R_tries C u_688 d_R_card_48 ?_
              refine j_iload_n C 1 rfl rfl d_R_card_51 ?_
              refine j_iconst (v := 0) C (by decide) d_R_card_52 ?_
              refine j_grd (fun h31 => ?_)
              refine sR_R_tries C h31 d_R_card_53 ?_
              refine j_ltS (fun S32 => ?_)
              refine j_iconst (v := 1) C (by decide) d_R_card_54 ?_
              exact j_zret C (Or.inr rfl) rfl rfl d_R_card_55
            · refine j_iconst (v := 0) C (by decide) d_R_card_31 ?_
              exact j_zret C (Or.inl rfl) rfl rfl d_R_card_32
def f_R_load (g : Nat) (S : Mem) (x1 : Int32) (x2 : Int32) (x3 : Int32) : Option (Int32 × Mem) := if x1 < 0 then (some ((0 : Int32), S)) else (if (3 : Int32) < x1 then (some ((0 : Int32), S)) else (if x2 < (1 : Int32) then (some ((0 : Int32), S)) else (if (1000 : Int32) < x2 then (some ((0 : Int32), S)) else (if x3 < 0 then (some ((0 : Int32), S)) else (if (200 : Int32) < x3 then (some ((0 : Int32), S)) else (if (S.1 18 0) = 0 then (some ((0 : Int32), S)) else (if (S.1 20 0) = (4 : Int32) then (some ((0 : Int32), S)) else (grd (¬ (x1 < 0 ∨ 4 ≤ x1.toNatClampNeg)) (lt (sI S 8 x1.toNatClampNeg x2) (fun S30 => grd (¬ (x1 < 0 ∨ 4 ≤ x1.toNatClampNeg)) (lt (sI S30 9 x1.toNatClampNeg x3) (fun S32 => some ((1 : Int32), S32)))))))))))))
set_option maxRecDepth 100000 in
set_option maxHeartbeats 4000000 in
theorem c_R_load {l : Launch} {D : va_G} {cI cJ cZ cL : ClassId} {a : Nat → Nat} (g : Nat) (S : Mem) (x1 : Int32) (x2 : Int32) (x3 : Int32) {r : Int32} {S9 : Mem} (h : f_R_load g S x1 x2 x3 = some (r, S9)) : Ctr l y_R_load prog_9_method_23_code 4 (some .boolean) rm_R_load D (tyT cI cJ cZ cL) (wdR cI cJ cZ cL a) [.ref (a 0), .int x1, .int x2, .int x3] S (vI r, S9) := by
  refine Ctr.of (lv0 := [(0, .ref (a 0)), (1, .int x1), (2, .int x2), (3, .int x3)]) (vv := vI) (by decide) rfl (wdR_fst cI cJ cZ cL a) (Nat.le_of_ble_eq_true rfl) rfl (fun p e s m args below meth c A C => ?_) r S9 h
  unfold f_R_load
  refine j_iload_n C 1 rfl rfl d_R_load_0 ?_
  refine j_if_lt (tgt := 47) C d_R_load_1 (by decide) (fun h21 => ?_) (fun h21 => ?_)
  · refine j_iconst (v := 0) C (by decide) d_R_load_47 ?_
    exact j_zret C (Or.inl rfl) rfl rfl d_R_load_48
  · refine j_iload_n C 1 rfl rfl d_R_load_4 ?_
    refine j_iconst (v := 3) C (by decide) d_R_load_5 ?_
    refine j_icmp_gt (tgt := 47) C d_R_load_6 (by decide) (fun h22 => ?_) (fun h22 => ?_)
    · refine j_iconst (v := 0) C (by decide) d_R_load_47 ?_
      exact j_zret C (Or.inl rfl) rfl rfl d_R_load_48
    · refine j_iload_n C 2 rfl rfl d_R_load_9 ?_
      refine j_iconst (v := 1) C (by decide) d_R_load_10 ?_
      refine j_icmp_lt (tgt := 47) C d_R_load_11 (by decide) (fun h23 => ?_) (fun h23 => ?_)
      · refine j_iconst (v := 0) C (by decide) d_R_load_47 ?_
        exact j_zret C (Or.inl rfl) rfl rfl d_R_load_48
      · refine j_iload_n C 2 rfl rfl d_R_load_14 ?_
        refine j_sipush (v := 1000) C (by decide) d_R_load_15 ?_
        refine j_icmp_gt (tgt := 47) C d_R_load_18 (by decide) (fun h24 => ?_) (fun h24 => ?_)
        · refine j_iconst (v := 0) C (by decide) d_R_load_47 ?_
          exact j_zret C (Or.inl rfl) rfl rfl d_R_load_48
        · refine j_iload_n C 3 rfl rfl d_R_load_21 ?_
          refine j_if_lt (tgt := 47) C d_R_load_22 (by decide) (fun h25 => ?_) (fun h25 => ?_)
          · refine j_iconst (v := 0) C (by decide) d_R_load_47 ?_
            exact j_zret C (Or.inl rfl) rfl rfl d_R_load_48
          · refine j_iload_n C 3 rfl rfl d_R_load_25 ?_
            refine j_sipush (v := 200) C (by decide) d_R_load_26 ?_
            refine j_icmp_gt (tgt := 47) C d_R_load_29 (by decide) (fun h26 => ?_) (fun h26 => ?_)
            · refine j_iconst (v := 0) C (by decide) d_R_load_47 ?_
              exact j_zret C (Or.inl rfl) rfl rfl d_R_load_48
            · refine j_aload_n C 0 rfl rfl d_R_load_32 ?_
              refine gR_R_isOn C u_708 d_R_load_33 ?_
              refine j_if_eq (tgt := 47) C d_R_load_36 (by decide) (fun h27 => ?_) (fun h27 => ?_)
              · refine j_iconst (v := 0) C (by decide) d_R_load_47 ?_
                exact j_zret C (Or.inl rfl) rfl rfl d_R_load_48
              · refine j_aload_n C 0 rfl rfl d_R_load_39 ?_
                refine gR_R_phase C u_710 d_R_load_40 ?_
                refine j_iconst (v := 4) C (by decide) d_R_load_43 ?_
                refine j_icmp_ne (tgt := 49) C d_R_load_44 (by decide) (fun h28 => ?_) (fun h28 => ?_)
                · refine j_iconst (v := 0) C (by decide) d_R_load_47 ?_
                  exact j_zret C (Or.inl rfl) rfl rfl d_R_load_48
                · refine j_aload_n C 0 rfl rfl d_R_load_49 ?_
                  refine gR_R_denomination C u_695 d_R_load_50 ?_
                  refine j_iload_n C 1 rfl rfl d_R_load_53 ?_
                  refine j_iload_n C 2 rfl rfl d_R_load_54 ?_
                  refine j_grd (fun h29 => ?_)
                  refine sR_R_denomination C h29 d_R_load_55 ?_
                  refine j_ltS (fun S30 => ?_)
                  refine j_aload_n C 0 rfl rfl d_R_load_56 ?_
                  refine gR_R_notes C u_696 d_R_load_57 ?_
                  refine j_iload_n C 1 rfl rfl d_R_load_60 ?_
                  refine j_iload_n C 3 rfl rfl d_R_load_61 ?_
                  refine j_grd (fun h31 => ?_)
                  refine sR_R_notes C h31 d_R_load_62 ?_
                  refine j_ltS (fun S32 => ?_)
                  refine j_iconst (v := 1) C (by decide) d_R_load_63 ?_
                  exact j_zret C (Or.inr rfl) rfl rfl d_R_load_64
def f_R_insert (g : Nat) (S : Mem) (x1 : Int32) : Option (Int32 × Mem) := if x1 < 0 then (some ((0 : Int32), S)) else (if (15 : Int32) < x1 then (some ((0 : Int32), S)) else (grd (¬ (x1 < 0 ∨ 16 ≤ x1.toNatClampNeg)) (if (S.1 13 x1.toNatClampNeg) = 0 then (if (S.1 18 0) = 0 then (some ((0 : Int32), S)) else (if (S.1 20 0) = 0 then (lt (sI S 21 0 x1) (fun S27 => lt (sI S27 20 0 (1 : Int32)) (fun S28 => some ((1 : Int32), S28)))) else (some ((0 : Int32), S)))) else (some ((0 : Int32), S)))))
set_option maxRecDepth 100000 in
set_option maxHeartbeats 4000000 in
theorem c_R_insert {l : Launch} {D : va_G} {cI cJ cZ cL : ClassId} {a : Nat → Nat} (g : Nat) (S : Mem) (x1 : Int32) {r : Int32} {S9 : Mem} (h : f_R_insert g S x1 = some (r, S9)) : Ctr l y_R_insert prog_9_method_24_code 2 (some .boolean) rm_R_insert D (tyT cI cJ cZ cL) (wdR cI cJ cZ cL a) [.ref (a 0), .int x1] S (vI r, S9) := by
  refine Ctr.of (lv0 := [(0, .ref (a 0)), (1, .int x1)]) (vv := vI) (by decide) rfl (wdR_fst cI cJ cZ cL a) (Nat.le_of_ble_eq_true rfl) rfl (fun p e s m args below meth c A C => ?_) r S9 h
  unfold f_R_insert
  refine j_iload_n C 1 rfl rfl d_R_insert_0 ?_
  refine j_if_lt (tgt := 33) C d_R_insert_1 (by decide) (fun h21 => ?_) (fun h21 => ?_)
  · refine j_iconst (v := 0) C (by decide) d_R_insert_33 ?_
    exact j_zret C (Or.inl rfl) rfl rfl d_R_insert_34
  · refine j_iload_n C 1 rfl rfl d_R_insert_4 ?_
    refine j_bipush (v := 15) C (by decide) d_R_insert_5 ?_
    refine j_icmp_gt (tgt := 33) C d_R_insert_7 (by decide) (fun h22 => ?_) (fun h22 => ?_)
    · refine j_iconst (v := 0) C (by decide) d_R_insert_33 ?_
      exact j_zret C (Or.inl rfl) rfl rfl d_R_insert_34
    · refine j_aload_n C 0 rfl rfl d_R_insert_10 ?_
      refine gR_R_isKept C u_703 d_R_insert_11 ?_
      refine j_iload_n C 1 rfl rfl d_R_insert_14 ?_
      refine j_grd (fun h23 => ?_)
      refine lR_R_isKept C h23 d_R_insert_15 ?_
      refine j_if_ne (tgt := 33) C d_R_insert_16 (by decide) (fun h24 => ?_) (fun h24 => ?_)
      · refine j_aload_n C 0 rfl rfl d_R_insert_19 ?_
        refine gR_R_isOn C u_708 d_R_insert_20 ?_
        refine j_if_eq (tgt := 33) C d_R_insert_23 (by decide) (fun h25 => ?_) (fun h25 => ?_)
        · refine j_iconst (v := 0) C (by decide) d_R_insert_33 ?_
          exact j_zret C (Or.inl rfl) rfl rfl d_R_insert_34
        · refine j_aload_n C 0 rfl rfl d_R_insert_26 ?_
          refine gR_R_phase C u_710 d_R_insert_27 ?_
          refine j_if_eq (tgt := 35) C d_R_insert_30 (by decide) (fun h26 => ?_) (fun h26 => ?_)
          · refine j_aload_n C 0 rfl rfl d_R_insert_35 ?_
            refine j_iload_n C 1 rfl rfl d_R_insert_36 ?_
            refine pR_R_slotCard C u_711 d_R_insert_37 ?_
            refine j_ltS (fun S27 => ?_)
            refine j_aload_n C 0 rfl rfl d_R_insert_40 ?_
            refine j_iconst (v := 1) C (by decide) d_R_insert_41 ?_
            refine pR_R_phase C u_710 d_R_insert_42 ?_
            refine j_ltS (fun S28 => ?_)
            refine j_iconst (v := 1) C (by decide) d_R_insert_45 ?_
            exact j_zret C (Or.inr rfl) rfl rfl d_R_insert_46
          · refine j_iconst (v := 0) C (by decide) d_R_insert_33 ?_
            exact j_zret C (Or.inl rfl) rfl rfl d_R_insert_34
      · refine j_iconst (v := 0) C (by decide) d_R_insert_33 ?_
        exact j_zret C (Or.inl rfl) rfl rfl d_R_insert_34
def f_R_goOff (g : Nat) (S : Mem) : Option (Unit × Mem) := lt (sI S 18 0 (0 : Int32)) (fun S21 => lt (sI S21 19 0 (-1 : Int32)) (fun S22 => some ((), S22)))
set_option maxRecDepth 100000 in
set_option maxHeartbeats 4000000 in
theorem c_R_goOff {l : Launch} {D : va_G} {cI cJ cZ cL : ClassId} {a : Nat → Nat} (g : Nat) (S : Mem) {r : Unit} {S9 : Mem} (h : f_R_goOff g S = some (r, S9)) : Ctr l y_R_goOff prog_9_method_15_code 1 none rm_R_goOff D (tyT cI cJ cZ cL) (wdR cI cJ cZ cL a) [.ref (a 0)] S (vV r, S9) := by
  refine Ctr.of (lv0 := [(0, .ref (a 0))]) (vv := vV) (by decide) rfl (wdR_fst cI cJ cZ cL a) (Nat.le_of_ble_eq_true rfl) rfl (fun p e s m args below meth c A C => ?_) r S9 h
  unfold f_R_goOff
  refine j_aload_n C 0 rfl rfl d_R_goOff_0 ?_
  refine j_iconst (v := 0) C (by decide) d_R_goOff_1 ?_
  refine pR_R_isOn C (Or.inl rfl) u_708 d_R_goOff_2 ?_
  refine j_ltS (fun S21 => ?_)
  refine j_aload_n C 0 rfl rfl d_R_goOff_5 ?_
  refine j_iconst (v := -1) C (by decide) d_R_goOff_6 ?_
  refine pR_R_armed C u_709 d_R_goOff_7 ?_
  refine j_ltS (fun S22 => ?_)
  exact j_vret C rfl rfl d_R_goOff_10
def f_R_step (g : Nat) (S : Mem) : Option (Int32 × Mem) := if (S.1 18 0) = 0 then (some ((0 : Int32), S)) else (if (S.1 19 0) = 0 then (bnd (f_R_goOff g S) (fun _ S24 => some ((0 : Int32), S24))) else (if (S.1 19 0) ≤ 0 then (lt (sI S 19 0 ((S.1 19 0) - (0 : Int32))) (fun S27 => some ((1 : Int32), S27))) else (lt (sI S 19 0 ((S.1 19 0) - (1 : Int32))) (fun S28 => some ((1 : Int32), S28)))))
set_option maxRecDepth 100000 in
set_option maxHeartbeats 4000000 in
theorem c_R_step {l : Launch} {D : va_G} {cI cJ cZ cL : ClassId} {a : Nat → Nat} (g : Nat) (S : Mem) {r : Int32} {S9 : Mem} (h : f_R_step g S = some (r, S9)) : Ctr l y_R_step prog_9_method_14_code 1 (some .boolean) rm_R_step D (tyT cI cJ cZ cL) (wdR cI cJ cZ cL a) [.ref (a 0)] S (vI r, S9) := by
  refine Ctr.of (lv0 := [(0, .ref (a 0))]) (vv := vI) (by decide) rfl (wdR_fst cI cJ cZ cL a) (Nat.le_of_ble_eq_true rfl) rfl (fun p e s m args below meth c A C => ?_) r S9 h
  unfold f_R_step
  refine j_aload_n C 0 rfl rfl d_R_step_0 ?_
  refine gR_R_isOn C u_708 d_R_step_1 ?_
  refine j_if_ne (tgt := 9) C d_R_step_4 (by decide) (fun h21 => ?_) (fun h21 => ?_)
  · refine j_iconst (v := 0) C (by decide) d_R_step_7 ?_
    exact j_zret C (Or.inl rfl) rfl rfl d_R_step_8
  · refine j_aload_n C 0 rfl rfl d_R_step_9 ?_
    refine gR_R_armed C u_709 d_R_step_10 ?_
    refine j_if_ne (tgt := 22) C d_R_step_13 (by decide) (fun h22 => ?_) (fun h22 => ?_)
    · refine j_aload_n C 0 rfl rfl d_R_step_16 ?_
      refine j_bnd (fun _ S24 e25 => ?_)
      refine j_callVv (As := []) (rest := []) C 0 7 Y_R_goOff u_823 (c_R_goOff g S e25) rfl rfl ⟨by decide, by decide⟩ rfl rfl rfl rfl (Nat.le_of_ble_eq_true rfl) d_R_step_17 ?_
      refine j_iconst (v := 0) C (by decide) d_R_step_20 ?_
      exact j_zret C (Or.inl rfl) rfl rfl d_R_step_21
    · refine j_aload_n C 0 rfl rfl d_R_step_22 ?_
      refine j_dup C rfl d_R_step_23 ?_
      refine gR_R_armed C u_709 d_R_step_24 ?_
      refine j_aload_n C 0 rfl rfl d_R_step_27 ?_
      refine gR_R_armed C u_709 d_R_step_28 ?_
      refine j_if_le (tgt := 38) C d_R_step_31 (by decide) (fun h26 => ?_) (fun h26 => ?_)
      · refine j_iconst (v := 0) C (by decide) d_R_step_38 ?_
        refine j_isub C d_R_step_39 ?_
        refine pR_R_armed C u_709 d_R_step_40 ?_
        refine j_ltS (fun S27 => ?_)
        refine j_iconst (v := 1) C (by decide) d_R_step_43 ?_
        exact j_zret C (Or.inr rfl) rfl rfl d_R_step_44
      · refine j_iconst (v := 1) C (by decide) d_R_step_34 ?_
        refine j_goto (tgt := 39) C d_R_step_35 (by decide) ?_
        refine j_isub C d_R_step_39 ?_
        refine pR_R_armed C u_709 d_R_step_40 ?_
        refine j_ltS (fun S28 => ?_)
        refine j_iconst (v := 1) C (by decide) d_R_step_43 ?_
        exact j_zret C (Or.inr rfl) rfl rfl d_R_step_44
def f_R_drop_15 (g : Nat) : Nat → Mem → Int32 → Option (Mem × (Unit))
  | 0, _, _ => none
  | n + 1, S, x2 => if ((14 : Int32) * (S.1 26 0)) ≤ x2 then (some (S, ())) else (grd (¬ ((x2 + (14 : Int32)) < 0 ∨ 350 ≤ (x2 + (14 : Int32)).toNatClampNeg)) (grd (¬ (x2 < 0 ∨ 350 ≤ x2.toNatClampNeg)) (lt (sI S 25 x2.toNatClampNeg (S.1 25 ((x2 + (14 : Int32)).toNatClampNeg))) (fun S26 => lt (x2 + (1 : Int32)) (fun x27 => f_R_drop_15 g n S26 x27)))))
set_option maxRecDepth 100000 in
set_option maxHeartbeats 4000000 in
theorem lp_R_drop_15 {l : Launch} {D : va_G} {cI cJ cZ cL : ClassId} {a : Nat → Nat} {p : Program} {e : Env} {s : State} {m : MethodId} {args : Array Value} {below : List Frame} {meth : Method} {c : Code} {A : Nat → Prop} (C : Cx p s m args meth c "AutoTellerModel" prog_9_method_6_code 3 none D (tyT cI cJ cZ cL) (wdR cI cJ cZ cL a) A) (g : Nat) {K : (Mem × (Unit)) → Option (Unit × Mem)} (hx : ∀ (S : Mem) (y : Unit), Tj p l e rm_R_drop s m args below meth c D (wdR cI cJ cZ cL a) A 3 vV K (some (S, y)) S 47 [] []) : ∀ (n : Nat) (S : Mem) (x2 : Int32), Tj p l e rm_R_drop s m args below meth c D (wdR cI cJ cZ cL a) A 3 vV K (f_R_drop_15 g n S x2) S 15 [(0, .ref (a 0)), (2, .int x2)] [] := by
  intro n
  induction n with
  | zero =>
    intro S x2
    exact j_none
  | succ n ih =>
    intro S x2
    rw [f_R_drop_15]
    refine j_iload_n C 1 rfl rfl d_R_drop_15 ?_
    refine j_bipush (v := 14) C (by decide) d_R_drop_16 ?_
    refine j_aload_n C 0 rfl rfl d_R_drop_18 ?_
    refine gR_R_flying C u_716 d_R_drop_19 ?_
    refine j_imul C d_R_drop_22 ?_
    refine j_icmp_ge (tgt := 47) C d_R_drop_23 (by decide) (fun h23 => ?_) (fun h23 => ?_)
    · refine j_sub [] rfl ?_
      exact hx S ()
    · refine j_aload_n C 0 rfl rfl d_R_drop_26 ?_
      refine gR_R_line C u_715 d_R_drop_27 ?_
      refine j_iload_n C 1 rfl rfl d_R_drop_30 ?_
      refine j_aload_n C 0 rfl rfl d_R_drop_31 ?_
      refine gR_R_line C u_715 d_R_drop_32 ?_
      refine j_iload_n C 1 rfl rfl d_R_drop_35 ?_
      refine j_bipush (v := 14) C (by decide) d_R_drop_36 ?_
      refine j_iadd C d_R_drop_38 ?_
      refine j_grd (fun h24 => ?_)
      refine lR_R_line C h24 d_R_drop_39 ?_
      refine j_grd (fun h25 => ?_)
      refine sR_R_line C h25 d_R_drop_40 ?_
      refine j_ltS (fun S26 => ?_)
      refine j_iincN (n2 := 1) (lv2 := fun x27 => [(2, .int x27), (0, .ref (a 0))]) C 1 rfl (by decide) (by decide) (fun _ => rfl) d_R_drop_41 (fun x27 => ?_)
      refine j_goto (tgt := 15) C d_R_drop_44 (by decide) ?_
      refine j_sub [1, 0] rfl ?_
      exact ih S26 x27
def f_R_drop (g : Nat) (S : Mem) (x1 : Int32) : Option (Unit × Mem) := lt (sI S 26 0 ((S.1 26 0) - (1 : Int32))) (fun S21 => lt ((14 : Int32) * x1) (fun x22 => seqM (f_R_drop_15 g g S21 x22) (fun S28 y29 => some ((), S28))))
set_option maxRecDepth 100000 in
set_option maxHeartbeats 4000000 in
theorem c_R_drop {l : Launch} {D : va_G} {cI cJ cZ cL : ClassId} {a : Nat → Nat} (g : Nat) (S : Mem) (x1 : Int32) {r : Unit} {S9 : Mem} (h : f_R_drop g S x1 = some (r, S9)) : Ctr l y_R_drop prog_9_method_6_code 3 none rm_R_drop D (tyT cI cJ cZ cL) (wdR cI cJ cZ cL a) [.ref (a 0), .int x1] S (vV r, S9) := by
  refine Ctr.of (lv0 := [(0, .ref (a 0)), (1, .int x1)]) (vv := vV) (by decide) rfl (wdR_fst cI cJ cZ cL a) (Nat.le_of_ble_eq_true rfl) rfl (fun p e s m args below meth c A C => ?_) r S9 h
  unfold f_R_drop
  refine j_aload_n C 0 rfl rfl d_R_drop_0 ?_
  refine j_dup C rfl d_R_drop_1 ?_
  refine gR_R_flying C u_716 d_R_drop_2 ?_
  refine j_iconst (v := 1) C (by decide) d_R_drop_5 ?_
  refine j_isub C d_R_drop_6 ?_
  refine pR_R_flying C u_716 d_R_drop_7 ?_
  refine j_ltS (fun S21 => ?_)
  refine j_bipush (v := 14) C (by decide) d_R_drop_10 ?_
  refine j_iload_n C 1 rfl rfl d_R_drop_12 ?_
  refine j_imul C d_R_drop_13 ?_
  refine j_lti (fun x22 => ?_)
  refine j_istore_n (i := 2) (lv2 := [(2, .int x22), (0, .ref (a 0)), (1, .int x1)]) C rfl (by decide) rfl d_R_drop_14 ?_
  refine j_sub [1, 0] rfl ?_
  refine j_seqM ?_
  refine lp_R_drop_15 C g  (fun S28 y29 => ?_) g S21 x22
  refine j_outM ?_
  exact j_vret C rfl rfl d_R_drop_47
def f_R_check_line_25 (g : Nat) : Nat → Mem → Int32 → Int32 → Int32 → Int32 → Option (Mem × (Int32 × Int32 × Int32))
  | 0, _, _, _, _, _ => none
  | n + 1, S, x1, x2, x3, x4 => if (8 : Int32) ≤ x4 then (some (S, (x1, x2, x3))) else (if x2 ≤ (32767 : Int32) then (lt ((x2 * (2 : Int32)) &&& (65535 : Int32)) (fun x26 => lt (x4 + (1 : Int32)) (fun x27 => f_R_check_line_25 g n S x1 x26 x3 x27))) else (lt ((x2 * (2 : Int32)) &&& (65535 : Int32)) (fun x28 => lt (x28 ^^^ (4129 : Int32)) (fun x29 => lt (x4 + (1 : Int32)) (fun x30 => f_R_check_line_25 g n S x1 x29 x3 x30)))))
set_option maxRecDepth 100000 in
set_option maxHeartbeats 4000000 in
theorem lp_R_check_line_25 {l : Launch} {D : va_G} {cI cJ cZ cL : ClassId} {a : Nat → Nat} {p : Program} {e : Env} {s : State} {m : MethodId} {args : Array Value} {below : List Frame} {meth : Method} {c : Code} {A : Nat → Prop} (C : Cx p s m args meth c "AutoTellerModel" prog_9_method_5_code 6 (some .int) D (tyT cI cJ cZ cL) (wdR cI cJ cZ cL a) A) (g : Nat) {K : (Mem × (Int32 × Int32 × Int32)) → Option (Int32 × Mem)} (hx : ∀ (S : Mem) (y : Int32 × Int32 × Int32), Tj p l e rm_R_check_line s m args below meth c D (wdR cI cJ cZ cL a) A 6 vI K (some (S, y)) S 74 [(0, .ref (a 17)), (1, .int y.1), (2, .int y.2.1), (3, .int y.2.2)] []) : ∀ (n : Nat) (S : Mem) (x1 : Int32) (x2 : Int32) (x3 : Int32) (x4 : Int32), Tj p l e rm_R_check_line s m args below meth c D (wdR cI cJ cZ cL a) A 6 vI K (f_R_check_line_25 g n S x1 x2 x3 x4) S 25 [(0, .ref (a 17)), (1, .int x1), (2, .int x2), (3, .int x3), (4, .int x4)] [] := by
  intro n
  induction n with
  | zero =>
    intro S x1 x2 x3 x4
    exact j_none
  | succ n ih =>
    intro S x1 x2 x3 x4
    rw [f_R_check_line_25]
    refine j_iload C 4 rfl d_R_check_25 ?_
    refine j_bipush (v := 8) C (by decide) d_R_check_27 ?_
    refine j_icmp_ge (tgt := 74) C d_R_check_29 (by decide) (fun h24 => ?_) (fun h24 => ?_)
    · refine j_sub [0, 1, 2, 3] rfl ?_
      exact hx S (x1, x2, x3)
    · refine j_iload_n C 2 rfl rfl d_R_check_32 ?_
      refine j_sipush (v := 32767) C (by decide) d_R_check_33 ?_
      refine j_icmp_le (tgt := 43) C d_R_check_36 (by decide) (fun h25 => ?_) (fun h25 => ?_)
      · refine j_iconst (v := 0) C (by decide) d_R_check_43 ?_
        refine j_istore (i := 5) (lv2 := [(5, .int (0 : Int32)), (0, .ref (a 17)), (1, .int x1), (2, .int x2), (3, .int x3), (4, .int x4)]) C (by decide) rfl d_R_check_44 ?_
        refine j_iload_n C 3 rfl rfl d_R_check_46 ?_
        refine j_iconst (v := 2) C (by decide) d_R_check_47 ?_
        refine j_imul C d_R_check_48 ?_
        refine j_ldc (v := 65535) C u_838 d_R_check_49 ?_
        refine j_iand C d_R_check_51 ?_
        refine j_lti (fun x26 => ?_)
        refine j_istore_n (i := 2) (lv2 := [(2, .int x26), (5, .int (0 : Int32)), (0, .ref (a 17)), (1, .int x1), (3, .int x3), (4, .int x4)]) C rfl (by decide) rfl d_R_check_52 ?_
        refine j_iload C 1 rfl d_R_check_53 ?_
        refine j_if_eq_T (tgt := 66) C d_R_check_55 (by decide) (by decide) ?_
        refine j_iload_n C 0 rfl rfl d_R_check_66 ?_
        refine j_istore_n (i := 2) (lv2 := [(2, .int x26), (5, .int (0 : Int32)), (0, .ref (a 17)), (1, .int x1), (3, .int x3), (4, .int x4)]) C rfl (by decide) rfl d_R_check_67 ?_
        refine j_iincN (n2 := 1) (lv2 := fun x27 => [(4, .int x27), (2, .int x26), (5, .int (0 : Int32)), (0, .ref (a 17)), (1, .int x1), (3, .int x3)]) C 5 rfl (by decide) (by decide) (fun _ => rfl) d_R_check_68 (fun x27 => ?_)
        refine j_goto (tgt := 25) C d_R_check_71 (by decide) ?_
        refine j_sub [3, 4, 1, 5, 0] rfl ?_
        exact ih S x1 x26 x3 x27
      · refine j_iconst (v := 1) C (by decide) d_R_check_39 ?_
        refine j_goto (tgt := 44) C d_R_check_40 (by decide) ?_
        refine j_istore (i := 5) (lv2 := [(5, .int (1 : Int32)), (0, .ref (a 17)), (1, .int x1), (2, .int x2), (3, .int x3), (4, .int x4)]) C (by decide) rfl d_R_check_44 ?_
        refine j_iload_n C 3 rfl rfl d_R_check_46 ?_
        refine j_iconst (v := 2) C (by decide) d_R_check_47 ?_
        refine j_imul C d_R_check_48 ?_
        refine j_ldc (v := 65535) C u_838 d_R_check_49 ?_
        refine j_iand C d_R_check_51 ?_
        refine j_lti (fun x28 => ?_)
        refine j_istore_n (i := 2) (lv2 := [(2, .int x28), (5, .int (1 : Int32)), (0, .ref (a 17)), (1, .int x1), (3, .int x3), (4, .int x4)]) C rfl (by decide) rfl d_R_check_52 ?_
        refine j_iload C 1 rfl d_R_check_53 ?_
        refine j_if_eq_F (tgt := 66) C d_R_check_55 (by decide) (by decide) ?_
        refine j_iload_n C 0 rfl rfl d_R_check_58 ?_
        refine j_sipush (v := 4129) C (by decide) d_R_check_59 ?_
        refine j_ixor C d_R_check_62 ?_
        refine j_goto (tgt := 67) C d_R_check_63 (by decide) ?_
        refine j_lti (fun x29 => ?_)
        refine j_istore_n (i := 2) (lv2 := [(2, .int x29), (5, .int (1 : Int32)), (0, .ref (a 17)), (1, .int x1), (3, .int x3), (4, .int x4)]) C rfl (by decide) rfl d_R_check_67 ?_
        refine j_iincN (n2 := 1) (lv2 := fun x30 => [(4, .int x30), (2, .int x29), (5, .int (1 : Int32)), (0, .ref (a 17)), (1, .int x1), (3, .int x3)]) C 5 rfl (by decide) (by decide) (fun _ => rfl) d_R_check_68 (fun x30 => ?_)
        refine j_goto (tgt := 25) C d_R_check_71 (by decide) ?_
        refine j_sub [3, 4, 1, 5, 0] rfl ?_
        exact ih S x1 x29 x3 x30
def f_R_check_line_5 (g : Nat) : Nat → Mem → Int32 → Int32 → Int32 → Option (Mem × (Int32))
  | 0, _, _, _, _ => none
  | n + 1, S, x1, x2, x3 => if (11 : Int32) ≤ x3 then (some (S, x2)) else (grd (¬ ((x1 + x3) < 0 ∨ 350 ≤ (x1 + x3).toNatClampNeg)) (lt (x2 ^^^ ((S.1 25 ((x1 + x3).toNatClampNeg)) <<< ((8 : Int32) &&& 31))) (fun x23 => seqM (f_R_check_line_25 g g S x1 x23 x3 (0 : Int32)) (fun S31 y32 => lt (y32.2.2 + (1 : Int32)) (fun x33 => f_R_check_line_5 g n S31 y32.1 y32.2.1 x33)))))
set_option maxRecDepth 100000 in
set_option maxHeartbeats 4000000 in
theorem lp_R_check_line_5 {l : Launch} {D : va_G} {cI cJ cZ cL : ClassId} {a : Nat → Nat} {p : Program} {e : Env} {s : State} {m : MethodId} {args : Array Value} {below : List Frame} {meth : Method} {c : Code} {A : Nat → Prop} (C : Cx p s m args meth c "AutoTellerModel" prog_9_method_5_code 6 (some .int) D (tyT cI cJ cZ cL) (wdR cI cJ cZ cL a) A) (g : Nat) {K : (Mem × (Int32)) → Option (Int32 × Mem)} (hx : ∀ (S : Mem) (y : Int32), Tj p l e rm_R_check_line s m args below meth c D (wdR cI cJ cZ cL a) A 6 vI K (some (S, y)) S 80 [(2, .int y)] []) : ∀ (n : Nat) (S : Mem) (x1 : Int32) (x2 : Int32) (x3 : Int32), Tj p l e rm_R_check_line s m args below meth c D (wdR cI cJ cZ cL a) A 6 vI K (f_R_check_line_5 g n S x1 x2 x3) S 5 [(0, .ref (a 17)), (1, .int x1), (2, .int x2), (3, .int x3)] [] := by
  intro n
  induction n with
  | zero =>
    intro S x1 x2 x3
    exact j_none
  | succ n ih =>
    intro S x1 x2 x3
    rw [f_R_check_line_5]
    refine j_iload_n C 3 rfl rfl d_R_check_5 ?_
    refine j_bipush (v := 11) C (by decide) d_R_check_6 ?_
    refine j_icmp_ge (tgt := 80) C d_R_check_8 (by decide) (fun h21 => ?_) (fun h21 => ?_)
    · refine j_sub [2] rfl ?_
      exact hx S x2
    · refine j_iload_n C 2 rfl rfl d_R_check_11 ?_
      refine j_aload_n C 0 rfl rfl d_R_check_12 ?_
      refine j_iload_n C 1 rfl rfl d_R_check_13 ?_
      refine j_iload_n C 3 rfl rfl d_R_check_14 ?_
      refine j_iadd C d_R_check_15 ?_
      refine j_grd (fun h22 => ?_)
      refine lR_R_line C h22 d_R_check_16 ?_
      refine j_bipush (v := 8) C (by decide) d_R_check_17 ?_
      refine j_ishl C d_R_check_19 ?_
      refine j_ixor C d_R_check_20 ?_
      refine j_lti (fun x23 => ?_)
      refine j_istore_n (i := 2) (lv2 := [(2, .int x23), (0, .ref (a 17)), (1, .int x1), (3, .int x3)]) C rfl (by decide) rfl d_R_check_21 ?_
      refine j_iconst (v := 0) C (by decide) d_R_check_22 ?_
      refine j_istore (i := 4) (lv2 := [(4, .int (0 : Int32)), (2, .int x23), (0, .ref (a 17)), (1, .int x1), (3, .int x3)]) C (by decide) rfl d_R_check_23 ?_
      refine j_sub [2, 3, 1, 4, 0] rfl ?_
      refine j_seqM ?_
      refine lp_R_check_line_25 C g  (fun S31 y32 => ?_) g S x1 x23 x3 (0 : Int32)
      refine j_outM ?_
      refine j_iincN (n2 := 1) (lv2 := fun x33 => [(3, .int x33), (0, .ref (a 17)), (1, .int y32.1), (2, .int y32.2.1)]) C 3 rfl (by decide) (by decide) (fun _ => rfl) d_R_check_74 (fun x33 => ?_)
      refine j_goto (tgt := 5) C d_R_check_77 (by decide) ?_
      refine j_sub [1, 2, 3, 0] rfl ?_
      exact ih S31 y32.1 y32.2.1 x33
def f_R_check_line (g : Nat) (S : Mem) (x1 : Int32) : Option (Int32 × Mem) := seqM (f_R_check_line_5 g g S x1 (65535 : Int32) (0 : Int32)) (fun S34 y35 => some (y35, S34))
set_option maxRecDepth 100000 in
set_option maxHeartbeats 4000000 in
theorem c_R_check_line {l : Launch} {D : va_G} {cI cJ cZ cL : ClassId} {a : Nat → Nat} (g : Nat) (S : Mem) (x1 : Int32) {r : Int32} {S9 : Mem} (h : f_R_check_line g S x1 = some (r, S9)) : Ctr l y_R_check prog_9_method_5_code 6 (some .int) rm_R_check_line D (tyT cI cJ cZ cL) (wdR cI cJ cZ cL a) [.ref (a 17), .int x1] S (vI r, S9) := by
  refine Ctr.of (lv0 := [(0, .ref (a 17)), (1, .int x1)]) (vv := vI) (by decide) rfl (wdR_fst cI cJ cZ cL a) (Nat.le_of_ble_eq_true rfl) rfl (fun p e s m args below meth c A C => ?_) r S9 h
  unfold f_R_check_line
  refine j_ldc (v := 65535) C u_838 d_R_check_0 ?_
  refine j_istore_n (i := 2) (lv2 := [(2, .int (65535 : Int32)), (0, .ref (a 17)), (1, .int x1)]) C rfl (by decide) rfl d_R_check_2 ?_
  refine j_iconst (v := 0) C (by decide) d_R_check_3 ?_
  refine j_istore_n (i := 3) (lv2 := [(3, .int (0 : Int32)), (2, .int (65535 : Int32)), (0, .ref (a 17)), (1, .int x1)]) C rfl (by decide) rfl d_R_check_4 ?_
  refine j_sub [2, 3, 1, 0] rfl ?_
  refine j_seqM ?_
  refine lp_R_check_line_5 C g  (fun S34 y35 => ?_) g S x1 (65535 : Int32) (0 : Int32)
  refine j_outM ?_
  refine j_iload_n C 0 rfl rfl d_R_check_80 ?_
  exact j_iret C rfl rfl d_R_check_81
