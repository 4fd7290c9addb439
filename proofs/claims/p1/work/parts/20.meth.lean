def f_A_isWithin (g : Nat) (S : Mem) (x0 : Int64) (x2 : Int64) (x4 : Int64) : Option (Int32 × Mem) := if (lg_cmp x0 x2) < 0 then (some ((0 : Int32), S)) else (if 0 < (lg_cmp x0 x4) then (some ((0 : Int32), S)) else (some ((1 : Int32), S)))
set_option maxRecDepth 100000 in
set_option maxHeartbeats 4000000 in
theorem c_A_isWithin {l : Launch} {D : va_G} {cI cJ cZ cL : ClassId} {a : Nat → Nat} (g : Nat) (S : Mem) (x0 : Int64) (x2 : Int64) (x4 : Int64) {r : Int32} {S9 : Mem} (h : f_A_isWithin g S x0 x2 x4 = some (r, S9)) : Ctr l y_A_isWithin prog_1_method_26_code 6 (some .boolean) rm_A_isWithin D (tyT cI cJ cZ cL) (wdC cI cJ cZ cL a) [.long x0, .long x2, .long x4] S (vI r, S9) := by
  refine Ctr.of (lv0 := [(0, .long x0), (2, .long x2), (4, .long x4)]) (vv := vI) (by decide) rfl (wdC_fst cI cJ cZ cL a) (Nat.le_of_ble_eq_true rfl) rfl (fun p e s m args below meth c A C => ?_) r S9 h
  unfold f_A_isWithin
  refine j_lload_n C 0 rfl rfl d_A_isWithin_0 ?_
  refine j_lload_n C 1 rfl rfl d_A_isWithin_1 ?_
  refine j_lcmp C d_A_isWithin_2 ?_
  refine j_if_lt (tgt := 17) C d_A_isWithin_3 (by decide) (fun h21 => ?_) (fun h21 => ?_)
  · refine j_iconst (v := 0) C (by decide) d_A_isWithin_17 ?_
    exact j_zret C (Or.inl rfl) rfl rfl d_A_isWithin_18
  · refine j_lload_n C 0 rfl rfl d_A_isWithin_6 ?_
    refine j_lload C 2 rfl d_A_isWithin_7 ?_
    refine j_lcmp C d_A_isWithin_9 ?_
    refine j_if_gt (tgt := 17) C d_A_isWithin_10 (by decide) (fun h22 => ?_) (fun h22 => ?_)
    · refine j_iconst (v := 0) C (by decide) d_A_isWithin_17 ?_
      exact j_zret C (Or.inl rfl) rfl rfl d_A_isWithin_18
    · refine j_iconst (v := 1) C (by decide) d_A_isWithin_13 ?_
      refine j_goto (tgt := 18) C d_A_isWithin_14 (by decide) ?_
      exact j_zret C (Or.inr rfl) rfl rfl d_A_isWithin_18
def f_H_isAccount (g : Nat) (S : Mem) (x0 : Int32) : Option (Int32 × Mem) := bnd (f_A_isWithin g S x0.toInt64 (0 : Int64) (7 : Int64)) (fun r21 S22 => grd (r21 = 0 ∨ r21 = 1) (some (r21, S22)))
set_option maxRecDepth 100000 in
set_option maxHeartbeats 4000000 in
theorem c_H_isAccount {l : Launch} {D : va_G} {cI cJ cZ cL : ClassId} {a : Nat → Nat} (g : Nat) (S : Mem) (x0 : Int32) {r : Int32} {S9 : Mem} (h : f_H_isAccount g S x0 = some (r, S9)) : Ctr l y_H_isAccount prog_2_method_13_code 1 (some .boolean) rm_H_isAccount D (tyT cI cJ cZ cL) (wdC cI cJ cZ cL a) [.int x0] S (vI r, S9) := by
  refine Ctr.of (lv0 := [(0, .int x0)]) (vv := vI) (by decide) rfl (wdC_fst cI cJ cZ cL a) (Nat.le_of_ble_eq_true rfl) rfl (fun p e s m args below meth c A C => ?_) r S9 h
  unfold f_H_isAccount
  refine j_iload_n C 0 rfl rfl d_H_isAccount_0 ?_
  refine j_i2l C d_H_isAccount_1 ?_
  refine j_lconst (v := 0) C rfl d_H_isAccount_2 ?_
  refine j_ldc2 (v := 7) C u_264 d_H_isAccount_3 ?_
  refine j_bnd (fun r21 S22 e23 => ?_)
  refine j_callSNi (As := [.long x0.toInt64, .long (0 : Int64), .long (7 : Int64)]) (rest := []) C Y_A_isWithin n_265 (c_A_isWithin g S x0.toInt64 (0 : Int64) (7 : Int64) e23) rfl rfl ⟨by decide, by decide⟩ rfl rfl (Nat.le_of_ble_eq_true rfl) d_H_isAccount_6 ?_
  refine j_grd (fun h24 => ?_)
  exact j_zret C h24 rfl rfl d_H_isAccount_9
def f_H_setBalance (g : Nat) (S : Mem) (x1 : Int32) (x2 : Int64) : Option (Int32 × Mem) := bnd (f_H_isAccount g S x1) (fun r21 S22 => if r21 = 0 then (some ((0 : Int32), S22)) else (bnd (f_A_isWithin g S22 x2 (0 : Int64) (1000000000 : Int64)) (fun r25 S26 => if r25 = 0 then (some ((0 : Int32), S26)) else (grd (¬ (x1 < 0 ∨ 8 ≤ x1.toNatClampNeg)) (lt (sL S26 0 x1.toNatClampNeg x2) (fun S30 => some ((1 : Int32), S30)))))))
set_option maxRecDepth 100000 in
set_option maxHeartbeats 4000000 in
theorem c_H_setBalance {l : Launch} {D : va_G} {cI cJ cZ cL : ClassId} {a : Nat → Nat} (g : Nat) (S : Mem) (x1 : Int32) (x2 : Int64) {r : Int32} {S9 : Mem} (h : f_H_setBalance g S x1 x2 = some (r, S9)) : Ctr l y_H_setBalance prog_2_method_2_code 4 (some .boolean) rm_H_setBalance D (tyT cI cJ cZ cL) (wdC cI cJ cZ cL a) [.ref (a 2), .int x1, .long x2] S (vI r, S9) := by
  refine Ctr.of (lv0 := [(0, .ref (a 2)), (1, .int x1), (2, .long x2)]) (vv := vI) (by decide) rfl (wdC_fst cI cJ cZ cL a) (Nat.le_of_ble_eq_true rfl) rfl (fun p e s m args below meth c A C => ?_) r S9 h
  unfold f_H_setBalance
  refine j_iload_n C 1 rfl rfl d_H_setBalance_0 ?_
  refine j_bnd (fun r21 S22 e23 => ?_)
  refine j_callSi (As := [.int x1]) (rest := []) C Y_H_isAccount u_261 (c_H_isAccount g S x1 e23) rfl rfl ⟨by decide, by decide⟩ rfl rfl (Nat.le_of_ble_eq_true rfl) d_H_setBalance_1 ?_
  refine j_if_eq (tgt := 18) C d_H_setBalance_4 (by decide) (fun h24 => ?_) (fun h24 => ?_)
  · refine j_iconst (v := 0) C (by decide) d_H_setBalance_18 ?_
    exact j_zret C (Or.inl rfl) rfl rfl d_H_setBalance_19
  · refine j_lload_n C 2 rfl rfl d_H_setBalance_7 ?_
    refine j_lconst (v := 0) C rfl d_H_setBalance_8 ?_
    refine j_ldc2 (v := 1000000000) C u_268 d_H_setBalance_9 ?_
    refine j_bnd (fun r25 S26 e27 => ?_)
    refine j_callSNi (As := [.long x2, .long (0 : Int64), .long (1000000000 : Int64)]) (rest := []) C Y_A_isWithin n_265 (c_A_isWithin g S22 x2 (0 : Int64) (1000000000 : Int64) e27) rfl rfl ⟨by decide, by decide⟩ rfl rfl (Nat.le_of_ble_eq_true rfl) d_H_setBalance_12 ?_
    refine j_if_ne (tgt := 20) C d_H_setBalance_15 (by decide) (fun h28 => ?_) (fun h28 => ?_)
    · refine j_iconst (v := 0) C (by decide) d_H_setBalance_18 ?_
      exact j_zret C (Or.inl rfl) rfl rfl d_H_setBalance_19
    · refine j_aload_n C 0 rfl rfl d_H_setBalance_20 ?_
      refine gC_H_balances C u_66 d_H_setBalance_21 ?_
      refine j_iload_n C 1 rfl rfl d_H_setBalance_24 ?_
      refine j_lload_n C 2 rfl rfl d_H_setBalance_25 ?_
      refine j_grd (fun h29 => ?_)
      refine sC_H_balances C h29 d_H_setBalance_26 ?_
      refine j_ltS (fun S30 => ?_)
      refine j_iconst (v := 1) C (by decide) d_H_setBalance_27 ?_
      exact j_zret C (Or.inr rfl) rfl rfl d_H_setBalance_28
def f_A_account (g : Nat) (S : Mem) (x1 : Int32) (x2 : Int64) : Option (Int32 × Mem) := bnd (f_H_setBalance g S x1 x2) (fun r21 S22 => grd (r21 = 0 ∨ r21 = 1) (some (r21, S22)))
set_option maxRecDepth 100000 in
set_option maxHeartbeats 4000000 in
theorem c_A_account {l : Launch} {D : va_G} {cI cJ cZ cL : ClassId} {a : Nat → Nat} (g : Nat) (S : Mem) (x1 : Int32) (x2 : Int64) {r : Int32} {S9 : Mem} (h : f_A_account g S x1 x2 = some (r, S9)) : Ctr l y_A_account prog_1_method_2_code 4 (some .boolean) rm_A_account D (tyT cI cJ cZ cL) (wdC cI cJ cZ cL a) [.ref (a 0), .int x1, .long x2] S (vI r, S9) := by
  refine Ctr.of (lv0 := [(0, .ref (a 0)), (1, .int x1), (2, .long x2)]) (vv := vI) (by decide) rfl (wdC_fst cI cJ cZ cL a) (Nat.le_of_ble_eq_true rfl) rfl (fun p e s m args below meth c A C => ?_) r S9 h
  unfold f_A_account
  refine j_aload_n C 0 rfl rfl d_A_account_0 ?_
  refine gC_A_host C u_241 d_A_account_1 ?_
  refine j_iload_n C 1 rfl rfl d_A_account_4 ?_
  refine j_lload_n C 2 rfl rfl d_A_account_5 ?_
  refine j_bnd (fun r21 S22 e23 => ?_)
  refine j_callVi (As := [.int x1, .long x2]) (rest := []) C 2 0 Y_H_setBalance u_257 (c_H_setBalance g S x1 x2 e23) rfl rfl ⟨by decide, by decide⟩ rfl rfl rfl rfl (Nat.le_of_ble_eq_true rfl) d_A_account_6 ?_
  refine j_grd (fun h24 => ?_)
  exact j_zret C h24 rfl rfl d_A_account_9
def f_A_isCard (g : Nat) (S : Mem) (x0 : Int32) : Option (Int32 × Mem) := bnd (f_A_isWithin g S x0.toInt64 (0 : Int64) (15 : Int64)) (fun r21 S22 => grd (r21 = 0 ∨ r21 = 1) (some (r21, S22)))
set_option maxRecDepth 100000 in
set_option maxHeartbeats 4000000 in
theorem c_A_isCard {l : Launch} {D : va_G} {cI cJ cZ cL : ClassId} {a : Nat → Nat} (g : Nat) (S : Mem) (x0 : Int32) {r : Int32} {S9 : Mem} (h : f_A_isCard g S x0 = some (r, S9)) : Ctr l y_A_isCard prog_1_method_27_code 1 (some .boolean) rm_A_isCard D (tyT cI cJ cZ cL) (wdC cI cJ cZ cL a) [.int x0] S (vI r, S9) := by
  refine Ctr.of (lv0 := [(0, .int x0)]) (vv := vI) (by decide) rfl (wdC_fst cI cJ cZ cL a) (Nat.le_of_ble_eq_true rfl) rfl (fun p e s m args below meth c A C => ?_) r S9 h
  unfold f_A_isCard
  refine j_iload_n C 0 rfl rfl d_A_isCard_0 ?_
  refine j_i2l C d_A_isCard_1 ?_
  refine j_lconst (v := 0) C rfl d_A_isCard_2 ?_
  refine j_ldc2 (v := 15) C u_280 d_A_isCard_3 ?_
  refine j_bnd (fun r21 S22 e23 => ?_)
  refine j_callSi (As := [.long x0.toInt64, .long (0 : Int64), .long (15 : Int64)]) (rest := []) C Y_A_isWithin u_281 (c_A_isWithin g S x0.toInt64 (0 : Int64) (15 : Int64) e23) rfl rfl ⟨by decide, by decide⟩ rfl rfl (Nat.le_of_ble_eq_true rfl) d_A_isCard_6 ?_
  refine j_grd (fun h24 => ?_)
  exact j_zret C h24 rfl rfl d_A_isCard_9
def f_A_isPin (g : Nat) (S : Mem) (x0 : Int64) : Option (Int32 × Mem) := bnd (f_A_isWithin g S x0 (0 : Int64) (9999 : Int64)) (fun r21 S22 => grd (r21 = 0 ∨ r21 = 1) (some (r21, S22)))
set_option maxRecDepth 100000 in
set_option maxHeartbeats 4000000 in
theorem c_A_isPin {l : Launch} {D : va_G} {cI cJ cZ cL : ClassId} {a : Nat → Nat} (g : Nat) (S : Mem) (x0 : Int64) {r : Int32} {S9 : Mem} (h : f_A_isPin g S x0 = some (r, S9)) : Ctr l y_A_isPin prog_1_method_28_code 2 (some .boolean) rm_A_isPin D (tyT cI cJ cZ cL) (wdC cI cJ cZ cL a) [.long x0] S (vI r, S9) := by
  refine Ctr.of (lv0 := [(0, .long x0)]) (vv := vI) (by decide) rfl (wdC_fst cI cJ cZ cL a) (Nat.le_of_ble_eq_true rfl) rfl (fun p e s m args below meth c A C => ?_) r S9 h
  unfold f_A_isPin
  refine j_lload_n C 0 rfl rfl d_A_isPin_0 ?_
  refine j_lconst (v := 0) C rfl d_A_isPin_1 ?_
  refine j_ldc2 (v := 9999) C u_285 d_A_isPin_2 ?_
  refine j_bnd (fun r21 S22 e23 => ?_)
  refine j_callSi (As := [.long x0, .long (0 : Int64), .long (9999 : Int64)]) (rest := []) C Y_A_isWithin u_281 (c_A_isWithin g S x0 (0 : Int64) (9999 : Int64) e23) rfl rfl ⟨by decide, by decide⟩ rfl rfl (Nat.le_of_ble_eq_true rfl) d_A_isPin_5 ?_
  refine j_grd (fun h24 => ?_)
  exact j_zret C h24 rfl rfl d_A_isPin_8
def f_H_tellCard (g : Nat) (S : Mem) (x1 : Int32) (x2 : Int32) (x3 : Int32) : Option (Int32 × Mem) := bnd (f_A_isCard g S x1) (fun r21 S22 => if r21 = 0 then (some ((0 : Int32), S22)) else (bnd (f_H_isAccount g S22 x2) (fun r25 S26 => if r25 = 0 then (some ((0 : Int32), S26)) else (bnd (f_A_isPin g S26 x3.toInt64) (fun r29 S30 => if r29 = 0 then (some ((0 : Int32), S30)) else (grd (¬ (x1 < 0 ∨ 16 ≤ x1.toNatClampNeg)) (lt (sI S30 2 x1.toNatClampNeg x2) (fun S34 => grd (¬ (x1 < 0 ∨ 16 ≤ x1.toNatClampNeg)) (lt (sI S34 3 x1.toNatClampNeg x3) (fun S36 => grd (¬ (x1 < 0 ∨ 16 ≤ x1.toNatClampNeg)) (lt (sI S36 4 x1.toNatClampNeg (0 : Int32)) (fun S38 => some ((1 : Int32), S38)))))))))))))
set_option maxRecDepth 100000 in
set_option maxHeartbeats 4000000 in
theorem c_H_tellCard {l : Launch} {D : va_G} {cI cJ cZ cL : ClassId} {a : Nat → Nat} (g : Nat) (S : Mem) (x1 : Int32) (x2 : Int32) (x3 : Int32) {r : Int32} {S9 : Mem} (h : f_H_tellCard g S x1 x2 x3 = some (r, S9)) : Ctr l y_H_tellCard prog_2_method_3_code 4 (some .boolean) rm_H_tellCard D (tyT cI cJ cZ cL) (wdC cI cJ cZ cL a) [.ref (a 2), .int x1, .int x2, .int x3] S (vI r, S9) := by
  refine Ctr.of (lv0 := [(0, .ref (a 2)), (1, .int x1), (2, .int x2), (3, .int x3)]) (vv := vI) (by decide) rfl (wdC_fst cI cJ cZ cL a) (Nat.le_of_ble_eq_true rfl) rfl (fun p e s m args below meth c A C => ?_) r S9 h
  unfold f_H_tellCard
  refine j_iload_n C 1 rfl rfl d_H_tellCard_0 ?_
  refine j_bnd (fun r21 S22 e23 => ?_)
  refine j_callSNi (As := [.int x1]) (rest := []) C Y_A_isCard n_277 (c_A_isCard g S x1 e23) rfl rfl ⟨by decide, by decide⟩ rfl rfl (Nat.le_of_ble_eq_true rfl) d_H_tellCard_1 ?_
  refine j_if_eq (tgt := 22) C d_H_tellCard_4 (by decide) (fun h24 => ?_) (fun h24 => ?_)
  · refine j_iconst (v := 0) C (by decide) d_H_tellCard_22 ?_
    exact j_zret C (Or.inl rfl) rfl rfl d_H_tellCard_23
  · refine j_iload_n C 2 rfl rfl d_H_tellCard_7 ?_
    refine j_bnd (fun r25 S26 e27 => ?_)
    refine j_callSi (As := [.int x2]) (rest := []) C Y_H_isAccount u_261 (c_H_isAccount g S22 x2 e27) rfl rfl ⟨by decide, by decide⟩ rfl rfl (Nat.le_of_ble_eq_true rfl) d_H_tellCard_8 ?_
    refine j_if_eq (tgt := 22) C d_H_tellCard_11 (by decide) (fun h28 => ?_) (fun h28 => ?_)
    · refine j_iconst (v := 0) C (by decide) d_H_tellCard_22 ?_
      exact j_zret C (Or.inl rfl) rfl rfl d_H_tellCard_23
    · refine j_iload_n C 3 rfl rfl d_H_tellCard_14 ?_
      refine j_i2l C d_H_tellCard_15 ?_
      refine j_bnd (fun r29 S30 e31 => ?_)
      refine j_callSNi (As := [.long x3.toInt64]) (rest := []) C Y_A_isPin n_282 (c_A_isPin g S26 x3.toInt64 e31) rfl rfl ⟨by decide, by decide⟩ rfl rfl (Nat.le_of_ble_eq_true rfl) d_H_tellCard_16 ?_
      refine j_if_ne (tgt := 24) C d_H_tellCard_19 (by decide) (fun h32 => ?_) (fun h32 => ?_)
      · refine j_iconst (v := 0) C (by decide) d_H_tellCard_22 ?_
        exact j_zret C (Or.inl rfl) rfl rfl d_H_tellCard_23
      · refine j_aload_n C 0 rfl rfl d_H_tellCard_24 ?_
        refine gC_H_accountOfCard C u_67 d_H_tellCard_25 ?_
        refine j_iload_n C 1 rfl rfl d_H_tellCard_28 ?_
        refine j_iload_n C 2 rfl rfl d_H_tellCard_29 ?_
        refine j_grd (fun h33 => ?_)
        refine sC_H_accountOfCard C h33 d_H_tellCard_30 ?_
        refine j_ltS (fun S34 => ?_)
        refine j_aload_n C 0 rfl rfl d_H_tellCard_31 ?_
        refine gC_H_pinOfCard C u_68 d_H_tellCard_32 ?_
        refine j_iload_n C 1 rfl rfl d_H_tellCard_35 ?_
        refine j_iload_n C 3 rfl rfl d_H_tellCard_36 ?_
        refine j_grd (fun h35 => ?_)
        refine sC_H_pinOfCard C h35 d_H_tellCard_37 ?_
        refine j_ltS (fun S36 => ?_)
        refine j_aload_n C 0 rfl rfl d_H_tellCard_38 ?_
        refine gC_H_triesOfCard C u_69 d_H_tellCard_39 ?_
        refine j_iload_n C 1 rfl rfl d_H_tellCard_42 ?_
        refine j_iconst (v := 0) C (by decide) d_H_tellCard_43 ?_
        refine j_grd (fun h37 => ?_)
        refine sC_H_triesOfCard C h37 d_H_tellCard_44 ?_
        refine j_ltS (fun S38 => ?_)
        refine j_iconst (v := 1) C (by decide) d_H_tellCard_45 ?_
        exact j_zret C (Or.inr rfl) rfl rfl d_H_tellCard_46
def f_A_card (g : Nat) (S : Mem) (x1 : Int32) (x2 : Int32) (x3 : Int32) : Option (Int32 × Mem) := bnd (f_H_tellCard g S x1 x2 x3) (fun r21 S22 => grd (r21 = 0 ∨ r21 = 1) (some (r21, S22)))
set_option maxRecDepth 100000 in
set_option maxHeartbeats 4000000 in
theorem c_A_card {l : Launch} {D : va_G} {cI cJ cZ cL : ClassId} {a : Nat → Nat} (g : Nat) (S : Mem) (x1 : Int32) (x2 : Int32) (x3 : Int32) {r : Int32} {S9 : Mem} (h : f_A_card g S x1 x2 x3 = some (r, S9)) : Ctr l y_A_card prog_1_method_3_code 4 (some .boolean) rm_A_card D (tyT cI cJ cZ cL) (wdC cI cJ cZ cL a) [.ref (a 0), .int x1, .int x2, .int x3] S (vI r, S9) := by
  refine Ctr.of (lv0 := [(0, .ref (a 0)), (1, .int x1), (2, .int x2), (3, .int x3)]) (vv := vI) (by decide) rfl (wdC_fst cI cJ cZ cL a) (Nat.le_of_ble_eq_true rfl) rfl (fun p e s m args below meth c A C => ?_) r S9 h
  unfold f_A_card
  refine j_aload_n C 0 rfl rfl d_A_card_0 ?_
  refine gC_A_host C u_241 d_A_card_1 ?_
  refine j_iload_n C 1 rfl rfl d_A_card_4 ?_
  refine j_iload_n C 2 rfl rfl d_A_card_5 ?_
  refine j_iload_n C 3 rfl rfl d_A_card_6 ?_
  refine j_bnd (fun r21 S22 e23 => ?_)
  refine j_callVi (As := [.int x1, .int x2, .int x3]) (rest := []) C 2 0 Y_H_tellCard u_273 (c_H_tellCard g S x1 x2 x3 e23) rfl rfl ⟨by decide, by decide⟩ rfl rfl rfl rfl (Nat.le_of_ble_eq_true rfl) d_A_card_7 ?_
  refine j_grd (fun h24 => ?_)
  exact j_zret C h24 rfl rfl d_A_card_10
def f_O_isCassette (g : Nat) (S : Mem) (x0 : Int32) : Option (Int32 × Mem) := if x0 < 0 then (some ((0 : Int32), S)) else (if (4 : Int32) ≤ x0 then (some ((0 : Int32), S)) else (some ((1 : Int32), S)))
set_option maxRecDepth 100000 in
set_option maxHeartbeats 4000000 in
theorem c_O_isCassette {l : Launch} {D : va_G} {cI cJ cZ cL : ClassId} {a : Nat → Nat} (g : Nat) (S : Mem) (x0 : Int32) {r : Int32} {S9 : Mem} (h : f_O_isCassette g S x0 = some (r, S9)) : Ctr l y_O_isCassette prog_7_method_15_code 1 (some .boolean) rm_O_isCassette D (tyT cI cJ cZ cL) (wdC cI cJ cZ cL a) [.int x0] S (vI r, S9) := by
  refine Ctr.of (lv0 := [(0, .int x0)]) (vv := vI) (by decide) rfl (wdC_fst cI cJ cZ cL a) (Nat.le_of_ble_eq_true rfl) rfl (fun p e s m args below meth c A C => ?_) r S9 h
  unfold f_O_isCassette
  refine j_iload_n C 0 rfl rfl d_O_isCassette_0 ?_
  refine j_if_lt (tgt := 13) C d_O_isCassette_1 (by decide) (fun h21 => ?_) (fun h21 => ?_)
  · refine j_iconst (v := 0) C (by decide) d_O_isCassette_13 ?_
    exact j_zret C (Or.inl rfl) rfl rfl d_O_isCassette_14
  · refine j_iload_n C 0 rfl rfl d_O_isCassette_4 ?_
    refine j_iconst (v := 4) C (by decide) d_O_isCassette_5 ?_
    refine j_icmp_ge (tgt := 13) C d_O_isCassette_6 (by decide) (fun h22 => ?_) (fun h22 => ?_)
    · refine j_iconst (v := 0) C (by decide) d_O_isCassette_13 ?_
      exact j_zret C (Or.inl rfl) rfl rfl d_O_isCassette_14
    · refine j_iconst (v := 1) C (by decide) d_O_isCassette_9 ?_
      refine j_goto (tgt := 14) C d_O_isCassette_10 (by decide) ?_
      exact j_zret C (Or.inr rfl) rfl rfl d_O_isCassette_14
def f_O_fill (g : Nat) (S : Mem) (x1 : Int32) (x2 : Int32) (x3 : Int32) : Option (Int32 × Mem) := bnd (f_O_isCassette g S x1) (fun r21 S22 => if r21 = 0 then (some ((0 : Int32), S22)) else (bnd (f_A_isWithin g S22 x2.toInt64 (1 : Int64) (1000 : Int64)) (fun r25 S26 => if r25 = 0 then (some ((0 : Int32), S26)) else (bnd (f_A_isWithin g S26 x3.toInt64 (0 : Int64) (200 : Int64)) (fun r29 S30 => if r29 = 0 then (some ((0 : Int32), S30)) else (grd (¬ (x1 < 0 ∨ 4 ≤ x1.toNatClampNeg)) (lt (sI S30 22 x1.toNatClampNeg x2) (fun S34 => grd (¬ (x1 < 0 ∨ 4 ≤ x1.toNatClampNeg)) (lt (sI S34 23 x1.toNatClampNeg x3) (fun S36 => some ((1 : Int32), S36)))))))))))
set_option maxRecDepth 100000 in
set_option maxHeartbeats 4000000 in
theorem c_O_fill {l : Launch} {D : va_G} {cI cJ cZ cL : ClassId} {a : Nat → Nat} (g : Nat) (S : Mem) (x1 : Int32) (x2 : Int32) (x3 : Int32) {r : Int32} {S9 : Mem} (h : f_O_fill g S x1 x2 x3 = some (r, S9)) : Ctr l y_O_fill prog_7_method_2_code 4 (some .boolean) rm_O_fill D (tyT cI cJ cZ cL) (wdC cI cJ cZ cL a) [.ref (a 4), .int x1, .int x2, .int x3] S (vI r, S9) := by
  refine Ctr.of (lv0 := [(0, .ref (a 4)), (1, .int x1), (2, .int x2), (3, .int x3)]) (vv := vI) (by decide) rfl (wdC_fst cI cJ cZ cL a) (Nat.le_of_ble_eq_true rfl) rfl (fun p e s m args below meth c A C => ?_) r S9 h
  unfold f_O_fill
  refine j_iload_n C 1 rfl rfl d_O_fill_0 ?_
  refine j_bnd (fun r21 S22 e23 => ?_)
  refine j_callSi (As := [.int x1]) (rest := []) C Y_O_isCassette u_298 (c_O_isCassette g S x1 e23) rfl rfl ⟨by decide, by decide⟩ rfl rfl (Nat.le_of_ble_eq_true rfl) d_O_fill_1 ?_
  refine j_if_eq (tgt := 31) C d_O_fill_4 (by decide) (fun h24 => ?_) (fun h24 => ?_)
  · refine j_iconst (v := 0) C (by decide) d_O_fill_31 ?_
    exact j_zret C (Or.inl rfl) rfl rfl d_O_fill_32
  · refine j_iload_n C 2 rfl rfl d_O_fill_7 ?_
    refine j_i2l C d_O_fill_8 ?_
    refine j_lconst (v := 1) C rfl d_O_fill_9 ?_
    refine j_ldc2 (v := 1000) C u_301 d_O_fill_10 ?_
    refine j_bnd (fun r25 S26 e27 => ?_)
    refine j_callSNi (As := [.long x2.toInt64, .long (1 : Int64), .long (1000 : Int64)]) (rest := []) C Y_A_isWithin n_302 (c_A_isWithin g S22 x2.toInt64 (1 : Int64) (1000 : Int64) e27) rfl rfl ⟨by decide, by decide⟩ rfl rfl (Nat.le_of_ble_eq_true rfl) d_O_fill_13 ?_
    refine j_if_eq (tgt := 31) C d_O_fill_16 (by decide) (fun h28 => ?_) (fun h28 => ?_)
    · refine j_iconst (v := 0) C (by decide) d_O_fill_31 ?_
      exact j_zret C (Or.inl rfl) rfl rfl d_O_fill_32
    · refine j_iload_n C 3 rfl rfl d_O_fill_19 ?_
      refine j_i2l C d_O_fill_20 ?_
      refine j_lconst (v := 0) C rfl d_O_fill_21 ?_
      refine j_ldc2 (v := 200) C u_303 d_O_fill_22 ?_
      refine j_bnd (fun r29 S30 e31 => ?_)
      refine j_callSNi (As := [.long x3.toInt64, .long (0 : Int64), .long (200 : Int64)]) (rest := []) C Y_A_isWithin n_302 (c_A_isWithin g S26 x3.toInt64 (0 : Int64) (200 : Int64) e31) rfl rfl ⟨by decide, by decide⟩ rfl rfl (Nat.le_of_ble_eq_true rfl) d_O_fill_25 ?_
      refine j_if_ne (tgt := 33) C d_O_fill_28 (by decide) (fun h32 => ?_) (fun h32 => ?_)
      · refine j_iconst (v := 0) C (by decide) d_O_fill_31 ?_
        exact j_zret C (Or.inl rfl) rfl rfl d_O_fill_32
      · refine j_aload_n C 0 rfl rfl d_O_fill_33 ?_
        refine gC_O_denominations C u_123 d_O_fill_34 ?_
        refine j_iload_n C 1 rfl rfl d_O_fill_37 ?_
        refine j_iload_n C 2 rfl rfl d_O_fill_38 ?_
        refine j_grd (fun h33 => ?_)
        refine sC_O_denominations C h33 d_O_fill_39 ?_
        refine j_ltS (fun S34 => ?_)
        refine j_aload_n C 0 rfl rfl d_O_fill_40 ?_
        refine gC_O_inCassette C u_124 d_O_fill_41 ?_
        refine j_iload_n C 1 rfl rfl d_O_fill_44 ?_
        refine j_iload_n C 3 rfl rfl d_O_fill_45 ?_
        refine j_grd (fun h35 => ?_)
        refine sC_O_inCassette C h35 d_O_fill_46 ?_
        refine j_ltS (fun S36 => ?_)
        refine j_iconst (v := 1) C (by decide) d_O_fill_47 ?_
        exact j_zret C (Or.inr rfl) rfl rfl d_O_fill_48
def f_M_fillCassette (g : Nat) (S : Mem) (x1 : Int32) (x2 : Int32) (x3 : Int32) : Option (Int32 × Mem) := if (S.1 11 0) = 0 then (some ((0 : Int32), S)) else (if (S.1 13 0) = (4 : Int32) then (some ((0 : Int32), S)) else (bnd (f_O_fill g S x1 x2 x3) (fun r23 S24 => if r23 = 0 then (some ((0 : Int32), S24)) else (some ((1 : Int32), S24)))))
set_option maxRecDepth 100000 in
set_option maxHeartbeats 4000000 in
theorem c_M_fillCassette {l : Launch} {D : va_G} {cI cJ cZ cL : ClassId} {a : Nat → Nat} (g : Nat) (S : Mem) (x1 : Int32) (x2 : Int32) (x3 : Int32) {r : Int32} {S9 : Mem} (h : f_M_fillCassette g S x1 x2 x3 = some (r, S9)) : Ctr l y_M_fillCassette prog_6_method_2_code 4 (some .boolean) rm_M_fillCassette D (tyT cI cJ cZ cL) (wdC cI cJ cZ cL a) [.ref (a 3), .int x1, .int x2, .int x3] S (vI r, S9) := by
  refine Ctr.of (lv0 := [(0, .ref (a 3)), (1, .int x1), (2, .int x2), (3, .int x3)]) (vv := vI) (by decide) rfl (wdC_fst cI cJ cZ cL a) (Nat.le_of_ble_eq_true rfl) rfl (fun p e s m args below meth c A C => ?_) r S9 h
  unfold f_M_fillCassette
  refine j_aload_n C 0 rfl rfl d_M_fillCassette_0 ?_
  refine gC_M_on C u_189 d_M_fillCassette_1 ?_
  refine j_if_eq (tgt := 32) C d_M_fillCassette_4 (by decide) (fun h21 => ?_) (fun h21 => ?_)
  · refine j_iconst (v := 0) C (by decide) d_M_fillCassette_32 ?_
    exact j_zret C (Or.inl rfl) rfl rfl d_M_fillCassette_33
  · refine j_aload_n C 0 rfl rfl d_M_fillCassette_7 ?_
    refine gC_M_phase C u_192 d_M_fillCassette_8 ?_
    refine j_iconst (v := 4) C (by decide) d_M_fillCassette_11 ?_
    refine j_icmp_eq (tgt := 32) C d_M_fillCassette_12 (by decide) (fun h22 => ?_) (fun h22 => ?_)
    · refine j_iconst (v := 0) C (by decide) d_M_fillCassette_32 ?_
      exact j_zret C (Or.inl rfl) rfl rfl d_M_fillCassette_33
    · refine j_aload_n C 0 rfl rfl d_M_fillCassette_15 ?_
      refine gC_M_notes C u_184 d_M_fillCassette_16 ?_
      refine j_iload_n C 1 rfl rfl d_M_fillCassette_19 ?_
      refine j_iload_n C 2 rfl rfl d_M_fillCassette_20 ?_
      refine j_iload_n C 3 rfl rfl d_M_fillCassette_21 ?_
      refine j_bnd (fun r23 S24 e25 => ?_)
      refine j_callVi (As := [.int x1, .int x2, .int x3]) (rest := []) C 4 5 Y_O_fill u_294 (c_O_fill g S x1 x2 x3 e25) rfl rfl ⟨by decide, by decide⟩ rfl rfl rfl rfl (Nat.le_of_ble_eq_true rfl) d_M_fillCassette_22 ?_
      refine j_if_eq (tgt := 32) C d_M_fillCassette_25 (by decide) (fun h26 => ?_) (fun h26 => ?_)
      · refine j_iconst (v := 0) C (by decide) d_M_fillCassette_32 ?_
        exact j_zret C (Or.inl rfl) rfl rfl d_M_fillCassette_33
      · refine j_iconst (v := 1) C (by decide) d_M_fillCassette_28 ?_
        refine j_goto (tgt := 33) C d_M_fillCassette_29 (by decide) ?_
        exact j_zret C (Or.inr rfl) rfl rfl d_M_fillCassette_33
def f_A_load (g : Nat) (S : Mem) (x1 : Int32) (x2 : Int32) (x3 : Int32) : Option (Int32 × Mem) := bnd (f_M_fillCassette g S x1 x2 x3) (fun r21 S22 => grd (r21 = 0 ∨ r21 = 1) (some (r21, S22)))
set_option maxRecDepth 100000 in
set_option maxHeartbeats 4000000 in
theorem c_A_load {l : Launch} {D : va_G} {cI cJ cZ cL : ClassId} {a : Nat → Nat} (g : Nat) (S : Mem) (x1 : Int32) (x2 : Int32) (x3 : Int32) {r : Int32} {S9 : Mem} (h : f_A_load g S x1 x2 x3 = some (r, S9)) : Ctr l y_A_load prog_1_method_4_code 4 (some .boolean) rm_A_load D (tyT cI cJ cZ cL) (wdC cI cJ cZ cL a) [.ref (a 0), .int x1, .int x2, .int x3] S (vI r, S9) := by
  refine Ctr.of (lv0 := [(0, .ref (a 0)), (1, .int x1), (2, .int x2), (3, .int x3)]) (vv := vI) (by decide) rfl (wdC_fst cI cJ cZ cL a) (Nat.le_of_ble_eq_true rfl) rfl (fun p e s m args below meth c A C => ?_) r S9 h
  unfold f_A_load
  refine j_aload_n C 0 rfl rfl d_A_load_0 ?_
  refine gC_A_machine C u_242 d_A_load_1 ?_
  refine j_iload_n C 1 rfl rfl d_A_load_4 ?_
  refine j_iload_n C 2 rfl rfl d_A_load_5 ?_
  refine j_iload_n C 3 rfl rfl d_A_load_6 ?_
  refine j_bnd (fun r21 S22 e23 => ?_)
  refine j_callVi (As := [.int x1, .int x2, .int x3]) (rest := []) C 3 4 Y_M_fillCassette u_290 (c_M_fillCassette g S x1 x2 x3 e23) rfl rfl ⟨by decide, by decide⟩ rfl rfl rfl rfl (Nat.le_of_ble_eq_true rfl) d_A_load_7 ?_
  refine j_grd (fun h24 => ?_)
  exact j_zret C h24 rfl rfl d_A_load_10
def f_M_putCardIn (g : Nat) (S : Mem) (x1 : Int32) : Option (Int32 × Mem) := if (S.1 11 0) = 0 then (some ((0 : Int32), S)) else (if (S.1 13 0) = 0 then (bnd (f_A_isCard g S x1) (fun r23 S24 => if r23 = 0 then (some ((0 : Int32), S24)) else (grd (¬ (x1 < 0 ∨ 16 ≤ x1.toNatClampNeg)) (if (S24.1 10 x1.toNatClampNeg) = 0 then (lt (sI S24 14 0 x1) (fun S29 => lt (sI S29 13 0 (1 : Int32)) (fun S30 => some ((1 : Int32), S30)))) else (some ((0 : Int32), S24)))))) else (some ((0 : Int32), S)))
set_option maxRecDepth 100000 in
set_option maxHeartbeats 4000000 in
theorem c_M_putCardIn {l : Launch} {D : va_G} {cI cJ cZ cL : ClassId} {a : Nat → Nat} (g : Nat) (S : Mem) (x1 : Int32) {r : Int32} {S9 : Mem} (h : f_M_putCardIn g S x1 = some (r, S9)) : Ctr l y_M_putCardIn prog_6_method_3_code 2 (some .boolean) rm_M_putCardIn D (tyT cI cJ cZ cL) (wdC cI cJ cZ cL a) [.ref (a 3), .int x1] S (vI r, S9) := by
  refine Ctr.of (lv0 := [(0, .ref (a 3)), (1, .int x1)]) (vv := vI) (by decide) rfl (wdC_fst cI cJ cZ cL a) (Nat.le_of_ble_eq_true rfl) rfl (fun p e s m args below meth c A C => ?_) r S9 h
  unfold f_M_putCardIn
  refine j_aload_n C 0 rfl rfl d_M_putCardIn_0 ?_
  refine gC_M_on C u_189 d_M_putCardIn_1 ?_
  refine j_if_eq (tgt := 30) C d_M_putCardIn_4 (by decide) (fun h21 => ?_) (fun h21 => ?_)
  · refine j_iconst (v := 0) C (by decide) d_M_putCardIn_30 ?_
    exact j_zret C (Or.inl rfl) rfl rfl d_M_putCardIn_31
  · refine j_aload_n C 0 rfl rfl d_M_putCardIn_7 ?_
    refine gC_M_phase C u_192 d_M_putCardIn_8 ?_
    refine j_if_ne (tgt := 30) C d_M_putCardIn_11 (by decide) (fun h22 => ?_) (fun h22 => ?_)
    · refine j_iload_n C 1 rfl rfl d_M_putCardIn_14 ?_
      refine j_bnd (fun r23 S24 e25 => ?_)
      refine j_callSNi (As := [.int x1]) (rest := []) C Y_A_isCard n_312 (c_A_isCard g S x1 e25) rfl rfl ⟨by decide, by decide⟩ rfl rfl (Nat.le_of_ble_eq_true rfl) d_M_putCardIn_15 ?_
      refine j_if_eq (tgt := 30) C d_M_putCardIn_18 (by decide) (fun h26 => ?_) (fun h26 => ?_)
      · refine j_iconst (v := 0) C (by decide) d_M_putCardIn_30 ?_
        exact j_zret C (Or.inl rfl) rfl rfl d_M_putCardIn_31
      · refine j_aload_n C 0 rfl rfl d_M_putCardIn_21 ?_
        refine gC_M_kept C u_188 d_M_putCardIn_22 ?_
        refine j_iload_n C 1 rfl rfl d_M_putCardIn_25 ?_
        refine j_grd (fun h27 => ?_)
        refine lC_M_kept C h27 d_M_putCardIn_26 ?_
        refine j_if_eq (tgt := 32) C d_M_putCardIn_27 (by decide) (fun h28 => ?_) (fun h28 => ?_)
        · refine j_aload_n C 0 rfl rfl d_M_putCardIn_32 ?_
          refine j_iload_n C 1 rfl rfl d_M_putCardIn_33 ?_
          refine pC_M_slot C u_194 d_M_putCardIn_34 ?_
          refine j_ltS (fun S29 => ?_)
          refine j_aload_n C 0 rfl rfl d_M_putCardIn_37 ?_
          refine j_iconst (v := 1) C (by decide) d_M_putCardIn_38 ?_
          refine pC_M_phase C u_192 d_M_putCardIn_39 ?_
          refine j_ltS (fun S30 => ?_)
          refine j_iconst (v := 1) C (by decide) d_M_putCardIn_42 ?_
          exact j_zret C (Or.inr rfl) rfl rfl d_M_putCardIn_43
        · refine j_iconst (v := 0) C (by decide) d_M_putCardIn_30 ?_
          exact j_zret C (Or.inl rfl) rfl rfl d_M_putCardIn_31
    · refine j_iconst (v := 0) C (by decide) d_M_putCardIn_30 ?_
      exact j_zret C (Or.inl rfl) rfl rfl d_M_putCardIn_31
def f_A_insert (g : Nat) (S : Mem) (x1 : Int32) : Option (Int32 × Mem) := bnd (f_M_putCardIn g S x1) (fun r21 S22 => grd (r21 = 0 ∨ r21 = 1) (some (r21, S22)))
set_option maxRecDepth 100000 in
set_option maxHeartbeats 4000000 in
theorem c_A_insert {l : Launch} {D : va_G} {cI cJ cZ cL : ClassId} {a : Nat → Nat} (g : Nat) (S : Mem) (x1 : Int32) {r : Int32} {S9 : Mem} (h : f_A_insert g S x1 = some (r, S9)) : Ctr l y_A_insert prog_1_method_5_code 2 (some .boolean) rm_A_insert D (tyT cI cJ cZ cL) (wdC cI cJ cZ cL a) [.ref (a 0), .int x1] S (vI r, S9) := by
  refine Ctr.of (lv0 := [(0, .ref (a 0)), (1, .int x1)]) (vv := vI) (by decide) rfl (wdC_fst cI cJ cZ cL a) (Nat.le_of_ble_eq_true rfl) rfl (fun p e s m args below meth c A C => ?_) r S9 h
  unfold f_A_insert
  refine j_aload_n C 0 rfl rfl d_A_insert_0 ?_
  refine gC_A_machine C u_242 d_A_insert_1 ?_
  refine j_iload_n C 1 rfl rfl d_A_insert_4 ?_
  refine j_bnd (fun r21 S22 e23 => ?_)
  refine j_callVi (As := [.int x1]) (rest := []) C 3 4 Y_M_putCardIn u_308 (c_M_putCardIn g S x1 e23) rfl rfl ⟨by decide, by decide⟩ rfl rfl rfl rfl (Nat.le_of_ble_eq_true rfl) d_A_insert_5 ?_
  refine j_grd (fun h24 => ?_)
  exact j_zret C h24 rfl rfl d_A_insert_8
def f_M_takeTrace (g : Nat) (S : Mem) : Option (Unit × Mem) := lt (sI S 19 0 (S.1 15 0)) (fun S21 => lt (sI S21 20 0 (S21.1 14 0)) (fun S22 => lt (sI S22 15 0 ((S22.1 15 0) + (1 : Int32))) (fun S23 => some ((), S23))))
set_option maxRecDepth 100000 in
set_option maxHeartbeats 4000000 in
theorem c_M_takeTrace {l : Launch} {D : va_G} {cI cJ cZ cL : ClassId} {a : Nat → Nat} (g : Nat) (S : Mem) {r : Unit} {S9 : Mem} (h : f_M_takeTrace g S = some (r, S9)) : Ctr l y_M_takeTrace prog_6_method_20_code 1 none rm_M_takeTrace D (tyT cI cJ cZ cL) (wdC cI cJ cZ cL a) [.ref (a 3)] S (vV r, S9) := by
  refine Ctr.of (lv0 := [(0, .ref (a 3))]) (vv := vV) (by decide) rfl (wdC_fst cI cJ cZ cL a) (Nat.le_of_ble_eq_true rfl) rfl (fun p e s m args below meth c A C => ?_) r S9 h
  unfold f_M_takeTrace
  refine j_aload_n C 0 rfl rfl d_M_takeTrace_0 ?_
  refine j_aload_n C 0 rfl rfl d_M_takeTrace_1 ?_
  refine gC_M_nextTrace C u_196 d_M_takeTrace_2 ?_
  refine pC_M_traceAtHand C u_203 d_M_takeTrace_5 ?_
  refine j_ltS (fun S21 => ?_)
  refine j_aload_n C 0 rfl rfl d_M_takeTrace_8 ?_
  refine j_aload_n C 0 rfl rfl d_M_takeTrace_9 ?_
  refine gC_M_slot C u_194 d_M_takeTrace_10 ?_
  refine pC_M_cardAtHand C u_204 d_M_takeTrace_13 ?_
  refine j_ltS (fun S22 => ?_)
  refine j_aload_n C 0 rfl rfl d_M_takeTrace_16 ?_
  refine j_dup C rfl d_M_takeTrace_17 ?_
  refine gC_M_nextTrace C u_196 d_M_takeTrace_18 ?_
  refine j_iconst (v := 1) C (by decide) d_M_takeTrace_21 ?_
  refine j_iadd C d_M_takeTrace_22 ?_
  refine pC_M_nextTrace C u_196 d_M_takeTrace_23 ?_
  refine j_ltS (fun S23 => ?_)
  exact j_vret C rfl rfl d_M_takeTrace_26
def f_M_mayStep (g : Nat) (S : Mem) : Option (Int32 × Mem) := if (S.1 12 0) = 0 then (lt (sI S 11 0 (0 : Int32)) (fun S22 => grd ((S22.1 11 0) = 0 ∨ (S22.1 11 0) = 1) (some (S22.1 11 0, S22)))) else (if (S.1 12 0) ≤ 0 then (grd ((S.1 11 0) = 0 ∨ (S.1 11 0) = 1) (some (S.1 11 0, S))) else (lt (sI S 12 0 ((S.1 12 0) - (1 : Int32))) (fun S26 => grd ((S26.1 11 0) = 0 ∨ (S26.1 11 0) = 1) (some (S26.1 11 0, S26)))))
set_option maxRecDepth 100000 in
set_option maxHeartbeats 4000000 in
theorem c_M_mayStep {l : Launch} {D : va_G} {cI cJ cZ cL : ClassId} {a : Nat → Nat} (g : Nat) (S : Mem) {r : Int32} {S9 : Mem} (h : f_M_mayStep g S = some (r, S9)) : Ctr l y_M_mayStep prog_6_method_21_code 1 (some .boolean) rm_M_mayStep D (tyT cI cJ cZ cL) (wdC cI cJ cZ cL a) [.ref (a 3)] S (vI r, S9) := by
  refine Ctr.of (lv0 := [(0, .ref (a 3))]) (vv := vI) (by decide) rfl (wdC_fst cI cJ cZ cL a) (Nat.le_of_ble_eq_true rfl) rfl (fun p e s m args below meth c A C => ?_) r S9 h
  unfold f_M_mayStep
  refine j_aload_n C 0 rfl rfl d_M_mayStep_0 ?_
  refine gC_M_stepsLeft C u_191 d_M_mayStep_1 ?_
  refine j_if_ne (tgt := 15) C d_M_mayStep_4 (by decide) (fun h21 => ?_) (fun h21 => ?_)
  · refine j_aload_n C 0 rfl rfl d_M_mayStep_7 ?_
    refine j_iconst (v := 0) C (by decide) d_M_mayStep_8 ?_
    refine pC_M_on C (Or.inl rfl) u_189 d_M_mayStep_9 ?_
    refine j_ltS (fun S22 => ?_)
    refine j_goto (tgt := 32) C d_M_mayStep_12 (by decide) ?_
    refine j_aload_n C 0 rfl rfl d_M_mayStep_32 ?_
    refine gC_M_on C u_189 d_M_mayStep_33 ?_
    refine j_grd (fun h23 => ?_)
    exact j_zret C h23 rfl rfl d_M_mayStep_36
  · refine j_aload_n C 0 rfl rfl d_M_mayStep_15 ?_
    refine gC_M_stepsLeft C u_191 d_M_mayStep_16 ?_
    refine j_if_le (tgt := 32) C d_M_mayStep_19 (by decide) (fun h24 => ?_) (fun h24 => ?_)
    · refine j_aload_n C 0 rfl rfl d_M_mayStep_32 ?_
      refine gC_M_on C u_189 d_M_mayStep_33 ?_
      refine j_grd (fun h25 => ?_)
      exact j_zret C h25 rfl rfl d_M_mayStep_36
    · refine j_aload_n C 0 rfl rfl d_M_mayStep_22 ?_
      refine j_dup C rfl d_M_mayStep_23 ?_
      refine gC_M_stepsLeft C u_191 d_M_mayStep_24 ?_
      refine j_iconst (v := 1) C (by decide) d_M_mayStep_27 ?_
      refine j_isub C d_M_mayStep_28 ?_
      refine pC_M_stepsLeft C u_191 d_M_mayStep_29 ?_
      refine j_ltS (fun S26 => ?_)
      refine j_aload_n C 0 rfl rfl d_M_mayStep_32 ?_
      refine gC_M_on C u_189 d_M_mayStep_33 ?_
      refine j_grd (fun h27 => ?_)
      exact j_zret C h27 rfl rfl d_M_mayStep_36
def f_E_writeNumber_3 (g : Nat) (j0 : Nat) : Nat → Mem → Int32 → Int64 → Int32 → Option (Mem × (Unit))
  | 0, _, _, _, _ => none
  | n + 1, S, x1, x2, x4 => if (4 : Int32) ≤ x4 then (some (S, ())) else (if (13 : Int32) ≤ (x1 + x4) then (some (S, ())) else (grd (¬ ((x1 + x4) < 0 ∨ 13 ≤ (x1 + x4).toNatClampNeg)) (lt (sB S j0 ((x1 + x4).toNatClampNeg) (((x2 >>> (((24 : Int32) - ((8 : Int32) * x4)).toInt64 &&& 63)).toInt32) &&& (255 : Int32))) (fun S24 => lt (x4 + (1 : Int32)) (fun x25 => f_E_writeNumber_3 g j0 n S24 x1 x2 x25)))))
set_option maxRecDepth 100000 in
set_option maxHeartbeats 4000000 in
theorem lp_E_writeNumber_3 {l : Launch} {D : va_G} {cI cJ cZ cL : ClassId} {a : Nat → Nat} {p : Program} {e : Env} {s : State} {m : MethodId} {args : Array Value} {below : List Frame} {meth : Method} {c : Code} {A : Nat → Prop} (C : Cx p s m args meth c "AutoTeller$Letter" prog_4_method_11_code 5 none D (tyT cI cJ cZ cL) (wdC cI cJ cZ cL a) A) (g : Nat) (j0 : Nat) (hj0 : j0 < 25) {K : (Mem × (Unit)) → Option (Unit × Mem)} (hx : ∀ (S : Mem) (y : Unit), Tj p l e rm_E_writeNumber s m args below meth c D (wdC cI cJ cZ cL a) A 5 vV K (some (S, y)) S 48 [] []) : ∀ (n : Nat) (S : Mem) (x1 : Int32) (x2 : Int64) (x4 : Int32), Tj p l e rm_E_writeNumber s m args below meth c D (wdC cI cJ cZ cL a) A 5 vV K (f_E_writeNumber_3 g j0 n S x1 x2 x4) S 3 [(0, .ref (a (100 + j0))), (1, .int x1), (2, .long x2), (4, .int x4)] [] := by
  intro n
  induction n with
  | zero =>
    intro S x1 x2 x4
    exact j_none
  | succ n ih =>
    intro S x1 x2 x4
    rw [f_E_writeNumber_3]
    refine j_iload C 3 rfl d_E_writeNumber_3 ?_
    refine j_iconst (v := 4) C (by decide) d_E_writeNumber_5 ?_
    refine j_icmp_ge (tgt := 48) C d_E_writeNumber_6 (by decide) (fun h21 => ?_) (fun h21 => ?_)
    · refine j_sub [] rfl ?_
      exact hx S ()
    · refine j_iload_n C 1 rfl rfl d_E_writeNumber_9 ?_
      refine j_iload C 3 rfl d_E_writeNumber_10 ?_
      refine j_iadd C d_E_writeNumber_12 ?_
      refine j_bipush (v := 13) C (by decide) d_E_writeNumber_13 ?_
      refine j_icmp_ge (tgt := 48) C d_E_writeNumber_15 (by decide) (fun h22 => ?_) (fun h22 => ?_)
      · refine j_sub [] rfl ?_
        exact hx S ()
      · refine j_aload_n C 0 rfl rfl d_E_writeNumber_18 ?_
        refine gC_E_bytes C hj0 u_33 d_E_writeNumber_19 ?_
        refine j_iload_n C 1 rfl rfl d_E_writeNumber_22 ?_
        refine j_iload C 3 rfl d_E_writeNumber_23 ?_
        refine j_iadd C d_E_writeNumber_25 ?_
        refine j_lload_n C 2 rfl rfl d_E_writeNumber_26 ?_
        refine j_bipush (v := 24) C (by decide) d_E_writeNumber_27 ?_
        refine j_bipush (v := 8) C (by decide) d_E_writeNumber_29 ?_
        refine j_iload C 3 rfl d_E_writeNumber_31 ?_
        refine j_imul C d_E_writeNumber_33 ?_
        refine j_isub C d_E_writeNumber_34 ?_
        refine j_lshr C d_E_writeNumber_35 ?_
        refine j_l2i C d_E_writeNumber_36 ?_
        refine j_sipush (v := 255) C (by decide) d_E_writeNumber_37 ?_
        refine j_iand C d_E_writeNumber_40 ?_
        refine j_grd (fun h23 => ?_)
        refine sC_bytes C hj0 h23 d_E_writeNumber_41 ?_
        refine j_ltS (fun S24 => ?_)
        refine j_iincN (n2 := 1) (lv2 := fun x25 => [(4, .int x25), (0, .ref (a (100 + j0))), (1, .int x1), (2, .long x2)]) C 3 rfl (by decide) (by decide) (fun _ => rfl) d_E_writeNumber_42 (fun x25 => ?_)
        refine j_goto (tgt := 3) C d_E_writeNumber_45 (by decide) ?_
        refine j_sub [1, 2, 3, 0] rfl ?_
        exact ih S24 x1 x2 x25
def f_E_writeNumber (g : Nat) (j0 : Nat) (S : Mem) (x1 : Int32) (x2 : Int64) : Option (Unit × Mem) := seqM (f_E_writeNumber_3 g j0 g S x1 x2 (0 : Int32)) (fun S26 y27 => some ((), S26))
set_option maxRecDepth 100000 in
set_option maxHeartbeats 4000000 in
theorem c_E_writeNumber {l : Launch} {D : va_G} {cI cJ cZ cL : ClassId} {a : Nat → Nat} (g : Nat) (j0 : Nat) (hj0 : j0 < 25) (S : Mem) (x1 : Int32) (x2 : Int64) {r : Unit} {S9 : Mem} (h : f_E_writeNumber g j0 S x1 x2 = some (r, S9)) : Ctr l y_E_writeNumber prog_4_method_11_code 5 none rm_E_writeNumber D (tyT cI cJ cZ cL) (wdC cI cJ cZ cL a) [.ref (a (100 + j0)), .int x1, .long x2] S (vV r, S9) := by
  refine Ctr.of (lv0 := [(0, .ref (a (100 + j0))), (1, .int x1), (2, .long x2)]) (vv := vV) (by decide) rfl (wdC_fst cI cJ cZ cL a) (Nat.le_of_ble_eq_true rfl) rfl (fun p e s m args below meth c A C => ?_) r S9 h
  unfold f_E_writeNumber
  refine j_iconst (v := 0) C (by decide) d_E_writeNumber_0 ?_
  refine j_istore (i := 4) (lv2 := [(4, .int (0 : Int32)), (0, .ref (a (100 + j0))), (1, .int x1), (2, .long x2)]) C (by decide) rfl d_E_writeNumber_1 ?_
  refine j_sub [1, 2, 3, 0] rfl ?_
  refine j_seqM ?_
  refine lp_E_writeNumber_3 C g j0 hj0 (fun S26 y27 => ?_) g S x1 x2 (0 : Int32)
  refine j_outM ?_
  exact j_vret C rfl rfl d_E_writeNumber_48
def f_E_reckonCheck_25 (g : Nat) (j0 : Nat) : Nat → Mem → Int32 → Int32 → Int32 → Option (Mem × (Int32 × Int32))
  | 0, _, _, _, _ => none
  | n + 1, S, x1, x2, x3 => if (8 : Int32) ≤ x3 then (some (S, (x1, x2))) else (if x1 ≤ (32767 : Int32) then (lt ((x1 <<< ((1 : Int32) &&& 31)) &&& (65535 : Int32)) (fun x26 => lt (x3 + (1 : Int32)) (fun x27 => f_E_reckonCheck_25 g j0 n S x26 x2 x27))) else (lt ((x1 <<< ((1 : Int32) &&& 31)) &&& (65535 : Int32)) (fun x28 => lt (x28 ^^^ (4129 : Int32)) (fun x29 => lt (x3 + (1 : Int32)) (fun x30 => f_E_reckonCheck_25 g j0 n S x29 x2 x30)))))
set_option maxRecDepth 100000 in
set_option maxHeartbeats 4000000 in
theorem lp_E_reckonCheck_25 {l : Launch} {D : va_G} {cI cJ cZ cL : ClassId} {a : Nat → Nat} {p : Program} {e : Env} {s : State} {m : MethodId} {args : Array Value} {below : List Frame} {meth : Method} {c : Code} {A : Nat → Prop} (C : Cx p s m args meth c "AutoTeller$Letter" prog_4_method_10_code 5 (some .int) D (tyT cI cJ cZ cL) (wdC cI cJ cZ cL a) A) (g : Nat) (j0 : Nat) (hj0 : j0 < 25) {K : (Mem × (Int32 × Int32)) → Option (Int32 × Mem)} (hx : ∀ (S : Mem) (y : Int32 × Int32), Tj p l e rm_E_reckonCheck s m args below meth c D (wdC cI cJ cZ cL a) A 5 vI K (some (S, y)) S 69 [(0, .ref (a (100 + j0))), (1, .int y.1), (2, .int y.2)] []) : ∀ (n : Nat) (S : Mem) (x1 : Int32) (x2 : Int32) (x3 : Int32), Tj p l e rm_E_reckonCheck s m args below meth c D (wdC cI cJ cZ cL a) A 5 vI K (f_E_reckonCheck_25 g j0 n S x1 x2 x3) S 25 [(0, .ref (a (100 + j0))), (1, .int x1), (2, .int x2), (3, .int x3)] [] := by
  intro n
  induction n with
  | zero =>
    intro S x1 x2 x3
    exact j_none
  | succ n ih =>
    intro S x1 x2 x3
    rw [f_E_reckonCheck_25]
    refine j_iload_n C 3 rfl rfl d_E_reckonCheck_25 ?_
    refine j_bipush (v := 8) C (by decide) d_E_reckonCheck_26 ?_
    refine j_icmp_ge (tgt := 69) C d_E_reckonCheck_28 (by decide) (fun h24 => ?_) (fun h24 => ?_)
    · refine j_sub [0, 1, 2] rfl ?_
      exact hx S (x1, x2)
    · refine j_iload_n C 1 rfl rfl d_E_reckonCheck_31 ?_
      refine j_sipush (v := 32767) C (by decide) d_E_reckonCheck_32 ?_
      refine j_icmp_le (tgt := 42) C d_E_reckonCheck_35 (by decide) (fun h25 => ?_) (fun h25 => ?_)
      · refine j_iconst (v := 0) C (by decide) d_E_reckonCheck_42 ?_
        refine j_istore (i := 4) (lv2 := [(4, .int (0 : Int32)), (0, .ref (a (100 + j0))), (1, .int x1), (2, .int x2), (3, .int x3)]) C (by decide) rfl d_E_reckonCheck_43 ?_
        refine j_iload_n C 2 rfl rfl d_E_reckonCheck_45 ?_
        refine j_iconst (v := 1) C (by decide) d_E_reckonCheck_46 ?_
        refine j_ishl C d_E_reckonCheck_47 ?_
        refine j_ldc (v := 65535) C u_358 d_E_reckonCheck_48 ?_
        refine j_iand C d_E_reckonCheck_50 ?_
        refine j_lti (fun x26 => ?_)
        refine j_istore_n (i := 1) (lv2 := [(1, .int x26), (4, .int (0 : Int32)), (0, .ref (a (100 + j0))), (2, .int x2), (3, .int x3)]) C rfl (by decide) rfl d_E_reckonCheck_51 ?_
        refine j_iload C 1 rfl d_E_reckonCheck_52 ?_
        refine j_if_eq_T (tgt := 63) C d_E_reckonCheck_54 (by decide) (by decide) ?_
        refine j_iincN (n2 := 1) (lv2 := fun x27 => [(3, .int x27), (1, .int x26), (4, .int (0 : Int32)), (0, .ref (a (100 + j0))), (2, .int x2)]) C 4 rfl (by decide) (by decide) (fun _ => rfl) d_E_reckonCheck_63 (fun x27 => ?_)
        refine j_goto (tgt := 25) C d_E_reckonCheck_66 (by decide) ?_
        refine j_sub [3, 1, 4, 0] rfl ?_
        exact ih S x26 x2 x27
      · refine j_iconst (v := 1) C (by decide) d_E_reckonCheck_38 ?_
        refine j_goto (tgt := 43) C d_E_reckonCheck_39 (by decide) ?_
        refine j_istore (i := 4) (lv2 := [(4, .int (1 : Int32)), (0, .ref (a (100 + j0))), (1, .int x1), (2, .int x2), (3, .int x3)]) C (by decide) rfl d_E_reckonCheck_43 ?_
        refine j_iload_n C 2 rfl rfl d_E_reckonCheck_45 ?_
        refine j_iconst (v := 1) C (by decide) d_E_reckonCheck_46 ?_
        refine j_ishl C d_E_reckonCheck_47 ?_
        refine j_ldc (v := 65535) C u_358 d_E_reckonCheck_48 ?_
        refine j_iand C d_E_reckonCheck_50 ?_
        refine j_lti (fun x28 => ?_)
        refine j_istore_n (i := 1) (lv2 := [(1, .int x28), (4, .int (1 : Int32)), (0, .ref (a (100 + j0))), (2, .int x2), (3, .int x3)]) C rfl (by decide) rfl d_E_reckonCheck_51 ?_
        refine j_iload C 1 rfl d_E_reckonCheck_52 ?_
        refine j_if_eq_F (tgt := 63) C d_E_reckonCheck_54 (by decide) (by decide) ?_
        refine j_iload_n C 0 rfl rfl d_E_reckonCheck_57 ?_
        refine j_sipush (v := 4129) C (by decide) d_E_reckonCheck_58 ?_
        refine j_ixor C d_E_reckonCheck_61 ?_
        refine j_lti (fun x29 => ?_)
        refine j_istore_n (i := 1) (lv2 := [(1, .int x29), (4, .int (1 : Int32)), (0, .ref (a (100 + j0))), (2, .int x2), (3, .int x3)]) C rfl (by decide) rfl d_E_reckonCheck_62 ?_
        refine j_iincN (n2 := 1) (lv2 := fun x30 => [(3, .int x30), (1, .int x29), (4, .int (1 : Int32)), (0, .ref (a (100 + j0))), (2, .int x2)]) C 4 rfl (by decide) (by decide) (fun _ => rfl) d_E_reckonCheck_63 (fun x30 => ?_)
        refine j_goto (tgt := 25) C d_E_reckonCheck_66 (by decide) ?_
        refine j_sub [3, 1, 4, 0] rfl ?_
        exact ih S x29 x2 x30
def f_E_reckonCheck_5 (g : Nat) (j0 : Nat) : Nat → Mem → Int32 → Int32 → Option (Mem × (Int32))
  | 0, _, _, _ => none
  | n + 1, S, x1, x2 => if (11 : Int32) ≤ x2 then (some (S, x1)) else (grd (¬ (x2 < 0 ∨ 13 ≤ x2.toNatClampNeg)) (lt (x1 ^^^ ((S.2.2.2.2 j0 x2.toNatClampNeg) <<< ((8 : Int32) &&& 31))) (fun x23 => seqM (f_E_reckonCheck_25 g j0 g S x23 x2 (0 : Int32)) (fun S31 y32 => lt (y32.2 + (1 : Int32)) (fun x33 => f_E_reckonCheck_5 g j0 n S31 y32.1 x33)))))
set_option maxRecDepth 100000 in
set_option maxHeartbeats 4000000 in
theorem lp_E_reckonCheck_5 {l : Launch} {D : va_G} {cI cJ cZ cL : ClassId} {a : Nat → Nat} {p : Program} {e : Env} {s : State} {m : MethodId} {args : Array Value} {below : List Frame} {meth : Method} {c : Code} {A : Nat → Prop} (C : Cx p s m args meth c "AutoTeller$Letter" prog_4_method_10_code 5 (some .int) D (tyT cI cJ cZ cL) (wdC cI cJ cZ cL a) A) (g : Nat) (j0 : Nat) (hj0 : j0 < 25) {K : (Mem × (Int32)) → Option (Int32 × Mem)} (hx : ∀ (S : Mem) (y : Int32), Tj p l e rm_E_reckonCheck s m args below meth c D (wdC cI cJ cZ cL a) A 5 vI K (some (S, y)) S 75 [(1, .int y)] []) : ∀ (n : Nat) (S : Mem) (x1 : Int32) (x2 : Int32), Tj p l e rm_E_reckonCheck s m args below meth c D (wdC cI cJ cZ cL a) A 5 vI K (f_E_reckonCheck_5 g j0 n S x1 x2) S 5 [(0, .ref (a (100 + j0))), (1, .int x1), (2, .int x2)] [] := by
  intro n
  induction n with
  | zero =>
    intro S x1 x2
    exact j_none
  | succ n ih =>
    intro S x1 x2
    rw [f_E_reckonCheck_5]
    refine j_iload_n C 2 rfl rfl d_E_reckonCheck_5 ?_
    refine j_bipush (v := 11) C (by decide) d_E_reckonCheck_6 ?_
    refine j_icmp_ge (tgt := 75) C d_E_reckonCheck_8 (by decide) (fun h21 => ?_) (fun h21 => ?_)
    · refine j_sub [1] rfl ?_
      exact hx S x1
    · refine j_iload_n C 1 rfl rfl d_E_reckonCheck_11 ?_
      refine j_aload_n C 0 rfl rfl d_E_reckonCheck_12 ?_
      refine gC_E_bytes C hj0 u_33 d_E_reckonCheck_13 ?_
      refine j_iload_n C 2 rfl rfl d_E_reckonCheck_16 ?_
      refine j_grd (fun h22 => ?_)
      refine lC_bytes C hj0 h22 d_E_reckonCheck_17 ?_
      refine j_bipush (v := 8) C (by decide) d_E_reckonCheck_18 ?_
      refine j_ishl C d_E_reckonCheck_20 ?_
      refine j_ixor C d_E_reckonCheck_21 ?_
      refine j_lti (fun x23 => ?_)
      refine j_istore_n (i := 1) (lv2 := [(1, .int x23), (0, .ref (a (100 + j0))), (2, .int x2)]) C rfl (by decide) rfl d_E_reckonCheck_22 ?_
      refine j_iconst (v := 0) C (by decide) d_E_reckonCheck_23 ?_
      refine j_istore_n (i := 3) (lv2 := [(3, .int (0 : Int32)), (1, .int x23), (0, .ref (a (100 + j0))), (2, .int x2)]) C rfl (by decide) rfl d_E_reckonCheck_24 ?_
      refine j_sub [2, 1, 3, 0] rfl ?_
      refine j_seqM ?_
      refine lp_E_reckonCheck_25 C g j0 hj0 (fun S31 y32 => ?_) g S x23 x2 (0 : Int32)
      refine j_outM ?_
      refine j_iincN (n2 := 1) (lv2 := fun x33 => [(2, .int x33), (0, .ref (a (100 + j0))), (1, .int y32.1)]) C 2 rfl (by decide) (by decide) (fun _ => rfl) d_E_reckonCheck_69 (fun x33 => ?_)
      refine j_goto (tgt := 5) C d_E_reckonCheck_72 (by decide) ?_
      refine j_sub [1, 2, 0] rfl ?_
      exact ih S31 y32.1 x33
def f_E_reckonCheck (g : Nat) (j0 : Nat) (S : Mem) : Option (Int32 × Mem) := seqM (f_E_reckonCheck_5 g j0 g S (65535 : Int32) (0 : Int32)) (fun S34 y35 => some (y35, S34))
set_option maxRecDepth 100000 in
set_option maxHeartbeats 4000000 in
theorem c_E_reckonCheck {l : Launch} {D : va_G} {cI cJ cZ cL : ClassId} {a : Nat → Nat} (g : Nat) (j0 : Nat) (hj0 : j0 < 25) (S : Mem) {r : Int32} {S9 : Mem} (h : f_E_reckonCheck g j0 S = some (r, S9)) : Ctr l y_E_reckonCheck prog_4_method_10_code 5 (some .int) rm_E_reckonCheck D (tyT cI cJ cZ cL) (wdC cI cJ cZ cL a) [.ref (a (100 + j0))] S (vI r, S9) := by
  refine Ctr.of (lv0 := [(0, .ref (a (100 + j0)))]) (vv := vI) (by decide) rfl (wdC_fst cI cJ cZ cL a) (Nat.le_of_ble_eq_true rfl) rfl (fun p e s m args below meth c A C => ?_) r S9 h
  unfold f_E_reckonCheck
  refine j_ldc (v := 65535) C u_358 d_E_reckonCheck_0 ?_
  refine j_istore_n (i := 1) (lv2 := [(1, .int (65535 : Int32)), (0, .ref (a (100 + j0)))]) C rfl (by decide) rfl d_E_reckonCheck_2 ?_
  refine j_iconst (v := 0) C (by decide) d_E_reckonCheck_3 ?_
  refine j_istore_n (i := 2) (lv2 := [(2, .int (0 : Int32)), (1, .int (65535 : Int32)), (0, .ref (a (100 + j0)))]) C rfl (by decide) rfl d_E_reckonCheck_4 ?_
  refine j_sub [2, 1, 0] rfl ?_
  refine j_seqM ?_
  refine lp_E_reckonCheck_5 C g j0 hj0 (fun S34 y35 => ?_) g S (65535 : Int32) (0 : Int32)
  refine j_outM ?_
  refine j_iload_n C 0 rfl rfl d_E_reckonCheck_75 ?_
  exact j_iret C rfl rfl d_E_reckonCheck_76
def f_E_write (g : Nat) (j0 : Nat) (S : Mem) (x1 : Int32) (x2 : Int32) (x3 : Int32) (x4 : Int64) (x6 : Int32) : Option (Unit × Mem) := lt (sB S j0 ((0 : Int32).toNatClampNeg) x1) (fun S21 => bnd (f_E_writeNumber g j0 S21 (1 : Int32) x2.toInt64) (fun _ S23 => lt (sB S23 j0 ((5 : Int32).toNatClampNeg) x3) (fun S25 => bnd (f_E_writeNumber g j0 S25 (6 : Int32) x4) (fun _ S27 => lt (sB S27 j0 ((10 : Int32).toNatClampNeg) x6) (fun S29 => bnd (f_E_reckonCheck g j0 S29) (fun r30 S31 => lt (sB S31 j0 ((11 : Int32).toNatClampNeg) (r30 >>> ((8 : Int32) &&& 31))) (fun S33 => lt (sB S33 j0 ((12 : Int32).toNatClampNeg) (r30 &&& (255 : Int32))) (fun S34 => some ((), S34)))))))))
set_option maxRecDepth 100000 in
set_option maxHeartbeats 4000000 in
theorem c_E_write {l : Launch} {D : va_G} {cI cJ cZ cL : ClassId} {a : Nat → Nat} (g : Nat) (j0 : Nat) (hj0 : j0 < 25) (S : Mem) (x1 : Int32) (x2 : Int32) (x3 : Int32) (x4 : Int64) (x6 : Int32) {r : Unit} {S9 : Mem} (h : f_E_write g j0 S x1 x2 x3 x4 x6 = some (r, S9)) : Ctr l y_E_write prog_4_method_2_code 8 none rm_E_write D (tyT cI cJ cZ cL) (wdC cI cJ cZ cL a) [.ref (a (100 + j0)), .int x1, .int x2, .int x3, .long x4, .int x6] S (vV r, S9) := by
  refine Ctr.of (lv0 := [(0, .ref (a (100 + j0))), (1, .int x1), (2, .int x2), (3, .int x3), (4, .long x4), (6, .int x6)]) (vv := vV) (by decide) rfl (wdC_fst cI cJ cZ cL a) (Nat.le_of_ble_eq_true rfl) rfl (fun p e s m args below meth c A C => ?_) r S9 h
  unfold f_E_write
  refine j_aload_n C 0 rfl rfl d_E_write_0 ?_
  refine gC_E_bytes C hj0 u_33 d_E_write_1 ?_
  refine j_iconst (v := 0) C (by decide) d_E_write_4 ?_
  refine j_iload_n C 1 rfl rfl d_E_write_5 ?_
  refine sC_bytes C hj0 (by decide) d_E_write_6 ?_
  refine j_ltS (fun S21 => ?_)
  refine j_aload_n C 0 rfl rfl d_E_write_7 ?_
  refine j_iconst (v := 1) C (by decide) d_E_write_8 ?_
  refine j_iload_n C 2 rfl rfl d_E_write_9 ?_
  refine j_i2l C d_E_write_10 ?_
  refine j_bnd (fun _ S23 e24 => ?_)
  refine j_callVv (As := [.int (1 : Int32), .long x2.toInt64]) (rest := []) C (26 + j0) 2 Y_E_writeNumber u_350 (c_E_writeNumber g j0 hj0 S21 (1 : Int32) x2.toInt64 e24) rfl rfl ⟨by decide, by decide⟩ rfl (wdC_E hj0) rfl rfl (Nat.le_of_ble_eq_true rfl) d_E_write_11 ?_
  refine j_aload_n C 0 rfl rfl d_E_write_14 ?_
  refine gC_E_bytes C hj0 u_33 d_E_write_15 ?_
  refine j_iconst (v := 5) C (by decide) d_E_write_18 ?_
  refine j_iload_n C 3 rfl rfl d_E_write_19 ?_
  refine sC_bytes C hj0 (by decide) d_E_write_20 ?_
  refine j_ltS (fun S25 => ?_)
  refine j_aload_n C 0 rfl rfl d_E_write_21 ?_
  refine j_bipush (v := 6) C (by decide) d_E_write_22 ?_
  refine j_lload C 4 rfl d_E_write_24 ?_
  refine j_bnd (fun _ S27 e28 => ?_)
  refine j_callVv (As := [.int (6 : Int32), .long x4]) (rest := []) C (26 + j0) 2 Y_E_writeNumber u_350 (c_E_writeNumber g j0 hj0 S25 (6 : Int32) x4 e28) rfl rfl ⟨by decide, by decide⟩ rfl (wdC_E hj0) rfl rfl (Nat.le_of_ble_eq_true rfl) d_E_write_26 ?_
  refine j_aload_n C 0 rfl rfl d_E_write_29 ?_
  refine gC_E_bytes C hj0 u_33 d_E_write_30 ?_
  refine j_bipush (v := 10) C (by decide) d_E_write_33 ?_
  refine j_iload C 5 rfl d_E_write_35 ?_
  refine sC_bytes C hj0 (by decide) d_E_write_37 ?_
  refine j_ltS (fun S29 => ?_)
  refine j_aload_n C 0 rfl rfl d_E_write_38 ?_
  refine j_bnd (fun r30 S31 e32 => ?_)
  refine j_callVi (As := []) (rest := []) C (26 + j0) 2 Y_E_reckonCheck u_354 (c_E_reckonCheck g j0 hj0 S29 e32) rfl rfl ⟨by decide, by decide⟩ rfl (wdC_E hj0) rfl rfl (Nat.le_of_ble_eq_true rfl) d_E_write_39 ?_
  refine j_istore (i := 7) (lv2 := [(7, .int r30), (0, .ref (a (100 + j0))), (1, .int x1), (2, .int x2), (3, .int x3), (4, .long x4), (6, .int x6)]) C (by decide) rfl d_E_write_42 ?_
  refine j_aload_n C 1 rfl rfl d_E_write_44 ?_
  refine gC_E_bytes C hj0 u_33 d_E_write_45 ?_
  refine j_bipush (v := 11) C (by decide) d_E_write_48 ?_
  refine j_iload C 0 rfl d_E_write_50 ?_
  refine j_bipush (v := 8) C (by decide) d_E_write_52 ?_
  refine j_ishr C d_E_write_54 ?_
  refine sC_bytes C hj0 (by decide) d_E_write_55 ?_
  refine j_ltS (fun S33 => ?_)
  refine j_aload_n C 1 rfl rfl d_E_write_56 ?_
  refine gC_E_bytes C hj0 u_33 d_E_write_57 ?_
  refine j_bipush (v := 12) C (by decide) d_E_write_60 ?_
  refine j_iload C 0 rfl d_E_write_62 ?_
  refine j_sipush (v := 255) C (by decide) d_E_write_64 ?_
  refine j_iand C d_E_write_67 ?_
  refine sC_bytes C hj0 (by decide) d_E_write_68 ?_
  refine j_ltS (fun S34 => ?_)
  exact j_vret C rfl rfl d_E_write_69
def f_N_has (g : Nat) (S : Mem) (x1 : Int32) : Option (Int32 × Mem) := if x1 < 0 then (some ((0 : Int32), S)) else (if (S.1 0 0) ≤ x1 then (some ((0 : Int32), S)) else (some ((1 : Int32), S)))
set_option maxRecDepth 100000 in
set_option maxHeartbeats 4000000 in
theorem c_N_has {l : Launch} {D : va_G} {cI cJ cZ cL : ClassId} {a : Nat → Nat} (g : Nat) (S : Mem) (x1 : Int32) {r : Int32} {S9 : Mem} (h : f_N_has g S x1 = some (r, S9)) : Ctr l y_N_has prog_5_method_2_code 2 (some .boolean) rm_N_has D (tyT cI cJ cZ cL) (wdC cI cJ cZ cL a) [.ref (a 1), .int x1] S (vI r, S9) := by
  refine Ctr.of (lv0 := [(0, .ref (a 1)), (1, .int x1)]) (vv := vI) (by decide) rfl (wdC_fst cI cJ cZ cL a) (Nat.le_of_ble_eq_true rfl) rfl (fun p e s m args below meth c A C => ?_) r S9 h
  unfold f_N_has
  refine j_iload_n C 1 rfl rfl d_N_has_0 ?_
  refine j_if_lt (tgt := 16) C d_N_has_1 (by decide) (fun h21 => ?_) (fun h21 => ?_)
  · refine j_iconst (v := 0) C (by decide) d_N_has_16 ?_
    exact j_zret C (Or.inl rfl) rfl rfl d_N_has_17
  · refine j_iload_n C 1 rfl rfl d_N_has_4 ?_
    refine j_aload_n C 0 rfl rfl d_N_has_5 ?_
    refine gC_N_inFlight C u_45 d_N_has_6 ?_
    refine j_icmp_ge (tgt := 16) C d_N_has_9 (by decide) (fun h22 => ?_) (fun h22 => ?_)
    · refine j_iconst (v := 0) C (by decide) d_N_has_16 ?_
      exact j_zret C (Or.inl rfl) rfl rfl d_N_has_17
    · refine j_iconst (v := 1) C (by decide) d_N_has_12 ?_
      refine j_goto (tgt := 17) C d_N_has_13 (by decide) ?_
      exact j_zret C (Or.inr rfl) rfl rfl d_N_has_17
def f_N_remove_18 (g : Nat) (j2 : Nat) : Nat → Mem → Int32 → Option (Mem × (Unit))
  | 0, _, _ => none
  | n + 1, S, x3 => if ((S.1 0 0) - (1 : Int32)) ≤ x3 then (some (S, ())) else (grd (¬ ((x3 + (1 : Int32)) < 0 ∨ 24 ≤ (x3 + (1 : Int32)).toNatClampNeg)) (lt (S.2.2.1 ((x3 + (1 : Int32)).toNatClampNeg)) (fun j29 => grd (j29 < 25) (grd (¬ (x3 < 0 ∨ 24 ≤ x3.toNatClampNeg)) (lt (sG S x3.toNatClampNeg j29) (fun S31 => lt (x3 + (1 : Int32)) (fun x32 => f_N_remove_18 g j2 n S31 x32)))))))
set_option maxRecDepth 100000 in
set_option maxHeartbeats 4000000 in
theorem lp_N_remove_18 {l : Launch} {D : va_G} {cI cJ cZ cL : ClassId} {a : Nat → Nat} {p : Program} {e : Env} {s : State} {m : MethodId} {args : Array Value} {below : List Frame} {meth : Method} {c : Code} {A : Nat → Prop} (C : Cx p s m args meth c "AutoTeller$Line" prog_5_method_5_code 4 none D (tyT cI cJ cZ cL) (wdC cI cJ cZ cL a) A) (g : Nat) (j2 : Nat) (hj2 : j2 < 25) {K : (Mem × (Unit)) → Option (Unit × Mem)} (hx : ∀ (S : Mem) (y : Unit), Tj p l e rm_N_remove s m args below meth c D (wdC cI cJ cZ cL a) A 4 vV K (some (S, y)) S 48 [(0, .ref (a 1)), (2, .ref (a (100 + j2)))] []) : ∀ (n : Nat) (S : Mem) (x3 : Int32), Tj p l e rm_N_remove s m args below meth c D (wdC cI cJ cZ cL a) A 4 vV K (f_N_remove_18 g j2 n S x3) S 18 [(0, .ref (a 1)), (2, .ref (a (100 + j2))), (3, .int x3)] [] := by
  intro n
  induction n with
  | zero =>
    intro S x3
    exact j_none
  | succ n ih =>
    intro S x3
    rw [f_N_remove_18]
    refine j_iload_n C 2 rfl rfl d_N_remove_18 ?_
    refine j_aload_n C 0 rfl rfl d_N_remove_19 ?_
    refine gC_N_inFlight C u_45 d_N_remove_20 ?_
    refine j_iconst (v := 1) C (by decide) d_N_remove_23 ?_
    refine j_isub C d_N_remove_24 ?_
    refine j_icmp_ge (tgt := 48) C d_N_remove_25 (by decide) (fun h27 => ?_) (fun h27 => ?_)
    · refine j_sub [0, 1] rfl ?_
      exact hx S ()
    · refine j_aload_n C 0 rfl rfl d_N_remove_28 ?_
      refine gC_N_letters C u_44 d_N_remove_29 ?_
      refine j_iload_n C 2 rfl rfl d_N_remove_32 ?_
      refine j_aload_n C 0 rfl rfl d_N_remove_33 ?_
      refine gC_N_letters C u_44 d_N_remove_34 ?_
      refine j_iload_n C 2 rfl rfl d_N_remove_37 ?_
      refine j_iconst (v := 1) C (by decide) d_N_remove_38 ?_
      refine j_iadd C d_N_remove_39 ?_
      refine j_grd (fun h28 => ?_)
      refine lC_N_letters C h28 d_N_remove_40 ?_
      refine j_ltE (fun j29 => ?_)
      refine j_grd (fun hj29 => ?_)
      refine j_grd (fun h30 => ?_)
      refine sC_letters C hj29 h30 d_N_remove_41 ?_
      refine j_ltS (fun S31 => ?_)
      refine j_iincN (n2 := 1) (lv2 := fun x32 => [(3, .int x32), (0, .ref (a 1)), (2, .ref (a (100 + j2)))]) C 2 rfl (by decide) (by decide) (fun _ => rfl) d_N_remove_42 (fun x32 => ?_)
      refine j_goto (tgt := 18) C d_N_remove_45 (by decide) ?_
      refine j_sub [1, 2, 0] rfl ?_
      exact ih S31 x32
def f_N_remove (g : Nat) (S : Mem) (x1 : Int32) : Option (Unit × Mem) := bnd (f_N_has g S x1) (fun r21 S22 => if r21 = 0 then (some ((), S22)) else (grd (¬ (x1 < 0 ∨ 24 ≤ x1.toNatClampNeg)) (lt (S22.2.2.1 x1.toNatClampNeg) (fun j26 => grd (j26 < 25) (seqM (f_N_remove_18 g j26 g S22 x1) (fun S33 y34 => lt (sI S33 0 0 ((S33.1 0 0) - (1 : Int32))) (fun S35 => grd (¬ ((S35.1 0 0) < 0 ∨ 24 ≤ (S35.1 0 0).toNatClampNeg)) (lt (sG S35 ((S35.1 0 0).toNatClampNeg) j26) (fun S37 => some ((), S37))))))))))
set_option maxRecDepth 100000 in
set_option maxHeartbeats 4000000 in
theorem c_N_remove {l : Launch} {D : va_G} {cI cJ cZ cL : ClassId} {a : Nat → Nat} (g : Nat) (S : Mem) (x1 : Int32) {r : Unit} {S9 : Mem} (h : f_N_remove g S x1 = some (r, S9)) : Ctr l y_N_remove prog_5_method_5_code 4 none rm_N_remove D (tyT cI cJ cZ cL) (wdC cI cJ cZ cL a) [.ref (a 1), .int x1] S (vV r, S9) := by
  refine Ctr.of (lv0 := [(0, .ref (a 1)), (1, .int x1)]) (vv := vV) (by decide) rfl (wdC_fst cI cJ cZ cL a) (Nat.le_of_ble_eq_true rfl) rfl (fun p e s m args below meth c A C => ?_) r S9 h
  unfold f_N_remove
  refine j_aload_n C 0 rfl rfl d_N_remove_0 ?_
  refine j_iload_n C 1 rfl rfl d_N_remove_1 ?_
  refine j_bnd (fun r21 S22 e23 => ?_)
  refine j_callVi (As := [.int x1]) (rest := []) C 1 3 Y_N_has u_342 (c_N_has g S x1 e23) rfl rfl ⟨by decide, by decide⟩ rfl rfl rfl rfl (Nat.le_of_ble_eq_true rfl) d_N_remove_2 ?_
  refine j_if_ne (tgt := 9) C d_N_remove_5 (by decide) (fun h24 => ?_) (fun h24 => ?_)
  · exact j_vret C rfl rfl d_N_remove_8
  · refine j_aload_n C 0 rfl rfl d_N_remove_9 ?_
    refine gC_N_letters C u_44 d_N_remove_10 ?_
    refine j_iload_n C 1 rfl rfl d_N_remove_13 ?_
    refine j_grd (fun h25 => ?_)
    refine lC_N_letters C h25 d_N_remove_14 ?_
    refine j_ltE (fun j26 => ?_)
    refine j_grd (fun hj26 => ?_)
    refine j_astore_n (i := 2) (lv2 := [(2, .ref (a (100 + j26))), (0, .ref (a 1)), (1, .int x1)]) C rfl (by decide) rfl d_N_remove_15 ?_
    refine j_iload_n C 2 rfl rfl d_N_remove_16 ?_
    refine j_istore_n (i := 3) (lv2 := [(3, .int x1), (2, .ref (a (100 + j26))), (0, .ref (a 1)), (1, .int x1)]) C rfl (by decide) rfl d_N_remove_17 ?_
    refine j_sub [2, 1, 0] rfl ?_
    refine j_seqM ?_
    refine lp_N_remove_18 C g j26 hj26 (fun S33 y34 => ?_) g S22 x1
    refine j_outM ?_
    refine j_aload_n C 0 rfl rfl d_N_remove_48 ?_
    refine j_dup C rfl d_N_remove_49 ?_
    refine gC_N_inFlight C u_45 d_N_remove_50 ?_
    refine j_iconst (v := 1) C (by decide) d_N_remove_53 ?_
    refine j_isub C d_N_remove_54 ?_
    refine pC_N_inFlight C u_45 d_N_remove_55 ?_
    refine j_ltS (fun S35 => ?_)
    refine j_aload_n C 0 rfl rfl d_N_remove_58 ?_
    refine gC_N_letters C u_44 d_N_remove_59 ?_
    refine j_aload_n C 0 rfl rfl d_N_remove_62 ?_
    refine gC_N_inFlight C u_45 d_N_remove_63 ?_
    refine j_aload_n C 1 rfl rfl d_N_remove_66 ?_
    refine j_grd (fun h36 => ?_)
    refine sC_letters C hj26 h36 d_N_remove_67 ?_
    refine j_ltS (fun S37 => ?_)
    exact j_vret C rfl rfl d_N_remove_68
def f_N_post (g : Nat) (S : Mem) (x1 : Int32) (x2 : Int32) (x3 : Int32) (x4 : Int32) (x5 : Int64) (x7 : Int32) : Option (Unit × Mem) := if (S.1 0 0) < (24 : Int32) then (grd (¬ ((S.1 0 0) < 0 ∨ 24 ≤ (S.1 0 0).toNatClampNeg)) (lt (S.2.2.1 ((S.1 0 0).toNatClampNeg)) (fun j23 => grd (j23 < 25) (grd (x1 = 0 ∨ x1 = 1) (lt (sF S j23 x1) (fun S25 => bnd (f_E_write g j23 S25 x2 x3 x4 x5 x7) (fun _ S27 => lt (sI S27 0 0 ((S27.1 0 0) + (1 : Int32))) (fun S29 => some ((), S29))))))))) else (bnd (f_N_remove g S (0 : Int32)) (fun _ S31 => lt (sI S31 1 0 ((S31.1 1 0) + (1 : Int32))) (fun S33 => grd (¬ ((S33.1 0 0) < 0 ∨ 24 ≤ (S33.1 0 0).toNatClampNeg)) (lt (S33.2.2.1 ((S33.1 0 0).toNatClampNeg)) (fun j35 => grd (j35 < 25) (grd (x1 = 0 ∨ x1 = 1) (lt (sF S33 j35 x1) (fun S37 => bnd (f_E_write g j35 S37 x2 x3 x4 x5 x7) (fun _ S39 => lt (sI S39 0 0 ((S39.1 0 0) + (1 : Int32))) (fun S41 => some ((), S41)))))))))))
set_option maxRecDepth 100000 in
set_option maxHeartbeats 4000000 in
theorem c_N_post {l : Launch} {D : va_G} {cI cJ cZ cL : ClassId} {a : Nat → Nat} (g : Nat) (S : Mem) (x1 : Int32) (x2 : Int32) (x3 : Int32) (x4 : Int32) (x5 : Int64) (x7 : Int32) {r : Unit} {S9 : Mem} (h : f_N_post g S x1 x2 x3 x4 x5 x7 = some (r, S9)) : Ctr l y_N_post prog_5_method_3_code 9 none rm_N_post D (tyT cI cJ cZ cL) (wdC cI cJ cZ cL a) [.ref (a 1), .int x1, .int x2, .int x3, .int x4, .long x5, .int x7] S (vV r, S9) := by
  refine Ctr.of (lv0 := [(0, .ref (a 1)), (1, .int x1), (2, .int x2), (3, .int x3), (4, .int x4), (5, .long x5), (7, .int x7)]) (vv := vV) (by decide) rfl (wdC_fst cI cJ cZ cL a) (Nat.le_of_ble_eq_true rfl) rfl (fun p e s m args below meth c A C => ?_) r S9 h
  unfold f_N_post
  refine j_aload_n C 0 rfl rfl d_N_post_0 ?_
  refine gC_N_inFlight C u_45 d_N_post_1 ?_
  refine j_bipush (v := 24) C (by decide) d_N_post_4 ?_
  refine j_icmp_lt (tgt := 24) C d_N_post_6 (by decide) (fun h21 => ?_) (fun h21 => ?_)
  · refine j_aload_n C 0 rfl rfl d_N_post_24 ?_
    refine gC_N_letters C u_44 d_N_post_25 ?_
    refine j_aload_n C 0 rfl rfl d_N_post_28 ?_
    refine gC_N_inFlight C u_45 d_N_post_29 ?_
    refine j_grd (fun h22 => ?_)
    refine lC_N_letters C h22 d_N_post_32 ?_
    refine j_ltE (fun j23 => ?_)
    refine j_grd (fun hj23 => ?_)
    refine j_astore (i := 8) (lv2 := [(8, .ref (a (100 + j23))), (0, .ref (a 1)), (1, .int x1), (2, .int x2), (3, .int x3), (4, .int x4), (5, .long x5), (7, .int x7)]) C (by decide) rfl d_N_post_33 ?_
    refine j_aload C 0 rfl d_N_post_35 ?_
    refine j_iload_n C 2 rfl rfl d_N_post_37 ?_
    refine j_grd (fun h24 => ?_)
    refine pnC_E_forHost C hj23 h24 n_36 d_N_post_38 ?_
    refine j_ltS (fun S25 => ?_)
    refine j_aload C 0 rfl d_N_post_41 ?_
    refine j_iload_n C 3 rfl rfl d_N_post_43 ?_
    refine j_iload_n C 4 rfl rfl d_N_post_44 ?_
    refine j_iload C 5 rfl d_N_post_45 ?_
    refine j_lload C 6 rfl d_N_post_47 ?_
    refine j_iload C 7 rfl d_N_post_49 ?_
    refine j_bnd (fun _ S27 e28 => ?_)
    refine j_callVv (As := [.int x2, .int x3, .int x4, .long x5, .int x7]) (rest := []) C (26 + j23) 2 Y_E_write u_346 (c_E_write g j23 hj23 S25 x2 x3 x4 x5 x7 e28) rfl rfl ⟨by decide, by decide⟩ rfl (wdC_E hj23) rfl rfl (Nat.le_of_ble_eq_true rfl) d_N_post_51 ?_
    refine j_aload_n C 1 rfl rfl d_N_post_54 ?_
    refine j_dup C rfl d_N_post_55 ?_
    refine gC_N_inFlight C u_45 d_N_post_56 ?_
    refine j_iconst (v := 1) C (by decide) d_N_post_59 ?_
    refine j_iadd C d_N_post_60 ?_
    refine pC_N_inFlight C u_45 d_N_post_61 ?_
    refine j_ltS (fun S29 => ?_)
    exact j_vret C rfl rfl d_N_post_64
  · refine j_aload_n C 0 rfl rfl d_N_post_9 ?_
    refine j_iconst (v := 0) C (by decide) d_N_post_10 ?_
    refine j_bnd (fun _ S31 e32 => ?_)
    refine j_callVv (As := [.int (0 : Int32)]) (rest := []) C 1 3 Y_N_remove u_338 (c_N_remove g S (0 : Int32) e32) rfl rfl ⟨by decide, by decide⟩ rfl rfl rfl rfl (Nat.le_of_ble_eq_true rfl) d_N_post_11 ?_
    refine j_aload_n C 0 rfl rfl d_N_post_14 ?_
    refine j_dup C rfl d_N_post_15 ?_
    refine gC_N_lostForRoom C u_47 d_N_post_16 ?_
    refine j_iconst (v := 1) C (by decide) d_N_post_19 ?_
    refine j_iadd C d_N_post_20 ?_
    refine pC_N_lostForRoom C u_47 d_N_post_21 ?_
    refine j_ltS (fun S33 => ?_)
    refine j_aload_n C 0 rfl rfl d_N_post_24 ?_
    refine gC_N_letters C u_44 d_N_post_25 ?_
    refine j_aload_n C 0 rfl rfl d_N_post_28 ?_
    refine gC_N_inFlight C u_45 d_N_post_29 ?_
    refine j_grd (fun h34 => ?_)
    refine lC_N_letters C h34 d_N_post_32 ?_
    refine j_ltE (fun j35 => ?_)
    refine j_grd (fun hj35 => ?_)
    refine j_astore (i := 8) (lv2 := [(8, .ref (a (100 + j35))), (0, .ref (a 1)), (1, .int x1), (2, .int x2), (3, .int x3), (4, .int x4), (5, .long x5), (7, .int x7)]) C (by decide) rfl d_N_post_33 ?_
    refine j_aload C 0 rfl d_N_post_35 ?_
    refine j_iload_n C 2 rfl rfl d_N_post_37 ?_
    refine j_grd (fun h36 => ?_)
    refine pnC_E_forHost C hj35 h36 n_36 d_N_post_38 ?_
    refine j_ltS (fun S37 => ?_)
    refine j_aload C 0 rfl d_N_post_41 ?_
    refine j_iload_n C 3 rfl rfl d_N_post_43 ?_
    refine j_iload_n C 4 rfl rfl d_N_post_44 ?_
    refine j_iload C 5 rfl d_N_post_45 ?_
    refine j_lload C 6 rfl d_N_post_47 ?_
    refine j_iload C 7 rfl d_N_post_49 ?_
    refine j_bnd (fun _ S39 e40 => ?_)
    refine j_callVv (As := [.int x2, .int x3, .int x4, .long x5, .int x7]) (rest := []) C (26 + j35) 2 Y_E_write u_346 (c_E_write g j35 hj35 S37 x2 x3 x4 x5 x7 e40) rfl rfl ⟨by decide, by decide⟩ rfl (wdC_E hj35) rfl rfl (Nat.le_of_ble_eq_true rfl) d_N_post_51 ?_
    refine j_aload_n C 1 rfl rfl d_N_post_54 ?_
    refine j_dup C rfl d_N_post_55 ?_
    refine gC_N_inFlight C u_45 d_N_post_56 ?_
    refine j_iconst (v := 1) C (by decide) d_N_post_59 ?_
    refine j_iadd C d_N_post_60 ?_
    refine pC_N_inFlight C u_45 d_N_post_61 ?_
    refine j_ltS (fun S41 => ?_)
    exact j_vret C rfl rfl d_N_post_64
