def f_R_cassette (g : Nat) (S : Mem) (x1 : Int32) (x2 : Int32) : Option (Int32 × Mem) := if x1 < 0 then (some ((-1 : Int32), S)) else (if x1 ≤ (3 : Int32) then (if x2 = (0 : Int32) then (grd (¬ (x1 < 0 ∨ 4 ≤ x1.toNatClampNeg)) (some (S.1 8 x1.toNatClampNeg, S))) else (if x2 = (1 : Int32) then (grd (¬ (x1 < 0 ∨ 4 ≤ x1.toNatClampNeg)) (some (S.1 9 x1.toNatClampNeg, S))) else (if x2 = (2 : Int32) then (grd (¬ (x1 < 0 ∨ 4 ≤ x1.toNatClampNeg)) (some (S.1 10 x1.toNatClampNeg, S))) else (if x2 = (3 : Int32) then (grd (¬ (x1 < 0 ∨ 4 ≤ x1.toNatClampNeg)) (some (S.1 11 x1.toNatClampNeg, S))) else (if x2 = (4 : Int32) then (grd (¬ (x1 < 0 ∨ 4 ≤ x1.toNatClampNeg)) (some (S.1 12 x1.toNatClampNeg, S))) else (some ((-1 : Int32), S))))))) else (some ((-1 : Int32), S)))
set_option maxRecDepth 100000 in
set_option maxHeartbeats 4000000 in
theorem c_R_cassette {l : Launch} {D : va_G} {cI cJ cZ cL : ClassId} {a : Nat → Nat} (g : Nat) (S : Mem) (x1 : Int32) (x2 : Int32) {r : Int32} {S9 : Mem} (h : f_R_cassette g S x1 x2 = some (r, S9)) : Ctr l y_R_cassette prog_9_method_39_code 3 (some .int) rm_R_cassette D (tyT cI cJ cZ cL) (wdR cI cJ cZ cL a) [.ref (a 0), .int x1, .int x2] S (vI r, S9) := by
  refine Ctr.of (lv0 := [(0, .ref (a 0)), (1, .int x1), (2, .int x2)]) (vv := vI) (by decide) rfl (wdR_fst cI cJ cZ cL a) (Nat.le_of_ble_eq_true rfl) rfl (fun p e s m args below meth c A C => ?_) r S9 h
  unfold f_R_cassette
  refine j_iload_n C 1 rfl rfl d_R_cassette_0 ?_
  refine j_if_lt (tgt := 9) C d_R_cassette_1 (by decide) (fun h21 => ?_) (fun h21 => ?_)
  · refine j_iconst (v := -1) C (by decide) d_R_cassette_9 ?_
    exact j_iret C rfl rfl d_R_cassette_10
  · refine j_iload_n C 1 rfl rfl d_R_cassette_4 ?_
    refine j_iconst (v := 3) C (by decide) d_R_cassette_5 ?_
    refine j_icmp_le (tgt := 11) C d_R_cassette_6 (by decide) (fun h22 => ?_) (fun h22 => ?_)
    · refine j_iload_n C 2 rfl rfl d_R_cassette_11 ?_
      refine j_if (fun h23 => ?_) (fun h23 => ?_)
      · refine j_tabIn (off := 36) (tgt := 48) C d_R_cassette_12 (by rw [h23]; decide) (by rw [h23]; decide) (by rw [h23]; rfl) (by decide) ?_
        refine j_aload_n C 0 rfl rfl d_R_cassette_48 ?_
        refine gR_R_denomination C u_695 d_R_cassette_49 ?_
        refine j_iload_n C 1 rfl rfl d_R_cassette_52 ?_
        refine j_grd (fun h24 => ?_)
        refine lR_R_denomination C h24 d_R_cassette_53 ?_
        exact j_iret C rfl rfl d_R_cassette_54
      refine j_if (fun h25 => ?_) (fun h25 => ?_)
      · refine j_tabIn (off := 43) (tgt := 55) C d_R_cassette_12 (by rw [h25]; decide) (by rw [h25]; decide) (by rw [h25]; rfl) (by decide) ?_
        refine j_aload_n C 0 rfl rfl d_R_cassette_55 ?_
        refine gR_R_notes C u_696 d_R_cassette_56 ?_
        refine j_iload_n C 1 rfl rfl d_R_cassette_59 ?_
        refine j_grd (fun h26 => ?_)
        refine lR_R_notes C h26 d_R_cassette_60 ?_
        exact j_iret C rfl rfl d_R_cassette_61
      refine j_if (fun h27 => ?_) (fun h27 => ?_)
      · refine j_tabIn (off := 50) (tgt := 62) C d_R_cassette_12 (by rw [h27]; decide) (by rw [h27]; decide) (by rw [h27]; rfl) (by decide) ?_
        refine j_aload_n C 0 rfl rfl d_R_cassette_62 ?_
        refine gR_R_stacked C u_697 d_R_cassette_63 ?_
        refine j_iload_n C 1 rfl rfl d_R_cassette_66 ?_
        refine j_grd (fun h28 => ?_)
        refine lR_R_stacked C h28 d_R_cassette_67 ?_
        exact j_iret C rfl rfl d_R_cassette_68
      refine j_if (fun h29 => ?_) (fun h29 => ?_)
      · refine j_tabIn (off := 57) (tgt := 69) C d_R_cassette_12 (by rw [h29]; decide) (by rw [h29]; decide) (by rw [h29]; rfl) (by decide) ?_
        refine j_aload_n C 0 rfl rfl d_R_cassette_69 ?_
        refine gR_R_inTray C u_698 d_R_cassette_70 ?_
        refine j_iload_n C 1 rfl rfl d_R_cassette_73 ?_
        refine j_grd (fun h30 => ?_)
        refine lR_R_inTray C h30 d_R_cassette_74 ?_
        exact j_iret C rfl rfl d_R_cassette_75
      refine j_if (fun h31 => ?_) (fun h31 => ?_)
      · refine j_tabIn (off := 64) (tgt := 76) C d_R_cassette_12 (by rw [h31]; decide) (by rw [h31]; decide) (by rw [h31]; rfl) (by decide) ?_
        refine j_aload_n C 0 rfl rfl d_R_cassette_76 ?_
        refine gR_R_inBin C u_699 d_R_cassette_77 ?_
        refine j_iload_n C 1 rfl rfl d_R_cassette_80 ?_
        refine j_grd (fun h32 => ?_)
        refine lR_R_inBin C h32 d_R_cassette_81 ?_
        exact j_iret C rfl rfl d_R_cassette_82
      refine j_tabOut (tgt := 83) C d_R_cassette_12 (by have gh23 : x2.toInt ≠ 0 := fun z => h23 (Int32.toInt_inj.mp (z.trans (by decide))); have gh25 : x2.toInt ≠ 1 := fun z => h25 (Int32.toInt_inj.mp (z.trans (by decide))); have gh27 : x2.toInt ≠ 2 := fun z => h27 (Int32.toInt_inj.mp (z.trans (by decide))); have gh29 : x2.toInt ≠ 3 := fun z => h29 (Int32.toInt_inj.mp (z.trans (by decide))); have gh31 : x2.toInt ≠ 4 := fun z => h31 (Int32.toInt_inj.mp (z.trans (by decide))); omega) (by decide) ?_
      refine j_iconst (v := -1) C (by decide) d_R_cassette_83 ?_
      exact j_iret C rfl rfl d_R_cassette_84
    · refine j_iconst (v := -1) C (by decide) d_R_cassette_9 ?_
      exact j_iret C rfl rfl d_R_cassette_10
def f_R_mix (g : Nat) (S : Mem) (x1 : Int32) (x2 : Int32) : Option (Int32 × Mem) := if x2 < 0 then (some ((-1 : Int32), S)) else (if (3 : Int32) < x2 then (some ((-1 : Int32), S)) else (if x1 < (1 : Int32) then (some ((-1 : Int32), S)) else (if (40000 : Int32) < x1 then (some ((-1 : Int32), S)) else (bnd (f_R_findMix g S x1) (fun r25 S26 => if r25 = 0 then (some ((-1 : Int32), S26)) else (grd (¬ (x2 < 0 ∨ 4 ≤ x2.toNatClampNeg)) (some (S26.1 30 x2.toNatClampNeg, S26))))))))
set_option maxRecDepth 100000 in
set_option maxHeartbeats 4000000 in
theorem c_R_mix {l : Launch} {D : va_G} {cI cJ cZ cL : ClassId} {a : Nat → Nat} (g : Nat) (S : Mem) (x1 : Int32) (x2 : Int32) {r : Int32} {S9 : Mem} (h : f_R_mix g S x1 x2 = some (r, S9)) : Ctr l y_R_mix prog_9_method_40_code 3 (some .int) rm_R_mix D (tyT cI cJ cZ cL) (wdR cI cJ cZ cL a) [.ref (a 0), .int x1, .int x2] S (vI r, S9) := by
  refine Ctr.of (lv0 := [(0, .ref (a 0)), (1, .int x1), (2, .int x2)]) (vv := vI) (by decide) rfl (wdR_fst cI cJ cZ cL a) (Nat.le_of_ble_eq_true rfl) rfl (fun p e s m args below meth c A C => ?_) r S9 h
  unfold f_R_mix
  refine j_iload_n C 2 rfl rfl d_R_mix_0 ?_
  refine j_if_lt (tgt := 28) C d_R_mix_1 (by decide) (fun h21 => ?_) (fun h21 => ?_)
  · refine j_iconst (v := -1) C (by decide) d_R_mix_28 ?_
    refine j_goto (tgt := 38) C d_R_mix_29 (by decide) ?_
    exact j_iret C rfl rfl d_R_mix_38
  · refine j_iload_n C 2 rfl rfl d_R_mix_4 ?_
    refine j_iconst (v := 3) C (by decide) d_R_mix_5 ?_
    refine j_icmp_gt (tgt := 28) C d_R_mix_6 (by decide) (fun h22 => ?_) (fun h22 => ?_)
    · refine j_iconst (v := -1) C (by decide) d_R_mix_28 ?_
      refine j_goto (tgt := 38) C d_R_mix_29 (by decide) ?_
      exact j_iret C rfl rfl d_R_mix_38
    · refine j_iload_n C 1 rfl rfl d_R_mix_9 ?_
      refine j_iconst (v := 1) C (by decide) d_R_mix_10 ?_
      refine j_icmp_lt (tgt := 28) C d_R_mix_11 (by decide) (fun h23 => ?_) (fun h23 => ?_)
      · refine j_iconst (v := -1) C (by decide) d_R_mix_28 ?_
        refine j_goto (tgt := 38) C d_R_mix_29 (by decide) ?_
        exact j_iret C rfl rfl d_R_mix_38
      · refine j_iload_n C 1 rfl rfl d_R_mix_14 ?_
        refine j_ldc (v := 40000) C u_843 d_R_mix_15 ?_
        refine j_icmp_gt (tgt := 28) C d_R_mix_17 (by decide) (fun h24 => ?_) (fun h24 => ?_)
        · refine j_iconst (v := -1) C (by decide) d_R_mix_28 ?_
          refine j_goto (tgt := 38) C d_R_mix_29 (by decide) ?_
          exact j_iret C rfl rfl d_R_mix_38
        · refine j_aload_n C 0 rfl rfl d_R_mix_20 ?_
          refine j_iload_n C 1 rfl rfl d_R_mix_21 ?_
          refine j_bnd (fun r25 S26 e27 => ?_)
          refine j_callVi (As := [.int x1]) (rest := []) C 0 7 Y_R_findMix u_844 (c_R_findMix g S x1 e27) rfl rfl ⟨by decide, by decide⟩ rfl rfl rfl rfl (Nat.le_of_ble_eq_true rfl) d_R_mix_22 ?_
          refine j_if_ne (tgt := 32) C d_R_mix_25 (by decide) (fun h28 => ?_) (fun h28 => ?_)
          · refine j_iconst (v := -1) C (by decide) d_R_mix_28 ?_
            refine j_goto (tgt := 38) C d_R_mix_29 (by decide) ?_
            exact j_iret C rfl rfl d_R_mix_38
          · refine j_aload_n C 0 rfl rfl d_R_mix_32 ?_
            refine gR_R_mixed C u_720 d_R_mix_33 ?_
            refine j_iload_n C 2 rfl rfl d_R_mix_36 ?_
            refine j_grd (fun h29 => ?_)
            refine lR_R_mixed C h29 d_R_mix_37 ?_
            exact j_iret C rfl rfl d_R_mix_38
def f_R_balance (g : Nat) (S : Mem) (x1 : Int32) : Option (Int64 × Mem) := if x1 < 0 then (some ((-1 : Int64), S)) else (if x1 ≤ (7 : Int32) then (grd (¬ (x1 < 0 ∨ 8 ≤ x1.toNatClampNeg)) (some (S.2.1 0 x1.toNatClampNeg, S))) else (some ((-1 : Int64), S)))
set_option maxRecDepth 100000 in
set_option maxHeartbeats 4000000 in
theorem c_R_balance {l : Launch} {D : va_G} {cI cJ cZ cL : ClassId} {a : Nat → Nat} (g : Nat) (S : Mem) (x1 : Int32) {r : Int64} {S9 : Mem} (h : f_R_balance g S x1 = some (r, S9)) : Ctr l y_R_balance prog_9_method_41_code 2 (some .long) rm_R_balance D (tyT cI cJ cZ cL) (wdR cI cJ cZ cL a) [.ref (a 0), .int x1] S (vL r, S9) := by
  refine Ctr.of (lv0 := [(0, .ref (a 0)), (1, .int x1)]) (vv := vL) (by decide) rfl (wdR_fst cI cJ cZ cL a) (Nat.le_of_ble_eq_true rfl) rfl (fun p e s m args below meth c A C => ?_) r S9 h
  unfold f_R_balance
  refine j_iload_n C 1 rfl rfl d_R_balance_0 ?_
  refine j_if_lt (tgt := 10) C d_R_balance_1 (by decide) (fun h21 => ?_) (fun h21 => ?_)
  · refine j_ldc2 (v := -1) C u_952 d_R_balance_10 ?_
    refine j_goto (tgt := 22) C d_R_balance_13 (by decide) ?_
    exact j_lret C rfl rfl d_R_balance_22
  · refine j_iload_n C 1 rfl rfl d_R_balance_4 ?_
    refine j_bipush (v := 7) C (by decide) d_R_balance_5 ?_
    refine j_icmp_le (tgt := 16) C d_R_balance_7 (by decide) (fun h22 => ?_) (fun h22 => ?_)
    · refine j_aload_n C 0 rfl rfl d_R_balance_16 ?_
      refine gR_R_balances C u_685 d_R_balance_17 ?_
      refine j_iload_n C 1 rfl rfl d_R_balance_20 ?_
      refine j_grd (fun h23 => ?_)
      refine lR_R_balances C h23 d_R_balance_21 ?_
      exact j_lret C rfl rfl d_R_balance_22
    · refine j_ldc2 (v := -1) C u_952 d_R_balance_10 ?_
      refine j_goto (tgt := 22) C d_R_balance_13 (by decide) ?_
      exact j_lret C rfl rfl d_R_balance_22
def f_R_ofCard (g : Nat) (S : Mem) (x1 : Int32) (x2 : Int32) : Option (Int32 × Mem) := if x1 < 0 then (some ((-1 : Int32), S)) else (if x1 ≤ (15 : Int32) then (if x2 = 0 then (grd (¬ (x1 < 0 ∨ 16 ≤ x1.toNatClampNeg)) (some (S.1 2 x1.toNatClampNeg, S))) else (if x2 = (1 : Int32) then (grd (¬ (x1 < 0 ∨ 16 ≤ x1.toNatClampNeg)) (if (S.1 13 x1.toNatClampNeg) = 0 then (some ((0 : Int32), S)) else (some ((1 : Int32), S)))) else (if x2 = (2 : Int32) then (grd (¬ (x1 < 0 ∨ 16 ≤ x1.toNatClampNeg)) (some (S.1 0 x1.toNatClampNeg, S))) else (some ((-1 : Int32), S))))) else (some ((-1 : Int32), S)))
set_option maxRecDepth 100000 in
set_option maxHeartbeats 4000000 in
theorem c_R_ofCard {l : Launch} {D : va_G} {cI cJ cZ cL : ClassId} {a : Nat → Nat} (g : Nat) (S : Mem) (x1 : Int32) (x2 : Int32) {r : Int32} {S9 : Mem} (h : f_R_ofCard g S x1 x2 = some (r, S9)) : Ctr l y_R_ofCard prog_9_method_42_code 3 (some .int) rm_R_ofCard D (tyT cI cJ cZ cL) (wdR cI cJ cZ cL a) [.ref (a 0), .int x1, .int x2] S (vI r, S9) := by
  refine Ctr.of (lv0 := [(0, .ref (a 0)), (1, .int x1), (2, .int x2)]) (vv := vI) (by decide) rfl (wdR_fst cI cJ cZ cL a) (Nat.le_of_ble_eq_true rfl) rfl (fun p e s m args below meth c A C => ?_) r S9 h
  unfold f_R_ofCard
  refine j_iload_n C 1 rfl rfl d_R_ofCard_0 ?_
  refine j_if_lt (tgt := 10) C d_R_ofCard_1 (by decide) (fun h21 => ?_) (fun h21 => ?_)
  · refine j_iconst (v := -1) C (by decide) d_R_ofCard_10 ?_
    exact j_iret C rfl rfl d_R_ofCard_11
  · refine j_iload_n C 1 rfl rfl d_R_ofCard_4 ?_
    refine j_bipush (v := 15) C (by decide) d_R_ofCard_5 ?_
    refine j_icmp_le (tgt := 12) C d_R_ofCard_7 (by decide) (fun h22 => ?_) (fun h22 => ?_)
    · refine j_iload_n C 2 rfl rfl d_R_ofCard_12 ?_
      refine j_if_ne (tgt := 25) C d_R_ofCard_13 (by decide) (fun h23 => ?_) (fun h23 => ?_)
      · refine j_aload_n C 0 rfl rfl d_R_ofCard_16 ?_
        refine gR_R_tries C u_688 d_R_ofCard_17 ?_
        refine j_iload_n C 1 rfl rfl d_R_ofCard_20 ?_
        refine j_grd (fun h24 => ?_)
        refine lR_R_tries C h24 d_R_ofCard_21 ?_
        refine j_goto (tgt := 62) C d_R_ofCard_22 (by decide) ?_
        exact j_iret C rfl rfl d_R_ofCard_62
      · refine j_iload_n C 2 rfl rfl d_R_ofCard_25 ?_
        refine j_iconst (v := 1) C (by decide) d_R_ofCard_26 ?_
        refine j_icmp_ne (tgt := 47) C d_R_ofCard_27 (by decide) (fun h25 => ?_) (fun h25 => ?_)
        · refine j_aload_n C 0 rfl rfl d_R_ofCard_30 ?_
          refine gR_R_isKept C u_703 d_R_ofCard_31 ?_
          refine j_iload_n C 1 rfl rfl d_R_ofCard_34 ?_
          refine j_grd (fun h26 => ?_)
          refine lR_R_isKept C h26 d_R_ofCard_35 ?_
          refine j_if_eq (tgt := 43) C d_R_ofCard_36 (by decide) (fun h27 => ?_) (fun h27 => ?_)
          · refine j_iconst (v := 0) C (by decide) d_R_ofCard_43 ?_
            refine j_goto (tgt := 62) C d_R_ofCard_44 (by decide) ?_
            exact j_iret C rfl rfl d_R_ofCard_62
          · refine j_iconst (v := 1) C (by decide) d_R_ofCard_39 ?_
            refine j_goto (tgt := 62) C d_R_ofCard_40 (by decide) ?_
            exact j_iret C rfl rfl d_R_ofCard_62
        · refine j_iload_n C 2 rfl rfl d_R_ofCard_47 ?_
          refine j_iconst (v := 2) C (by decide) d_R_ofCard_48 ?_
          refine j_icmp_ne (tgt := 61) C d_R_ofCard_49 (by decide) (fun h28 => ?_) (fun h28 => ?_)
          · refine j_aload_n C 0 rfl rfl d_R_ofCard_52 ?_
            refine gR_R_accountOf C u_686 d_R_ofCard_53 ?_
            refine j_iload_n C 1 rfl rfl d_R_ofCard_56 ?_
            refine j_grd (fun h29 => ?_)
            refine lR_R_accountOf C h29 d_R_ofCard_57 ?_
            refine j_goto (tgt := 62) C d_R_ofCard_58 (by decide) ?_
            exact j_iret C rfl rfl d_R_ofCard_62
          · refine j_iconst (v := -1) C (by decide) d_R_ofCard_61 ?_
            exact j_iret C rfl rfl d_R_ofCard_62
    · refine j_iconst (v := -1) C (by decide) d_R_ofCard_10 ?_
      exact j_iret C rfl rfl d_R_ofCard_11
def f_R_recordOf (g : Nat) (S : Mem) (x1 : Int32) (x2 : Int32) : Option (Int32 × Mem) := if x1 < 0 then (some ((-1 : Int32), S)) else (if (S.1 15 0) ≤ x1 then (some ((-1 : Int32), S)) else (if x2 < 0 then (some ((-1 : Int32), S)) else (if x2 ≤ (3 : Int32) then (grd (¬ ((((5 : Int32) * x1) + x2) < 0 ∨ 1500 ≤ (((5 : Int32) * x1) + x2).toNatClampNeg)) (some (S.1 14 ((((5 : Int32) * x1) + x2).toNatClampNeg), S))) else (some ((-1 : Int32), S)))))
set_option maxRecDepth 100000 in
set_option maxHeartbeats 4000000 in
theorem c_R_recordOf {l : Launch} {D : va_G} {cI cJ cZ cL : ClassId} {a : Nat → Nat} (g : Nat) (S : Mem) (x1 : Int32) (x2 : Int32) {r : Int32} {S9 : Mem} (h : f_R_recordOf g S x1 x2 = some (r, S9)) : Ctr l y_R_recordOf prog_9_method_43_code 3 (some .int) rm_R_recordOf D (tyT cI cJ cZ cL) (wdR cI cJ cZ cL a) [.ref (a 0), .int x1, .int x2] S (vI r, S9) := by
  refine Ctr.of (lv0 := [(0, .ref (a 0)), (1, .int x1), (2, .int x2)]) (vv := vI) (by decide) rfl (wdR_fst cI cJ cZ cL a) (Nat.le_of_ble_eq_true rfl) rfl (fun p e s m args below meth c A C => ?_) r S9 h
  unfold f_R_recordOf
  refine j_iload_n C 1 rfl rfl d_R_recordOf_0 ?_
  refine j_if_lt (tgt := 21) C d_R_recordOf_1 (by decide) (fun h21 => ?_) (fun h21 => ?_)
  · refine j_iconst (v := -1) C (by decide) d_R_recordOf_21 ?_
    refine j_goto (tgt := 35) C d_R_recordOf_22 (by decide) ?_
    exact j_iret C rfl rfl d_R_recordOf_35
  · refine j_iload_n C 1 rfl rfl d_R_recordOf_4 ?_
    refine j_aload_n C 0 rfl rfl d_R_recordOf_5 ?_
    refine gR_R_recordCount C u_705 d_R_recordOf_6 ?_
    refine j_icmp_ge (tgt := 21) C d_R_recordOf_9 (by decide) (fun h22 => ?_) (fun h22 => ?_)
    · refine j_iconst (v := -1) C (by decide) d_R_recordOf_21 ?_
      refine j_goto (tgt := 35) C d_R_recordOf_22 (by decide) ?_
      exact j_iret C rfl rfl d_R_recordOf_35
    · refine j_iload_n C 2 rfl rfl d_R_recordOf_12 ?_
      refine j_if_lt (tgt := 21) C d_R_recordOf_13 (by decide) (fun h23 => ?_) (fun h23 => ?_)
      · refine j_iconst (v := -1) C (by decide) d_R_recordOf_21 ?_
        refine j_goto (tgt := 35) C d_R_recordOf_22 (by decide) ?_
        exact j_iret C rfl rfl d_R_recordOf_35
      · refine j_iload_n C 2 rfl rfl d_R_recordOf_16 ?_
        refine j_iconst (v := 3) C (by decide) d_R_recordOf_17 ?_
        refine j_icmp_le (tgt := 25) C d_R_recordOf_18 (by decide) (fun h24 => ?_) (fun h24 => ?_)
        · refine j_aload_n C 0 rfl rfl d_R_recordOf_25 ?_
          refine gR_R_records C u_704 d_R_recordOf_26 ?_
          refine j_iconst (v := 5) C (by decide) d_R_recordOf_29 ?_
          refine j_iload_n C 1 rfl rfl d_R_recordOf_30 ?_
          refine j_imul C d_R_recordOf_31 ?_
          refine j_iload_n C 2 rfl rfl d_R_recordOf_32 ?_
          refine j_iadd C d_R_recordOf_33 ?_
          refine j_grd (fun h25 => ?_)
          refine lR_R_records C h25 d_R_recordOf_34 ?_
          exact j_iret C rfl rfl d_R_recordOf_35
        · refine j_iconst (v := -1) C (by decide) d_R_recordOf_21 ?_
          refine j_goto (tgt := 35) C d_R_recordOf_22 (by decide) ?_
          exact j_iret C rfl rfl d_R_recordOf_35
def f_R_count (g : Nat) (S : Mem) (x1 : Int32) : Option (Int64 × Mem) := if x1 = (0 : Int32) then (if (S.1 18 0) = 0 then (some ((0 : Int64), S)) else (some ((1 : Int64), S))) else (if x1 = (1 : Int32) then (if (S.1 18 0) = 0 then (some ((-1 : Int64), S)) else (some ((S.1 20 0).toInt64, S))) else (if x1 = (2 : Int32) then (some ((S.1 21 0).toInt64, S)) else (if x1 = (3 : Int32) then (some ((S.1 15 0).toInt64, S)) else (if x1 = (4 : Int32) then (some ((S.1 16 0).toInt64, S)) else (if x1 = (5 : Int32) then (some ((S.1 17 0).toInt64, S)) else (if x1 = (6 : Int32) then (some ((S.1 26 0).toInt64, S)) else (if x1 = (7 : Int32) then (some ((S.1 27 0).toInt64, S)) else (if x1 = (8 : Int32) then (some ((S.1 28 0).toInt64, S)) else (if x1 = (9 : Int32) then (some (S.2.1 1 0, S)) else (if x1 = (10 : Int32) then (some (S.2.1 4 0, S)) else (some ((-1 : Int64), S))))))))))))
set_option maxRecDepth 100000 in
set_option maxHeartbeats 4000000 in
theorem c_R_count {l : Launch} {D : va_G} {cI cJ cZ cL : ClassId} {a : Nat → Nat} (g : Nat) (S : Mem) (x1 : Int32) {r : Int64} {S9 : Mem} (h : f_R_count g S x1 = some (r, S9)) : Ctr l y_R_count prog_9_method_44_code 2 (some .long) rm_R_count D (tyT cI cJ cZ cL) (wdR cI cJ cZ cL a) [.ref (a 0), .int x1] S (vL r, S9) := by
  refine Ctr.of (lv0 := [(0, .ref (a 0)), (1, .int x1)]) (vv := vL) (by decide) rfl (wdR_fst cI cJ cZ cL a) (Nat.le_of_ble_eq_true rfl) rfl (fun p e s m args below meth c A C => ?_) r S9 h
  unfold f_R_count
  refine j_iload_n C 1 rfl rfl d_R_count_0 ?_
  refine j_if (fun h21 => ?_) (fun h21 => ?_)
  · refine j_tabIn (off := 59) (tgt := 60) C d_R_count_1 (by rw [h21]; decide) (by rw [h21]; decide) (by rw [h21]; rfl) (by decide) ?_
    refine j_aload_n C 0 rfl rfl d_R_count_60 ?_
    refine gR_R_isOn C u_708 d_R_count_61 ?_
    refine j_if_eq (tgt := 71) C d_R_count_64 (by decide) (fun h22 => ?_) (fun h22 => ?_)
    · refine j_lconst (v := 0) C rfl d_R_count_71 ?_
      exact j_lret C rfl rfl d_R_count_72
    · refine j_lconst (v := 1) C rfl d_R_count_67 ?_
      refine j_goto (tgt := 72) C d_R_count_68 (by decide) ?_
      exact j_lret C rfl rfl d_R_count_72
  refine j_if (fun h23 => ?_) (fun h23 => ?_)
  · refine j_tabIn (off := 72) (tgt := 73) C d_R_count_1 (by rw [h23]; decide) (by rw [h23]; decide) (by rw [h23]; rfl) (by decide) ?_
    refine j_aload_n C 0 rfl rfl d_R_count_73 ?_
    refine gR_R_isOn C u_708 d_R_count_74 ?_
    refine j_if_eq (tgt := 88) C d_R_count_77 (by decide) (fun h24 => ?_) (fun h24 => ?_)
    · refine j_ldc2 (v := -1) C u_952 d_R_count_88 ?_
      exact j_lret C rfl rfl d_R_count_91
    · refine j_aload_n C 0 rfl rfl d_R_count_80 ?_
      refine gR_R_phase C u_710 d_R_count_81 ?_
      refine j_i2l C d_R_count_84 ?_
      refine j_goto (tgt := 91) C d_R_count_85 (by decide) ?_
      exact j_lret C rfl rfl d_R_count_91
  refine j_if (fun h25 => ?_) (fun h25 => ?_)
  · refine j_tabIn (off := 91) (tgt := 92) C d_R_count_1 (by rw [h25]; decide) (by rw [h25]; decide) (by rw [h25]; rfl) (by decide) ?_
    refine j_aload_n C 0 rfl rfl d_R_count_92 ?_
    refine gR_R_slotCard C u_711 d_R_count_93 ?_
    refine j_i2l C d_R_count_96 ?_
    exact j_lret C rfl rfl d_R_count_97
  refine j_if (fun h26 => ?_) (fun h26 => ?_)
  · refine j_tabIn (off := 97) (tgt := 98) C d_R_count_1 (by rw [h26]; decide) (by rw [h26]; decide) (by rw [h26]; rfl) (by decide) ?_
    refine j_aload_n C 0 rfl rfl d_R_count_98 ?_
    refine gR_R_recordCount C u_705 d_R_count_99 ?_
    refine j_i2l C d_R_count_102 ?_
    exact j_lret C rfl rfl d_R_count_103
  refine j_if (fun h27 => ?_) (fun h27 => ?_)
  · refine j_tabIn (off := 103) (tgt := 104) C d_R_count_1 (by rw [h27]; decide) (by rw [h27]; decide) (by rw [h27]; rfl) (by decide) ?_
    refine j_aload_n C 0 rfl rfl d_R_count_104 ?_
    refine gR_R_nextTrace C u_706 d_R_count_105 ?_
    refine j_i2l C d_R_count_108 ?_
    exact j_lret C rfl rfl d_R_count_109
  refine j_if (fun h28 => ?_) (fun h28 => ?_)
  · refine j_tabIn (off := 109) (tgt := 110) C d_R_count_1 (by rw [h28]; decide) (by rw [h28]; decide) (by rw [h28]; rfl) (by decide) ?_
    refine j_aload_n C 0 rfl rfl d_R_count_110 ?_
    refine gR_R_openings C u_707 d_R_count_111 ?_
    refine j_i2l C d_R_count_114 ?_
    exact j_lret C rfl rfl d_R_count_115
  refine j_if (fun h29 => ?_) (fun h29 => ?_)
  · refine j_tabIn (off := 115) (tgt := 116) C d_R_count_1 (by rw [h29]; decide) (by rw [h29]; decide) (by rw [h29]; rfl) (by decide) ?_
    refine j_aload_n C 0 rfl rfl d_R_count_116 ?_
    refine gR_R_flying C u_716 d_R_count_117 ?_
    refine j_i2l C d_R_count_120 ?_
    exact j_lret C rfl rfl d_R_count_121
  refine j_if (fun h30 => ?_) (fun h30 => ?_)
  · refine j_tabIn (off := 121) (tgt := 122) C d_R_count_1 (by rw [h30]; decide) (by rw [h30]; decide) (by rw [h30]; rfl) (by decide) ?_
    refine j_aload_n C 0 rfl rfl d_R_count_122 ?_
    refine gR_R_dropped C u_717 d_R_count_123 ?_
    refine j_i2l C d_R_count_126 ?_
    exact j_lret C rfl rfl d_R_count_127
  refine j_if (fun h31 => ?_) (fun h31 => ?_)
  · refine j_tabIn (off := 127) (tgt := 128) C d_R_count_1 (by rw [h31]; decide) (by rw [h31]; decide) (by rw [h31]; rfl) (by decide) ?_
    refine j_aload_n C 0 rfl rfl d_R_count_128 ?_
    refine gR_R_lost C u_718 d_R_count_129 ?_
    refine j_i2l C d_R_count_132 ?_
    exact j_lret C rfl rfl d_R_count_133
  refine j_if (fun h32 => ?_) (fun h32 => ?_)
  · refine j_tabIn (off := 133) (tgt := 134) C d_R_count_1 (by rw [h32]; decide) (by rw [h32]; decide) (by rw [h32]; rfl) (by decide) ?_
    refine j_aload_n C 0 rfl rfl d_R_count_134 ?_
    refine gR_R_off C u_694 d_R_count_135 ?_
    exact j_lret C rfl rfl d_R_count_138
  refine j_if (fun h33 => ?_) (fun h33 => ?_)
  · refine j_tabIn (off := 138) (tgt := 139) C d_R_count_1 (by rw [h33]; decide) (by rw [h33]; decide) (by rw [h33]; rfl) (by decide) ?_
    refine j_aload_n C 0 rfl rfl d_R_count_139 ?_
    refine gR_R_everWorth C u_702 d_R_count_140 ?_
    exact j_lret C rfl rfl d_R_count_143
  refine j_tabOut (tgt := 144) C d_R_count_1 (by have gh21 : x1.toInt ≠ 0 := fun z => h21 (Int32.toInt_inj.mp (z.trans (by decide))); have gh23 : x1.toInt ≠ 1 := fun z => h23 (Int32.toInt_inj.mp (z.trans (by decide))); have gh25 : x1.toInt ≠ 2 := fun z => h25 (Int32.toInt_inj.mp (z.trans (by decide))); have gh26 : x1.toInt ≠ 3 := fun z => h26 (Int32.toInt_inj.mp (z.trans (by decide))); have gh27 : x1.toInt ≠ 4 := fun z => h27 (Int32.toInt_inj.mp (z.trans (by decide))); have gh28 : x1.toInt ≠ 5 := fun z => h28 (Int32.toInt_inj.mp (z.trans (by decide))); have gh29 : x1.toInt ≠ 6 := fun z => h29 (Int32.toInt_inj.mp (z.trans (by decide))); have gh30 : x1.toInt ≠ 7 := fun z => h30 (Int32.toInt_inj.mp (z.trans (by decide))); have gh31 : x1.toInt ≠ 8 := fun z => h31 (Int32.toInt_inj.mp (z.trans (by decide))); have gh32 : x1.toInt ≠ 9 := fun z => h32 (Int32.toInt_inj.mp (z.trans (by decide))); have gh33 : x1.toInt ≠ 10 := fun z => h33 (Int32.toInt_inj.mp (z.trans (by decide))); omega) (by decide) ?_
  refine j_ldc2 (v := -1) C u_952 d_R_count_144 ?_
  exact j_lret C rfl rfl d_R_count_147
