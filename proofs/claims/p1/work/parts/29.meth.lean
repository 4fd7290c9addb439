def f_R_onPin (g : Nat) (S : Mem) (x1 : Int32) (x2 : Int32) (x3 : Int32) : Option (Int32 × Mem) := grd (¬ (x1 < 0 ∨ 2001 ≤ x1.toNatClampNeg)) (if (S.1 3 x1.toNatClampNeg) = (-1 : Int32) then (grd (¬ (x2 < 0 ∨ 16 ≤ x2.toNatClampNeg)) (if (S.1 0 x2.toNatClampNeg) = (-1 : Int32) then (grd (¬ (x1 < 0 ∨ 2001 ≤ x1.toNatClampNeg)) (lt (sI S 3 x1.toNatClampNeg (1 : Int32)) (fun S26 => some ((1 : Int32), S26)))) else (grd (¬ (x2 < 0 ∨ 16 ≤ x2.toNatClampNeg)) (if (S.1 2 x2.toNatClampNeg) = (3 : Int32) then (grd (¬ (x1 < 0 ∨ 2001 ≤ x1.toNatClampNeg)) (lt (sI S 3 x1.toNatClampNeg (2 : Int32)) (fun S30 => some ((2 : Int32), S30)))) else (grd (¬ (x2 < 0 ∨ 16 ≤ x2.toNatClampNeg)) (if (S.1 1 x2.toNatClampNeg) = x3 then (grd (¬ (x2 < 0 ∨ 16 ≤ x2.toNatClampNeg)) (lt (sI S 2 x2.toNatClampNeg (0 : Int32)) (fun S34 => grd (¬ (x1 < 0 ∨ 2001 ≤ x1.toNatClampNeg)) (lt (sI S34 3 x1.toNatClampNeg (0 : Int32)) (fun S36 => some ((0 : Int32), S36)))))) else (grd (¬ (x2 < 0 ∨ 16 ≤ x2.toNatClampNeg)) (grd (¬ (x2 < 0 ∨ 16 ≤ x2.toNatClampNeg)) (lt (sI S 2 x2.toNatClampNeg ((S.1 2 x2.toNatClampNeg) + (1 : Int32))) (fun S39 => grd (¬ (x2 < 0 ∨ 16 ≤ x2.toNatClampNeg)) (if (S39.1 2 x2.toNatClampNeg) = (3 : Int32) then (grd (¬ (x1 < 0 ∨ 2001 ≤ x1.toNatClampNeg)) (lt (sI S39 3 x1.toNatClampNeg (2 : Int32)) (fun S43 => some ((2 : Int32), S43)))) else (grd (¬ (x1 < 0 ∨ 2001 ≤ x1.toNatClampNeg)) (lt (sI S39 3 x1.toNatClampNeg (1 : Int32)) (fun S45 => some ((1 : Int32), S45))))))))))))))) else (grd (¬ (x1 < 0 ∨ 2001 ≤ x1.toNatClampNeg)) (some (S.1 3 x1.toNatClampNeg, S))))
set_option maxRecDepth 100000 in
set_option maxHeartbeats 4000000 in
theorem c_R_onPin {l : Launch} {D : va_G} {cI cJ cZ cL : ClassId} {a : Nat → Nat} (g : Nat) (S : Mem) (x1 : Int32) (x2 : Int32) (x3 : Int32) {r : Int32} {S9 : Mem} (h : f_R_onPin g S x1 x2 x3 = some (r, S9)) : Ctr l y_R_onPin prog_9_method_11_code 5 (some .int) rm_R_onPin D (tyT cI cJ cZ cL) (wdR cI cJ cZ cL a) [.ref (a 0), .int x1, .int x2, .int x3] S (vI r, S9) := by
  refine Ctr.of (lv0 := [(0, .ref (a 0)), (1, .int x1), (2, .int x2), (3, .int x3)]) (vv := vI) (by decide) rfl (wdR_fst cI cJ cZ cL a) (Nat.le_of_ble_eq_true rfl) rfl (fun p e s m args below meth c A C => ?_) r S9 h
  unfold f_R_onPin
  refine j_aload_n C 0 rfl rfl d_R_onPin_0 ?_
  refine gR_R_pinCode C u_689 d_R_onPin_1 ?_
  refine j_iload_n C 1 rfl rfl d_R_onPin_4 ?_
  refine j_grd (fun h21 => ?_)
  refine lR_R_pinCode C h21 d_R_onPin_5 ?_
  refine j_iconst (v := -1) C (by decide) d_R_onPin_6 ?_
  refine j_icmp_eq (tgt := 17) C d_R_onPin_7 (by decide) (fun h22 => ?_) (fun h22 => ?_)
  · refine j_aload_n C 0 rfl rfl d_R_onPin_17 ?_
    refine gR_R_accountOf C u_686 d_R_onPin_18 ?_
    refine j_iload_n C 2 rfl rfl d_R_onPin_21 ?_
    refine j_grd (fun h23 => ?_)
    refine lR_R_accountOf C h23 d_R_onPin_22 ?_
    refine j_iconst (v := -1) C (by decide) d_R_onPin_23 ?_
    refine j_icmp_ne (tgt := 33) C d_R_onPin_24 (by decide) (fun h24 => ?_) (fun h24 => ?_)
    · refine j_iconst (v := 1) C (by decide) d_R_onPin_27 ?_
      refine j_istore (i := 4) (lv2 := [(4, .int (1 : Int32)), (0, .ref (a 0)), (1, .int x1), (2, .int x2), (3, .int x3)]) C (by decide) rfl d_R_onPin_28 ?_
      refine j_goto (tgt := 99) C d_R_onPin_30 (by decide) ?_
      refine j_aload_n C 1 rfl rfl d_R_onPin_99 ?_
      refine gR_R_pinCode C u_689 d_R_onPin_100 ?_
      refine j_iload_n C 2 rfl rfl d_R_onPin_103 ?_
      refine j_iload C 0 rfl d_R_onPin_104 ?_
      refine j_grd (fun h25 => ?_)
      refine sR_R_pinCode C h25 d_R_onPin_106 ?_
      refine j_ltS (fun S26 => ?_)
      refine j_iload C 0 rfl d_R_onPin_107 ?_
      exact j_iret C rfl rfl d_R_onPin_109
    · refine j_aload_n C 0 rfl rfl d_R_onPin_33 ?_
      refine gR_R_tries C u_688 d_R_onPin_34 ?_
      refine j_iload_n C 2 rfl rfl d_R_onPin_37 ?_
      refine j_grd (fun h27 => ?_)
      refine lR_R_tries C h27 d_R_onPin_38 ?_
      refine j_iconst (v := 3) C (by decide) d_R_onPin_39 ?_
      refine j_icmp_ne (tgt := 49) C d_R_onPin_40 (by decide) (fun h28 => ?_) (fun h28 => ?_)
      · refine j_iconst (v := 2) C (by decide) d_R_onPin_43 ?_
        refine j_istore (i := 4) (lv2 := [(4, .int (2 : Int32)), (0, .ref (a 0)), (1, .int x1), (2, .int x2), (3, .int x3)]) C (by decide) rfl d_R_onPin_44 ?_
        refine j_goto (tgt := 99) C d_R_onPin_46 (by decide) ?_
        refine j_aload_n C 1 rfl rfl d_R_onPin_99 ?_
        refine gR_R_pinCode C u_689 d_R_onPin_100 ?_
        refine j_iload_n C 2 rfl rfl d_R_onPin_103 ?_
        refine j_iload C 0 rfl d_R_onPin_104 ?_
        refine j_grd (fun h29 => ?_)
        refine sR_R_pinCode C h29 d_R_onPin_106 ?_
        refine j_ltS (fun S30 => ?_)
        refine j_iload C 0 rfl d_R_onPin_107 ?_
        exact j_iret C rfl rfl d_R_onPin_109
      · refine j_aload_n C 0 rfl rfl d_R_onPin_49 ?_
        refine gR_R_pinOf C u_687 d_R_onPin_50 ?_
        refine j_iload_n C 2 rfl rfl d_R_onPin_53 ?_
        refine j_grd (fun h31 => ?_)
        refine lR_R_pinOf C h31 d_R_onPin_54 ?_
        refine j_iload_n C 3 rfl rfl d_R_onPin_55 ?_
        refine j_icmp_ne (tgt := 72) C d_R_onPin_56 (by decide) (fun h32 => ?_) (fun h32 => ?_)
        · refine j_aload_n C 0 rfl rfl d_R_onPin_59 ?_
          refine gR_R_tries C u_688 d_R_onPin_60 ?_
          refine j_iload_n C 2 rfl rfl d_R_onPin_63 ?_
          refine j_iconst (v := 0) C (by decide) d_R_onPin_64 ?_
          refine j_grd (fun h33 => ?_)
          refine sR_R_tries C h33 d_R_onPin_65 ?_
          refine j_ltS (fun S34 => ?_)
          refine j_iconst (v := 0) C (by decide) d_R_onPin_66 ?_
          refine j_istore (i := 4) (lv2 := [(4, .int (0 : Int32)), (0, .ref (a 0)), (1, .int x1), (2, .int x2), (3, .int x3)]) C (by decide) rfl d_R_onPin_67 ?_
          refine j_goto (tgt := 99) C d_R_onPin_69 (by decide) ?_
          refine j_aload_n C 1 rfl rfl d_R_onPin_99 ?_
          refine gR_R_pinCode C u_689 d_R_onPin_100 ?_
          refine j_iload_n C 2 rfl rfl d_R_onPin_103 ?_
          refine j_iload C 0 rfl d_R_onPin_104 ?_
          refine j_grd (fun h35 => ?_)
          refine sR_R_pinCode C h35 d_R_onPin_106 ?_
          refine j_ltS (fun S36 => ?_)
          refine j_iload C 0 rfl d_R_onPin_107 ?_
          exact j_iret C rfl rfl d_R_onPin_109
        · refine j_aload_n C 0 rfl rfl d_R_onPin_72 ?_
          refine gR_R_tries C u_688 d_R_onPin_73 ?_
          refine j_iload_n C 2 rfl rfl d_R_onPin_76 ?_
          refine j_dup2 C rfl rfl d_R_onPin_77 ?_
          refine j_grd (fun h37 => ?_)
          refine lR_R_tries C h37 d_R_onPin_78 ?_
          refine j_iconst (v := 1) C (by decide) d_R_onPin_79 ?_
          refine j_iadd C d_R_onPin_80 ?_
          refine j_grd (fun h38 => ?_)
          refine sR_R_tries C h38 d_R_onPin_81 ?_
          refine j_ltS (fun S39 => ?_)
          refine j_aload_n C 0 rfl rfl d_R_onPin_82 ?_
          refine gR_R_tries C u_688 d_R_onPin_83 ?_
          refine j_iload_n C 2 rfl rfl d_R_onPin_86 ?_
          refine j_grd (fun h40 => ?_)
          refine lR_R_tries C h40 d_R_onPin_87 ?_
          refine j_iconst (v := 3) C (by decide) d_R_onPin_88 ?_
          refine j_icmp_ne (tgt := 96) C d_R_onPin_89 (by decide) (fun h41 => ?_) (fun h41 => ?_)
          · refine j_iconst (v := 2) C (by decide) d_R_onPin_92 ?_
            refine j_goto (tgt := 97) C d_R_onPin_93 (by decide) ?_
            refine j_istore (i := 4) (lv2 := [(4, .int (2 : Int32)), (0, .ref (a 0)), (1, .int x1), (2, .int x2), (3, .int x3)]) C (by decide) rfl d_R_onPin_97 ?_
            refine j_aload_n C 1 rfl rfl d_R_onPin_99 ?_
            refine gR_R_pinCode C u_689 d_R_onPin_100 ?_
            refine j_iload_n C 2 rfl rfl d_R_onPin_103 ?_
            refine j_iload C 0 rfl d_R_onPin_104 ?_
            refine j_grd (fun h42 => ?_)
            refine sR_R_pinCode C h42 d_R_onPin_106 ?_
            refine j_ltS (fun S43 => ?_)
            refine j_iload C 0 rfl d_R_onPin_107 ?_
            exact j_iret C rfl rfl d_R_onPin_109
          · refine j_iconst (v := 1) C (by decide) d_R_onPin_96 ?_
            refine j_istore (i := 4) (lv2 := [(4, .int (1 : Int32)), (0, .ref (a 0)), (1, .int x1), (2, .int x2), (3, .int x3)]) C (by decide) rfl d_R_onPin_97 ?_
            refine j_aload_n C 1 rfl rfl d_R_onPin_99 ?_
            refine gR_R_pinCode C u_689 d_R_onPin_100 ?_
            refine j_iload_n C 2 rfl rfl d_R_onPin_103 ?_
            refine j_iload C 0 rfl d_R_onPin_104 ?_
            refine j_grd (fun h44 => ?_)
            refine sR_R_pinCode C h44 d_R_onPin_106 ?_
            refine j_ltS (fun S45 => ?_)
            refine j_iload C 0 rfl d_R_onPin_107 ?_
            exact j_iret C rfl rfl d_R_onPin_109
  · refine j_aload_n C 0 rfl rfl d_R_onPin_10 ?_
    refine gR_R_pinCode C u_689 d_R_onPin_11 ?_
    refine j_iload_n C 1 rfl rfl d_R_onPin_14 ?_
    refine j_grd (fun h46 => ?_)
    refine lR_R_pinCode C h46 d_R_onPin_15 ?_
    exact j_iret C rfl rfl d_R_onPin_16
def f_R_onDebit (g : Nat) (S : Mem) (x1 : Int32) (x2 : Int32) (x3 : Int32) : Option (Int32 × Mem) := grd (¬ (x1 < 0 ∨ 2001 ≤ x1.toNatClampNeg)) (if (S.1 7 x1.toNatClampNeg) = 0 then (grd (¬ (x1 < 0 ∨ 2001 ≤ x1.toNatClampNeg)) (if (S.1 4 x1.toNatClampNeg) = (-1 : Int32) then (grd (¬ (x2 < 0 ∨ 16 ≤ x2.toNatClampNeg)) (if (S.1 0 x2.toNatClampNeg) = (-1 : Int32) then (grd (¬ (x1 < 0 ∨ 2001 ≤ x1.toNatClampNeg)) (lt (sI S 4 x1.toNatClampNeg (1 : Int32)) (fun S28 => grd (¬ (x1 < 0 ∨ 2001 ≤ x1.toNatClampNeg)) (some (S28.1 4 x1.toNatClampNeg, S28))))) else (grd (¬ (x2 < 0 ∨ 16 ≤ x2.toNatClampNeg)) (grd (¬ ((S.1 0 x2.toNatClampNeg) < 0 ∨ 8 ≤ (S.1 0 x2.toNatClampNeg).toNatClampNeg)) (if (lg_cmp (S.2.1 0 ((S.1 0 x2.toNatClampNeg).toNatClampNeg)) x3.toInt64) < 0 then (grd (¬ (x1 < 0 ∨ 2001 ≤ x1.toNatClampNeg)) (lt (sI S 4 x1.toNatClampNeg (1 : Int32)) (fun S34 => grd (¬ (x1 < 0 ∨ 2001 ≤ x1.toNatClampNeg)) (some (S34.1 4 x1.toNatClampNeg, S34))))) else (grd (¬ (x2 < 0 ∨ 16 ≤ x2.toNatClampNeg)) (grd (¬ ((S.1 0 x2.toNatClampNeg) < 0 ∨ 8 ≤ (S.1 0 x2.toNatClampNeg).toNatClampNeg)) (grd (¬ ((S.1 0 x2.toNatClampNeg) < 0 ∨ 8 ≤ (S.1 0 x2.toNatClampNeg).toNatClampNeg)) (lt (sL S 0 ((S.1 0 x2.toNatClampNeg).toNatClampNeg) ((S.2.1 0 ((S.1 0 x2.toNatClampNeg).toNatClampNeg)) - x3.toInt64)) (fun S39 => grd (¬ (x2 < 0 ∨ 16 ≤ x2.toNatClampNeg)) (grd (¬ (x1 < 0 ∨ 2001 ≤ x1.toNatClampNeg)) (lt (sI S39 5 x1.toNatClampNeg (S39.1 0 x2.toNatClampNeg)) (fun S42 => grd (¬ (x1 < 0 ∨ 2001 ≤ x1.toNatClampNeg)) (lt (sI S42 6 x1.toNatClampNeg x3) (fun S44 => lt (sL S44 1 0 ((S44.2.1 1 0) + x3.toInt64)) (fun S45 => grd (¬ (x1 < 0 ∨ 2001 ≤ x1.toNatClampNeg)) (lt (sI S45 4 x1.toNatClampNeg (0 : Int32)) (fun S47 => grd (¬ (x1 < 0 ∨ 2001 ≤ x1.toNatClampNeg)) (some (S47.1 4 x1.toNatClampNeg, S47)))))))))))))))))))) else (grd (¬ (x1 < 0 ∨ 2001 ≤ x1.toNatClampNeg)) (some (S.1 4 x1.toNatClampNeg, S))))) else (some ((1 : Int32), S)))
set_option maxRecDepth 100000 in
set_option maxHeartbeats 4000000 in
theorem c_R_onDebit {l : Launch} {D : va_G} {cI cJ cZ cL : ClassId} {a : Nat → Nat} (g : Nat) (S : Mem) (x1 : Int32) (x2 : Int32) (x3 : Int32) {r : Int32} {S9 : Mem} (h : f_R_onDebit g S x1 x2 x3 = some (r, S9)) : Ctr l y_R_onDebit prog_9_method_12_code 5 (some .int) rm_R_onDebit D (tyT cI cJ cZ cL) (wdR cI cJ cZ cL a) [.ref (a 0), .int x1, .int x2, .int x3] S (vI r, S9) := by
  refine Ctr.of (lv0 := [(0, .ref (a 0)), (1, .int x1), (2, .int x2), (3, .int x3)]) (vv := vI) (by decide) rfl (wdR_fst cI cJ cZ cL a) (Nat.le_of_ble_eq_true rfl) rfl (fun p e s m args below meth c A C => ?_) r S9 h
  unfold f_R_onDebit
  refine j_aload_n C 0 rfl rfl d_R_onDebit_0 ?_
  refine gR_R_isReversed C u_693 d_R_onDebit_1 ?_
  refine j_iload_n C 1 rfl rfl d_R_onDebit_4 ?_
  refine j_grd (fun h21 => ?_)
  refine lR_R_isReversed C h21 d_R_onDebit_5 ?_
  refine j_if_eq (tgt := 11) C d_R_onDebit_6 (by decide) (fun h22 => ?_) (fun h22 => ?_)
  · refine j_aload_n C 0 rfl rfl d_R_onDebit_11 ?_
    refine gR_R_debitCode C u_690 d_R_onDebit_12 ?_
    refine j_iload_n C 1 rfl rfl d_R_onDebit_15 ?_
    refine j_grd (fun h23 => ?_)
    refine lR_R_debitCode C h23 d_R_onDebit_16 ?_
    refine j_iconst (v := -1) C (by decide) d_R_onDebit_17 ?_
    refine j_icmp_eq (tgt := 28) C d_R_onDebit_18 (by decide) (fun h24 => ?_) (fun h24 => ?_)
    · refine j_aload_n C 0 rfl rfl d_R_onDebit_28 ?_
      refine gR_R_accountOf C u_686 d_R_onDebit_29 ?_
      refine j_iload_n C 2 rfl rfl d_R_onDebit_32 ?_
      refine j_grd (fun h25 => ?_)
      refine lR_R_accountOf C h25 d_R_onDebit_33 ?_
      refine j_iconst (v := -1) C (by decide) d_R_onDebit_34 ?_
      refine j_icmp_eq (tgt := 59) C d_R_onDebit_35 (by decide) (fun h26 => ?_) (fun h26 => ?_)
      · refine j_iconst (v := 0) C (by decide) d_R_onDebit_59 ?_
        refine j_istore (i := 4) (lv2 := [(4, .int (0 : Int32)), (0, .ref (a 0)), (1, .int x1), (2, .int x2), (3, .int x3)]) C (by decide) rfl d_R_onDebit_60 ?_
        refine j_iload C 0 rfl d_R_onDebit_62 ?_
        refine j_if_eq_T (tgt := 113) C d_R_onDebit_64 (by decide) (by decide) ?_
        refine j_aload_n C 1 rfl rfl d_R_onDebit_113 ?_
        refine gR_R_debitCode C u_690 d_R_onDebit_114 ?_
        refine j_iload_n C 2 rfl rfl d_R_onDebit_117 ?_
        refine j_iload C 0 rfl d_R_onDebit_118 ?_
        refine j_if_eq_T (tgt := 127) C d_R_onDebit_120 (by decide) (by decide) ?_
        refine j_iconst (v := 1) C (by decide) d_R_onDebit_127 ?_
        refine j_grd (fun h27 => ?_)
        refine sR_R_debitCode C h27 d_R_onDebit_128 ?_
        refine j_ltS (fun S28 => ?_)
        refine j_aload_n C 1 rfl rfl d_R_onDebit_129 ?_
        refine gR_R_debitCode C u_690 d_R_onDebit_130 ?_
        refine j_iload_n C 2 rfl rfl d_R_onDebit_133 ?_
        refine j_grd (fun h29 => ?_)
        refine lR_R_debitCode C h29 d_R_onDebit_134 ?_
        exact j_iret C rfl rfl d_R_onDebit_135
      · refine j_aload_n C 0 rfl rfl d_R_onDebit_38 ?_
        refine gR_R_balances C u_685 d_R_onDebit_39 ?_
        refine j_aload_n C 0 rfl rfl d_R_onDebit_42 ?_
        refine gR_R_accountOf C u_686 d_R_onDebit_43 ?_
        refine j_iload_n C 2 rfl rfl d_R_onDebit_46 ?_
        refine j_grd (fun h30 => ?_)
        refine lR_R_accountOf C h30 d_R_onDebit_47 ?_
        refine j_grd (fun h31 => ?_)
        refine lR_R_balances C h31 d_R_onDebit_48 ?_
        refine j_iload_n C 3 rfl rfl d_R_onDebit_49 ?_
        refine j_i2l C d_R_onDebit_50 ?_
        refine j_lcmp C d_R_onDebit_51 ?_
        refine j_if_lt (tgt := 59) C d_R_onDebit_52 (by decide) (fun h32 => ?_) (fun h32 => ?_)
        · refine j_iconst (v := 0) C (by decide) d_R_onDebit_59 ?_
          refine j_istore (i := 4) (lv2 := [(4, .int (0 : Int32)), (0, .ref (a 0)), (1, .int x1), (2, .int x2), (3, .int x3)]) C (by decide) rfl d_R_onDebit_60 ?_
          refine j_iload C 0 rfl d_R_onDebit_62 ?_
          refine j_if_eq_T (tgt := 113) C d_R_onDebit_64 (by decide) (by decide) ?_
          refine j_aload_n C 1 rfl rfl d_R_onDebit_113 ?_
          refine gR_R_debitCode C u_690 d_R_onDebit_114 ?_
          refine j_iload_n C 2 rfl rfl d_R_onDebit_117 ?_
          refine j_iload C 0 rfl d_R_onDebit_118 ?_
          refine j_if_eq_T (tgt := 127) C d_R_onDebit_120 (by decide) (by decide) ?_
          refine j_iconst (v := 1) C (by decide) d_R_onDebit_127 ?_
          refine j_grd (fun h33 => ?_)
          refine sR_R_debitCode C h33 d_R_onDebit_128 ?_
          refine j_ltS (fun S34 => ?_)
          refine j_aload_n C 1 rfl rfl d_R_onDebit_129 ?_
          refine gR_R_debitCode C u_690 d_R_onDebit_130 ?_
          refine j_iload_n C 2 rfl rfl d_R_onDebit_133 ?_
          refine j_grd (fun h35 => ?_)
          refine lR_R_debitCode C h35 d_R_onDebit_134 ?_
          exact j_iret C rfl rfl d_R_onDebit_135
        · refine j_iconst (v := 1) C (by decide) d_R_onDebit_55 ?_
          refine j_goto (tgt := 60) C d_R_onDebit_56 (by decide) ?_
          refine j_istore (i := 4) (lv2 := [(4, .int (1 : Int32)), (0, .ref (a 0)), (1, .int x1), (2, .int x2), (3, .int x3)]) C (by decide) rfl d_R_onDebit_60 ?_
          refine j_iload C 0 rfl d_R_onDebit_62 ?_
          refine j_if_eq_F (tgt := 113) C d_R_onDebit_64 (by decide) (by decide) ?_
          refine j_aload_n C 1 rfl rfl d_R_onDebit_67 ?_
          refine gR_R_balances C u_685 d_R_onDebit_68 ?_
          refine j_aload_n C 1 rfl rfl d_R_onDebit_71 ?_
          refine gR_R_accountOf C u_686 d_R_onDebit_72 ?_
          refine j_iload_n C 3 rfl rfl d_R_onDebit_75 ?_
          refine j_grd (fun h36 => ?_)
          refine lR_R_accountOf C h36 d_R_onDebit_76 ?_
          refine j_dup2 C rfl rfl d_R_onDebit_77 ?_
          refine j_grd (fun h37 => ?_)
          refine lR_R_balances C h37 d_R_onDebit_78 ?_
          refine j_iload_n C 4 rfl rfl d_R_onDebit_79 ?_
          refine j_i2l C d_R_onDebit_80 ?_
          refine j_lsub C d_R_onDebit_81 ?_
          refine j_grd (fun h38 => ?_)
          refine sR_R_balances C h38 d_R_onDebit_82 ?_
          refine j_ltS (fun S39 => ?_)
          refine j_aload_n C 1 rfl rfl d_R_onDebit_83 ?_
          refine gR_R_debitAccount C u_691 d_R_onDebit_84 ?_
          refine j_iload_n C 2 rfl rfl d_R_onDebit_87 ?_
          refine j_aload_n C 1 rfl rfl d_R_onDebit_88 ?_
          refine gR_R_accountOf C u_686 d_R_onDebit_89 ?_
          refine j_iload_n C 3 rfl rfl d_R_onDebit_92 ?_
          refine j_grd (fun h40 => ?_)
          refine lR_R_accountOf C h40 d_R_onDebit_93 ?_
          refine j_grd (fun h41 => ?_)
          refine sR_R_debitAccount C h41 d_R_onDebit_94 ?_
          refine j_ltS (fun S42 => ?_)
          refine j_aload_n C 1 rfl rfl d_R_onDebit_95 ?_
          refine gR_R_debitAmount C u_692 d_R_onDebit_96 ?_
          refine j_iload_n C 2 rfl rfl d_R_onDebit_99 ?_
          refine j_iload_n C 4 rfl rfl d_R_onDebit_100 ?_
          refine j_grd (fun h43 => ?_)
          refine sR_R_debitAmount C h43 d_R_onDebit_101 ?_
          refine j_ltS (fun S44 => ?_)
          refine j_aload_n C 1 rfl rfl d_R_onDebit_102 ?_
          refine j_dup C rfl d_R_onDebit_103 ?_
          refine gR_R_off C u_694 d_R_onDebit_104 ?_
          refine j_iload_n C 4 rfl rfl d_R_onDebit_107 ?_
          refine j_i2l C d_R_onDebit_108 ?_
          refine j_ladd C d_R_onDebit_109 ?_
          refine pR_R_off C u_694 d_R_onDebit_110 ?_
          refine j_ltS (fun S45 => ?_)
          refine j_aload_n C 1 rfl rfl d_R_onDebit_113 ?_
          refine gR_R_debitCode C u_690 d_R_onDebit_114 ?_
          refine j_iload_n C 2 rfl rfl d_R_onDebit_117 ?_
          refine j_iload C 0 rfl d_R_onDebit_118 ?_
          refine j_if_eq_F (tgt := 127) C d_R_onDebit_120 (by decide) (by decide) ?_
          refine j_iconst (v := 0) C (by decide) d_R_onDebit_123 ?_
          refine j_goto (tgt := 128) C d_R_onDebit_124 (by decide) ?_
          refine j_grd (fun h46 => ?_)
          refine sR_R_debitCode C h46 d_R_onDebit_128 ?_
          refine j_ltS (fun S47 => ?_)
          refine j_aload_n C 1 rfl rfl d_R_onDebit_129 ?_
          refine gR_R_debitCode C u_690 d_R_onDebit_130 ?_
          refine j_iload_n C 2 rfl rfl d_R_onDebit_133 ?_
          refine j_grd (fun h48 => ?_)
          refine lR_R_debitCode C h48 d_R_onDebit_134 ?_
          exact j_iret C rfl rfl d_R_onDebit_135
    · refine j_aload_n C 0 rfl rfl d_R_onDebit_21 ?_
      refine gR_R_debitCode C u_690 d_R_onDebit_22 ?_
      refine j_iload_n C 1 rfl rfl d_R_onDebit_25 ?_
      refine j_grd (fun h49 => ?_)
      refine lR_R_debitCode C h49 d_R_onDebit_26 ?_
      exact j_iret C rfl rfl d_R_onDebit_27
  · refine j_iconst (v := 1) C (by decide) d_R_onDebit_9 ?_
    exact j_iret C rfl rfl d_R_onDebit_10
def f_R_onReversal (g : Nat) (S : Mem) (x1 : Int32) : Option (Int32 × Mem) := grd (¬ (x1 < 0 ∨ 2001 ≤ x1.toNatClampNeg)) (if (S.1 4 x1.toNatClampNeg) = 0 then (grd (¬ (x1 < 0 ∨ 2001 ≤ x1.toNatClampNeg)) (if (S.1 7 x1.toNatClampNeg) = 0 then (grd (¬ (x1 < 0 ∨ 2001 ≤ x1.toNatClampNeg)) (grd (¬ ((S.1 5 x1.toNatClampNeg) < 0 ∨ 8 ≤ (S.1 5 x1.toNatClampNeg).toNatClampNeg)) (grd (¬ (x1 < 0 ∨ 2001 ≤ x1.toNatClampNeg)) (grd (¬ ((S.1 5 x1.toNatClampNeg) < 0 ∨ 8 ≤ (S.1 5 x1.toNatClampNeg).toNatClampNeg)) (lt (sL S 0 ((S.1 5 x1.toNatClampNeg).toNatClampNeg) ((S.2.1 0 ((S.1 5 x1.toNatClampNeg).toNatClampNeg)) + ((S.1 6 x1.toNatClampNeg).toInt64))) (fun S29 => grd (¬ (x1 < 0 ∨ 2001 ≤ x1.toNatClampNeg)) (lt (sL S29 1 0 ((S29.2.1 1 0) - ((S29.1 6 x1.toNatClampNeg).toInt64))) (fun S31 => grd (¬ (x1 < 0 ∨ 2001 ≤ x1.toNatClampNeg)) (lt (sI S31 7 x1.toNatClampNeg (1 : Int32)) (fun S33 => some ((0 : Int32), S33))))))))))) else (grd (¬ (x1 < 0 ∨ 2001 ≤ x1.toNatClampNeg)) (lt (sI S 7 x1.toNatClampNeg (1 : Int32)) (fun S35 => some ((0 : Int32), S35)))))) else (grd (¬ (x1 < 0 ∨ 2001 ≤ x1.toNatClampNeg)) (lt (sI S 7 x1.toNatClampNeg (1 : Int32)) (fun S37 => some ((0 : Int32), S37)))))
set_option maxRecDepth 100000 in
set_option maxHeartbeats 4000000 in
theorem c_R_onReversal {l : Launch} {D : va_G} {cI cJ cZ cL : ClassId} {a : Nat → Nat} (g : Nat) (S : Mem) (x1 : Int32) {r : Int32} {S9 : Mem} (h : f_R_onReversal g S x1 = some (r, S9)) : Ctr l y_R_onReversal prog_9_method_13_code 2 (some .int) rm_R_onReversal D (tyT cI cJ cZ cL) (wdR cI cJ cZ cL a) [.ref (a 0), .int x1] S (vI r, S9) := by
  refine Ctr.of (lv0 := [(0, .ref (a 0)), (1, .int x1)]) (vv := vI) (by decide) rfl (wdR_fst cI cJ cZ cL a) (Nat.le_of_ble_eq_true rfl) rfl (fun p e s m args below meth c A C => ?_) r S9 h
  unfold f_R_onReversal
  refine j_aload_n C 0 rfl rfl d_R_onReversal_0 ?_
  refine gR_R_debitCode C u_690 d_R_onReversal_1 ?_
  refine j_iload_n C 1 rfl rfl d_R_onReversal_4 ?_
  refine j_grd (fun h21 => ?_)
  refine lR_R_debitCode C h21 d_R_onReversal_5 ?_
  refine j_if_ne (tgt := 55) C d_R_onReversal_6 (by decide) (fun h22 => ?_) (fun h22 => ?_)
  · refine j_aload_n C 0 rfl rfl d_R_onReversal_9 ?_
    refine gR_R_isReversed C u_693 d_R_onReversal_10 ?_
    refine j_iload_n C 1 rfl rfl d_R_onReversal_13 ?_
    refine j_grd (fun h23 => ?_)
    refine lR_R_isReversed C h23 d_R_onReversal_14 ?_
    refine j_if_ne (tgt := 55) C d_R_onReversal_15 (by decide) (fun h24 => ?_) (fun h24 => ?_)
    · refine j_aload_n C 0 rfl rfl d_R_onReversal_18 ?_
      refine gR_R_balances C u_685 d_R_onReversal_19 ?_
      refine j_aload_n C 0 rfl rfl d_R_onReversal_22 ?_
      refine gR_R_debitAccount C u_691 d_R_onReversal_23 ?_
      refine j_iload_n C 1 rfl rfl d_R_onReversal_26 ?_
      refine j_grd (fun h25 => ?_)
      refine lR_R_debitAccount C h25 d_R_onReversal_27 ?_
      refine j_dup2 C rfl rfl d_R_onReversal_28 ?_
      refine j_grd (fun h26 => ?_)
      refine lR_R_balances C h26 d_R_onReversal_29 ?_
      refine j_aload_n C 0 rfl rfl d_R_onReversal_30 ?_
      refine gR_R_debitAmount C u_692 d_R_onReversal_31 ?_
      refine j_iload_n C 1 rfl rfl d_R_onReversal_34 ?_
      refine j_grd (fun h27 => ?_)
      refine lR_R_debitAmount C h27 d_R_onReversal_35 ?_
      refine j_i2l C d_R_onReversal_36 ?_
      refine j_ladd C d_R_onReversal_37 ?_
      refine j_grd (fun h28 => ?_)
      refine sR_R_balances C h28 d_R_onReversal_38 ?_
      refine j_ltS (fun S29 => ?_)
      refine j_aload_n C 0 rfl rfl d_R_onReversal_39 ?_
      refine j_dup C rfl d_R_onReversal_40 ?_
      refine gR_R_off C u_694 d_R_onReversal_41 ?_
      refine j_aload_n C 0 rfl rfl d_R_onReversal_44 ?_
      refine gR_R_debitAmount C u_692 d_R_onReversal_45 ?_
      refine j_iload_n C 1 rfl rfl d_R_onReversal_48 ?_
      refine j_grd (fun h30 => ?_)
      refine lR_R_debitAmount C h30 d_R_onReversal_49 ?_
      refine j_i2l C d_R_onReversal_50 ?_
      refine j_lsub C d_R_onReversal_51 ?_
      refine pR_R_off C u_694 d_R_onReversal_52 ?_
      refine j_ltS (fun S31 => ?_)
      refine j_aload_n C 0 rfl rfl d_R_onReversal_55 ?_
      refine gR_R_isReversed C u_693 d_R_onReversal_56 ?_
      refine j_iload_n C 1 rfl rfl d_R_onReversal_59 ?_
      refine j_iconst (v := 1) C (by decide) d_R_onReversal_60 ?_
      refine j_grd (fun h32 => ?_)
      refine sR_R_isReversed C (Or.inr rfl) h32 d_R_onReversal_61 ?_
      refine j_ltS (fun S33 => ?_)
      refine j_iconst (v := 0) C (by decide) d_R_onReversal_62 ?_
      exact j_iret C rfl rfl d_R_onReversal_63
    · refine j_aload_n C 0 rfl rfl d_R_onReversal_55 ?_
      refine gR_R_isReversed C u_693 d_R_onReversal_56 ?_
      refine j_iload_n C 1 rfl rfl d_R_onReversal_59 ?_
      refine j_iconst (v := 1) C (by decide) d_R_onReversal_60 ?_
      refine j_grd (fun h34 => ?_)
      refine sR_R_isReversed C (Or.inr rfl) h34 d_R_onReversal_61 ?_
      refine j_ltS (fun S35 => ?_)
      refine j_iconst (v := 0) C (by decide) d_R_onReversal_62 ?_
      exact j_iret C rfl rfl d_R_onReversal_63
  · refine j_aload_n C 0 rfl rfl d_R_onReversal_55 ?_
    refine gR_R_isReversed C u_693 d_R_onReversal_56 ?_
    refine j_iload_n C 1 rfl rfl d_R_onReversal_59 ?_
    refine j_iconst (v := 1) C (by decide) d_R_onReversal_60 ?_
    refine j_grd (fun h36 => ?_)
    refine sR_R_isReversed C (Or.inr rfl) h36 d_R_onReversal_61 ?_
    refine j_ltS (fun S37 => ?_)
    refine j_iconst (v := 0) C (by decide) d_R_onReversal_62 ?_
    exact j_iret C rfl rfl d_R_onReversal_63
def f_R_hostTakes (g : Nat) (S : Mem) : Option (Int32 × Mem) := lt (S.1 29 ((0 : Int32).toNatClampNeg)) (fun x21 => bnd (f_R_numberAt g S (1 : Int32)) (fun r22 S23 => lt (S23.1 29 ((5 : Int32).toNatClampNeg)) (fun x25 => bnd (f_R_numberAt g S23 (6 : Int32)) (fun r26 S27 => if x21 < (1 : Int32) then (some ((0 : Int32), S27)) else (if (3 : Int32) < x21 then (some ((0 : Int32), S27)) else (if r22 < (1 : Int32) then (some ((0 : Int32), S27)) else (if (2000 : Int32) < r22 then (some ((0 : Int32), S27)) else (if (15 : Int32) < x25 then (some ((0 : Int32), S27)) else (if x21 = (1 : Int32) then (if r26 < 0 then (some ((0 : Int32), S27)) else (if (9999 : Int32) < r26 then (some ((0 : Int32), S27)) else (if x21 = (2 : Int32) then (if r26 < (1 : Int32) then (some ((0 : Int32), S27)) else (if (40000 : Int32) < r26 then (some ((0 : Int32), S27)) else (if x21 = (1 : Int32) then (bnd (f_R_onPin g S27 r22 x25 r26) (fun r41 S42 => bnd (f_R_send g S42 (x21 + (128 : Int32)) r22 x25 r26 r41 (1 : Int32)) (fun _ S45 => some ((1 : Int32), S45)))) else (if x21 = (2 : Int32) then (bnd (f_R_onDebit g S27 r22 x25 r26) (fun r48 S49 => bnd (f_R_send g S49 (x21 + (128 : Int32)) r22 x25 r26 r48 (1 : Int32)) (fun _ S52 => some ((1 : Int32), S52)))) else (bnd (f_R_onReversal g S27 r22) (fun r54 S55 => bnd (f_R_send g S55 (x21 + (128 : Int32)) r22 x25 r26 r54 (1 : Int32)) (fun _ S58 => some ((1 : Int32), S58)))))))) else (if x21 = (1 : Int32) then (bnd (f_R_onPin g S27 r22 x25 r26) (fun r61 S62 => bnd (f_R_send g S62 (x21 + (128 : Int32)) r22 x25 r26 r61 (1 : Int32)) (fun _ S65 => some ((1 : Int32), S65)))) else (if x21 = (2 : Int32) then (bnd (f_R_onDebit g S27 r22 x25 r26) (fun r68 S69 => bnd (f_R_send g S69 (x21 + (128 : Int32)) r22 x25 r26 r68 (1 : Int32)) (fun _ S72 => some ((1 : Int32), S72)))) else (bnd (f_R_onReversal g S27 r22) (fun r74 S75 => bnd (f_R_send g S75 (x21 + (128 : Int32)) r22 x25 r26 r74 (1 : Int32)) (fun _ S78 => some ((1 : Int32), S78))))))))) else (if x21 = (2 : Int32) then (if r26 < (1 : Int32) then (some ((0 : Int32), S27)) else (if (40000 : Int32) < r26 then (some ((0 : Int32), S27)) else (if x21 = (1 : Int32) then (bnd (f_R_onPin g S27 r22 x25 r26) (fun r84 S85 => bnd (f_R_send g S85 (x21 + (128 : Int32)) r22 x25 r26 r84 (1 : Int32)) (fun _ S88 => some ((1 : Int32), S88)))) else (if x21 = (2 : Int32) then (bnd (f_R_onDebit g S27 r22 x25 r26) (fun r91 S92 => bnd (f_R_send g S92 (x21 + (128 : Int32)) r22 x25 r26 r91 (1 : Int32)) (fun _ S95 => some ((1 : Int32), S95)))) else (bnd (f_R_onReversal g S27 r22) (fun r97 S98 => bnd (f_R_send g S98 (x21 + (128 : Int32)) r22 x25 r26 r97 (1 : Int32)) (fun _ S101 => some ((1 : Int32), S101)))))))) else (if x21 = (1 : Int32) then (bnd (f_R_onPin g S27 r22 x25 r26) (fun r104 S105 => bnd (f_R_send g S105 (x21 + (128 : Int32)) r22 x25 r26 r104 (1 : Int32)) (fun _ S108 => some ((1 : Int32), S108)))) else (if x21 = (2 : Int32) then (bnd (f_R_onDebit g S27 r22 x25 r26) (fun r111 S112 => bnd (f_R_send g S112 (x21 + (128 : Int32)) r22 x25 r26 r111 (1 : Int32)) (fun _ S115 => some ((1 : Int32), S115)))) else (bnd (f_R_onReversal g S27 r22) (fun r117 S118 => bnd (f_R_send g S118 (x21 + (128 : Int32)) r22 x25 r26 r117 (1 : Int32)) (fun _ S121 => some ((1 : Int32), S121))))))))))))))))
set_option maxRecDepth 100000 in
set_option maxHeartbeats 4000000 in
theorem c_R_hostTakes {l : Launch} {D : va_G} {cI cJ cZ cL : ClassId} {a : Nat → Nat} (g : Nat) (S : Mem) {r : Int32} {S9 : Mem} (h : f_R_hostTakes g S = some (r, S9)) : Ctr l y_R_hostTakes prog_9_method_10_code 7 (some .boolean) rm_R_hostTakes D (tyT cI cJ cZ cL) (wdR cI cJ cZ cL a) [.ref (a 0)] S (vI r, S9) := by
  refine Ctr.of (lv0 := [(0, .ref (a 0))]) (vv := vI) (by decide) rfl (wdR_fst cI cJ cZ cL a) (Nat.le_of_ble_eq_true rfl) rfl (fun p e s m args below meth c A C => ?_) r S9 h
  unfold f_R_hostTakes
  refine j_aload_n C 0 rfl rfl d_R_hostTakes_0 ?_
  refine gR_R_letter C u_719 d_R_hostTakes_1 ?_
  refine j_iconst (v := 0) C (by decide) d_R_hostTakes_4 ?_
  refine lR_R_letter C (by decide) d_R_hostTakes_5 ?_
  refine j_lti (fun x21 => ?_)
  refine j_istore_n (i := 1) (lv2 := [(1, .int x21), (0, .ref (a 0))]) C rfl (by decide) rfl d_R_hostTakes_6 ?_
  refine j_aload_n C 1 rfl rfl d_R_hostTakes_7 ?_
  refine j_iconst (v := 1) C (by decide) d_R_hostTakes_8 ?_
  refine j_bnd (fun r22 S23 e24 => ?_)
  refine j_callVi (As := [.int (1 : Int32)]) (rest := []) C 0 7 Y_R_numberAt u_888 (c_R_numberAt g S (1 : Int32) e24) rfl rfl ⟨by decide, by decide⟩ rfl rfl rfl rfl (Nat.le_of_ble_eq_true rfl) d_R_hostTakes_9 ?_
  refine j_istore_n (i := 2) (lv2 := [(2, .int r22), (1, .int x21), (0, .ref (a 0))]) C rfl (by decide) rfl d_R_hostTakes_12 ?_
  refine j_aload_n C 2 rfl rfl d_R_hostTakes_13 ?_
  refine gR_R_letter C u_719 d_R_hostTakes_14 ?_
  refine j_iconst (v := 5) C (by decide) d_R_hostTakes_17 ?_
  refine lR_R_letter C (by decide) d_R_hostTakes_18 ?_
  refine j_lti (fun x25 => ?_)
  refine j_istore_n (i := 3) (lv2 := [(3, .int x25), (2, .int r22), (1, .int x21), (0, .ref (a 0))]) C rfl (by decide) rfl d_R_hostTakes_19 ?_
  refine j_aload_n C 3 rfl rfl d_R_hostTakes_20 ?_
  refine j_bipush (v := 6) C (by decide) d_R_hostTakes_21 ?_
  refine j_bnd (fun r26 S27 e28 => ?_)
  refine j_callVi (As := [.int (6 : Int32)]) (rest := []) C 0 7 Y_R_numberAt u_888 (c_R_numberAt g S23 (6 : Int32) e28) rfl rfl ⟨by decide, by decide⟩ rfl rfl rfl rfl (Nat.le_of_ble_eq_true rfl) d_R_hostTakes_23 ?_
  refine j_istore (i := 4) (lv2 := [(4, .int r26), (3, .int x25), (2, .int r22), (1, .int x21), (0, .ref (a 0))]) C (by decide) rfl d_R_hostTakes_26 ?_
  refine j_iload_n C 3 rfl rfl d_R_hostTakes_28 ?_
  refine j_iconst (v := 1) C (by decide) d_R_hostTakes_29 ?_
  refine j_icmp_lt (tgt := 60) C d_R_hostTakes_30 (by decide) (fun h29 => ?_) (fun h29 => ?_)
  · refine j_iconst (v := 0) C (by decide) d_R_hostTakes_60 ?_
    refine j_istore (i := 5) (lv2 := [(5, .int (0 : Int32)), (4, .int r26), (3, .int x25), (2, .int r22), (1, .int x21), (0, .ref (a 0))]) C (by decide) rfl d_R_hostTakes_61 ?_
    refine j_iload C 0 rfl d_R_hostTakes_63 ?_
    refine j_if_eq_T (tgt := 108) C d_R_hostTakes_65 (by decide) (by decide) ?_
    refine j_iconst (v := 0) C (by decide) d_R_hostTakes_108 ?_
    refine j_istore (i := 5) (lv2 := [(5, .int (0 : Int32)), (4, .int r26), (3, .int x25), (2, .int r22), (1, .int x21), (0, .ref (a 0))]) C (by decide) rfl d_R_hostTakes_109 ?_
    refine j_iload C 0 rfl d_R_hostTakes_111 ?_
    refine j_if_eq_T (tgt := 171) C d_R_hostTakes_113 (by decide) (by decide) ?_
    refine j_iload C 0 rfl d_R_hostTakes_171 ?_
    exact j_zret C (Or.inl rfl) rfl rfl d_R_hostTakes_173
  · refine j_iload_n C 3 rfl rfl d_R_hostTakes_33 ?_
    refine j_iconst (v := 3) C (by decide) d_R_hostTakes_34 ?_
    refine j_icmp_gt (tgt := 60) C d_R_hostTakes_35 (by decide) (fun h30 => ?_) (fun h30 => ?_)
    · refine j_iconst (v := 0) C (by decide) d_R_hostTakes_60 ?_
      refine j_istore (i := 5) (lv2 := [(5, .int (0 : Int32)), (4, .int r26), (3, .int x25), (2, .int r22), (1, .int x21), (0, .ref (a 0))]) C (by decide) rfl d_R_hostTakes_61 ?_
      refine j_iload C 0 rfl d_R_hostTakes_63 ?_
      refine j_if_eq_T (tgt := 108) C d_R_hostTakes_65 (by decide) (by decide) ?_
      refine j_iconst (v := 0) C (by decide) d_R_hostTakes_108 ?_
      refine j_istore (i := 5) (lv2 := [(5, .int (0 : Int32)), (4, .int r26), (3, .int x25), (2, .int r22), (1, .int x21), (0, .ref (a 0))]) C (by decide) rfl d_R_hostTakes_109 ?_
      refine j_iload C 0 rfl d_R_hostTakes_111 ?_
      refine j_if_eq_T (tgt := 171) C d_R_hostTakes_113 (by decide) (by decide) ?_
      refine j_iload C 0 rfl d_R_hostTakes_171 ?_
      exact j_zret C (Or.inl rfl) rfl rfl d_R_hostTakes_173
    · refine j_iload_n C 2 rfl rfl d_R_hostTakes_38 ?_
      refine j_iconst (v := 1) C (by decide) d_R_hostTakes_39 ?_
      refine j_icmp_lt (tgt := 60) C d_R_hostTakes_40 (by decide) (fun h31 => ?_) (fun h31 => ?_)
      · refine j_iconst (v := 0) C (by decide) d_R_hostTakes_60 ?_
        refine j_istore (i := 5) (lv2 := [(5, .int (0 : Int32)), (4, .int r26), (3, .int x25), (2, .int r22), (1, .int x21), (0, .ref (a 0))]) C (by decide) rfl d_R_hostTakes_61 ?_
        refine j_iload C 0 rfl d_R_hostTakes_63 ?_
        refine j_if_eq_T (tgt := 108) C d_R_hostTakes_65 (by decide) (by decide) ?_
        refine j_iconst (v := 0) C (by decide) d_R_hostTakes_108 ?_
        refine j_istore (i := 5) (lv2 := [(5, .int (0 : Int32)), (4, .int r26), (3, .int x25), (2, .int r22), (1, .int x21), (0, .ref (a 0))]) C (by decide) rfl d_R_hostTakes_109 ?_
        refine j_iload C 0 rfl d_R_hostTakes_111 ?_
        refine j_if_eq_T (tgt := 171) C d_R_hostTakes_113 (by decide) (by decide) ?_
        refine j_iload C 0 rfl d_R_hostTakes_171 ?_
        exact j_zret C (Or.inl rfl) rfl rfl d_R_hostTakes_173
      · refine j_iload_n C 2 rfl rfl d_R_hostTakes_43 ?_
        refine j_sipush (v := 2000) C (by decide) d_R_hostTakes_44 ?_
        refine j_icmp_gt (tgt := 60) C d_R_hostTakes_47 (by decide) (fun h32 => ?_) (fun h32 => ?_)
        · refine j_iconst (v := 0) C (by decide) d_R_hostTakes_60 ?_
          refine j_istore (i := 5) (lv2 := [(5, .int (0 : Int32)), (4, .int r26), (3, .int x25), (2, .int r22), (1, .int x21), (0, .ref (a 0))]) C (by decide) rfl d_R_hostTakes_61 ?_
          refine j_iload C 0 rfl d_R_hostTakes_63 ?_
          refine j_if_eq_T (tgt := 108) C d_R_hostTakes_65 (by decide) (by decide) ?_
          refine j_iconst (v := 0) C (by decide) d_R_hostTakes_108 ?_
          refine j_istore (i := 5) (lv2 := [(5, .int (0 : Int32)), (4, .int r26), (3, .int x25), (2, .int r22), (1, .int x21), (0, .ref (a 0))]) C (by decide) rfl d_R_hostTakes_109 ?_
          refine j_iload C 0 rfl d_R_hostTakes_111 ?_
          refine j_if_eq_T (tgt := 171) C d_R_hostTakes_113 (by decide) (by decide) ?_
          refine j_iload C 0 rfl d_R_hostTakes_171 ?_
          exact j_zret C (Or.inl rfl) rfl rfl d_R_hostTakes_173
        · refine j_iload_n C 1 rfl rfl d_R_hostTakes_50 ?_
          refine j_bipush (v := 15) C (by decide) d_R_hostTakes_51 ?_
          refine j_icmp_gt (tgt := 60) C d_R_hostTakes_53 (by decide) (fun h33 => ?_) (fun h33 => ?_)
          · refine j_iconst (v := 0) C (by decide) d_R_hostTakes_60 ?_
            refine j_istore (i := 5) (lv2 := [(5, .int (0 : Int32)), (4, .int r26), (3, .int x25), (2, .int r22), (1, .int x21), (0, .ref (a 0))]) C (by decide) rfl d_R_hostTakes_61 ?_
            refine j_iload C 0 rfl d_R_hostTakes_63 ?_
            refine j_if_eq_T (tgt := 108) C d_R_hostTakes_65 (by decide) (by decide) ?_
            refine j_iconst (v := 0) C (by decide) d_R_hostTakes_108 ?_
            refine j_istore (i := 5) (lv2 := [(5, .int (0 : Int32)), (4, .int r26), (3, .int x25), (2, .int r22), (1, .int x21), (0, .ref (a 0))]) C (by decide) rfl d_R_hostTakes_109 ?_
            refine j_iload C 0 rfl d_R_hostTakes_111 ?_
            refine j_if_eq_T (tgt := 171) C d_R_hostTakes_113 (by decide) (by decide) ?_
            refine j_iload C 0 rfl d_R_hostTakes_171 ?_
            exact j_zret C (Or.inl rfl) rfl rfl d_R_hostTakes_173
          · refine j_iconst (v := 1) C (by decide) d_R_hostTakes_56 ?_
            refine j_goto (tgt := 61) C d_R_hostTakes_57 (by decide) ?_
            refine j_istore (i := 5) (lv2 := [(5, .int (1 : Int32)), (4, .int r26), (3, .int x25), (2, .int r22), (1, .int x21), (0, .ref (a 0))]) C (by decide) rfl d_R_hostTakes_61 ?_
            refine j_iload C 0 rfl d_R_hostTakes_63 ?_
            refine j_if_eq_F (tgt := 108) C d_R_hostTakes_65 (by decide) (by decide) ?_
            refine j_iload_n C 4 rfl rfl d_R_hostTakes_68 ?_
            refine j_iconst (v := 1) C (by decide) d_R_hostTakes_69 ?_
            refine j_icmp_ne (tgt := 86) C d_R_hostTakes_70 (by decide) (fun h34 => ?_) (fun h34 => ?_)
            · refine j_iload C 1 rfl d_R_hostTakes_73 ?_
              refine j_if_lt (tgt := 108) C d_R_hostTakes_75 (by decide) (fun h35 => ?_) (fun h35 => ?_)
              · refine j_iconst (v := 0) C (by decide) d_R_hostTakes_108 ?_
                refine j_istore (i := 5) (lv2 := [(5, .int (0 : Int32)), (4, .int r26), (3, .int x25), (2, .int r22), (1, .int x21), (0, .ref (a 0))]) C (by decide) rfl d_R_hostTakes_109 ?_
                refine j_iload C 0 rfl d_R_hostTakes_111 ?_
                refine j_if_eq_T (tgt := 171) C d_R_hostTakes_113 (by decide) (by decide) ?_
                refine j_iload C 0 rfl d_R_hostTakes_171 ?_
                exact j_zret C (Or.inl rfl) rfl rfl d_R_hostTakes_173
              · refine j_iload C 1 rfl d_R_hostTakes_78 ?_
                refine j_sipush (v := 9999) C (by decide) d_R_hostTakes_80 ?_
                refine j_icmp_gt (tgt := 108) C d_R_hostTakes_83 (by decide) (fun h36 => ?_) (fun h36 => ?_)
                · refine j_iconst (v := 0) C (by decide) d_R_hostTakes_108 ?_
                  refine j_istore (i := 5) (lv2 := [(5, .int (0 : Int32)), (4, .int r26), (3, .int x25), (2, .int r22), (1, .int x21), (0, .ref (a 0))]) C (by decide) rfl d_R_hostTakes_109 ?_
                  refine j_iload C 0 rfl d_R_hostTakes_111 ?_
                  refine j_if_eq_T (tgt := 171) C d_R_hostTakes_113 (by decide) (by decide) ?_
                  refine j_iload C 0 rfl d_R_hostTakes_171 ?_
                  exact j_zret C (Or.inl rfl) rfl rfl d_R_hostTakes_173
                · refine j_iload_n C 4 rfl rfl d_R_hostTakes_86 ?_
                  refine j_iconst (v := 2) C (by decide) d_R_hostTakes_87 ?_
                  refine j_icmp_ne (tgt := 104) C d_R_hostTakes_88 (by decide) (fun h37 => ?_) (fun h37 => ?_)
                  · refine j_iload C 1 rfl d_R_hostTakes_91 ?_
                    refine j_iconst (v := 1) C (by decide) d_R_hostTakes_93 ?_
                    refine j_icmp_lt (tgt := 108) C d_R_hostTakes_94 (by decide) (fun h38 => ?_) (fun h38 => ?_)
                    · refine j_iconst (v := 0) C (by decide) d_R_hostTakes_108 ?_
                      refine j_istore (i := 5) (lv2 := [(5, .int (0 : Int32)), (4, .int r26), (3, .int x25), (2, .int r22), (1, .int x21), (0, .ref (a 0))]) C (by decide) rfl d_R_hostTakes_109 ?_
                      refine j_iload C 0 rfl d_R_hostTakes_111 ?_
                      refine j_if_eq_T (tgt := 171) C d_R_hostTakes_113 (by decide) (by decide) ?_
                      refine j_iload C 0 rfl d_R_hostTakes_171 ?_
                      exact j_zret C (Or.inl rfl) rfl rfl d_R_hostTakes_173
                    · refine j_iload C 1 rfl d_R_hostTakes_97 ?_
                      refine j_ldc (v := 40000) C u_843 d_R_hostTakes_99 ?_
                      refine j_icmp_gt (tgt := 108) C d_R_hostTakes_101 (by decide) (fun h39 => ?_) (fun h39 => ?_)
                      · refine j_iconst (v := 0) C (by decide) d_R_hostTakes_108 ?_
                        refine j_istore (i := 5) (lv2 := [(5, .int (0 : Int32)), (4, .int r26), (3, .int x25), (2, .int r22), (1, .int x21), (0, .ref (a 0))]) C (by decide) rfl d_R_hostTakes_109 ?_
                        refine j_iload C 0 rfl d_R_hostTakes_111 ?_
                        refine j_if_eq_T (tgt := 171) C d_R_hostTakes_113 (by decide) (by decide) ?_
                        refine j_iload C 0 rfl d_R_hostTakes_171 ?_
                        exact j_zret C (Or.inl rfl) rfl rfl d_R_hostTakes_173
                      · refine j_iconst (v := 1) C (by decide) d_R_hostTakes_104 ?_
                        refine j_goto (tgt := 109) C d_R_hostTakes_105 (by decide) ?_
                        refine j_istore (i := 5) (lv2 := [(5, .int (1 : Int32)), (4, .int r26), (3, .int x25), (2, .int r22), (1, .int x21), (0, .ref (a 0))]) C (by decide) rfl d_R_hostTakes_109 ?_
                        refine j_iload C 0 rfl d_R_hostTakes_111 ?_
                        refine j_if_eq_F (tgt := 171) C d_R_hostTakes_113 (by decide) (by decide) ?_
                        refine j_iload_n C 4 rfl rfl d_R_hostTakes_116 ?_
                        refine j_iconst (v := 1) C (by decide) d_R_hostTakes_117 ?_
                        refine j_icmp_ne (tgt := 132) C d_R_hostTakes_118 (by decide) (fun h40 => ?_) (fun h40 => ?_)
                        · refine j_aload_n C 5 rfl rfl d_R_hostTakes_121 ?_
                          refine j_iload_n C 3 rfl rfl d_R_hostTakes_122 ?_
                          refine j_iload_n C 2 rfl rfl d_R_hostTakes_123 ?_
                          refine j_iload C 1 rfl d_R_hostTakes_124 ?_
                          refine j_bnd (fun r41 S42 e43 => ?_)
                          refine j_callVi (As := [.int r22, .int x25, .int r26]) (rest := []) C 0 7 Y_R_onPin u_900 (c_R_onPin g S27 r22 x25 r26 e43) rfl rfl ⟨by decide, by decide⟩ rfl rfl rfl rfl (Nat.le_of_ble_eq_true rfl) d_R_hostTakes_126 ?_
                          refine j_goto (tgt := 153) C d_R_hostTakes_129 (by decide) ?_
                          refine j_istore (i := 6) (lv2 := [(6, .int r41), (5, .int (1 : Int32)), (4, .int r26), (3, .int x25), (2, .int r22), (1, .int x21), (0, .ref (a 0))]) C (by decide) rfl d_R_hostTakes_153 ?_
                          refine j_aload_n C 6 rfl rfl d_R_hostTakes_155 ?_
                          refine j_iload_n C 5 rfl rfl d_R_hostTakes_156 ?_
                          refine j_sipush (v := 128) C (by decide) d_R_hostTakes_157 ?_
                          refine j_iadd C d_R_hostTakes_160 ?_
                          refine j_iload_n C 4 rfl rfl d_R_hostTakes_161 ?_
                          refine j_iload_n C 3 rfl rfl d_R_hostTakes_162 ?_
                          refine j_iload C 2 rfl d_R_hostTakes_163 ?_
                          refine j_iload C 0 rfl d_R_hostTakes_165 ?_
                          refine j_iconst (v := 1) C (by decide) d_R_hostTakes_167 ?_
                          refine j_bnd (fun _ S45 e46 => ?_)
                          refine j_callVv (As := [.int (x21 + (128 : Int32)), .int r22, .int x25, .int r26, .int r41, .int (1 : Int32)]) (rest := []) C 0 7 Y_R_send u_827 (c_R_send g S42 (x21 + (128 : Int32)) r22 x25 r26 r41 (1 : Int32) e46) rfl rfl ⟨by decide, by decide⟩ rfl rfl rfl rfl (Nat.le_of_ble_eq_true rfl) d_R_hostTakes_168 ?_
                          refine j_iload C 1 rfl d_R_hostTakes_171 ?_
                          exact j_zret C (Or.inr rfl) rfl rfl d_R_hostTakes_173
                        · refine j_iload_n C 4 rfl rfl d_R_hostTakes_132 ?_
                          refine j_iconst (v := 2) C (by decide) d_R_hostTakes_133 ?_
                          refine j_icmp_ne (tgt := 148) C d_R_hostTakes_134 (by decide) (fun h47 => ?_) (fun h47 => ?_)
                          · refine j_aload_n C 5 rfl rfl d_R_hostTakes_137 ?_
                            refine j_iload_n C 3 rfl rfl d_R_hostTakes_138 ?_
                            refine j_iload_n C 2 rfl rfl d_R_hostTakes_139 ?_
                            refine j_iload C 1 rfl d_R_hostTakes_140 ?_
                            refine j_bnd (fun r48 S49 e50 => ?_)
                            refine j_callVi (As := [.int r22, .int x25, .int r26]) (rest := []) C 0 7 Y_R_onDebit u_904 (c_R_onDebit g S27 r22 x25 r26 e50) rfl rfl ⟨by decide, by decide⟩ rfl rfl rfl rfl (Nat.le_of_ble_eq_true rfl) d_R_hostTakes_142 ?_
                            refine j_goto (tgt := 153) C d_R_hostTakes_145 (by decide) ?_
                            refine j_istore (i := 6) (lv2 := [(6, .int r48), (5, .int (1 : Int32)), (4, .int r26), (3, .int x25), (2, .int r22), (1, .int x21), (0, .ref (a 0))]) C (by decide) rfl d_R_hostTakes_153 ?_
                            refine j_aload_n C 6 rfl rfl d_R_hostTakes_155 ?_
                            refine j_iload_n C 5 rfl rfl d_R_hostTakes_156 ?_
                            refine j_sipush (v := 128) C (by decide) d_R_hostTakes_157 ?_
                            refine j_iadd C d_R_hostTakes_160 ?_
                            refine j_iload_n C 4 rfl rfl d_R_hostTakes_161 ?_
                            refine j_iload_n C 3 rfl rfl d_R_hostTakes_162 ?_
                            refine j_iload C 2 rfl d_R_hostTakes_163 ?_
                            refine j_iload C 0 rfl d_R_hostTakes_165 ?_
                            refine j_iconst (v := 1) C (by decide) d_R_hostTakes_167 ?_
                            refine j_bnd (fun _ S52 e53 => ?_)
                            refine j_callVv (As := [.int (x21 + (128 : Int32)), .int r22, .int x25, .int r26, .int r48, .int (1 : Int32)]) (rest := []) C 0 7 Y_R_send u_827 (c_R_send g S49 (x21 + (128 : Int32)) r22 x25 r26 r48 (1 : Int32) e53) rfl rfl ⟨by decide, by decide⟩ rfl rfl rfl rfl (Nat.le_of_ble_eq_true rfl) d_R_hostTakes_168 ?_
                            refine j_iload C 1 rfl d_R_hostTakes_171 ?_
                            exact j_zret C (Or.inr rfl) rfl rfl d_R_hostTakes_173
                          · refine j_aload_n C 5 rfl rfl d_R_hostTakes_148 ?_
                            refine j_iload_n C 3 rfl rfl d_R_hostTakes_149 ?_
                            refine j_bnd (fun r54 S55 e56 => ?_)
                            refine j_callVi (As := [.int r22]) (rest := []) C 0 7 Y_R_onReversal u_908 (c_R_onReversal g S27 r22 e56) rfl rfl ⟨by decide, by decide⟩ rfl rfl rfl rfl (Nat.le_of_ble_eq_true rfl) d_R_hostTakes_150 ?_
                            refine j_istore (i := 6) (lv2 := [(6, .int r54), (5, .int (1 : Int32)), (4, .int r26), (3, .int x25), (2, .int r22), (1, .int x21), (0, .ref (a 0))]) C (by decide) rfl d_R_hostTakes_153 ?_
                            refine j_aload_n C 6 rfl rfl d_R_hostTakes_155 ?_
                            refine j_iload_n C 5 rfl rfl d_R_hostTakes_156 ?_
                            refine j_sipush (v := 128) C (by decide) d_R_hostTakes_157 ?_
                            refine j_iadd C d_R_hostTakes_160 ?_
                            refine j_iload_n C 4 rfl rfl d_R_hostTakes_161 ?_
                            refine j_iload_n C 3 rfl rfl d_R_hostTakes_162 ?_
                            refine j_iload C 2 rfl d_R_hostTakes_163 ?_
                            refine j_iload C 0 rfl d_R_hostTakes_165 ?_
                            refine j_iconst (v := 1) C (by decide) d_R_hostTakes_167 ?_
                            refine j_bnd (fun _ S58 e59 => ?_)
                            refine j_callVv (As := [.int (x21 + (128 : Int32)), .int r22, .int x25, .int r26, .int r54, .int (1 : Int32)]) (rest := []) C 0 7 Y_R_send u_827 (c_R_send g S55 (x21 + (128 : Int32)) r22 x25 r26 r54 (1 : Int32) e59) rfl rfl ⟨by decide, by decide⟩ rfl rfl rfl rfl (Nat.le_of_ble_eq_true rfl) d_R_hostTakes_168 ?_
                            refine j_iload C 1 rfl d_R_hostTakes_171 ?_
                            exact j_zret C (Or.inr rfl) rfl rfl d_R_hostTakes_173
                  · refine j_iconst (v := 1) C (by decide) d_R_hostTakes_104 ?_
                    refine j_goto (tgt := 109) C d_R_hostTakes_105 (by decide) ?_
                    refine j_istore (i := 5) (lv2 := [(5, .int (1 : Int32)), (4, .int r26), (3, .int x25), (2, .int r22), (1, .int x21), (0, .ref (a 0))]) C (by decide) rfl d_R_hostTakes_109 ?_
                    refine j_iload C 0 rfl d_R_hostTakes_111 ?_
                    refine j_if_eq_F (tgt := 171) C d_R_hostTakes_113 (by decide) (by decide) ?_
                    refine j_iload_n C 4 rfl rfl d_R_hostTakes_116 ?_
                    refine j_iconst (v := 1) C (by decide) d_R_hostTakes_117 ?_
                    refine j_icmp_ne (tgt := 132) C d_R_hostTakes_118 (by decide) (fun h60 => ?_) (fun h60 => ?_)
                    · refine j_aload_n C 5 rfl rfl d_R_hostTakes_121 ?_
                      refine j_iload_n C 3 rfl rfl d_R_hostTakes_122 ?_
                      refine j_iload_n C 2 rfl rfl d_R_hostTakes_123 ?_
                      refine j_iload C 1 rfl d_R_hostTakes_124 ?_
                      refine j_bnd (fun r61 S62 e63 => ?_)
                      refine j_callVi (As := [.int r22, .int x25, .int r26]) (rest := []) C 0 7 Y_R_onPin u_900 (c_R_onPin g S27 r22 x25 r26 e63) rfl rfl ⟨by decide, by decide⟩ rfl rfl rfl rfl (Nat.le_of_ble_eq_true rfl) d_R_hostTakes_126 ?_
                      refine j_goto (tgt := 153) C d_R_hostTakes_129 (by decide) ?_
                      refine j_istore (i := 6) (lv2 := [(6, .int r61), (5, .int (1 : Int32)), (4, .int r26), (3, .int x25), (2, .int r22), (1, .int x21), (0, .ref (a 0))]) C (by decide) rfl d_R_hostTakes_153 ?_
                      refine j_aload_n C 6 rfl rfl d_R_hostTakes_155 ?_
                      refine j_iload_n C 5 rfl rfl d_R_hostTakes_156 ?_
                      refine j_sipush (v := 128) C (by decide) d_R_hostTakes_157 ?_
                      refine j_iadd C d_R_hostTakes_160 ?_
                      refine j_iload_n C 4 rfl rfl d_R_hostTakes_161 ?_
                      refine j_iload_n C 3 rfl rfl d_R_hostTakes_162 ?_
                      refine j_iload C 2 rfl d_R_hostTakes_163 ?_
                      refine j_iload C 0 rfl d_R_hostTakes_165 ?_
                      refine j_iconst (v := 1) C (by decide) d_R_hostTakes_167 ?_
                      refine j_bnd (fun _ S65 e66 => ?_)
                      refine j_callVv (As := [.int (x21 + (128 : Int32)), .int r22, .int x25, .int r26, .int r61, .int (1 : Int32)]) (rest := []) C 0 7 Y_R_send u_827 (c_R_send g S62 (x21 + (128 : Int32)) r22 x25 r26 r61 (1 : Int32) e66) rfl rfl ⟨by decide, by decide⟩ rfl rfl rfl rfl (Nat.le_of_ble_eq_true rfl) d_R_hostTakes_168 ?_
                      refine j_iload C 1 rfl d_R_hostTakes_171 ?_
                      exact j_zret C (Or.inr rfl) rfl rfl d_R_hostTakes_173
                    · refine j_iload_n C 4 rfl rfl d_R_hostTakes_132 ?_
                      refine j_iconst (v := 2) C (by decide) d_R_hostTakes_133 ?_
                      refine j_icmp_ne (tgt := 148) C d_R_hostTakes_134 (by decide) (fun h67 => ?_) (fun h67 => ?_)
                      · refine j_aload_n C 5 rfl rfl d_R_hostTakes_137 ?_
                        refine j_iload_n C 3 rfl rfl d_R_hostTakes_138 ?_
                        refine j_iload_n C 2 rfl rfl d_R_hostTakes_139 ?_
                        refine j_iload C 1 rfl d_R_hostTakes_140 ?_
                        refine j_bnd (fun r68 S69 e70 => ?_)
                        refine j_callVi (As := [.int r22, .int x25, .int r26]) (rest := []) C 0 7 Y_R_onDebit u_904 (c_R_onDebit g S27 r22 x25 r26 e70) rfl rfl ⟨by decide, by decide⟩ rfl rfl rfl rfl (Nat.le_of_ble_eq_true rfl) d_R_hostTakes_142 ?_
                        refine j_goto (tgt := 153) C d_R_hostTakes_145 (by decide) ?_
                        refine j_istore (i := 6) (lv2 := [(6, .int r68), (5, .int (1 : Int32)), (4, .int r26), (3, .int x25), (2, .int r22), (1, .int x21), (0, .ref (a 0))]) C (by decide) rfl d_R_hostTakes_153 ?_
                        refine j_aload_n C 6 rfl rfl d_R_hostTakes_155 ?_
                        refine j_iload_n C 5 rfl rfl d_R_hostTakes_156 ?_
                        refine j_sipush (v := 128) C (by decide) d_R_hostTakes_157 ?_
                        refine j_iadd C d_R_hostTakes_160 ?_
                        refine j_iload_n C 4 rfl rfl d_R_hostTakes_161 ?_
                        refine j_iload_n C 3 rfl rfl d_R_hostTakes_162 ?_
                        refine j_iload C 2 rfl d_R_hostTakes_163 ?_
                        refine j_iload C 0 rfl d_R_hostTakes_165 ?_
                        refine j_iconst (v := 1) C (by decide) d_R_hostTakes_167 ?_
                        refine j_bnd (fun _ S72 e73 => ?_)
                        refine j_callVv (As := [.int (x21 + (128 : Int32)), .int r22, .int x25, .int r26, .int r68, .int (1 : Int32)]) (rest := []) C 0 7 Y_R_send u_827 (c_R_send g S69 (x21 + (128 : Int32)) r22 x25 r26 r68 (1 : Int32) e73) rfl rfl ⟨by decide, by decide⟩ rfl rfl rfl rfl (Nat.le_of_ble_eq_true rfl) d_R_hostTakes_168 ?_
                        refine j_iload C 1 rfl d_R_hostTakes_171 ?_
                        exact j_zret C (Or.inr rfl) rfl rfl d_R_hostTakes_173
                      · refine j_aload_n C 5 rfl rfl d_R_hostTakes_148 ?_
                        refine j_iload_n C 3 rfl rfl d_R_hostTakes_149 ?_
                        refine j_bnd (fun r74 S75 e76 => ?_)
                        refine j_callVi (As := [.int r22]) (rest := []) C 0 7 Y_R_onReversal u_908 (c_R_onReversal g S27 r22 e76) rfl rfl ⟨by decide, by decide⟩ rfl rfl rfl rfl (Nat.le_of_ble_eq_true rfl) d_R_hostTakes_150 ?_
                        refine j_istore (i := 6) (lv2 := [(6, .int r74), (5, .int (1 : Int32)), (4, .int r26), (3, .int x25), (2, .int r22), (1, .int x21), (0, .ref (a 0))]) C (by decide) rfl d_R_hostTakes_153 ?_
                        refine j_aload_n C 6 rfl rfl d_R_hostTakes_155 ?_
                        refine j_iload_n C 5 rfl rfl d_R_hostTakes_156 ?_
                        refine j_sipush (v := 128) C (by decide) d_R_hostTakes_157 ?_
                        refine j_iadd C d_R_hostTakes_160 ?_
                        refine j_iload_n C 4 rfl rfl d_R_hostTakes_161 ?_
                        refine j_iload_n C 3 rfl rfl d_R_hostTakes_162 ?_
                        refine j_iload C 2 rfl d_R_hostTakes_163 ?_
                        refine j_iload C 0 rfl d_R_hostTakes_165 ?_
                        refine j_iconst (v := 1) C (by decide) d_R_hostTakes_167 ?_
                        refine j_bnd (fun _ S78 e79 => ?_)
                        refine j_callVv (As := [.int (x21 + (128 : Int32)), .int r22, .int x25, .int r26, .int r74, .int (1 : Int32)]) (rest := []) C 0 7 Y_R_send u_827 (c_R_send g S75 (x21 + (128 : Int32)) r22 x25 r26 r74 (1 : Int32) e79) rfl rfl ⟨by decide, by decide⟩ rfl rfl rfl rfl (Nat.le_of_ble_eq_true rfl) d_R_hostTakes_168 ?_
                        refine j_iload C 1 rfl d_R_hostTakes_171 ?_
                        exact j_zret C (Or.inr rfl) rfl rfl d_R_hostTakes_173
            · refine j_iload_n C 4 rfl rfl d_R_hostTakes_86 ?_
              refine j_iconst (v := 2) C (by decide) d_R_hostTakes_87 ?_
              refine j_icmp_ne (tgt := 104) C d_R_hostTakes_88 (by decide) (fun h80 => ?_) (fun h80 => ?_)
              · refine j_iload C 1 rfl d_R_hostTakes_91 ?_
                refine j_iconst (v := 1) C (by decide) d_R_hostTakes_93 ?_
                refine j_icmp_lt (tgt := 108) C d_R_hostTakes_94 (by decide) (fun h81 => ?_) (fun h81 => ?_)
                · refine j_iconst (v := 0) C (by decide) d_R_hostTakes_108 ?_
                  refine j_istore (i := 5) (lv2 := [(5, .int (0 : Int32)), (4, .int r26), (3, .int x25), (2, .int r22), (1, .int x21), (0, .ref (a 0))]) C (by decide) rfl d_R_hostTakes_109 ?_
                  refine j_iload C 0 rfl d_R_hostTakes_111 ?_
                  refine j_if_eq_T (tgt := 171) C d_R_hostTakes_113 (by decide) (by decide) ?_
                  refine j_iload C 0 rfl d_R_hostTakes_171 ?_
                  exact j_zret C (Or.inl rfl) rfl rfl d_R_hostTakes_173
                · refine j_iload C 1 rfl d_R_hostTakes_97 ?_
                  refine j_ldc (v := 40000) C u_843 d_R_hostTakes_99 ?_
                  refine j_icmp_gt (tgt := 108) C d_R_hostTakes_101 (by decide) (fun h82 => ?_) (fun h82 => ?_)
                  · refine j_iconst (v := 0) C (by decide) d_R_hostTakes_108 ?_
                    refine j_istore (i := 5) (lv2 := [(5, .int (0 : Int32)), (4, .int r26), (3, .int x25), (2, .int r22), (1, .int x21), (0, .ref (a 0))]) C (by decide) rfl d_R_hostTakes_109 ?_
                    refine j_iload C 0 rfl d_R_hostTakes_111 ?_
                    refine j_if_eq_T (tgt := 171) C d_R_hostTakes_113 (by decide) (by decide) ?_
                    refine j_iload C 0 rfl d_R_hostTakes_171 ?_
                    exact j_zret C (Or.inl rfl) rfl rfl d_R_hostTakes_173
                  · refine j_iconst (v := 1) C (by decide) d_R_hostTakes_104 ?_
                    refine j_goto (tgt := 109) C d_R_hostTakes_105 (by decide) ?_
                    refine j_istore (i := 5) (lv2 := [(5, .int (1 : Int32)), (4, .int r26), (3, .int x25), (2, .int r22), (1, .int x21), (0, .ref (a 0))]) C (by decide) rfl d_R_hostTakes_109 ?_
                    refine j_iload C 0 rfl d_R_hostTakes_111 ?_
                    refine j_if_eq_F (tgt := 171) C d_R_hostTakes_113 (by decide) (by decide) ?_
                    refine j_iload_n C 4 rfl rfl d_R_hostTakes_116 ?_
                    refine j_iconst (v := 1) C (by decide) d_R_hostTakes_117 ?_
                    refine j_icmp_ne (tgt := 132) C d_R_hostTakes_118 (by decide) (fun h83 => ?_) (fun h83 => ?_)
                    · refine j_aload_n C 5 rfl rfl d_R_hostTakes_121 ?_
                      refine j_iload_n C 3 rfl rfl d_R_hostTakes_122 ?_
                      refine j_iload_n C 2 rfl rfl d_R_hostTakes_123 ?_
                      refine j_iload C 1 rfl d_R_hostTakes_124 ?_
                      refine j_bnd (fun r84 S85 e86 => ?_)
                      refine j_callVi (As := [.int r22, .int x25, .int r26]) (rest := []) C 0 7 Y_R_onPin u_900 (c_R_onPin g S27 r22 x25 r26 e86) rfl rfl ⟨by decide, by decide⟩ rfl rfl rfl rfl (Nat.le_of_ble_eq_true rfl) d_R_hostTakes_126 ?_
                      refine j_goto (tgt := 153) C d_R_hostTakes_129 (by decide) ?_
                      refine j_istore (i := 6) (lv2 := [(6, .int r84), (5, .int (1 : Int32)), (4, .int r26), (3, .int x25), (2, .int r22), (1, .int x21), (0, .ref (a 0))]) C (by decide) rfl d_R_hostTakes_153 ?_
                      refine j_aload_n C 6 rfl rfl d_R_hostTakes_155 ?_
                      refine j_iload_n C 5 rfl rfl d_R_hostTakes_156 ?_
                      refine j_sipush (v := 128) C (by decide) d_R_hostTakes_157 ?_
                      refine j_iadd C d_R_hostTakes_160 ?_
                      refine j_iload_n C 4 rfl rfl d_R_hostTakes_161 ?_
                      refine j_iload_n C 3 rfl rfl d_R_hostTakes_162 ?_
                      refine j_iload C 2 rfl d_R_hostTakes_163 ?_
                      refine j_iload C 0 rfl d_R_hostTakes_165 ?_
                      refine j_iconst (v := 1) C (by decide) d_R_hostTakes_167 ?_
                      refine j_bnd (fun _ S88 e89 => ?_)
                      refine j_callVv (As := [.int (x21 + (128 : Int32)), .int r22, .int x25, .int r26, .int r84, .int (1 : Int32)]) (rest := []) C 0 7 Y_R_send u_827 (c_R_send g S85 (x21 + (128 : Int32)) r22 x25 r26 r84 (1 : Int32) e89) rfl rfl ⟨by decide, by decide⟩ rfl rfl rfl rfl (Nat.le_of_ble_eq_true rfl) d_R_hostTakes_168 ?_
                      refine j_iload C 1 rfl d_R_hostTakes_171 ?_
                      exact j_zret C (Or.inr rfl) rfl rfl d_R_hostTakes_173
                    · refine j_iload_n C 4 rfl rfl d_R_hostTakes_132 ?_
                      refine j_iconst (v := 2) C (by decide) d_R_hostTakes_133 ?_
                      refine j_icmp_ne (tgt := 148) C d_R_hostTakes_134 (by decide) (fun h90 => ?_) (fun h90 => ?_)
                      · refine j_aload_n C 5 rfl rfl d_R_hostTakes_137 ?_
                        refine j_iload_n C 3 rfl rfl d_R_hostTakes_138 ?_
                        refine j_iload_n C 2 rfl rfl d_R_hostTakes_139 ?_
                        refine j_iload C 1 rfl d_R_hostTakes_140 ?_
                        refine j_bnd (fun r91 S92 e93 => ?_)
                        refine j_callVi (As := [.int r22, .int x25, .int r26]) (rest := []) C 0 7 Y_R_onDebit u_904 (c_R_onDebit g S27 r22 x25 r26 e93) rfl rfl ⟨by decide, by decide⟩ rfl rfl rfl rfl (Nat.le_of_ble_eq_true rfl) d_R_hostTakes_142 ?_
                        refine j_goto (tgt := 153) C d_R_hostTakes_145 (by decide) ?_
                        refine j_istore (i := 6) (lv2 := [(6, .int r91), (5, .int (1 : Int32)), (4, .int r26), (3, .int x25), (2, .int r22), (1, .int x21), (0, .ref (a 0))]) C (by decide) rfl d_R_hostTakes_153 ?_
                        refine j_aload_n C 6 rfl rfl d_R_hostTakes_155 ?_
                        refine j_iload_n C 5 rfl rfl d_R_hostTakes_156 ?_
                        refine j_sipush (v := 128) C (by decide) d_R_hostTakes_157 ?_
                        refine j_iadd C d_R_hostTakes_160 ?_
                        refine j_iload_n C 4 rfl rfl d_R_hostTakes_161 ?_
                        refine j_iload_n C 3 rfl rfl d_R_hostTakes_162 ?_
                        refine j_iload C 2 rfl d_R_hostTakes_163 ?_
                        refine j_iload C 0 rfl d_R_hostTakes_165 ?_
                        refine j_iconst (v := 1) C (by decide) d_R_hostTakes_167 ?_
                        refine j_bnd (fun _ S95 e96 => ?_)
                        refine j_callVv (As := [.int (x21 + (128 : Int32)), .int r22, .int x25, .int r26, .int r91, .int (1 : Int32)]) (rest := []) C 0 7 Y_R_send u_827 (c_R_send g S92 (x21 + (128 : Int32)) r22 x25 r26 r91 (1 : Int32) e96) rfl rfl ⟨by decide, by decide⟩ rfl rfl rfl rfl (Nat.le_of_ble_eq_true rfl) d_R_hostTakes_168 ?_
                        refine j_iload C 1 rfl d_R_hostTakes_171 ?_
                        exact j_zret C (Or.inr rfl) rfl rfl d_R_hostTakes_173
                      · refine j_aload_n C 5 rfl rfl d_R_hostTakes_148 ?_
                        refine j_iload_n C 3 rfl rfl d_R_hostTakes_149 ?_
                        refine j_bnd (fun r97 S98 e99 => ?_)
                        refine j_callVi (As := [.int r22]) (rest := []) C 0 7 Y_R_onReversal u_908 (c_R_onReversal g S27 r22 e99) rfl rfl ⟨by decide, by decide⟩ rfl rfl rfl rfl (Nat.le_of_ble_eq_true rfl) d_R_hostTakes_150 ?_
                        refine j_istore (i := 6) (lv2 := [(6, .int r97), (5, .int (1 : Int32)), (4, .int r26), (3, .int x25), (2, .int r22), (1, .int x21), (0, .ref (a 0))]) C (by decide) rfl d_R_hostTakes_153 ?_
                        refine j_aload_n C 6 rfl rfl d_R_hostTakes_155 ?_
                        refine j_iload_n C 5 rfl rfl d_R_hostTakes_156 ?_
                        refine j_sipush (v := 128) C (by decide) d_R_hostTakes_157 ?_
                        refine j_iadd C d_R_hostTakes_160 ?_
                        refine j_iload_n C 4 rfl rfl d_R_hostTakes_161 ?_
                        refine j_iload_n C 3 rfl rfl d_R_hostTakes_162 ?_
                        refine j_iload C 2 rfl d_R_hostTakes_163 ?_
                        refine j_iload C 0 rfl d_R_hostTakes_165 ?_
                        refine j_iconst (v := 1) C (by decide) d_R_hostTakes_167 ?_
                        refine j_bnd (fun _ S101 e102 => ?_)
                        refine j_callVv (As := [.int (x21 + (128 : Int32)), .int r22, .int x25, .int r26, .int r97, .int (1 : Int32)]) (rest := []) C 0 7 Y_R_send u_827 (c_R_send g S98 (x21 + (128 : Int32)) r22 x25 r26 r97 (1 : Int32) e102) rfl rfl ⟨by decide, by decide⟩ rfl rfl rfl rfl (Nat.le_of_ble_eq_true rfl) d_R_hostTakes_168 ?_
                        refine j_iload C 1 rfl d_R_hostTakes_171 ?_
                        exact j_zret C (Or.inr rfl) rfl rfl d_R_hostTakes_173
              · refine j_iconst (v := 1) C (by decide) d_R_hostTakes_104 ?_
                refine j_goto (tgt := 109) C d_R_hostTakes_105 (by decide) ?_
                refine j_istore (i := 5) (lv2 := [(5, .int (1 : Int32)), (4, .int r26), (3, .int x25), (2, .int r22), (1, .int x21), (0, .ref (a 0))]) C (by decide) rfl d_R_hostTakes_109 ?_
                refine j_iload C 0 rfl d_R_hostTakes_111 ?_
                refine j_if_eq_F (tgt := 171) C d_R_hostTakes_113 (by decide) (by decide) ?_
                refine j_iload_n C 4 rfl rfl d_R_hostTakes_116 ?_
                refine j_iconst (v := 1) C (by decide) d_R_hostTakes_117 ?_
                refine j_icmp_ne (tgt := 132) C d_R_hostTakes_118 (by decide) (fun h103 => ?_) (fun h103 => ?_)
                · refine j_aload_n C 5 rfl rfl d_R_hostTakes_121 ?_
                  refine j_iload_n C 3 rfl rfl d_R_hostTakes_122 ?_
                  refine j_iload_n C 2 rfl rfl d_R_hostTakes_123 ?_
                  refine j_iload C 1 rfl d_R_hostTakes_124 ?_
                  refine j_bnd (fun r104 S105 e106 => ?_)
                  refine j_callVi (As := [.int r22, .int x25, .int r26]) (rest := []) C 0 7 Y_R_onPin u_900 (c_R_onPin g S27 r22 x25 r26 e106) rfl rfl ⟨by decide, by decide⟩ rfl rfl rfl rfl (Nat.le_of_ble_eq_true rfl) d_R_hostTakes_126 ?_
                  refine j_goto (tgt := 153) C d_R_hostTakes_129 (by decide) ?_
                  refine j_istore (i := 6) (lv2 := [(6, .int r104), (5, .int (1 : Int32)), (4, .int r26), (3, .int x25), (2, .int r22), (1, .int x21), (0, .ref (a 0))]) C (by decide) rfl d_R_hostTakes_153 ?_
                  refine j_aload_n C 6 rfl rfl d_R_hostTakes_155 ?_
                  refine j_iload_n C 5 rfl rfl d_R_hostTakes_156 ?_
                  refine j_sipush (v := 128) C (by decide) d_R_hostTakes_157 ?_
                  refine j_iadd C d_R_hostTakes_160 ?_
                  refine j_iload_n C 4 rfl rfl d_R_hostTakes_161 ?_
                  refine j_iload_n C 3 rfl rfl d_R_hostTakes_162 ?_
                  refine j_iload C 2 rfl d_R_hostTakes_163 ?_
                  refine j_iload C 0 rfl d_R_hostTakes_165 ?_
                  refine j_iconst (v := 1) C (by decide) d_R_hostTakes_167 ?_
                  refine j_bnd (fun _ S108 e109 => ?_)
                  refine j_callVv (As := [.int (x21 + (128 : Int32)), .int r22, .int x25, .int r26, .int r104, .int (1 : Int32)]) (rest := []) C 0 7 Y_R_send u_827 (c_R_send g S105 (x21 + (128 : Int32)) r22 x25 r26 r104 (1 : Int32) e109) rfl rfl ⟨by decide, by decide⟩ rfl rfl rfl rfl (Nat.le_of_ble_eq_true rfl) d_R_hostTakes_168 ?_
                  refine j_iload C 1 rfl d_R_hostTakes_171 ?_
                  exact j_zret C (Or.inr rfl) rfl rfl d_R_hostTakes_173
                · refine j_iload_n C 4 rfl rfl d_R_hostTakes_132 ?_
                  refine j_iconst (v := 2) C (by decide) d_R_hostTakes_133 ?_
                  refine j_icmp_ne (tgt := 148) C d_R_hostTakes_134 (by decide) (fun h110 => ?_) (fun h110 => ?_)
                  · refine j_aload_n C 5 rfl rfl d_R_hostTakes_137 ?_
                    refine j_iload_n C 3 rfl rfl d_R_hostTakes_138 ?_
                    refine j_iload_n C 2 rfl rfl d_R_hostTakes_139 ?_
                    refine j_iload C 1 rfl d_R_hostTakes_140 ?_
                    refine j_bnd (fun r111 S112 e113 => ?_)
                    refine j_callVi (As := [.int r22, .int x25, .int r26]) (rest := []) C 0 7 Y_R_onDebit u_904 (c_R_onDebit g S27 r22 x25 r26 e113) rfl rfl ⟨by decide, by decide⟩ rfl rfl rfl rfl (Nat.le_of_ble_eq_true rfl) d_R_hostTakes_142 ?_
                    refine j_goto (tgt := 153) C d_R_hostTakes_145 (by decide) ?_
                    refine j_istore (i := 6) (lv2 := [(6, .int r111), (5, .int (1 : Int32)), (4, .int r26), (3, .int x25), (2, .int r22), (1, .int x21), (0, .ref (a 0))]) C (by decide) rfl d_R_hostTakes_153 ?_
                    refine j_aload_n C 6 rfl rfl d_R_hostTakes_155 ?_
                    refine j_iload_n C 5 rfl rfl d_R_hostTakes_156 ?_
                    refine j_sipush (v := 128) C (by decide) d_R_hostTakes_157 ?_
                    refine j_iadd C d_R_hostTakes_160 ?_
                    refine j_iload_n C 4 rfl rfl d_R_hostTakes_161 ?_
                    refine j_iload_n C 3 rfl rfl d_R_hostTakes_162 ?_
                    refine j_iload C 2 rfl d_R_hostTakes_163 ?_
                    refine j_iload C 0 rfl d_R_hostTakes_165 ?_
                    refine j_iconst (v := 1) C (by decide) d_R_hostTakes_167 ?_
                    refine j_bnd (fun _ S115 e116 => ?_)
                    refine j_callVv (As := [.int (x21 + (128 : Int32)), .int r22, .int x25, .int r26, .int r111, .int (1 : Int32)]) (rest := []) C 0 7 Y_R_send u_827 (c_R_send g S112 (x21 + (128 : Int32)) r22 x25 r26 r111 (1 : Int32) e116) rfl rfl ⟨by decide, by decide⟩ rfl rfl rfl rfl (Nat.le_of_ble_eq_true rfl) d_R_hostTakes_168 ?_
                    refine j_iload C 1 rfl d_R_hostTakes_171 ?_
                    exact j_zret C (Or.inr rfl) rfl rfl d_R_hostTakes_173
                  · refine j_aload_n C 5 rfl rfl d_R_hostTakes_148 ?_
                    refine j_iload_n C 3 rfl rfl d_R_hostTakes_149 ?_
                    refine j_bnd (fun r117 S118 e119 => ?_)
                    refine j_callVi (As := [.int r22]) (rest := []) C 0 7 Y_R_onReversal u_908 (c_R_onReversal g S27 r22 e119) rfl rfl ⟨by decide, by decide⟩ rfl rfl rfl rfl (Nat.le_of_ble_eq_true rfl) d_R_hostTakes_150 ?_
                    refine j_istore (i := 6) (lv2 := [(6, .int r117), (5, .int (1 : Int32)), (4, .int r26), (3, .int x25), (2, .int r22), (1, .int x21), (0, .ref (a 0))]) C (by decide) rfl d_R_hostTakes_153 ?_
                    refine j_aload_n C 6 rfl rfl d_R_hostTakes_155 ?_
                    refine j_iload_n C 5 rfl rfl d_R_hostTakes_156 ?_
                    refine j_sipush (v := 128) C (by decide) d_R_hostTakes_157 ?_
                    refine j_iadd C d_R_hostTakes_160 ?_
                    refine j_iload_n C 4 rfl rfl d_R_hostTakes_161 ?_
                    refine j_iload_n C 3 rfl rfl d_R_hostTakes_162 ?_
                    refine j_iload C 2 rfl d_R_hostTakes_163 ?_
                    refine j_iload C 0 rfl d_R_hostTakes_165 ?_
                    refine j_iconst (v := 1) C (by decide) d_R_hostTakes_167 ?_
                    refine j_bnd (fun _ S121 e122 => ?_)
                    refine j_callVv (As := [.int (x21 + (128 : Int32)), .int r22, .int x25, .int r26, .int r117, .int (1 : Int32)]) (rest := []) C 0 7 Y_R_send u_827 (c_R_send g S118 (x21 + (128 : Int32)) r22 x25 r26 r117 (1 : Int32) e122) rfl rfl ⟨by decide, by decide⟩ rfl rfl rfl rfl (Nat.le_of_ble_eq_true rfl) d_R_hostTakes_168 ?_
                    refine j_iload C 1 rfl d_R_hostTakes_171 ?_
                    exact j_zret C (Or.inr rfl) rfl rfl d_R_hostTakes_173
