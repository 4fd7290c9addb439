def f_M_beginWithdrawal (g : Nat) (S : Mem) (x1 : Int32) : Option (Int32 × Mem) := if (S.1 11 0) = 0 then (some ((-1 : Int32), S)) else (if (S.1 13 0) = (3 : Int32) then (bnd (f_A_isAmount g S x1.toInt64) (fun r23 S24 => if r23 = 0 then (some ((-1 : Int32), S24)) else (if (290 : Int32) < (S24.1 36 0) then (some ((-1 : Int32), S24)) else (if (S24.1 15 0) ≤ (2000 : Int32) then (bnd (f_O_findMix g S24 x1) (fun r29 S30 => if r29 = 0 then (some ((0 : Int32), S30)) else (bnd (f_M_takeTrace g S30) (fun _ S34 => lt (sI S34 21 0 x1) (fun S36 => bnd (f_M_write g S36 (1 : Int32)) (fun r37 S38 => if r37 = 0 then (some ((1 : Int32), S38)) else (lt (sI S38 17 0 (S38.1 16 0)) (fun S41 => bnd (f_M_send g S41 (2 : Int32) x1) (fun r42 S43 => if r42 = 0 then (some ((1 : Int32), S43)) else (lt (sI S43 13 0 (4 : Int32)) (fun S46 => some ((1 : Int32), S46)))))))))))) else (some ((-1 : Int32), S24)))))) else (some ((-1 : Int32), S)))
set_option maxRecDepth 100000 in
set_option maxHeartbeats 4000000 in
theorem c_M_beginWithdrawal {l : Launch} {D : va_G} {cI cJ cZ cL : ClassId} {a : Nat → Nat} (g : Nat) (S : Mem) (x1 : Int32) {r : Int32} {S9 : Mem} (h : f_M_beginWithdrawal g S x1 = some (r, S9)) : Ctr l y_M_beginWithdrawal prog_6_method_7_code 2 (some .int) rm_M_beginWithdrawal D (tyT cI cJ cZ cL) (wdC cI cJ cZ cL a) [.ref (a 3), .int x1] S (vI r, S9) := by
  refine Ctr.of (lv0 := [(0, .ref (a 3)), (1, .int x1)]) (vv := vI) (by decide) rfl (wdC_fst cI cJ cZ cL a) (Nat.le_of_ble_eq_true rfl) rfl (fun p e s m args below meth c A C => ?_) r S9 h
  unfold f_M_beginWithdrawal
  refine j_aload_n C 0 rfl rfl d_M_beginWithdrawal_0 ?_
  refine gC_M_on C u_189 d_M_beginWithdrawal_1 ?_
  refine j_if_eq (tgt := 46) C d_M_beginWithdrawal_4 (by decide) (fun h21 => ?_) (fun h21 => ?_)
  · refine j_iconst (v := -1) C (by decide) d_M_beginWithdrawal_46 ?_
    exact j_iret C rfl rfl d_M_beginWithdrawal_47
  · refine j_aload_n C 0 rfl rfl d_M_beginWithdrawal_7 ?_
    refine gC_M_phase C u_192 d_M_beginWithdrawal_8 ?_
    refine j_iconst (v := 3) C (by decide) d_M_beginWithdrawal_11 ?_
    refine j_icmp_ne (tgt := 46) C d_M_beginWithdrawal_12 (by decide) (fun h22 => ?_) (fun h22 => ?_)
    · refine j_iload_n C 1 rfl rfl d_M_beginWithdrawal_15 ?_
      refine j_i2l C d_M_beginWithdrawal_16 ?_
      refine j_bnd (fun r23 S24 e25 => ?_)
      refine j_callSNi (As := [.long x1.toInt64]) (rest := []) C Y_A_isAmount n_367 (c_A_isAmount g S x1.toInt64 e25) rfl rfl ⟨by decide, by decide⟩ rfl rfl (Nat.le_of_ble_eq_true rfl) d_M_beginWithdrawal_17 ?_
      refine j_if_eq (tgt := 46) C d_M_beginWithdrawal_20 (by decide) (fun h26 => ?_) (fun h26 => ?_)
      · refine j_iconst (v := -1) C (by decide) d_M_beginWithdrawal_46 ?_
        exact j_iret C rfl rfl d_M_beginWithdrawal_47
      · refine j_aload_n C 0 rfl rfl d_M_beginWithdrawal_23 ?_
        refine gC_M_journal C u_186 d_M_beginWithdrawal_24 ?_
        refine gnC_J_size C n_170 d_M_beginWithdrawal_27 ?_
        refine j_sipush (v := 290) C (by decide) d_M_beginWithdrawal_30 ?_
        refine j_icmp_gt (tgt := 46) C d_M_beginWithdrawal_33 (by decide) (fun h27 => ?_) (fun h27 => ?_)
        · refine j_iconst (v := -1) C (by decide) d_M_beginWithdrawal_46 ?_
          exact j_iret C rfl rfl d_M_beginWithdrawal_47
        · refine j_aload_n C 0 rfl rfl d_M_beginWithdrawal_36 ?_
          refine gC_M_nextTrace C u_196 d_M_beginWithdrawal_37 ?_
          refine j_sipush (v := 2000) C (by decide) d_M_beginWithdrawal_40 ?_
          refine j_icmp_le (tgt := 48) C d_M_beginWithdrawal_43 (by decide) (fun h28 => ?_) (fun h28 => ?_)
          · refine j_aload_n C 0 rfl rfl d_M_beginWithdrawal_48 ?_
            refine gC_M_notes C u_184 d_M_beginWithdrawal_49 ?_
            refine j_iload_n C 1 rfl rfl d_M_beginWithdrawal_52 ?_
            refine j_bnd (fun r29 S30 e31 => ?_)
            refine j_callVi (As := [.int x1]) (rest := []) C 4 5 Y_O_findMix u_371 (c_O_findMix g S24 x1 e31) rfl rfl ⟨by decide, by decide⟩ rfl rfl rfl rfl (Nat.le_of_ble_eq_true rfl) d_M_beginWithdrawal_53 ?_
            refine j_if_ne (tgt := 61) C d_M_beginWithdrawal_56 (by decide) (fun h32 => ?_) (fun h32 => ?_)
            · refine j_iconst (v := 0) C (by decide) d_M_beginWithdrawal_59 ?_
              exact j_iret C rfl rfl d_M_beginWithdrawal_60
            · refine j_aload_n C 0 rfl rfl d_M_beginWithdrawal_61 ?_
              refine j_bnd (fun _ S34 e35 => ?_)
              refine j_callVv (As := []) (rest := []) C 3 4 Y_M_takeTrace u_322 (c_M_takeTrace g S30 e35) rfl rfl ⟨by decide, by decide⟩ rfl rfl rfl rfl (Nat.le_of_ble_eq_true rfl) d_M_beginWithdrawal_62 ?_
              refine j_aload_n C 0 rfl rfl d_M_beginWithdrawal_65 ?_
              refine j_iload_n C 1 rfl rfl d_M_beginWithdrawal_66 ?_
              refine pC_M_amountAtHand C u_205 d_M_beginWithdrawal_67 ?_
              refine j_ltS (fun S36 => ?_)
              refine j_aload_n C 0 rfl rfl d_M_beginWithdrawal_70 ?_
              refine j_iconst (v := 1) C (by decide) d_M_beginWithdrawal_71 ?_
              refine j_bnd (fun r37 S38 e39 => ?_)
              refine j_callVi (As := [.int (1 : Int32)]) (rest := []) C 3 4 Y_M_write u_391 (c_M_write g S36 (1 : Int32) e39) rfl rfl ⟨by decide, by decide⟩ rfl rfl rfl rfl (Nat.le_of_ble_eq_true rfl) d_M_beginWithdrawal_72 ?_
              refine j_if_eq (tgt := 100) C d_M_beginWithdrawal_75 (by decide) (fun h40 => ?_) (fun h40 => ?_)
              · refine j_iconst (v := 1) C (by decide) d_M_beginWithdrawal_100 ?_
                exact j_iret C rfl rfl d_M_beginWithdrawal_101
              · refine j_aload_n C 0 rfl rfl d_M_beginWithdrawal_78 ?_
                refine j_aload_n C 0 rfl rfl d_M_beginWithdrawal_79 ?_
                refine gC_M_openings C u_198 d_M_beginWithdrawal_80 ?_
                refine pC_M_openingsWhenBegun C u_200 d_M_beginWithdrawal_83 ?_
                refine j_ltS (fun S41 => ?_)
                refine j_aload_n C 0 rfl rfl d_M_beginWithdrawal_86 ?_
                refine j_iconst (v := 2) C (by decide) d_M_beginWithdrawal_87 ?_
                refine j_iload_n C 1 rfl rfl d_M_beginWithdrawal_88 ?_
                refine j_bnd (fun r42 S43 e44 => ?_)
                refine j_callVi (As := [.int (2 : Int32), .int x1]) (rest := []) C 3 4 Y_M_send u_326 (c_M_send g S41 (2 : Int32) x1 e44) rfl rfl ⟨by decide, by decide⟩ rfl rfl rfl rfl (Nat.le_of_ble_eq_true rfl) d_M_beginWithdrawal_89 ?_
                refine j_if_eq (tgt := 100) C d_M_beginWithdrawal_92 (by decide) (fun h45 => ?_) (fun h45 => ?_)
                · refine j_iconst (v := 1) C (by decide) d_M_beginWithdrawal_100 ?_
                  exact j_iret C rfl rfl d_M_beginWithdrawal_101
                · refine j_aload_n C 0 rfl rfl d_M_beginWithdrawal_95 ?_
                  refine j_iconst (v := 4) C (by decide) d_M_beginWithdrawal_96 ?_
                  refine pC_M_phase C u_192 d_M_beginWithdrawal_97 ?_
                  refine j_ltS (fun S46 => ?_)
                  refine j_iconst (v := 1) C (by decide) d_M_beginWithdrawal_100 ?_
                  exact j_iret C rfl rfl d_M_beginWithdrawal_101
          · refine j_iconst (v := -1) C (by decide) d_M_beginWithdrawal_46 ?_
            exact j_iret C rfl rfl d_M_beginWithdrawal_47
    · refine j_iconst (v := -1) C (by decide) d_M_beginWithdrawal_46 ?_
      exact j_iret C rfl rfl d_M_beginWithdrawal_47
def f_A_ask (g : Nat) (S : Mem) (x1 : Int32) : Option (Int32 × Mem) := bnd (f_M_beginWithdrawal g S x1) (fun r21 S22 => some (r21, S22))
set_option maxRecDepth 100000 in
set_option maxHeartbeats 4000000 in
theorem c_A_ask {l : Launch} {D : va_G} {cI cJ cZ cL : ClassId} {a : Nat → Nat} (g : Nat) (S : Mem) (x1 : Int32) {r : Int32} {S9 : Mem} (h : f_A_ask g S x1 = some (r, S9)) : Ctr l y_A_ask prog_1_method_7_code 2 (some .int) rm_A_ask D (tyT cI cJ cZ cL) (wdC cI cJ cZ cL a) [.ref (a 0), .int x1] S (vI r, S9) := by
  refine Ctr.of (lv0 := [(0, .ref (a 0)), (1, .int x1)]) (vv := vI) (by decide) rfl (wdC_fst cI cJ cZ cL a) (Nat.le_of_ble_eq_true rfl) rfl (fun p e s m args below meth c A C => ?_) r S9 h
  unfold f_A_ask
  refine j_aload_n C 0 rfl rfl d_A_ask_0 ?_
  refine gC_A_machine C u_242 d_A_ask_1 ?_
  refine j_iload_n C 1 rfl rfl d_A_ask_4 ?_
  refine j_bnd (fun r21 S22 e23 => ?_)
  refine j_callVi (As := [.int x1]) (rest := []) C 3 4 Y_M_beginWithdrawal u_363 (c_M_beginWithdrawal g S x1 e23) rfl rfl ⟨by decide, by decide⟩ rfl rfl rfl rfl (Nat.le_of_ble_eq_true rfl) d_A_ask_5 ?_
  exact j_iret C rfl rfl d_A_ask_8
def f_M_endWithoutCard (g : Nat) (S : Mem) : Option (Unit × Mem) := lt (sI S 14 0 (-1 : Int32)) (fun S21 => lt (sI S21 13 0 (0 : Int32)) (fun S22 => some ((), S22)))
set_option maxRecDepth 100000 in
set_option maxHeartbeats 4000000 in
theorem c_M_endWithoutCard {l : Launch} {D : va_G} {cI cJ cZ cL : ClassId} {a : Nat → Nat} (g : Nat) (S : Mem) {r : Unit} {S9 : Mem} (h : f_M_endWithoutCard g S = some (r, S9)) : Ctr l y_M_endWithoutCard prog_6_method_19_code 1 none rm_M_endWithoutCard D (tyT cI cJ cZ cL) (wdC cI cJ cZ cL a) [.ref (a 3)] S (vV r, S9) := by
  refine Ctr.of (lv0 := [(0, .ref (a 3))]) (vv := vV) (by decide) rfl (wdC_fst cI cJ cZ cL a) (Nat.le_of_ble_eq_true rfl) rfl (fun p e s m args below meth c A C => ?_) r S9 h
  unfold f_M_endWithoutCard
  refine j_aload_n C 0 rfl rfl d_M_endWithoutCard_0 ?_
  refine j_iconst (v := -1) C (by decide) d_M_endWithoutCard_1 ?_
  refine pC_M_slot C u_194 d_M_endWithoutCard_2 ?_
  refine j_ltS (fun S21 => ?_)
  refine j_aload_n C 0 rfl rfl d_M_endWithoutCard_5 ?_
  refine j_iconst (v := 0) C (by decide) d_M_endWithoutCard_6 ?_
  refine pC_M_phase C u_192 d_M_endWithoutCard_7 ?_
  refine j_ltS (fun S22 => ?_)
  exact j_vret C rfl rfl d_M_endWithoutCard_10
def f_M_giveCardBack (g : Nat) (S : Mem) : Option (Int32 × Mem) := if (S.1 11 0) = 0 then (some ((0 : Int32), S)) else (if (S.1 13 0) = (1 : Int32) then (bnd (f_M_endWithoutCard g S) (fun _ S24 => some ((1 : Int32), S24))) else (if (S.1 13 0) = (3 : Int32) then (bnd (f_M_endWithoutCard g S) (fun _ S28 => some ((1 : Int32), S28))) else (some ((0 : Int32), S))))
set_option maxRecDepth 100000 in
set_option maxHeartbeats 4000000 in
theorem c_M_giveCardBack {l : Launch} {D : va_G} {cI cJ cZ cL : ClassId} {a : Nat → Nat} (g : Nat) (S : Mem) {r : Int32} {S9 : Mem} (h : f_M_giveCardBack g S = some (r, S9)) : Ctr l y_M_giveCardBack prog_6_method_4_code 1 (some .boolean) rm_M_giveCardBack D (tyT cI cJ cZ cL) (wdC cI cJ cZ cL a) [.ref (a 3)] S (vI r, S9) := by
  refine Ctr.of (lv0 := [(0, .ref (a 3))]) (vv := vI) (by decide) rfl (wdC_fst cI cJ cZ cL a) (Nat.le_of_ble_eq_true rfl) rfl (fun p e s m args below meth c A C => ?_) r S9 h
  unfold f_M_giveCardBack
  refine j_aload_n C 0 rfl rfl d_M_giveCardBack_0 ?_
  refine gC_M_on C u_189 d_M_giveCardBack_1 ?_
  refine j_if_eq (tgt := 23) C d_M_giveCardBack_4 (by decide) (fun h21 => ?_) (fun h21 => ?_)
  · refine j_iconst (v := 0) C (by decide) d_M_giveCardBack_23 ?_
    exact j_zret C (Or.inl rfl) rfl rfl d_M_giveCardBack_24
  · refine j_aload_n C 0 rfl rfl d_M_giveCardBack_7 ?_
    refine gC_M_phase C u_192 d_M_giveCardBack_8 ?_
    refine j_iconst (v := 1) C (by decide) d_M_giveCardBack_11 ?_
    refine j_icmp_eq (tgt := 25) C d_M_giveCardBack_12 (by decide) (fun h22 => ?_) (fun h22 => ?_)
    · refine j_aload_n C 0 rfl rfl d_M_giveCardBack_25 ?_
      refine j_bnd (fun _ S24 e25 => ?_)
      refine j_callVv (As := []) (rest := []) C 3 4 Y_M_endWithoutCard u_412 (c_M_endWithoutCard g S e25) rfl rfl ⟨by decide, by decide⟩ rfl rfl rfl rfl (Nat.le_of_ble_eq_true rfl) d_M_giveCardBack_26 ?_
      refine j_iconst (v := 1) C (by decide) d_M_giveCardBack_29 ?_
      exact j_zret C (Or.inr rfl) rfl rfl d_M_giveCardBack_30
    · refine j_aload_n C 0 rfl rfl d_M_giveCardBack_15 ?_
      refine gC_M_phase C u_192 d_M_giveCardBack_16 ?_
      refine j_iconst (v := 3) C (by decide) d_M_giveCardBack_19 ?_
      refine j_icmp_eq (tgt := 25) C d_M_giveCardBack_20 (by decide) (fun h26 => ?_) (fun h26 => ?_)
      · refine j_aload_n C 0 rfl rfl d_M_giveCardBack_25 ?_
        refine j_bnd (fun _ S28 e29 => ?_)
        refine j_callVv (As := []) (rest := []) C 3 4 Y_M_endWithoutCard u_412 (c_M_endWithoutCard g S e29) rfl rfl ⟨by decide, by decide⟩ rfl rfl rfl rfl (Nat.le_of_ble_eq_true rfl) d_M_giveCardBack_26 ?_
        refine j_iconst (v := 1) C (by decide) d_M_giveCardBack_29 ?_
        exact j_zret C (Or.inr rfl) rfl rfl d_M_giveCardBack_30
      · refine j_iconst (v := 0) C (by decide) d_M_giveCardBack_23 ?_
        exact j_zret C (Or.inl rfl) rfl rfl d_M_giveCardBack_24
def f_A_eject (g : Nat) (S : Mem) : Option (Int32 × Mem) := bnd (f_M_giveCardBack g S) (fun r21 S22 => grd (r21 = 0 ∨ r21 = 1) (some (r21, S22)))
set_option maxRecDepth 100000 in
set_option maxHeartbeats 4000000 in
theorem c_A_eject {l : Launch} {D : va_G} {cI cJ cZ cL : ClassId} {a : Nat → Nat} (g : Nat) (S : Mem) {r : Int32} {S9 : Mem} (h : f_A_eject g S = some (r, S9)) : Ctr l y_A_eject prog_1_method_8_code 1 (some .boolean) rm_A_eject D (tyT cI cJ cZ cL) (wdC cI cJ cZ cL a) [.ref (a 0)] S (vI r, S9) := by
  refine Ctr.of (lv0 := [(0, .ref (a 0))]) (vv := vI) (by decide) rfl (wdC_fst cI cJ cZ cL a) (Nat.le_of_ble_eq_true rfl) rfl (fun p e s m args below meth c A C => ?_) r S9 h
  unfold f_A_eject
  refine j_aload_n C 0 rfl rfl d_A_eject_0 ?_
  refine gC_A_machine C u_242 d_A_eject_1 ?_
  refine j_bnd (fun r21 S22 e23 => ?_)
  refine j_callVi (As := []) (rest := []) C 3 4 Y_M_giveCardBack u_408 (c_M_giveCardBack g S e23) rfl rfl ⟨by decide, by decide⟩ rfl rfl rfl rfl (Nat.le_of_ble_eq_true rfl) d_A_eject_4 ?_
  refine j_grd (fun h24 => ?_)
  exact j_zret C h24 rfl rfl d_A_eject_7
def f_F_fill_inTrayC_5 (g : Nat) : Nat → Mem → Int32 → Int32 → Int32 → Option (Mem × (Unit))
  | 0, _, _, _, _ => none
  | n + 1, S, x1, x2, x3 => if x3 ≤ x2 then (some (S, ())) else (grd (¬ (x2 < 0 ∨ 4 ≤ x2.toNatClampNeg)) (lt (sI S 25 x2.toNatClampNeg x1) (fun S23 => lt (x2 + (1 : Int32)) (fun x24 => f_F_fill_inTrayC_5 g n S23 x1 x24 x3))))
set_option maxRecDepth 100000 in
set_option maxHeartbeats 4000000 in
theorem lp_F_fill_inTrayC_5 {l : Launch} {D : va_G} {cI cJ cZ cL : ClassId} {a : Nat → Nat} {p : Program} {e : Env} {s : State} {m : MethodId} {args : Array Value} {below : List Frame} {meth : Method} {c : Code} {A : Nat → Prop} (C : Cx p s m args meth c "java/util/Arrays" prog_13_method_103_code 4 none D (tyT cI cJ cZ cL) (wdC cI cJ cZ cL a) A) (g : Nat) {K : (Mem × (Unit)) → Option (Unit × Mem)} (hx : ∀ (S : Mem) (y : Unit), Tj p l e rm_F_fill_inTrayC s m args below meth c D (wdC cI cJ cZ cL a) A 4 vV K (some (S, y)) S 20 [] []) : ∀ (n : Nat) (S : Mem) (x1 : Int32) (x2 : Int32) (x3 : Int32), Tj p l e rm_F_fill_inTrayC s m args below meth c D (wdC cI cJ cZ cL a) A 4 vV K (f_F_fill_inTrayC_5 g n S x1 x2 x3) S 5 [(0, .ref (a 19)), (1, .int x1), (2, .int x2), (3, .int x3)] [] := by
  intro n
  induction n with
  | zero =>
    intro S x1 x2 x3
    exact j_none
  | succ n ih =>
    intro S x1 x2 x3
    rw [f_F_fill_inTrayC_5]
    refine j_iload_n C 2 rfl rfl d_F_fill_5 ?_
    refine j_iload_n C 3 rfl rfl d_F_fill_6 ?_
    refine j_icmp_ge (tgt := 20) C d_F_fill_7 (by decide) (fun h21 => ?_) (fun h21 => ?_)
    · refine j_sub [] rfl ?_
      exact hx S ()
    · refine j_aload_n C 0 rfl rfl d_F_fill_10 ?_
      refine j_iload_n C 2 rfl rfl d_F_fill_11 ?_
      refine j_iload_n C 1 rfl rfl d_F_fill_12 ?_
      refine j_grd (fun h22 => ?_)
      refine sC_O_inTray C h22 d_F_fill_13 ?_
      refine j_ltS (fun S23 => ?_)
      refine j_iincN (n2 := 1) (lv2 := fun x24 => [(2, .int x24), (0, .ref (a 19)), (1, .int x1), (3, .int x3)]) C 2 rfl (by decide) (by decide) (fun _ => rfl) d_F_fill_14 (fun x24 => ?_)
      refine j_goto (tgt := 5) C d_F_fill_17 (by decide) ?_
      refine j_sub [1, 2, 0, 3] rfl ?_
      exact ih S23 x1 x24 x3
def f_F_fill_inTrayC (g : Nat) (S : Mem) (x1 : Int32) : Option (Unit × Mem) := seqM (f_F_fill_inTrayC_5 g g S x1 (0 : Int32) (4 : Int32)) (fun S25 y26 => some ((), S25))
set_option maxRecDepth 100000 in
set_option maxHeartbeats 4000000 in
theorem c_F_fill_inTrayC {l : Launch} {D : va_G} {cI cJ cZ cL : ClassId} {a : Nat → Nat} (g : Nat) (S : Mem) (x1 : Int32) {r : Unit} {S9 : Mem} (h : f_F_fill_inTrayC g S x1 = some (r, S9)) : Ctr l y_F_fill prog_13_method_103_code 4 none rm_F_fill_inTrayC D (tyT cI cJ cZ cL) (wdC cI cJ cZ cL a) [.ref (a 19), .int x1] S (vV r, S9) := by
  refine Ctr.of (lv0 := [(0, .ref (a 19)), (1, .int x1)]) (vv := vV) (by decide) rfl (wdC_fst cI cJ cZ cL a) (Nat.le_of_ble_eq_true rfl) rfl (fun p e s m args below meth c A C => ?_) r S9 h
  unfold f_F_fill_inTrayC
  refine j_iconst (v := 0) C (by decide) d_F_fill_0 ?_
  refine j_istore_n (i := 2) (lv2 := [(2, .int (0 : Int32)), (0, .ref (a 19)), (1, .int x1)]) C rfl (by decide) rfl d_F_fill_1 ?_
  refine j_aload_n C 1 rfl rfl d_F_fill_2 ?_
  refine zC_O_inTray C d_F_fill_3 ?_
  refine j_istore_n (i := 3) (lv2 := [(3, .int (4 : Int32)), (2, .int (0 : Int32)), (0, .ref (a 19)), (1, .int x1)]) C rfl (by decide) rfl d_F_fill_4 ?_
  refine j_sub [2, 3, 1, 0] rfl ?_
  refine j_seqM ?_
  refine lp_F_fill_inTrayC_5 C g  (fun S25 y26 => ?_) g S x1 (0 : Int32) (4 : Int32)
  refine j_outM ?_
  exact j_vret C rfl rfl d_F_fill_20
def f_O_clearTray (g : Nat) (S : Mem) : Option (Int32 × Mem) := lt (S.1 28 0) (fun x21 => bnd (f_F_fill_inTrayC g S (0 : Int32)) (fun _ S23 => lt (sI S23 28 0 (0 : Int32)) (fun S25 => some (x21, S25))))
set_option maxRecDepth 100000 in
set_option maxHeartbeats 4000000 in
theorem c_O_clearTray {l : Launch} {D : va_G} {cI cJ cZ cL : ClassId} {a : Nat → Nat} (g : Nat) (S : Mem) {r : Int32} {S9 : Mem} (h : f_O_clearTray g S = some (r, S9)) : Ctr l y_O_clearTray prog_7_method_14_code 2 (some .int) rm_O_clearTray D (tyT cI cJ cZ cL) (wdC cI cJ cZ cL a) [.ref (a 4)] S (vI r, S9) := by
  refine Ctr.of (lv0 := [(0, .ref (a 4))]) (vv := vI) (by decide) rfl (wdC_fst cI cJ cZ cL a) (Nat.le_of_ble_eq_true rfl) rfl (fun p e s m args below meth c A C => ?_) r S9 h
  unfold f_O_clearTray
  refine j_aload_n C 0 rfl rfl d_O_clearTray_0 ?_
  refine gC_O_trayWorth C u_129 d_O_clearTray_1 ?_
  refine j_lti (fun x21 => ?_)
  refine j_istore_n (i := 1) (lv2 := [(1, .int x21), (0, .ref (a 4))]) C rfl (by decide) rfl d_O_clearTray_4 ?_
  refine j_aload_n C 1 rfl rfl d_O_clearTray_5 ?_
  refine gC_O_inTray C u_126 d_O_clearTray_6 ?_
  refine j_iconst (v := 0) C (by decide) d_O_clearTray_9 ?_
  refine j_bnd (fun _ S23 e24 => ?_)
  refine j_callSv (As := [.ref (a 19), .int (0 : Int32)]) (rest := []) C Y_F_fill u_424 (c_F_fill_inTrayC g S (0 : Int32) e24) rfl rfl ⟨by decide, by decide⟩ rfl rfl (Nat.le_of_ble_eq_true rfl) d_O_clearTray_10 ?_
  refine j_aload_n C 1 rfl rfl d_O_clearTray_13 ?_
  refine j_iconst (v := 0) C (by decide) d_O_clearTray_14 ?_
  refine pC_O_trayWorth C u_129 d_O_clearTray_15 ?_
  refine j_ltS (fun S25 => ?_)
  refine j_iload_n C 0 rfl rfl d_O_clearTray_18 ?_
  exact j_iret C rfl rfl d_O_clearTray_19
def f_A_take (g : Nat) (S : Mem) : Option (Int32 × Mem) := bnd (f_O_clearTray g S) (fun r21 S22 => some (r21, S22))
set_option maxRecDepth 100000 in
set_option maxHeartbeats 4000000 in
theorem c_A_take {l : Launch} {D : va_G} {cI cJ cZ cL : ClassId} {a : Nat → Nat} (g : Nat) (S : Mem) {r : Int32} {S9 : Mem} (h : f_A_take g S = some (r, S9)) : Ctr l y_A_take prog_1_method_9_code 1 (some .int) rm_A_take D (tyT cI cJ cZ cL) (wdC cI cJ cZ cL a) [.ref (a 0)] S (vI r, S9) := by
  refine Ctr.of (lv0 := [(0, .ref (a 0))]) (vv := vI) (by decide) rfl (wdC_fst cI cJ cZ cL a) (Nat.le_of_ble_eq_true rfl) rfl (fun p e s m args below meth c A C => ?_) r S9 h
  unfold f_A_take
  refine j_aload_n C 0 rfl rfl d_A_take_0 ?_
  refine gC_A_machine C u_242 d_A_take_1 ?_
  refine gnC_M_notes C n_185 d_A_take_4 ?_
  refine j_bnd (fun r21 S22 e23 => ?_)
  refine j_callVi (As := []) (rest := []) C 4 5 Y_O_clearTray u_420 (c_O_clearTray g S e23) rfl rfl ⟨by decide, by decide⟩ rfl rfl rfl rfl (Nat.le_of_ble_eq_true rfl) d_A_take_7 ?_
  exact j_iret C rfl rfl d_A_take_10
def f_O_areStacked_4 (g : Nat) : Nat → Mem → Int32 → Int32 → Option (Mem × (Int32))
  | 0, _, _, _ => none
  | n + 1, S, x1, x2 => if (4 : Int32) ≤ x2 then (some (S, x1)) else (if x1 = 0 then (grd (¬ (x2 < 0 ∨ 4 ≤ x2.toNatClampNeg)) (if (S.1 24 x2.toNatClampNeg) ≤ 0 then (lt (x2 + (1 : Int32)) (fun x25 => f_O_areStacked_4 g n S (0 : Int32) x25)) else (lt (x2 + (1 : Int32)) (fun x26 => f_O_areStacked_4 g n S (1 : Int32) x26)))) else (lt (x2 + (1 : Int32)) (fun x27 => f_O_areStacked_4 g n S (1 : Int32) x27)))
set_option maxRecDepth 100000 in
set_option maxHeartbeats 4000000 in
theorem lp_O_areStacked_4 {l : Launch} {D : va_G} {cI cJ cZ cL : ClassId} {a : Nat → Nat} {p : Program} {e : Env} {s : State} {m : MethodId} {args : Array Value} {below : List Frame} {meth : Method} {c : Code} {A : Nat → Prop} (C : Cx p s m args meth c "AutoTeller$Notes" prog_7_method_10_code 3 (some .boolean) D (tyT cI cJ cZ cL) (wdC cI cJ cZ cL a) A) (g : Nat) {K : (Mem × (Int32)) → Option (Int32 × Mem)} (hx : ∀ (S : Mem) (y : Int32), Tj p l e rm_O_areStacked s m args below meth c D (wdC cI cJ cZ cL a) A 3 vI K (some (S, y)) S 34 [(1, .int y)] []) : ∀ (n : Nat) (S : Mem) (x1 : Int32) (x2 : Int32), Tj p l e rm_O_areStacked s m args below meth c D (wdC cI cJ cZ cL a) A 3 vI K (f_O_areStacked_4 g n S x1 x2) S 4 [(0, .ref (a 4)), (1, .int x1), (2, .int x2)] [] := by
  intro n
  induction n with
  | zero =>
    intro S x1 x2
    exact j_none
  | succ n ih =>
    intro S x1 x2
    rw [f_O_areStacked_4]
    refine j_iload_n C 2 rfl rfl d_O_areStacked_4 ?_
    refine j_iconst (v := 4) C (by decide) d_O_areStacked_5 ?_
    refine j_icmp_ge (tgt := 34) C d_O_areStacked_6 (by decide) (fun h21 => ?_) (fun h21 => ?_)
    · refine j_sub [1] rfl ?_
      exact hx S x1
    · refine j_iload_n C 1 rfl rfl d_O_areStacked_9 ?_
      refine j_if_ne (tgt := 22) C d_O_areStacked_10 (by decide) (fun h22 => ?_) (fun h22 => ?_)
      · refine j_aload_n C 0 rfl rfl d_O_areStacked_13 ?_
        refine gC_O_inStacker C u_125 d_O_areStacked_14 ?_
        refine j_iload_n C 2 rfl rfl d_O_areStacked_17 ?_
        refine j_grd (fun h23 => ?_)
        refine lC_O_inStacker C h23 d_O_areStacked_18 ?_
        refine j_if_le (tgt := 26) C d_O_areStacked_19 (by decide) (fun h24 => ?_) (fun h24 => ?_)
        · refine j_iconst (v := 0) C (by decide) d_O_areStacked_26 ?_
          refine j_istore_n (i := 1) (lv2 := [(1, .int (0 : Int32)), (0, .ref (a 4)), (2, .int x2)]) C rfl (by decide) rfl d_O_areStacked_27 ?_
          refine j_iincN (n2 := 1) (lv2 := fun x25 => [(2, .int x25), (1, .int (0 : Int32)), (0, .ref (a 4))]) C 2 rfl (by decide) (by decide) (fun _ => rfl) d_O_areStacked_28 (fun x25 => ?_)
          refine j_goto (tgt := 4) C d_O_areStacked_31 (by decide) ?_
          refine j_sub [2, 1, 0] rfl ?_
          exact ih S (0 : Int32) x25
        · refine j_iconst (v := 1) C (by decide) d_O_areStacked_22 ?_
          refine j_goto (tgt := 27) C d_O_areStacked_23 (by decide) ?_
          refine j_istore_n (i := 1) (lv2 := [(1, .int (1 : Int32)), (0, .ref (a 4)), (2, .int x2)]) C rfl (by decide) rfl d_O_areStacked_27 ?_
          refine j_iincN (n2 := 1) (lv2 := fun x26 => [(2, .int x26), (1, .int (1 : Int32)), (0, .ref (a 4))]) C 2 rfl (by decide) (by decide) (fun _ => rfl) d_O_areStacked_28 (fun x26 => ?_)
          refine j_goto (tgt := 4) C d_O_areStacked_31 (by decide) ?_
          refine j_sub [2, 1, 0] rfl ?_
          exact ih S (1 : Int32) x26
      · refine j_iconst (v := 1) C (by decide) d_O_areStacked_22 ?_
        refine j_goto (tgt := 27) C d_O_areStacked_23 (by decide) ?_
        refine j_istore_n (i := 1) (lv2 := [(1, .int (1 : Int32)), (0, .ref (a 4)), (2, .int x2)]) C rfl (by decide) rfl d_O_areStacked_27 ?_
        refine j_iincN (n2 := 1) (lv2 := fun x27 => [(2, .int x27), (1, .int (1 : Int32)), (0, .ref (a 4))]) C 2 rfl (by decide) (by decide) (fun _ => rfl) d_O_areStacked_28 (fun x27 => ?_)
        refine j_goto (tgt := 4) C d_O_areStacked_31 (by decide) ?_
        refine j_sub [2, 1, 0] rfl ?_
        exact ih S (1 : Int32) x27
def f_O_areStacked (g : Nat) (S : Mem) : Option (Int32 × Mem) := seqM (f_O_areStacked_4 g g S (0 : Int32) (0 : Int32)) (fun S28 y29 => grd (y29 = 0 ∨ y29 = 1) (some (y29, S28)))
set_option maxRecDepth 100000 in
set_option maxHeartbeats 4000000 in
theorem c_O_areStacked {l : Launch} {D : va_G} {cI cJ cZ cL : ClassId} {a : Nat → Nat} (g : Nat) (S : Mem) {r : Int32} {S9 : Mem} (h : f_O_areStacked g S = some (r, S9)) : Ctr l y_O_areStacked prog_7_method_10_code 3 (some .boolean) rm_O_areStacked D (tyT cI cJ cZ cL) (wdC cI cJ cZ cL a) [.ref (a 4)] S (vI r, S9) := by
  refine Ctr.of (lv0 := [(0, .ref (a 4))]) (vv := vI) (by decide) rfl (wdC_fst cI cJ cZ cL a) (Nat.le_of_ble_eq_true rfl) rfl (fun p e s m args below meth c A C => ?_) r S9 h
  unfold f_O_areStacked
  refine j_iconst (v := 0) C (by decide) d_O_areStacked_0 ?_
  refine j_istore_n (i := 1) (lv2 := [(1, .int (0 : Int32)), (0, .ref (a 4))]) C rfl (by decide) rfl d_O_areStacked_1 ?_
  refine j_iconst (v := 0) C (by decide) d_O_areStacked_2 ?_
  refine j_istore_n (i := 2) (lv2 := [(2, .int (0 : Int32)), (1, .int (0 : Int32)), (0, .ref (a 4))]) C rfl (by decide) rfl d_O_areStacked_3 ?_
  refine j_sub [2, 1, 0] rfl ?_
  refine j_seqM ?_
  refine lp_O_areStacked_4 C g  (fun S28 y29 => ?_) g S (0 : Int32) (0 : Int32)
  refine j_outM ?_
  refine j_iload_n C 0 rfl rfl d_O_areStacked_34 ?_
  refine j_grd (fun h30 => ?_)
  exact j_zret C h30 rfl rfl d_O_areStacked_35
def f_O_emptyStackerInto_inBin_2 (g : Nat) : Nat → Mem → Int32 → Option (Mem × (Unit))
  | 0, _, _ => none
  | n + 1, S, x2 => if (4 : Int32) ≤ x2 then (some (S, ())) else (if (4 : Int32) ≤ x2 then (some (S, ())) else (grd (¬ (x2 < 0 ∨ 4 ≤ x2.toNatClampNeg)) (grd (¬ (x2 < 0 ∨ 4 ≤ x2.toNatClampNeg)) (grd (¬ (x2 < 0 ∨ 4 ≤ x2.toNatClampNeg)) (lt (sI S 26 x2.toNatClampNeg ((S.1 26 x2.toNatClampNeg) + (S.1 24 x2.toNatClampNeg))) (fun S26 => grd (¬ (x2 < 0 ∨ 4 ≤ x2.toNatClampNeg)) (lt (sI S26 24 x2.toNatClampNeg (0 : Int32)) (fun S28 => lt (x2 + (1 : Int32)) (fun x29 => f_O_emptyStackerInto_inBin_2 g n S28 x29)))))))))
set_option maxRecDepth 100000 in
set_option maxHeartbeats 4000000 in
theorem lp_O_emptyStackerInto_inBin_2 {l : Launch} {D : va_G} {cI cJ cZ cL : ClassId} {a : Nat → Nat} {p : Program} {e : Env} {s : State} {m : MethodId} {args : Array Value} {below : List Frame} {meth : Method} {c : Code} {A : Nat → Prop} (C : Cx p s m args meth c "AutoTeller$Notes" prog_7_method_13_code 3 none D (tyT cI cJ cZ cL) (wdC cI cJ cZ cL a) A) (g : Nat) {K : (Mem × (Unit)) → Option (Unit × Mem)} (hx : ∀ (S : Mem) (y : Unit), Tj p l e rm_O_emptyStackerInto_inBin s m args below meth c D (wdC cI cJ cZ cL a) A 3 vV K (some (S, y)) S 38 [] []) : ∀ (n : Nat) (S : Mem) (x2 : Int32), Tj p l e rm_O_emptyStackerInto_inBin s m args below meth c D (wdC cI cJ cZ cL a) A 3 vV K (f_O_emptyStackerInto_inBin_2 g n S x2) S 2 [(0, .ref (a 4)), (1, .ref (a 20)), (2, .int x2)] [] := by
  intro n
  induction n with
  | zero =>
    intro S x2
    exact j_none
  | succ n ih =>
    intro S x2
    rw [f_O_emptyStackerInto_inBin_2]
    refine j_iload_n C 2 rfl rfl d_O_emptyStackerInto_2 ?_
    refine j_iconst (v := 4) C (by decide) d_O_emptyStackerInto_3 ?_
    refine j_icmp_ge (tgt := 38) C d_O_emptyStackerInto_4 (by decide) (fun h21 => ?_) (fun h21 => ?_)
    · refine j_sub [] rfl ?_
      exact hx S ()
    · refine j_iload_n C 2 rfl rfl d_O_emptyStackerInto_7 ?_
      refine j_aload_n C 1 rfl rfl d_O_emptyStackerInto_8 ?_
      refine zC_O_inBin C d_O_emptyStackerInto_9 ?_
      refine j_icmp_ge (tgt := 38) C d_O_emptyStackerInto_10 (by decide) (fun h22 => ?_) (fun h22 => ?_)
      · refine j_sub [] rfl ?_
        exact hx S ()
      · refine j_aload_n C 1 rfl rfl d_O_emptyStackerInto_13 ?_
        refine j_iload_n C 2 rfl rfl d_O_emptyStackerInto_14 ?_
        refine j_dup2 C rfl rfl d_O_emptyStackerInto_15 ?_
        refine j_grd (fun h23 => ?_)
        refine lC_O_inBin C h23 d_O_emptyStackerInto_16 ?_
        refine j_aload_n C 0 rfl rfl d_O_emptyStackerInto_17 ?_
        refine gC_O_inStacker C u_125 d_O_emptyStackerInto_18 ?_
        refine j_iload_n C 2 rfl rfl d_O_emptyStackerInto_21 ?_
        refine j_grd (fun h24 => ?_)
        refine lC_O_inStacker C h24 d_O_emptyStackerInto_22 ?_
        refine j_iadd C d_O_emptyStackerInto_23 ?_
        refine j_grd (fun h25 => ?_)
        refine sC_O_inBin C h25 d_O_emptyStackerInto_24 ?_
        refine j_ltS (fun S26 => ?_)
        refine j_aload_n C 0 rfl rfl d_O_emptyStackerInto_25 ?_
        refine gC_O_inStacker C u_125 d_O_emptyStackerInto_26 ?_
        refine j_iload_n C 2 rfl rfl d_O_emptyStackerInto_29 ?_
        refine j_iconst (v := 0) C (by decide) d_O_emptyStackerInto_30 ?_
        refine j_grd (fun h27 => ?_)
        refine sC_O_inStacker C h27 d_O_emptyStackerInto_31 ?_
        refine j_ltS (fun S28 => ?_)
        refine j_iincN (n2 := 1) (lv2 := fun x29 => [(2, .int x29), (0, .ref (a 4)), (1, .ref (a 20))]) C 2 rfl (by decide) (by decide) (fun _ => rfl) d_O_emptyStackerInto_32 (fun x29 => ?_)
        refine j_goto (tgt := 2) C d_O_emptyStackerInto_35 (by decide) ?_
        refine j_sub [1, 2, 0] rfl ?_
        exact ih S28 x29
def f_O_emptyStackerInto_inBin (g : Nat) (S : Mem) : Option (Unit × Mem) := seqM (f_O_emptyStackerInto_inBin_2 g g S (0 : Int32)) (fun S30 y31 => some ((), S30))
set_option maxRecDepth 100000 in
set_option maxHeartbeats 4000000 in
theorem c_O_emptyStackerInto_inBin {l : Launch} {D : va_G} {cI cJ cZ cL : ClassId} {a : Nat → Nat} (g : Nat) (S : Mem) {r : Unit} {S9 : Mem} (h : f_O_emptyStackerInto_inBin g S = some (r, S9)) : Ctr l y_O_emptyStackerInto prog_7_method_13_code 3 none rm_O_emptyStackerInto_inBin D (tyT cI cJ cZ cL) (wdC cI cJ cZ cL a) [.ref (a 4), .ref (a 20)] S (vV r, S9) := by
  refine Ctr.of (lv0 := [(0, .ref (a 4)), (1, .ref (a 20))]) (vv := vV) (by decide) rfl (wdC_fst cI cJ cZ cL a) (Nat.le_of_ble_eq_true rfl) rfl (fun p e s m args below meth c A C => ?_) r S9 h
  unfold f_O_emptyStackerInto_inBin
  refine j_iconst (v := 0) C (by decide) d_O_emptyStackerInto_0 ?_
  refine j_istore_n (i := 2) (lv2 := [(2, .int (0 : Int32)), (0, .ref (a 4)), (1, .ref (a 20))]) C rfl (by decide) rfl d_O_emptyStackerInto_1 ?_
  refine j_sub [1, 2, 0] rfl ?_
  refine j_seqM ?_
  refine lp_O_emptyStackerInto_inBin_2 C g  (fun S30 y31 => ?_) g S (0 : Int32)
  refine j_outM ?_
  exact j_vret C rfl rfl d_O_emptyStackerInto_38
def f_O_moveStackerToBin (g : Nat) (S : Mem) : Option (Unit × Mem) := bnd (f_O_emptyStackerInto_inBin g S) (fun _ S22 => lt (sI S22 27 0 (0 : Int32)) (fun S24 => some ((), S24)))
set_option maxRecDepth 100000 in
set_option maxHeartbeats 4000000 in
theorem c_O_moveStackerToBin {l : Launch} {D : va_G} {cI cJ cZ cL : ClassId} {a : Nat → Nat} (g : Nat) (S : Mem) {r : Unit} {S9 : Mem} (h : f_O_moveStackerToBin g S = some (r, S9)) : Ctr l y_O_moveStackerToBin prog_7_method_12_code 1 none rm_O_moveStackerToBin D (tyT cI cJ cZ cL) (wdC cI cJ cZ cL a) [.ref (a 4)] S (vV r, S9) := by
  refine Ctr.of (lv0 := [(0, .ref (a 4))]) (vv := vV) (by decide) rfl (wdC_fst cI cJ cZ cL a) (Nat.le_of_ble_eq_true rfl) rfl (fun p e s m args below meth c A C => ?_) r S9 h
  unfold f_O_moveStackerToBin
  refine j_aload_n C 0 rfl rfl d_O_moveStackerToBin_0 ?_
  refine j_aload_n C 0 rfl rfl d_O_moveStackerToBin_1 ?_
  refine gC_O_inBin C u_127 d_O_moveStackerToBin_2 ?_
  refine j_bnd (fun _ S22 e23 => ?_)
  refine j_callVv (As := [.ref (a 20)]) (rest := []) C 4 5 Y_O_emptyStackerInto u_445 (c_O_emptyStackerInto_inBin g S e23) rfl rfl ⟨by decide, by decide⟩ rfl rfl rfl rfl (Nat.le_of_ble_eq_true rfl) d_O_moveStackerToBin_5 ?_
  refine j_aload_n C 0 rfl rfl d_O_moveStackerToBin_8 ?_
  refine j_iconst (v := 0) C (by decide) d_O_moveStackerToBin_9 ?_
  refine pC_O_stackerWorth C u_128 d_O_moveStackerToBin_10 ?_
  refine j_ltS (fun S24 => ?_)
  exact j_vret C rfl rfl d_O_moveStackerToBin_13
def f_M_reverse (g : Nat) (S : Mem) (x1 : Int32) : Option (Unit × Mem) := if x1 = 0 then (bnd (f_O_areStacked g S) (fun r22 S23 => if r22 = 0 then (bnd (f_M_send g S23 (3 : Int32) (S23.1 21 0)) (fun r26 S27 => if r26 = 0 then (some ((), S27)) else (lt (sI S27 14 0 (-1 : Int32)) (fun S30 => lt (sI S30 13 0 (5 : Int32)) (fun S31 => some ((), S31)))))) else (bnd (f_M_mayStep g S23) (fun r32 S33 => if r32 = 0 then (some ((), S33)) else (bnd (f_O_moveStackerToBin g S33) (fun _ S37 => bnd (f_M_send g S37 (3 : Int32) (S37.1 21 0)) (fun r39 S40 => if r39 = 0 then (some ((), S40)) else (lt (sI S40 14 0 (-1 : Int32)) (fun S43 => lt (sI S43 13 0 (5 : Int32)) (fun S44 => some ((), S44))))))))))) else (bnd (f_M_write g S (4 : Int32)) (fun r45 S46 => if r45 = 0 then (some ((), S46)) else (bnd (f_O_areStacked g S46) (fun r49 S50 => if r49 = 0 then (bnd (f_M_send g S50 (3 : Int32) (S50.1 21 0)) (fun r53 S54 => if r53 = 0 then (some ((), S54)) else (lt (sI S54 14 0 (-1 : Int32)) (fun S57 => lt (sI S57 13 0 (5 : Int32)) (fun S58 => some ((), S58)))))) else (bnd (f_M_mayStep g S50) (fun r59 S60 => if r59 = 0 then (some ((), S60)) else (bnd (f_O_moveStackerToBin g S60) (fun _ S64 => bnd (f_M_send g S64 (3 : Int32) (S64.1 21 0)) (fun r66 S67 => if r66 = 0 then (some ((), S67)) else (lt (sI S67 14 0 (-1 : Int32)) (fun S70 => lt (sI S70 13 0 (5 : Int32)) (fun S71 => some ((), S71)))))))))))))
set_option maxRecDepth 100000 in
set_option maxHeartbeats 4000000 in
theorem c_M_reverse {l : Launch} {D : va_G} {cI cJ cZ cL : ClassId} {a : Nat → Nat} (g : Nat) (S : Mem) (x1 : Int32) {r : Unit} {S9 : Mem} (h : f_M_reverse g S x1 = some (r, S9)) : Ctr l y_M_reverse prog_6_method_14_code 2 none rm_M_reverse D (tyT cI cJ cZ cL) (wdC cI cJ cZ cL a) [.ref (a 3), .int x1] S (vV r, S9) := by
  refine Ctr.of (lv0 := [(0, .ref (a 3)), (1, .int x1)]) (vv := vV) (by decide) rfl (wdC_fst cI cJ cZ cL a) (Nat.le_of_ble_eq_true rfl) rfl (fun p e s m args below meth c A C => ?_) r S9 h
  unfold f_M_reverse
  refine j_iload_n C 1 rfl rfl d_M_reverse_0 ?_
  refine j_if_eq (tgt := 13) C d_M_reverse_1 (by decide) (fun h21 => ?_) (fun h21 => ?_)
  · refine j_aload_n C 0 rfl rfl d_M_reverse_13 ?_
    refine gC_M_notes C u_184 d_M_reverse_14 ?_
    refine j_bnd (fun r22 S23 e24 => ?_)
    refine j_callVi (As := []) (rest := []) C 4 5 Y_O_areStacked u_437 (c_O_areStacked g S e24) rfl rfl ⟨by decide, by decide⟩ rfl rfl rfl rfl (Nat.le_of_ble_eq_true rfl) d_M_reverse_17 ?_
    refine j_if_eq (tgt := 38) C d_M_reverse_20 (by decide) (fun h25 => ?_) (fun h25 => ?_)
    · refine j_aload_n C 0 rfl rfl d_M_reverse_38 ?_
      refine j_iconst (v := 3) C (by decide) d_M_reverse_39 ?_
      refine j_aload_n C 0 rfl rfl d_M_reverse_40 ?_
      refine gC_M_amountAtHand C u_205 d_M_reverse_41 ?_
      refine j_bnd (fun r26 S27 e28 => ?_)
      refine j_callVi (As := [.int (3 : Int32), .int (S23.1 21 0)]) (rest := []) C 3 4 Y_M_send u_326 (c_M_send g S23 (3 : Int32) (S23.1 21 0) e28) rfl rfl ⟨by decide, by decide⟩ rfl rfl rfl rfl (Nat.le_of_ble_eq_true rfl) d_M_reverse_44 ?_
      refine j_if_eq (tgt := 60) C d_M_reverse_47 (by decide) (fun h29 => ?_) (fun h29 => ?_)
      · exact j_vret C rfl rfl d_M_reverse_60
      · refine j_aload_n C 0 rfl rfl d_M_reverse_50 ?_
        refine j_iconst (v := -1) C (by decide) d_M_reverse_51 ?_
        refine pC_M_slot C u_194 d_M_reverse_52 ?_
        refine j_ltS (fun S30 => ?_)
        refine j_aload_n C 0 rfl rfl d_M_reverse_55 ?_
        refine j_iconst (v := 5) C (by decide) d_M_reverse_56 ?_
        refine pC_M_phase C u_192 d_M_reverse_57 ?_
        refine j_ltS (fun S31 => ?_)
        exact j_vret C rfl rfl d_M_reverse_60
    · refine j_aload_n C 0 rfl rfl d_M_reverse_23 ?_
      refine j_bnd (fun r32 S33 e34 => ?_)
      refine j_callVi (As := []) (rest := []) C 3 4 Y_M_mayStep u_330 (c_M_mayStep g S23 e34) rfl rfl ⟨by decide, by decide⟩ rfl rfl rfl rfl (Nat.le_of_ble_eq_true rfl) d_M_reverse_24 ?_
      refine j_if_ne (tgt := 31) C d_M_reverse_27 (by decide) (fun h35 => ?_) (fun h35 => ?_)
      · exact j_vret C rfl rfl d_M_reverse_30
      · refine j_aload_n C 0 rfl rfl d_M_reverse_31 ?_
        refine gC_M_notes C u_184 d_M_reverse_32 ?_
        refine j_bnd (fun _ S37 e38 => ?_)
        refine j_callVv (As := []) (rest := []) C 4 5 Y_O_moveStackerToBin u_441 (c_O_moveStackerToBin g S33 e38) rfl rfl ⟨by decide, by decide⟩ rfl rfl rfl rfl (Nat.le_of_ble_eq_true rfl) d_M_reverse_35 ?_
        refine j_aload_n C 0 rfl rfl d_M_reverse_38 ?_
        refine j_iconst (v := 3) C (by decide) d_M_reverse_39 ?_
        refine j_aload_n C 0 rfl rfl d_M_reverse_40 ?_
        refine gC_M_amountAtHand C u_205 d_M_reverse_41 ?_
        refine j_bnd (fun r39 S40 e41 => ?_)
        refine j_callVi (As := [.int (3 : Int32), .int (S37.1 21 0)]) (rest := []) C 3 4 Y_M_send u_326 (c_M_send g S37 (3 : Int32) (S37.1 21 0) e41) rfl rfl ⟨by decide, by decide⟩ rfl rfl rfl rfl (Nat.le_of_ble_eq_true rfl) d_M_reverse_44 ?_
        refine j_if_eq (tgt := 60) C d_M_reverse_47 (by decide) (fun h42 => ?_) (fun h42 => ?_)
        · exact j_vret C rfl rfl d_M_reverse_60
        · refine j_aload_n C 0 rfl rfl d_M_reverse_50 ?_
          refine j_iconst (v := -1) C (by decide) d_M_reverse_51 ?_
          refine pC_M_slot C u_194 d_M_reverse_52 ?_
          refine j_ltS (fun S43 => ?_)
          refine j_aload_n C 0 rfl rfl d_M_reverse_55 ?_
          refine j_iconst (v := 5) C (by decide) d_M_reverse_56 ?_
          refine pC_M_phase C u_192 d_M_reverse_57 ?_
          refine j_ltS (fun S44 => ?_)
          exact j_vret C rfl rfl d_M_reverse_60
  · refine j_aload_n C 0 rfl rfl d_M_reverse_4 ?_
    refine j_iconst (v := 4) C (by decide) d_M_reverse_5 ?_
    refine j_bnd (fun r45 S46 e47 => ?_)
    refine j_callVi (As := [.int (4 : Int32)]) (rest := []) C 3 4 Y_M_write u_391 (c_M_write g S (4 : Int32) e47) rfl rfl ⟨by decide, by decide⟩ rfl rfl rfl rfl (Nat.le_of_ble_eq_true rfl) d_M_reverse_6 ?_
    refine j_if_ne (tgt := 13) C d_M_reverse_9 (by decide) (fun h48 => ?_) (fun h48 => ?_)
    · exact j_vret C rfl rfl d_M_reverse_12
    · refine j_aload_n C 0 rfl rfl d_M_reverse_13 ?_
      refine gC_M_notes C u_184 d_M_reverse_14 ?_
      refine j_bnd (fun r49 S50 e51 => ?_)
      refine j_callVi (As := []) (rest := []) C 4 5 Y_O_areStacked u_437 (c_O_areStacked g S46 e51) rfl rfl ⟨by decide, by decide⟩ rfl rfl rfl rfl (Nat.le_of_ble_eq_true rfl) d_M_reverse_17 ?_
      refine j_if_eq (tgt := 38) C d_M_reverse_20 (by decide) (fun h52 => ?_) (fun h52 => ?_)
      · refine j_aload_n C 0 rfl rfl d_M_reverse_38 ?_
        refine j_iconst (v := 3) C (by decide) d_M_reverse_39 ?_
        refine j_aload_n C 0 rfl rfl d_M_reverse_40 ?_
        refine gC_M_amountAtHand C u_205 d_M_reverse_41 ?_
        refine j_bnd (fun r53 S54 e55 => ?_)
        refine j_callVi (As := [.int (3 : Int32), .int (S50.1 21 0)]) (rest := []) C 3 4 Y_M_send u_326 (c_M_send g S50 (3 : Int32) (S50.1 21 0) e55) rfl rfl ⟨by decide, by decide⟩ rfl rfl rfl rfl (Nat.le_of_ble_eq_true rfl) d_M_reverse_44 ?_
        refine j_if_eq (tgt := 60) C d_M_reverse_47 (by decide) (fun h56 => ?_) (fun h56 => ?_)
        · exact j_vret C rfl rfl d_M_reverse_60
        · refine j_aload_n C 0 rfl rfl d_M_reverse_50 ?_
          refine j_iconst (v := -1) C (by decide) d_M_reverse_51 ?_
          refine pC_M_slot C u_194 d_M_reverse_52 ?_
          refine j_ltS (fun S57 => ?_)
          refine j_aload_n C 0 rfl rfl d_M_reverse_55 ?_
          refine j_iconst (v := 5) C (by decide) d_M_reverse_56 ?_
          refine pC_M_phase C u_192 d_M_reverse_57 ?_
          refine j_ltS (fun S58 => ?_)
          exact j_vret C rfl rfl d_M_reverse_60
      · refine j_aload_n C 0 rfl rfl d_M_reverse_23 ?_
        refine j_bnd (fun r59 S60 e61 => ?_)
        refine j_callVi (As := []) (rest := []) C 3 4 Y_M_mayStep u_330 (c_M_mayStep g S50 e61) rfl rfl ⟨by decide, by decide⟩ rfl rfl rfl rfl (Nat.le_of_ble_eq_true rfl) d_M_reverse_24 ?_
        refine j_if_ne (tgt := 31) C d_M_reverse_27 (by decide) (fun h62 => ?_) (fun h62 => ?_)
        · exact j_vret C rfl rfl d_M_reverse_30
        · refine j_aload_n C 0 rfl rfl d_M_reverse_31 ?_
          refine gC_M_notes C u_184 d_M_reverse_32 ?_
          refine j_bnd (fun _ S64 e65 => ?_)
          refine j_callVv (As := []) (rest := []) C 4 5 Y_O_moveStackerToBin u_441 (c_O_moveStackerToBin g S60 e65) rfl rfl ⟨by decide, by decide⟩ rfl rfl rfl rfl (Nat.le_of_ble_eq_true rfl) d_M_reverse_35 ?_
          refine j_aload_n C 0 rfl rfl d_M_reverse_38 ?_
          refine j_iconst (v := 3) C (by decide) d_M_reverse_39 ?_
          refine j_aload_n C 0 rfl rfl d_M_reverse_40 ?_
          refine gC_M_amountAtHand C u_205 d_M_reverse_41 ?_
          refine j_bnd (fun r66 S67 e68 => ?_)
          refine j_callVi (As := [.int (3 : Int32), .int (S64.1 21 0)]) (rest := []) C 3 4 Y_M_send u_326 (c_M_send g S64 (3 : Int32) (S64.1 21 0) e68) rfl rfl ⟨by decide, by decide⟩ rfl rfl rfl rfl (Nat.le_of_ble_eq_true rfl) d_M_reverse_44 ?_
          refine j_if_eq (tgt := 60) C d_M_reverse_47 (by decide) (fun h69 => ?_) (fun h69 => ?_)
          · exact j_vret C rfl rfl d_M_reverse_60
          · refine j_aload_n C 0 rfl rfl d_M_reverse_50 ?_
            refine j_iconst (v := -1) C (by decide) d_M_reverse_51 ?_
            refine pC_M_slot C u_194 d_M_reverse_52 ?_
            refine j_ltS (fun S70 => ?_)
            refine j_aload_n C 0 rfl rfl d_M_reverse_55 ?_
            refine j_iconst (v := 5) C (by decide) d_M_reverse_56 ?_
            refine pC_M_phase C u_192 d_M_reverse_57 ?_
            refine j_ltS (fun S71 => ?_)
            exact j_vret C rfl rfl d_M_reverse_60
def f_M_endWaiting (g : Nat) (S : Mem) : Option (Int32 × Mem) := if (S.1 11 0) = 0 then (some ((0 : Int32), S)) else (lt (S.1 13 0) (fun x22 => if x22 = (2 : Int32) then (bnd (f_M_endWithoutCard g S) (fun _ S25 => some ((1 : Int32), S25))) else (if x22 = (3 : Int32) then (some ((0 : Int32), S)) else (if x22 = (4 : Int32) then (bnd (f_M_reverse g S (1 : Int32)) (fun _ S30 => some ((1 : Int32), S30))) else (if x22 = (5 : Int32) then (bnd (f_M_send g S (3 : Int32) (S.1 21 0)) (fun r33 S34 => some ((1 : Int32), S34))) else (some ((0 : Int32), S)))))))
set_option maxRecDepth 100000 in
set_option maxHeartbeats 4000000 in
theorem c_M_endWaiting {l : Launch} {D : va_G} {cI cJ cZ cL : ClassId} {a : Nat → Nat} (g : Nat) (S : Mem) {r : Int32} {S9 : Mem} (h : f_M_endWaiting g S = some (r, S9)) : Ctr l y_M_endWaiting prog_6_method_8_code 1 (some .boolean) rm_M_endWaiting D (tyT cI cJ cZ cL) (wdC cI cJ cZ cL a) [.ref (a 3)] S (vI r, S9) := by
  refine Ctr.of (lv0 := [(0, .ref (a 3))]) (vv := vI) (by decide) rfl (wdC_fst cI cJ cZ cL a) (Nat.le_of_ble_eq_true rfl) rfl (fun p e s m args below meth c A C => ?_) r S9 h
  unfold f_M_endWaiting
  refine j_aload_n C 0 rfl rfl d_M_endWaiting_0 ?_
  refine gC_M_on C u_189 d_M_endWaiting_1 ?_
  refine j_if_ne (tgt := 9) C d_M_endWaiting_4 (by decide) (fun h21 => ?_) (fun h21 => ?_)
  · refine j_iconst (v := 0) C (by decide) d_M_endWaiting_7 ?_
    exact j_zret C (Or.inl rfl) rfl rfl d_M_endWaiting_8
  · refine j_aload_n C 0 rfl rfl d_M_endWaiting_9 ?_
    refine gC_M_phase C u_192 d_M_endWaiting_10 ?_
    refine j_lti (fun x22 => ?_)
    refine j_if (fun h23 => ?_) (fun h23 => ?_)
    · refine j_tabIn (off := 31) (tgt := 44) C d_M_endWaiting_13 (by rw [h23]; decide) (by rw [h23]; decide) (by rw [h23]; rfl) (by decide) ?_
      refine j_aload_n C 0 rfl rfl d_M_endWaiting_44 ?_
      refine j_bnd (fun _ S25 e26 => ?_)
      refine j_callVv (As := []) (rest := []) C 3 4 Y_M_endWithoutCard u_412 (c_M_endWithoutCard g S e26) rfl rfl ⟨by decide, by decide⟩ rfl rfl rfl rfl (Nat.le_of_ble_eq_true rfl) d_M_endWaiting_45 ?_
      refine j_iconst (v := 1) C (by decide) d_M_endWaiting_48 ?_
      exact j_zret C (Or.inr rfl) rfl rfl d_M_endWaiting_49
    refine j_if (fun h27 => ?_) (fun h27 => ?_)
    · refine j_tabIn (off := 56) (tgt := 69) C d_M_endWaiting_13 (by rw [h27]; decide) (by rw [h27]; decide) (by rw [h27]; rfl) (by decide) ?_
      refine j_iconst (v := 0) C (by decide) d_M_endWaiting_69 ?_
      exact j_zret C (Or.inl rfl) rfl rfl d_M_endWaiting_70
    refine j_if (fun h28 => ?_) (fun h28 => ?_)
    · refine j_tabIn (off := 37) (tgt := 50) C d_M_endWaiting_13 (by rw [h28]; decide) (by rw [h28]; decide) (by rw [h28]; rfl) (by decide) ?_
      refine j_aload_n C 0 rfl rfl d_M_endWaiting_50 ?_
      refine j_iconst (v := 1) C (by decide) d_M_endWaiting_51 ?_
      refine j_bnd (fun _ S30 e31 => ?_)
      refine j_callVv (As := [.int (1 : Int32)]) (rest := []) C 3 4 Y_M_reverse u_433 (c_M_reverse g S (1 : Int32) e31) rfl rfl ⟨by decide, by decide⟩ rfl rfl rfl rfl (Nat.le_of_ble_eq_true rfl) d_M_endWaiting_52 ?_
      refine j_iconst (v := 1) C (by decide) d_M_endWaiting_55 ?_
      exact j_zret C (Or.inr rfl) rfl rfl d_M_endWaiting_56
    refine j_if (fun h32 => ?_) (fun h32 => ?_)
    · refine j_tabIn (off := 44) (tgt := 57) C d_M_endWaiting_13 (by rw [h32]; decide) (by rw [h32]; decide) (by rw [h32]; rfl) (by decide) ?_
      refine j_aload_n C 0 rfl rfl d_M_endWaiting_57 ?_
      refine j_iconst (v := 3) C (by decide) d_M_endWaiting_58 ?_
      refine j_aload_n C 0 rfl rfl d_M_endWaiting_59 ?_
      refine gC_M_amountAtHand C u_205 d_M_endWaiting_60 ?_
      refine j_bnd (fun r33 S34 e35 => ?_)
      refine j_callVi (As := [.int (3 : Int32), .int (S.1 21 0)]) (rest := []) C 3 4 Y_M_send u_326 (c_M_send g S (3 : Int32) (S.1 21 0) e35) rfl rfl ⟨by decide, by decide⟩ rfl rfl rfl rfl (Nat.le_of_ble_eq_true rfl) d_M_endWaiting_63 ?_
      refine j_pop C rfl d_M_endWaiting_66 ?_
      refine j_iconst (v := 1) C (by decide) d_M_endWaiting_67 ?_
      exact j_zret C (Or.inr rfl) rfl rfl d_M_endWaiting_68
    refine j_tabOut (tgt := 69) C d_M_endWaiting_13 (by have gh23 : x22.toInt ≠ 2 := fun z => h23 (Int32.toInt_inj.mp (z.trans (by decide))); have gh27 : x22.toInt ≠ 3 := fun z => h27 (Int32.toInt_inj.mp (z.trans (by decide))); have gh28 : x22.toInt ≠ 4 := fun z => h28 (Int32.toInt_inj.mp (z.trans (by decide))); have gh32 : x22.toInt ≠ 5 := fun z => h32 (Int32.toInt_inj.mp (z.trans (by decide))); omega) (by decide) ?_
    refine j_iconst (v := 0) C (by decide) d_M_endWaiting_69 ?_
    exact j_zret C (Or.inl rfl) rfl rfl d_M_endWaiting_70
def f_A_timeout (g : Nat) (S : Mem) : Option (Int32 × Mem) := bnd (f_M_endWaiting g S) (fun r21 S22 => grd (r21 = 0 ∨ r21 = 1) (some (r21, S22)))
set_option maxRecDepth 100000 in
set_option maxHeartbeats 4000000 in
theorem c_A_timeout {l : Launch} {D : va_G} {cI cJ cZ cL : ClassId} {a : Nat → Nat} (g : Nat) (S : Mem) {r : Int32} {S9 : Mem} (h : f_A_timeout g S = some (r, S9)) : Ctr l y_A_timeout prog_1_method_10_code 1 (some .boolean) rm_A_timeout D (tyT cI cJ cZ cL) (wdC cI cJ cZ cL a) [.ref (a 0)] S (vI r, S9) := by
  refine Ctr.of (lv0 := [(0, .ref (a 0))]) (vv := vI) (by decide) rfl (wdC_fst cI cJ cZ cL a) (Nat.le_of_ble_eq_true rfl) rfl (fun p e s m args below meth c A C => ?_) r S9 h
  unfold f_A_timeout
  refine j_aload_n C 0 rfl rfl d_A_timeout_0 ?_
  refine gC_A_machine C u_242 d_A_timeout_1 ?_
  refine j_bnd (fun r21 S22 e23 => ?_)
  refine j_callVi (As := []) (rest := []) C 3 4 Y_M_endWaiting u_429 (c_M_endWaiting g S e23) rfl rfl ⟨by decide, by decide⟩ rfl rfl rfl rfl (Nat.le_of_ble_eq_true rfl) d_A_timeout_4 ?_
  refine j_grd (fun h24 => ?_)
  exact j_zret C h24 rfl rfl d_A_timeout_7
def f_E_copyFrom (g : Nat) (j0 : Nat) (j1 : Nat) (S : Mem) : Option (Unit × Mem) := lt (sK S j0 (va_cpy (S.2.2.2.2 j1) (S.2.2.2.2 j0) 0 0 13)) (fun S21 => grd ((S21.2.2.2.1 j1) = 0 ∨ (S21.2.2.2.1 j1) = 1) (lt (sF S21 j0 (S21.2.2.2.1 j1)) (fun S23 => some ((), S23))))
set_option maxRecDepth 100000 in
set_option maxHeartbeats 4000000 in
theorem c_E_copyFrom {l : Launch} {D : va_G} {cI cJ cZ cL : ClassId} {a : Nat → Nat} (g : Nat) (j0 : Nat) (hj0 : j0 < 25) (j1 : Nat) (hj1 : j1 < 25) (S : Mem) {r : Unit} {S9 : Mem} (h : f_E_copyFrom g j0 j1 S = some (r, S9)) : Ctr l y_E_copyFrom prog_4_method_3_code 2 none rm_E_copyFrom D (tyT cI cJ cZ cL) (wdC cI cJ cZ cL a) [.ref (a (100 + j0)), .ref (a (100 + j1))] S (vV r, S9) := by
  refine Ctr.of (lv0 := [(0, .ref (a (100 + j0))), (1, .ref (a (100 + j1)))]) (vv := vV) (by decide) rfl (wdC_fst cI cJ cZ cL a) (Nat.le_of_ble_eq_true rfl) rfl (fun p e s m args below meth c A C => ?_) r S9 h
  unfold f_E_copyFrom
  refine j_aload_n C 1 rfl rfl d_E_copyFrom_0 ?_
  refine gC_E_bytes C hj1 u_33 d_E_copyFrom_1 ?_
  refine j_iconst (v := 0) C (by decide) d_E_copyFrom_4 ?_
  refine j_aload_n C 0 rfl rfl d_E_copyFrom_5 ?_
  refine gC_E_bytes C hj0 u_33 d_E_copyFrom_6 ?_
  refine j_iconst (v := 0) C (by decide) d_E_copyFrom_9 ?_
  refine j_bipush (v := 13) C (by decide) d_E_copyFrom_10 ?_
  refine kC_copy C hj0 hj1 u_462 u_464 u_463 u_11 (by decide) (by decide +kernel) d_E_copyFrom_12 ?_
  refine j_ltS (fun S21 => ?_)
  refine j_aload_n C 0 rfl rfl d_E_copyFrom_15 ?_
  refine j_aload_n C 1 rfl rfl d_E_copyFrom_16 ?_
  refine gC_E_forHost C hj1 u_35 d_E_copyFrom_17 ?_
  refine j_grd (fun h22 => ?_)
  refine pC_E_forHost C hj0 h22 u_35 d_E_copyFrom_20 ?_
  refine j_ltS (fun S23 => ?_)
  exact j_vret C rfl rfl d_E_copyFrom_23
def f_N_copyTo (g : Nat) (j2 : Nat) (S : Mem) (x1 : Int32) : Option (Unit × Mem) := bnd (f_N_has g S x1) (fun r21 S22 => if r21 = 0 then (some ((), S22)) else (grd (¬ (x1 < 0 ∨ 24 ≤ x1.toNatClampNeg)) (lt (S22.2.2.1 x1.toNatClampNeg) (fun j26 => grd (j26 < 25) (bnd (f_E_copyFrom g j2 j26 S22) (fun _ S28 => some ((), S28)))))))
set_option maxRecDepth 100000 in
set_option maxHeartbeats 4000000 in
theorem c_N_copyTo {l : Launch} {D : va_G} {cI cJ cZ cL : ClassId} {a : Nat → Nat} (g : Nat) (j2 : Nat) (hj2 : j2 < 25) (S : Mem) (x1 : Int32) {r : Unit} {S9 : Mem} (h : f_N_copyTo g j2 S x1 = some (r, S9)) : Ctr l y_N_copyTo prog_5_method_4_code 3 none rm_N_copyTo D (tyT cI cJ cZ cL) (wdC cI cJ cZ cL a) [.ref (a 1), .int x1, .ref (a (100 + j2))] S (vV r, S9) := by
  refine Ctr.of (lv0 := [(0, .ref (a 1)), (1, .int x1), (2, .ref (a (100 + j2)))]) (vv := vV) (by decide) rfl (wdC_fst cI cJ cZ cL a) (Nat.le_of_ble_eq_true rfl) rfl (fun p e s m args below meth c A C => ?_) r S9 h
  unfold f_N_copyTo
  refine j_aload_n C 0 rfl rfl d_N_copyTo_0 ?_
  refine j_iload_n C 1 rfl rfl d_N_copyTo_1 ?_
  refine j_bnd (fun r21 S22 e23 => ?_)
  refine j_callVi (As := [.int x1]) (rest := []) C 1 3 Y_N_has u_342 (c_N_has g S x1 e23) rfl rfl ⟨by decide, by decide⟩ rfl rfl rfl rfl (Nat.le_of_ble_eq_true rfl) d_N_copyTo_2 ?_
  refine j_if_eq (tgt := 18) C d_N_copyTo_5 (by decide) (fun h24 => ?_) (fun h24 => ?_)
  · exact j_vret C rfl rfl d_N_copyTo_18
  · refine j_aload_n C 2 rfl rfl d_N_copyTo_8 ?_
    refine j_aload_n C 0 rfl rfl d_N_copyTo_9 ?_
    refine gC_N_letters C u_44 d_N_copyTo_10 ?_
    refine j_iload_n C 1 rfl rfl d_N_copyTo_13 ?_
    refine j_grd (fun h25 => ?_)
    refine lC_N_letters C h25 d_N_copyTo_14 ?_
    refine j_ltE (fun j26 => ?_)
    refine j_grd (fun hj26 => ?_)
    refine j_bnd (fun _ S28 e29 => ?_)
    refine j_callVv (As := [.ref (a (100 + j26))]) (rest := []) C (26 + j2) 2 Y_E_copyFrom u_458 (c_E_copyFrom g j2 hj2 j26 hj26 S22 e29) rfl rfl ⟨by decide, by decide⟩ rfl (wdC_E hj2) rfl rfl (Nat.le_of_ble_eq_true rfl) d_N_copyTo_15 ?_
    exact j_vret C rfl rfl d_N_copyTo_18
def f_E_isSound (g : Nat) (j0 : Nat) (S : Mem) : Option (Int32 × Mem) := bnd (f_E_reckonCheck g j0 S) (fun r21 S22 => if r21 = (((S22.2.2.2.2 j0 ((11 : Int32).toNatClampNeg)) * (256 : Int32)) + (S22.2.2.2.2 j0 ((12 : Int32).toNatClampNeg))) then (some ((1 : Int32), S22)) else (some ((0 : Int32), S22)))
set_option maxRecDepth 100000 in
set_option maxHeartbeats 4000000 in
theorem c_E_isSound {l : Launch} {D : va_G} {cI cJ cZ cL : ClassId} {a : Nat → Nat} (g : Nat) (j0 : Nat) (hj0 : j0 < 25) (S : Mem) {r : Int32} {S9 : Mem} (h : f_E_isSound g j0 S = some (r, S9)) : Ctr l y_E_isSound prog_4_method_9_code 1 (some .boolean) rm_E_isSound D (tyT cI cJ cZ cL) (wdC cI cJ cZ cL a) [.ref (a (100 + j0))] S (vI r, S9) := by
  refine Ctr.of (lv0 := [(0, .ref (a (100 + j0)))]) (vv := vI) (by decide) rfl (wdC_fst cI cJ cZ cL a) (Nat.le_of_ble_eq_true rfl) rfl (fun p e s m args below meth c A C => ?_) r S9 h
  unfold f_E_isSound
  refine j_aload_n C 0 rfl rfl d_E_isSound_0 ?_
  refine j_bnd (fun r21 S22 e23 => ?_)
  refine j_callVi (As := []) (rest := []) C (26 + j0) 2 Y_E_reckonCheck u_354 (c_E_reckonCheck g j0 hj0 S e23) rfl rfl ⟨by decide, by decide⟩ rfl (wdC_E hj0) rfl rfl (Nat.le_of_ble_eq_true rfl) d_E_isSound_1 ?_
  refine j_aload_n C 0 rfl rfl d_E_isSound_4 ?_
  refine gC_E_bytes C hj0 u_33 d_E_isSound_5 ?_
  refine j_bipush (v := 11) C (by decide) d_E_isSound_8 ?_
  refine lC_bytes C hj0 (by decide) d_E_isSound_10 ?_
  refine j_sipush (v := 256) C (by decide) d_E_isSound_11 ?_
  refine j_imul C d_E_isSound_14 ?_
  refine j_aload_n C 0 rfl rfl d_E_isSound_15 ?_
  refine gC_E_bytes C hj0 u_33 d_E_isSound_16 ?_
  refine j_bipush (v := 12) C (by decide) d_E_isSound_19 ?_
  refine lC_bytes C hj0 (by decide) d_E_isSound_21 ?_
  refine j_iadd C d_E_isSound_22 ?_
  refine j_icmp_ne (tgt := 30) C d_E_isSound_23 (by decide) (fun h24 => ?_) (fun h24 => ?_)
  · refine j_iconst (v := 1) C (by decide) d_E_isSound_26 ?_
    refine j_goto (tgt := 31) C d_E_isSound_27 (by decide) ?_
    exact j_zret C (Or.inr rfl) rfl rfl d_E_isSound_31
  · refine j_iconst (v := 0) C (by decide) d_E_isSound_30 ?_
    exact j_zret C (Or.inl rfl) rfl rfl d_E_isSound_31
def f_E_readNumber_5 (g : Nat) (j0 : Nat) : Nat → Mem → Int32 → Int64 → Int32 → Option (Mem × (Int64))
  | 0, _, _, _, _ => none
  | n + 1, S, x1, x2, x4 => if (4 : Int32) ≤ x4 then (some (S, x2)) else (if (13 : Int32) ≤ (x1 + x4) then (some (S, x2)) else (grd (¬ ((x1 + x4) < 0 ∨ 13 ≤ (x1 + x4).toNatClampNeg)) (lt ((x2 * (256 : Int64)) + ((S.2.2.2.2 j0 ((x1 + x4).toNatClampNeg)).toInt64)) (fun x24 => lt (x4 + (1 : Int32)) (fun x25 => f_E_readNumber_5 g j0 n S x1 x24 x25)))))
set_option maxRecDepth 100000 in
set_option maxHeartbeats 4000000 in
theorem lp_E_readNumber_5 {l : Launch} {D : va_G} {cI cJ cZ cL : ClassId} {a : Nat → Nat} {p : Program} {e : Env} {s : State} {m : MethodId} {args : Array Value} {below : List Frame} {meth : Method} {c : Code} {A : Nat → Prop} (C : Cx p s m args meth c "AutoTeller$Letter" prog_4_method_12_code 5 (some .long) D (tyT cI cJ cZ cL) (wdC cI cJ cZ cL a) A) (g : Nat) (j0 : Nat) (hj0 : j0 < 25) {K : (Mem × (Int64)) → Option (Int64 × Mem)} (hx : ∀ (S : Mem) (y : Int64), Tj p l e rm_E_readNumber s m args below meth c D (wdC cI cJ cZ cL a) A 5 vL K (some (S, y)) S 43 [(2, .long y)] []) : ∀ (n : Nat) (S : Mem) (x1 : Int32) (x2 : Int64) (x4 : Int32), Tj p l e rm_E_readNumber s m args below meth c D (wdC cI cJ cZ cL a) A 5 vL K (f_E_readNumber_5 g j0 n S x1 x2 x4) S 5 [(0, .ref (a (100 + j0))), (1, .int x1), (2, .long x2), (4, .int x4)] [] := by
  intro n
  induction n with
  | zero =>
    intro S x1 x2 x4
    exact j_none
  | succ n ih =>
    intro S x1 x2 x4
    rw [f_E_readNumber_5]
    refine j_iload C 3 rfl d_E_readNumber_5 ?_
    refine j_iconst (v := 4) C (by decide) d_E_readNumber_7 ?_
    refine j_icmp_ge (tgt := 43) C d_E_readNumber_8 (by decide) (fun h21 => ?_) (fun h21 => ?_)
    · refine j_sub [2] rfl ?_
      exact hx S x2
    · refine j_iload_n C 1 rfl rfl d_E_readNumber_11 ?_
      refine j_iload C 3 rfl d_E_readNumber_12 ?_
      refine j_iadd C d_E_readNumber_14 ?_
      refine j_bipush (v := 13) C (by decide) d_E_readNumber_15 ?_
      refine j_icmp_ge (tgt := 43) C d_E_readNumber_17 (by decide) (fun h22 => ?_) (fun h22 => ?_)
      · refine j_sub [2] rfl ?_
        exact hx S x2
      · refine j_lload_n C 2 rfl rfl d_E_readNumber_20 ?_
        refine j_ldc2 (v := 256) C u_489 d_E_readNumber_21 ?_
        refine j_lmul C d_E_readNumber_24 ?_
        refine j_aload_n C 0 rfl rfl d_E_readNumber_25 ?_
        refine gC_E_bytes C hj0 u_33 d_E_readNumber_26 ?_
        refine j_iload_n C 1 rfl rfl d_E_readNumber_29 ?_
        refine j_iload C 3 rfl d_E_readNumber_30 ?_
        refine j_iadd C d_E_readNumber_32 ?_
        refine j_grd (fun h23 => ?_)
        refine lC_bytes C hj0 h23 d_E_readNumber_33 ?_
        refine j_i2l C d_E_readNumber_34 ?_
        refine j_ladd C d_E_readNumber_35 ?_
        refine j_ltl (fun x24 => ?_)
        refine j_lstore_n (i := 2) (lv2 := [(2, .long x24), (0, .ref (a (100 + j0))), (1, .int x1), (4, .int x4)]) C rfl (by decide) rfl d_E_readNumber_36 ?_
        refine j_iincN (n2 := 1) (lv2 := fun x25 => [(4, .int x25), (2, .long x24), (0, .ref (a (100 + j0))), (1, .int x1)]) C 3 rfl (by decide) (by decide) (fun _ => rfl) d_E_readNumber_37 (fun x25 => ?_)
        refine j_goto (tgt := 5) C d_E_readNumber_40 (by decide) ?_
        refine j_sub [2, 3, 1, 0] rfl ?_
        exact ih S x1 x24 x25
def f_E_readNumber (g : Nat) (j0 : Nat) (S : Mem) (x1 : Int32) : Option (Int64 × Mem) := seqM (f_E_readNumber_5 g j0 g S x1 (0 : Int64) (0 : Int32)) (fun S26 y27 => some (y27, S26))
set_option maxRecDepth 100000 in
set_option maxHeartbeats 4000000 in
theorem c_E_readNumber {l : Launch} {D : va_G} {cI cJ cZ cL : ClassId} {a : Nat → Nat} (g : Nat) (j0 : Nat) (hj0 : j0 < 25) (S : Mem) (x1 : Int32) {r : Int64} {S9 : Mem} (h : f_E_readNumber g j0 S x1 = some (r, S9)) : Ctr l y_E_readNumber prog_4_method_12_code 5 (some .long) rm_E_readNumber D (tyT cI cJ cZ cL) (wdC cI cJ cZ cL a) [.ref (a (100 + j0)), .int x1] S (vL r, S9) := by
  refine Ctr.of (lv0 := [(0, .ref (a (100 + j0))), (1, .int x1)]) (vv := vL) (by decide) rfl (wdC_fst cI cJ cZ cL a) (Nat.le_of_ble_eq_true rfl) rfl (fun p e s m args below meth c A C => ?_) r S9 h
  unfold f_E_readNumber
  refine j_lconst (v := 0) C rfl d_E_readNumber_0 ?_
  refine j_lstore_n (i := 2) (lv2 := [(2, .long (0 : Int64)), (0, .ref (a (100 + j0))), (1, .int x1)]) C rfl (by decide) rfl d_E_readNumber_1 ?_
  refine j_iconst (v := 0) C (by decide) d_E_readNumber_2 ?_
  refine j_istore (i := 4) (lv2 := [(4, .int (0 : Int32)), (2, .long (0 : Int64)), (0, .ref (a (100 + j0))), (1, .int x1)]) C (by decide) rfl d_E_readNumber_3 ?_
  refine j_sub [2, 3, 1, 0] rfl ?_
  refine j_seqM ?_
  refine lp_E_readNumber_5 C g j0 hj0 (fun S26 y27 => ?_) g S x1 (0 : Int64) (0 : Int32)
  refine j_outM ?_
  refine j_lload_n C 0 rfl rfl d_E_readNumber_43 ?_
  exact j_lret C rfl rfl d_E_readNumber_44
def f_E_trace (g : Nat) (j0 : Nat) (S : Mem) : Option (Int64 × Mem) := bnd (f_E_readNumber g j0 S (1 : Int32)) (fun r21 S22 => some (r21, S22))
set_option maxRecDepth 100000 in
set_option maxHeartbeats 4000000 in
theorem c_E_trace {l : Launch} {D : va_G} {cI cJ cZ cL : ClassId} {a : Nat → Nat} (g : Nat) (j0 : Nat) (hj0 : j0 < 25) (S : Mem) {r : Int64} {S9 : Mem} (h : f_E_trace g j0 S = some (r, S9)) : Ctr l y_E_trace prog_4_method_5_code 1 (some .long) rm_E_trace D (tyT cI cJ cZ cL) (wdC cI cJ cZ cL a) [.ref (a (100 + j0))] S (vL r, S9) := by
  refine Ctr.of (lv0 := [(0, .ref (a (100 + j0)))]) (vv := vL) (by decide) rfl (wdC_fst cI cJ cZ cL a) (Nat.le_of_ble_eq_true rfl) rfl (fun p e s m args below meth c A C => ?_) r S9 h
  unfold f_E_trace
  refine j_aload_n C 0 rfl rfl d_E_trace_0 ?_
  refine j_iconst (v := 1) C (by decide) d_E_trace_1 ?_
  refine j_bnd (fun r21 S22 e23 => ?_)
  refine j_callVl (As := [.int (1 : Int32)]) (rest := []) C (26 + j0) 2 Y_E_readNumber u_485 (c_E_readNumber g j0 hj0 S (1 : Int32) e23) rfl rfl ⟨by decide, by decide⟩ rfl (wdC_E hj0) rfl rfl (Nat.le_of_ble_eq_true rfl) d_E_trace_2 ?_
  exact j_lret C rfl rfl d_E_trace_5
def f_E_kind (g : Nat) (j0 : Nat) (S : Mem) : Option (Int32 × Mem) := some (S.2.2.2.2 j0 ((0 : Int32).toNatClampNeg), S)
set_option maxRecDepth 100000 in
set_option maxHeartbeats 4000000 in
theorem c_E_kind {l : Launch} {D : va_G} {cI cJ cZ cL : ClassId} {a : Nat → Nat} (g : Nat) (j0 : Nat) (hj0 : j0 < 25) (S : Mem) {r : Int32} {S9 : Mem} (h : f_E_kind g j0 S = some (r, S9)) : Ctr l y_E_kind prog_4_method_4_code 1 (some .int) rm_E_kind D (tyT cI cJ cZ cL) (wdC cI cJ cZ cL a) [.ref (a (100 + j0))] S (vI r, S9) := by
  refine Ctr.of (lv0 := [(0, .ref (a (100 + j0)))]) (vv := vI) (by decide) rfl (wdC_fst cI cJ cZ cL a) (Nat.le_of_ble_eq_true rfl) rfl (fun p e s m args below meth c A C => ?_) r S9 h
  unfold f_E_kind
  refine j_aload_n C 0 rfl rfl d_E_kind_0 ?_
  refine gC_E_bytes C hj0 u_33 d_E_kind_1 ?_
  refine j_iconst (v := 0) C (by decide) d_E_kind_4 ?_
  refine lC_bytes C hj0 (by decide) d_E_kind_5 ?_
  exact j_iret C rfl rfl d_E_kind_6
def f_M_isAwaited (g : Nat) (j1 : Nat) (S : Mem) : Option (Int32 × Mem) := bnd (f_E_trace g j1 S) (fun r21 S22 => if (lg_cmp r21 ((S22.1 19 0).toInt64)) = 0 then (lt (S22.1 13 0) (fun x25 => if x25 = (2 : Int32) then (bnd (f_E_kind g j1 S22) (fun r27 S28 => if r27 = (129 : Int32) then (some ((1 : Int32), S28)) else (some ((0 : Int32), S28)))) else (if x25 = (3 : Int32) then (some ((0 : Int32), S22)) else (if x25 = (4 : Int32) then (bnd (f_E_kind g j1 S22) (fun r33 S34 => if r33 = (130 : Int32) then (some ((1 : Int32), S34)) else (some ((0 : Int32), S34)))) else (if x25 = (5 : Int32) then (bnd (f_E_kind g j1 S22) (fun r38 S39 => if r38 = (131 : Int32) then (some ((1 : Int32), S39)) else (some ((0 : Int32), S39)))) else (some ((0 : Int32), S22))))))) else (some ((0 : Int32), S22)))
set_option maxRecDepth 100000 in
set_option maxHeartbeats 4000000 in
theorem c_M_isAwaited {l : Launch} {D : va_G} {cI cJ cZ cL : ClassId} {a : Nat → Nat} (g : Nat) (j1 : Nat) (hj1 : j1 < 25) (S : Mem) {r : Int32} {S9 : Mem} (h : f_M_isAwaited g j1 S = some (r, S9)) : Ctr l y_M_isAwaited prog_6_method_10_code 2 (some .boolean) rm_M_isAwaited D (tyT cI cJ cZ cL) (wdC cI cJ cZ cL a) [.ref (a 3), .ref (a (100 + j1))] S (vI r, S9) := by
  refine Ctr.of (lv0 := [(0, .ref (a 3)), (1, .ref (a (100 + j1)))]) (vv := vI) (by decide) rfl (wdC_fst cI cJ cZ cL a) (Nat.le_of_ble_eq_true rfl) rfl (fun p e s m args below meth c A C => ?_) r S9 h
  unfold f_M_isAwaited
  refine j_aload_n C 1 rfl rfl d_M_isAwaited_0 ?_
  refine j_bnd (fun r21 S22 e23 => ?_)
  refine j_callVl (As := []) (rest := []) C (26 + j1) 2 Y_E_trace u_530 (c_E_trace g j1 hj1 S e23) rfl rfl ⟨by decide, by decide⟩ rfl (wdC_E hj1) rfl rfl (Nat.le_of_ble_eq_true rfl) d_M_isAwaited_1 ?_
  refine j_aload_n C 0 rfl rfl d_M_isAwaited_4 ?_
  refine gC_M_traceAtHand C u_203 d_M_isAwaited_5 ?_
  refine j_i2l C d_M_isAwaited_8 ?_
  refine j_lcmp C d_M_isAwaited_9 ?_
  refine j_if_eq (tgt := 15) C d_M_isAwaited_10 (by decide) (fun h24 => ?_) (fun h24 => ?_)
  · refine j_aload_n C 0 rfl rfl d_M_isAwaited_15 ?_
    refine gC_M_phase C u_192 d_M_isAwaited_16 ?_
    refine j_lti (fun x25 => ?_)
    refine j_if (fun h26 => ?_) (fun h26 => ?_)
    · refine j_tabIn (off := 29) (tgt := 48) C d_M_isAwaited_19 (by rw [h26]; decide) (by rw [h26]; decide) (by rw [h26]; rfl) (by decide) ?_
      refine j_aload_n C 1 rfl rfl d_M_isAwaited_48 ?_
      refine j_bnd (fun r27 S28 e29 => ?_)
      refine j_callVi (As := []) (rest := []) C (26 + j1) 2 Y_E_kind u_531 (c_E_kind g j1 hj1 S22 e29) rfl rfl ⟨by decide, by decide⟩ rfl (wdC_E hj1) rfl rfl (Nat.le_of_ble_eq_true rfl) d_M_isAwaited_49 ?_
      refine j_sipush (v := 129) C (by decide) d_M_isAwaited_52 ?_
      refine j_icmp_ne (tgt := 62) C d_M_isAwaited_55 (by decide) (fun h30 => ?_) (fun h30 => ?_)
      · refine j_iconst (v := 1) C (by decide) d_M_isAwaited_58 ?_
        refine j_goto (tgt := 63) C d_M_isAwaited_59 (by decide) ?_
        exact j_zret C (Or.inr rfl) rfl rfl d_M_isAwaited_63
      · refine j_iconst (v := 0) C (by decide) d_M_isAwaited_62 ?_
        exact j_zret C (Or.inl rfl) rfl rfl d_M_isAwaited_63
    refine j_if (fun h31 => ?_) (fun h31 => ?_)
    · refine j_tabIn (off := 77) (tgt := 96) C d_M_isAwaited_19 (by rw [h31]; decide) (by rw [h31]; decide) (by rw [h31]; rfl) (by decide) ?_
      refine j_iconst (v := 0) C (by decide) d_M_isAwaited_96 ?_
      exact j_zret C (Or.inl rfl) rfl rfl d_M_isAwaited_97
    refine j_if (fun h32 => ?_) (fun h32 => ?_)
    · refine j_tabIn (off := 45) (tgt := 64) C d_M_isAwaited_19 (by rw [h32]; decide) (by rw [h32]; decide) (by rw [h32]; rfl) (by decide) ?_
      refine j_aload_n C 1 rfl rfl d_M_isAwaited_64 ?_
      refine j_bnd (fun r33 S34 e35 => ?_)
      refine j_callVi (As := []) (rest := []) C (26 + j1) 2 Y_E_kind u_531 (c_E_kind g j1 hj1 S22 e35) rfl rfl ⟨by decide, by decide⟩ rfl (wdC_E hj1) rfl rfl (Nat.le_of_ble_eq_true rfl) d_M_isAwaited_65 ?_
      refine j_sipush (v := 130) C (by decide) d_M_isAwaited_68 ?_
      refine j_icmp_ne (tgt := 78) C d_M_isAwaited_71 (by decide) (fun h36 => ?_) (fun h36 => ?_)
      · refine j_iconst (v := 1) C (by decide) d_M_isAwaited_74 ?_
        refine j_goto (tgt := 79) C d_M_isAwaited_75 (by decide) ?_
        exact j_zret C (Or.inr rfl) rfl rfl d_M_isAwaited_79
      · refine j_iconst (v := 0) C (by decide) d_M_isAwaited_78 ?_
        exact j_zret C (Or.inl rfl) rfl rfl d_M_isAwaited_79
    refine j_if (fun h37 => ?_) (fun h37 => ?_)
    · refine j_tabIn (off := 61) (tgt := 80) C d_M_isAwaited_19 (by rw [h37]; decide) (by rw [h37]; decide) (by rw [h37]; rfl) (by decide) ?_
      refine j_aload_n C 1 rfl rfl d_M_isAwaited_80 ?_
      refine j_bnd (fun r38 S39 e40 => ?_)
      refine j_callVi (As := []) (rest := []) C (26 + j1) 2 Y_E_kind u_531 (c_E_kind g j1 hj1 S22 e40) rfl rfl ⟨by decide, by decide⟩ rfl (wdC_E hj1) rfl rfl (Nat.le_of_ble_eq_true rfl) d_M_isAwaited_81 ?_
      refine j_sipush (v := 131) C (by decide) d_M_isAwaited_84 ?_
      refine j_icmp_ne (tgt := 94) C d_M_isAwaited_87 (by decide) (fun h41 => ?_) (fun h41 => ?_)
      · refine j_iconst (v := 1) C (by decide) d_M_isAwaited_90 ?_
        refine j_goto (tgt := 95) C d_M_isAwaited_91 (by decide) ?_
        exact j_zret C (Or.inr rfl) rfl rfl d_M_isAwaited_95
      · refine j_iconst (v := 0) C (by decide) d_M_isAwaited_94 ?_
        exact j_zret C (Or.inl rfl) rfl rfl d_M_isAwaited_95
    refine j_tabOut (tgt := 96) C d_M_isAwaited_19 (by have gh26 : x25.toInt ≠ 2 := fun z => h26 (Int32.toInt_inj.mp (z.trans (by decide))); have gh31 : x25.toInt ≠ 3 := fun z => h31 (Int32.toInt_inj.mp (z.trans (by decide))); have gh32 : x25.toInt ≠ 4 := fun z => h32 (Int32.toInt_inj.mp (z.trans (by decide))); have gh37 : x25.toInt ≠ 5 := fun z => h37 (Int32.toInt_inj.mp (z.trans (by decide))); omega) (by decide) ?_
    refine j_iconst (v := 0) C (by decide) d_M_isAwaited_96 ?_
    exact j_zret C (Or.inl rfl) rfl rfl d_M_isAwaited_97
  · refine j_iconst (v := 0) C (by decide) d_M_isAwaited_13 ?_
    exact j_zret C (Or.inl rfl) rfl rfl d_M_isAwaited_14
def f_E_code (g : Nat) (j0 : Nat) (S : Mem) : Option (Int32 × Mem) := some (S.2.2.2.2 j0 ((10 : Int32).toNatClampNeg), S)
set_option maxRecDepth 100000 in
set_option maxHeartbeats 4000000 in
theorem c_E_code {l : Launch} {D : va_G} {cI cJ cZ cL : ClassId} {a : Nat → Nat} (g : Nat) (j0 : Nat) (hj0 : j0 < 25) (S : Mem) {r : Int32} {S9 : Mem} (h : f_E_code g j0 S = some (r, S9)) : Ctr l y_E_code prog_4_method_8_code 1 (some .int) rm_E_code D (tyT cI cJ cZ cL) (wdC cI cJ cZ cL a) [.ref (a (100 + j0))] S (vI r, S9) := by
  refine Ctr.of (lv0 := [(0, .ref (a (100 + j0)))]) (vv := vI) (by decide) rfl (wdC_fst cI cJ cZ cL a) (Nat.le_of_ble_eq_true rfl) rfl (fun p e s m args below meth c A C => ?_) r S9 h
  unfold f_E_code
  refine j_aload_n C 0 rfl rfl d_E_code_0 ?_
  refine gC_E_bytes C hj0 u_33 d_E_code_1 ?_
  refine j_bipush (v := 10) C (by decide) d_E_code_4 ?_
  refine lC_bytes C hj0 (by decide) d_E_code_6 ?_
  exact j_iret C rfl rfl d_E_code_7
def f_M_endPinCheck (g : Nat) (S : Mem) (x1 : Int32) : Option (Unit × Mem) := if x1 = 0 then (lt (sI S 13 0 (3 : Int32)) (fun S22 => some ((), S22))) else (if x1 = (2 : Int32) then (bnd (f_A_isCard g S (S.1 14 0)) (fun r24 S25 => if r24 = 0 then (bnd (f_M_endWithoutCard g S25) (fun _ S29 => some ((), S29))) else (grd (¬ ((S25.1 14 0) < 0 ∨ 16 ≤ (S25.1 14 0).toNatClampNeg)) (lt (sI S25 10 ((S25.1 14 0).toNatClampNeg) (1 : Int32)) (fun S32 => bnd (f_M_endWithoutCard g S32) (fun _ S34 => some ((), S34))))))) else (lt (sI S 13 0 (1 : Int32)) (fun S36 => some ((), S36))))
set_option maxRecDepth 100000 in
set_option maxHeartbeats 4000000 in
theorem c_M_endPinCheck {l : Launch} {D : va_G} {cI cJ cZ cL : ClassId} {a : Nat → Nat} (g : Nat) (S : Mem) (x1 : Int32) {r : Unit} {S9 : Mem} (h : f_M_endPinCheck g S x1 = some (r, S9)) : Ctr l y_M_endPinCheck prog_6_method_11_code 2 none rm_M_endPinCheck D (tyT cI cJ cZ cL) (wdC cI cJ cZ cL a) [.ref (a 3), .int x1] S (vV r, S9) := by
  refine Ctr.of (lv0 := [(0, .ref (a 3)), (1, .int x1)]) (vv := vV) (by decide) rfl (wdC_fst cI cJ cZ cL a) (Nat.le_of_ble_eq_true rfl) rfl (fun p e s m args below meth c A C => ?_) r S9 h
  unfold f_M_endPinCheck
  refine j_iload_n C 1 rfl rfl d_M_endPinCheck_0 ?_
  refine j_if_ne (tgt := 12) C d_M_endPinCheck_1 (by decide) (fun h21 => ?_) (fun h21 => ?_)
  · refine j_aload_n C 0 rfl rfl d_M_endPinCheck_4 ?_
    refine j_iconst (v := 3) C (by decide) d_M_endPinCheck_5 ?_
    refine pC_M_phase C u_192 d_M_endPinCheck_6 ?_
    refine j_ltS (fun S22 => ?_)
    refine j_goto (tgt := 49) C d_M_endPinCheck_9 (by decide) ?_
    exact j_vret C rfl rfl d_M_endPinCheck_49
  · refine j_iload_n C 1 rfl rfl d_M_endPinCheck_12 ?_
    refine j_iconst (v := 2) C (by decide) d_M_endPinCheck_13 ?_
    refine j_icmp_ne (tgt := 44) C d_M_endPinCheck_14 (by decide) (fun h23 => ?_) (fun h23 => ?_)
    · refine j_aload_n C 0 rfl rfl d_M_endPinCheck_17 ?_
      refine gC_M_slot C u_194 d_M_endPinCheck_18 ?_
      refine j_bnd (fun r24 S25 e26 => ?_)
      refine j_callSNi (As := [.int (S.1 14 0)]) (rest := []) C Y_A_isCard n_312 (c_A_isCard g S (S.1 14 0) e26) rfl rfl ⟨by decide, by decide⟩ rfl rfl (Nat.le_of_ble_eq_true rfl) d_M_endPinCheck_21 ?_
      refine j_if_eq (tgt := 37) C d_M_endPinCheck_24 (by decide) (fun h27 => ?_) (fun h27 => ?_)
      · refine j_aload_n C 0 rfl rfl d_M_endPinCheck_37 ?_
        refine j_bnd (fun _ S29 e30 => ?_)
        refine j_callVv (As := []) (rest := []) C 3 4 Y_M_endWithoutCard u_412 (c_M_endWithoutCard g S25 e30) rfl rfl ⟨by decide, by decide⟩ rfl rfl rfl rfl (Nat.le_of_ble_eq_true rfl) d_M_endPinCheck_38 ?_
        refine j_goto (tgt := 49) C d_M_endPinCheck_41 (by decide) ?_
        exact j_vret C rfl rfl d_M_endPinCheck_49
      · refine j_aload_n C 0 rfl rfl d_M_endPinCheck_27 ?_
        refine gC_M_kept C u_188 d_M_endPinCheck_28 ?_
        refine j_aload_n C 0 rfl rfl d_M_endPinCheck_31 ?_
        refine gC_M_slot C u_194 d_M_endPinCheck_32 ?_
        refine j_iconst (v := 1) C (by decide) d_M_endPinCheck_35 ?_
        refine j_grd (fun h31 => ?_)
        refine sC_M_kept C (Or.inr rfl) h31 d_M_endPinCheck_36 ?_
        refine j_ltS (fun S32 => ?_)
        refine j_aload_n C 0 rfl rfl d_M_endPinCheck_37 ?_
        refine j_bnd (fun _ S34 e35 => ?_)
        refine j_callVv (As := []) (rest := []) C 3 4 Y_M_endWithoutCard u_412 (c_M_endWithoutCard g S32 e35) rfl rfl ⟨by decide, by decide⟩ rfl rfl rfl rfl (Nat.le_of_ble_eq_true rfl) d_M_endPinCheck_38 ?_
        refine j_goto (tgt := 49) C d_M_endPinCheck_41 (by decide) ?_
        exact j_vret C rfl rfl d_M_endPinCheck_49
    · refine j_aload_n C 0 rfl rfl d_M_endPinCheck_44 ?_
      refine j_iconst (v := 1) C (by decide) d_M_endPinCheck_45 ?_
      refine pC_M_phase C u_192 d_M_endPinCheck_46 ?_
      refine j_ltS (fun S36 => ?_)
      exact j_vret C rfl rfl d_M_endPinCheck_49
