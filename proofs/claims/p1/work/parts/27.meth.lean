def f_R_ask (g : Nat) (S : Mem) (x1 : Int32) : Option (Int32 × Mem) := if (S.1 18 0) = 0 then (some ((-1 : Int32), S)) else (if (S.1 20 0) = (3 : Int32) then (if x1 < (1 : Int32) then (some ((-1 : Int32), S)) else (if (40000 : Int32) < x1 then (some ((-1 : Int32), S)) else (if (290 : Int32) < (S.1 15 0) then (some ((-1 : Int32), S)) else (if (S.1 16 0) ≤ (2000 : Int32) then (bnd (f_R_findMix g S x1) (fun r27 S28 => if r27 = 0 then (some ((0 : Int32), S28)) else (lt (sI S28 22 0 (S28.1 16 0)) (fun S31 => lt (sI S31 16 0 ((S31.1 16 0) + (1 : Int32))) (fun S32 => lt (sI S32 23 0 (S32.1 21 0)) (fun S33 => lt (sI S33 24 0 x1) (fun S34 => bnd (f_R_record g S34 (1 : Int32)) (fun r35 S36 => if r35 = 0 then (some ((1 : Int32), S36)) else (bnd (f_R_sendStep g S36 (2 : Int32) x1) (fun r39 S40 => if r39 = 0 then (some ((1 : Int32), S40)) else (lt (sI S40 20 0 (4 : Int32)) (fun S43 => some ((1 : Int32), S43))))))))))))) else (some ((-1 : Int32), S)))))) else (some ((-1 : Int32), S)))
set_option maxRecDepth 100000 in
set_option maxHeartbeats 4000000 in
theorem c_R_ask {l : Launch} {D : va_G} {cI cJ cZ cL : ClassId} {a : Nat → Nat} (g : Nat) (S : Mem) (x1 : Int32) {r : Int32} {S9 : Mem} (h : f_R_ask g S x1 = some (r, S9)) : Ctr l y_R_ask prog_9_method_26_code 2 (some .int) rm_R_ask D (tyT cI cJ cZ cL) (wdR cI cJ cZ cL a) [.ref (a 0), .int x1] S (vI r, S9) := by
  refine Ctr.of (lv0 := [(0, .ref (a 0)), (1, .int x1)]) (vv := vI) (by decide) rfl (wdR_fst cI cJ cZ cL a) (Nat.le_of_ble_eq_true rfl) rfl (fun p e s m args below meth c A C => ?_) r S9 h
  unfold f_R_ask
  refine j_aload_n C 0 rfl rfl d_R_ask_0 ?_
  refine gR_R_isOn C u_708 d_R_ask_1 ?_
  refine j_if_eq (tgt := 46) C d_R_ask_4 (by decide) (fun h21 => ?_) (fun h21 => ?_)
  · refine j_iconst (v := -1) C (by decide) d_R_ask_46 ?_
    exact j_iret C rfl rfl d_R_ask_47
  · refine j_aload_n C 0 rfl rfl d_R_ask_7 ?_
    refine gR_R_phase C u_710 d_R_ask_8 ?_
    refine j_iconst (v := 3) C (by decide) d_R_ask_11 ?_
    refine j_icmp_ne (tgt := 46) C d_R_ask_12 (by decide) (fun h22 => ?_) (fun h22 => ?_)
    · refine j_iload_n C 1 rfl rfl d_R_ask_15 ?_
      refine j_iconst (v := 1) C (by decide) d_R_ask_16 ?_
      refine j_icmp_lt (tgt := 46) C d_R_ask_17 (by decide) (fun h23 => ?_) (fun h23 => ?_)
      · refine j_iconst (v := -1) C (by decide) d_R_ask_46 ?_
        exact j_iret C rfl rfl d_R_ask_47
      · refine j_iload_n C 1 rfl rfl d_R_ask_20 ?_
        refine j_ldc (v := 40000) C u_843 d_R_ask_21 ?_
        refine j_icmp_gt (tgt := 46) C d_R_ask_23 (by decide) (fun h24 => ?_) (fun h24 => ?_)
        · refine j_iconst (v := -1) C (by decide) d_R_ask_46 ?_
          exact j_iret C rfl rfl d_R_ask_47
        · refine j_aload_n C 0 rfl rfl d_R_ask_26 ?_
          refine gR_R_recordCount C u_705 d_R_ask_27 ?_
          refine j_sipush (v := 290) C (by decide) d_R_ask_30 ?_
          refine j_icmp_gt (tgt := 46) C d_R_ask_33 (by decide) (fun h25 => ?_) (fun h25 => ?_)
          · refine j_iconst (v := -1) C (by decide) d_R_ask_46 ?_
            exact j_iret C rfl rfl d_R_ask_47
          · refine j_aload_n C 0 rfl rfl d_R_ask_36 ?_
            refine gR_R_nextTrace C u_706 d_R_ask_37 ?_
            refine j_sipush (v := 2000) C (by decide) d_R_ask_40 ?_
            refine j_icmp_le (tgt := 48) C d_R_ask_43 (by decide) (fun h26 => ?_) (fun h26 => ?_)
            · refine j_aload_n C 0 rfl rfl d_R_ask_48 ?_
              refine j_iload_n C 1 rfl rfl d_R_ask_49 ?_
              refine j_bnd (fun r27 S28 e29 => ?_)
              refine j_callVi (As := [.int x1]) (rest := []) C 0 7 Y_R_findMix u_844 (c_R_findMix g S x1 e29) rfl rfl ⟨by decide, by decide⟩ rfl rfl rfl rfl (Nat.le_of_ble_eq_true rfl) d_R_ask_50 ?_
              refine j_if_ne (tgt := 58) C d_R_ask_53 (by decide) (fun h30 => ?_) (fun h30 => ?_)
              · refine j_iconst (v := 0) C (by decide) d_R_ask_56 ?_
                exact j_iret C rfl rfl d_R_ask_57
              · refine j_aload_n C 0 rfl rfl d_R_ask_58 ?_
                refine j_aload_n C 0 rfl rfl d_R_ask_59 ?_
                refine gR_R_nextTrace C u_706 d_R_ask_60 ?_
                refine pR_R_trace C u_712 d_R_ask_63 ?_
                refine j_ltS (fun S31 => ?_)
                refine j_aload_n C 0 rfl rfl d_R_ask_66 ?_
                refine j_dup C rfl d_R_ask_67 ?_
                refine gR_R_nextTrace C u_706 d_R_ask_68 ?_
                refine j_iconst (v := 1) C (by decide) d_R_ask_71 ?_
                refine j_iadd C d_R_ask_72 ?_
                refine pR_R_nextTrace C u_706 d_R_ask_73 ?_
                refine j_ltS (fun S32 => ?_)
                refine j_aload_n C 0 rfl rfl d_R_ask_76 ?_
                refine j_aload_n C 0 rfl rfl d_R_ask_77 ?_
                refine gR_R_slotCard C u_711 d_R_ask_78 ?_
                refine pR_R_cardAtHand C u_713 d_R_ask_81 ?_
                refine j_ltS (fun S33 => ?_)
                refine j_aload_n C 0 rfl rfl d_R_ask_84 ?_
                refine j_iload_n C 1 rfl rfl d_R_ask_85 ?_
                refine pR_R_amount C u_714 d_R_ask_86 ?_
                refine j_ltS (fun S34 => ?_)
                refine j_aload_n C 0 rfl rfl d_R_ask_89 ?_
                refine j_iconst (v := 1) C (by decide) d_R_ask_90 ?_
                refine j_bnd (fun r35 S36 e37 => ?_)
                refine j_callVi (As := [.int (1 : Int32)]) (rest := []) C 0 7 Y_R_record u_848 (c_R_record g S34 (1 : Int32) e37) rfl rfl ⟨by decide, by decide⟩ rfl rfl rfl rfl (Nat.le_of_ble_eq_true rfl) d_R_ask_91 ?_
                refine j_if_eq (tgt := 111) C d_R_ask_94 (by decide) (fun h38 => ?_) (fun h38 => ?_)
                · refine j_iconst (v := 1) C (by decide) d_R_ask_111 ?_
                  exact j_iret C rfl rfl d_R_ask_112
                · refine j_aload_n C 0 rfl rfl d_R_ask_97 ?_
                  refine j_iconst (v := 2) C (by decide) d_R_ask_98 ?_
                  refine j_iload_n C 1 rfl rfl d_R_ask_99 ?_
                  refine j_bnd (fun r39 S40 e41 => ?_)
                  refine j_callVi (As := [.int (2 : Int32), .int x1]) (rest := []) C 0 7 Y_R_sendStep u_815 (c_R_sendStep g S36 (2 : Int32) x1 e41) rfl rfl ⟨by decide, by decide⟩ rfl rfl rfl rfl (Nat.le_of_ble_eq_true rfl) d_R_ask_100 ?_
                  refine j_if_eq (tgt := 111) C d_R_ask_103 (by decide) (fun h42 => ?_) (fun h42 => ?_)
                  · refine j_iconst (v := 1) C (by decide) d_R_ask_111 ?_
                    exact j_iret C rfl rfl d_R_ask_112
                  · refine j_aload_n C 0 rfl rfl d_R_ask_106 ?_
                    refine j_iconst (v := 4) C (by decide) d_R_ask_107 ?_
                    refine pR_R_phase C u_710 d_R_ask_108 ?_
                    refine j_ltS (fun S43 => ?_)
                    refine j_iconst (v := 1) C (by decide) d_R_ask_111 ?_
                    exact j_iret C rfl rfl d_R_ask_112
            · refine j_iconst (v := -1) C (by decide) d_R_ask_46 ?_
              exact j_iret C rfl rfl d_R_ask_47
    · refine j_iconst (v := -1) C (by decide) d_R_ask_46 ?_
      exact j_iret C rfl rfl d_R_ask_47
def f_R_eject (g : Nat) (S : Mem) : Option (Int32 × Mem) := if (S.1 18 0) = 0 then (some ((0 : Int32), S)) else (if (S.1 20 0) = (1 : Int32) then (lt (sI S 21 0 (-1 : Int32)) (fun S23 => lt (sI S23 20 0 (0 : Int32)) (fun S24 => some ((1 : Int32), S24)))) else (if (S.1 20 0) = (3 : Int32) then (lt (sI S 21 0 (-1 : Int32)) (fun S26 => lt (sI S26 20 0 (0 : Int32)) (fun S27 => some ((1 : Int32), S27)))) else (some ((0 : Int32), S))))
set_option maxRecDepth 100000 in
set_option maxHeartbeats 4000000 in
theorem c_R_eject {l : Launch} {D : va_G} {cI cJ cZ cL : ClassId} {a : Nat → Nat} (g : Nat) (S : Mem) {r : Int32} {S9 : Mem} (h : f_R_eject g S = some (r, S9)) : Ctr l y_R_eject prog_9_method_27_code 1 (some .boolean) rm_R_eject D (tyT cI cJ cZ cL) (wdR cI cJ cZ cL a) [.ref (a 0)] S (vI r, S9) := by
  refine Ctr.of (lv0 := [(0, .ref (a 0))]) (vv := vI) (by decide) rfl (wdR_fst cI cJ cZ cL a) (Nat.le_of_ble_eq_true rfl) rfl (fun p e s m args below meth c A C => ?_) r S9 h
  unfold f_R_eject
  refine j_aload_n C 0 rfl rfl d_R_eject_0 ?_
  refine gR_R_isOn C u_708 d_R_eject_1 ?_
  refine j_if_eq (tgt := 23) C d_R_eject_4 (by decide) (fun h21 => ?_) (fun h21 => ?_)
  · refine j_iconst (v := 0) C (by decide) d_R_eject_23 ?_
    exact j_zret C (Or.inl rfl) rfl rfl d_R_eject_24
  · refine j_aload_n C 0 rfl rfl d_R_eject_7 ?_
    refine gR_R_phase C u_710 d_R_eject_8 ?_
    refine j_iconst (v := 1) C (by decide) d_R_eject_11 ?_
    refine j_icmp_eq (tgt := 25) C d_R_eject_12 (by decide) (fun h22 => ?_) (fun h22 => ?_)
    · refine j_aload_n C 0 rfl rfl d_R_eject_25 ?_
      refine j_iconst (v := -1) C (by decide) d_R_eject_26 ?_
      refine pR_R_slotCard C u_711 d_R_eject_27 ?_
      refine j_ltS (fun S23 => ?_)
      refine j_aload_n C 0 rfl rfl d_R_eject_30 ?_
      refine j_iconst (v := 0) C (by decide) d_R_eject_31 ?_
      refine pR_R_phase C u_710 d_R_eject_32 ?_
      refine j_ltS (fun S24 => ?_)
      refine j_iconst (v := 1) C (by decide) d_R_eject_35 ?_
      exact j_zret C (Or.inr rfl) rfl rfl d_R_eject_36
    · refine j_aload_n C 0 rfl rfl d_R_eject_15 ?_
      refine gR_R_phase C u_710 d_R_eject_16 ?_
      refine j_iconst (v := 3) C (by decide) d_R_eject_19 ?_
      refine j_icmp_eq (tgt := 25) C d_R_eject_20 (by decide) (fun h25 => ?_) (fun h25 => ?_)
      · refine j_aload_n C 0 rfl rfl d_R_eject_25 ?_
        refine j_iconst (v := -1) C (by decide) d_R_eject_26 ?_
        refine pR_R_slotCard C u_711 d_R_eject_27 ?_
        refine j_ltS (fun S26 => ?_)
        refine j_aload_n C 0 rfl rfl d_R_eject_30 ?_
        refine j_iconst (v := 0) C (by decide) d_R_eject_31 ?_
        refine pR_R_phase C u_710 d_R_eject_32 ?_
        refine j_ltS (fun S27 => ?_)
        refine j_iconst (v := 1) C (by decide) d_R_eject_35 ?_
        exact j_zret C (Or.inr rfl) rfl rfl d_R_eject_36
      · refine j_iconst (v := 0) C (by decide) d_R_eject_23 ?_
        exact j_zret C (Or.inl rfl) rfl rfl d_R_eject_24
def f_R_take_13 (g : Nat) : Nat → Mem → Int32 → Int32 → Option (Mem × (Int32))
  | 0, _, _, _ => none
  | n + 1, S, x1, x2 => if (4 : Int32) ≤ x2 then (some (S, x1)) else (grd (¬ (x2 < 0 ∨ 4 ≤ x2.toNatClampNeg)) (lt (sI S 11 x2.toNatClampNeg (0 : Int32)) (fun S25 => lt (x2 + (1 : Int32)) (fun x26 => f_R_take_13 g n S25 x1 x26))))
set_option maxRecDepth 100000 in
set_option maxHeartbeats 4000000 in
theorem lp_R_take_13 {l : Launch} {D : va_G} {cI cJ cZ cL : ClassId} {a : Nat → Nat} {p : Program} {e : Env} {s : State} {m : MethodId} {args : Array Value} {below : List Frame} {meth : Method} {c : Code} {A : Nat → Prop} (C : Cx p s m args meth c "AutoTellerModel" prog_9_method_28_code 3 (some .int) D (tyT cI cJ cZ cL) (wdR cI cJ cZ cL a) A) (g : Nat) {K : (Mem × (Int32)) → Option (Int32 × Mem)} (hx : ∀ (S : Mem) (y : Int32), Tj p l e rm_R_take s m args below meth c D (wdR cI cJ cZ cL a) A 3 vI K (some (S, y)) S 31 [(1, .int y)] []) : ∀ (n : Nat) (S : Mem) (x1 : Int32) (x2 : Int32), Tj p l e rm_R_take s m args below meth c D (wdR cI cJ cZ cL a) A 3 vI K (f_R_take_13 g n S x1 x2) S 13 [(0, .ref (a 0)), (1, .int x1), (2, .int x2)] [] := by
  intro n
  induction n with
  | zero =>
    intro S x1 x2
    exact j_none
  | succ n ih =>
    intro S x1 x2
    rw [f_R_take_13]
    refine j_iload_n C 2 rfl rfl d_R_take_13 ?_
    refine j_iconst (v := 4) C (by decide) d_R_take_14 ?_
    refine j_icmp_ge (tgt := 31) C d_R_take_15 (by decide) (fun h23 => ?_) (fun h23 => ?_)
    · refine j_sub [1] rfl ?_
      exact hx S x1
    · refine j_aload_n C 0 rfl rfl d_R_take_18 ?_
      refine gR_R_inTray C u_698 d_R_take_19 ?_
      refine j_iload_n C 2 rfl rfl d_R_take_22 ?_
      refine j_iconst (v := 0) C (by decide) d_R_take_23 ?_
      refine j_grd (fun h24 => ?_)
      refine sR_R_inTray C h24 d_R_take_24 ?_
      refine j_ltS (fun S25 => ?_)
      refine j_iincN (n2 := 1) (lv2 := fun x26 => [(2, .int x26), (0, .ref (a 0)), (1, .int x1)]) C 2 rfl (by decide) (by decide) (fun _ => rfl) d_R_take_25 (fun x26 => ?_)
      refine j_goto (tgt := 13) C d_R_take_28 (by decide) ?_
      refine j_sub [1, 2, 0] rfl ?_
      exact ih S25 x1 x26
def f_R_take (g : Nat) (S : Mem) : Option (Int32 × Mem) := lt ((S.2.1 3 0).toInt32) (fun x21 => lt (sL S 3 0 (0 : Int64)) (fun S22 => seqM (f_R_take_13 g g S22 x21 (0 : Int32)) (fun S27 y28 => some (y28, S27))))
set_option maxRecDepth 100000 in
set_option maxHeartbeats 4000000 in
theorem c_R_take {l : Launch} {D : va_G} {cI cJ cZ cL : ClassId} {a : Nat → Nat} (g : Nat) (S : Mem) {r : Int32} {S9 : Mem} (h : f_R_take g S = some (r, S9)) : Ctr l y_R_take prog_9_method_28_code 3 (some .int) rm_R_take D (tyT cI cJ cZ cL) (wdR cI cJ cZ cL a) [.ref (a 0)] S (vI r, S9) := by
  refine Ctr.of (lv0 := [(0, .ref (a 0))]) (vv := vI) (by decide) rfl (wdR_fst cI cJ cZ cL a) (Nat.le_of_ble_eq_true rfl) rfl (fun p e s m args below meth c A C => ?_) r S9 h
  unfold f_R_take
  refine j_aload_n C 0 rfl rfl d_R_take_0 ?_
  refine gR_R_trayWorth C u_701 d_R_take_1 ?_
  refine j_l2i C d_R_take_4 ?_
  refine j_lti (fun x21 => ?_)
  refine j_istore_n (i := 1) (lv2 := [(1, .int x21), (0, .ref (a 0))]) C rfl (by decide) rfl d_R_take_5 ?_
  refine j_aload_n C 1 rfl rfl d_R_take_6 ?_
  refine j_lconst (v := 0) C rfl d_R_take_7 ?_
  refine pR_R_trayWorth C u_701 d_R_take_8 ?_
  refine j_ltS (fun S22 => ?_)
  refine j_iconst (v := 0) C (by decide) d_R_take_11 ?_
  refine j_istore_n (i := 2) (lv2 := [(2, .int (0 : Int32)), (1, .int x21), (0, .ref (a 0))]) C rfl (by decide) rfl d_R_take_12 ?_
  refine j_sub [2, 1, 0] rfl ?_
  refine j_seqM ?_
  refine lp_R_take_13 C g  (fun S27 y28 => ?_) g S22 x21 (0 : Int32)
  refine j_outM ?_
  refine j_iload_n C 0 rfl rfl d_R_take_31 ?_
  exact j_iret C rfl rfl d_R_take_32
def f_R_hasStacked (g : Nat) (S : Mem) : Option (Int32 × Mem) := if ((((S.1 10 ((0 : Int32).toNatClampNeg)) + (S.1 10 ((1 : Int32).toNatClampNeg))) + (S.1 10 ((2 : Int32).toNatClampNeg))) + (S.1 10 ((3 : Int32).toNatClampNeg))) ≤ 0 then (some ((0 : Int32), S)) else (some ((1 : Int32), S))
set_option maxRecDepth 100000 in
set_option maxHeartbeats 4000000 in
theorem c_R_hasStacked {l : Launch} {D : va_G} {cI cJ cZ cL : ClassId} {a : Nat → Nat} (g : Nat) (S : Mem) {r : Int32} {S9 : Mem} (h : f_R_hasStacked g S = some (r, S9)) : Ctr l y_R_hasStacked prog_9_method_18_code 1 (some .boolean) rm_R_hasStacked D (tyT cI cJ cZ cL) (wdR cI cJ cZ cL a) [.ref (a 0)] S (vI r, S9) := by
  refine Ctr.of (lv0 := [(0, .ref (a 0))]) (vv := vI) (by decide) rfl (wdR_fst cI cJ cZ cL a) (Nat.le_of_ble_eq_true rfl) rfl (fun p e s m args below meth c A C => ?_) r S9 h
  unfold f_R_hasStacked
  refine j_aload_n C 0 rfl rfl d_R_hasStacked_0 ?_
  refine gR_R_stacked C u_697 d_R_hasStacked_1 ?_
  refine j_iconst (v := 0) C (by decide) d_R_hasStacked_4 ?_
  refine lR_R_stacked C (by decide) d_R_hasStacked_5 ?_
  refine j_aload_n C 0 rfl rfl d_R_hasStacked_6 ?_
  refine gR_R_stacked C u_697 d_R_hasStacked_7 ?_
  refine j_iconst (v := 1) C (by decide) d_R_hasStacked_10 ?_
  refine lR_R_stacked C (by decide) d_R_hasStacked_11 ?_
  refine j_iadd C d_R_hasStacked_12 ?_
  refine j_aload_n C 0 rfl rfl d_R_hasStacked_13 ?_
  refine gR_R_stacked C u_697 d_R_hasStacked_14 ?_
  refine j_iconst (v := 2) C (by decide) d_R_hasStacked_17 ?_
  refine lR_R_stacked C (by decide) d_R_hasStacked_18 ?_
  refine j_iadd C d_R_hasStacked_19 ?_
  refine j_aload_n C 0 rfl rfl d_R_hasStacked_20 ?_
  refine gR_R_stacked C u_697 d_R_hasStacked_21 ?_
  refine j_iconst (v := 3) C (by decide) d_R_hasStacked_24 ?_
  refine lR_R_stacked C (by decide) d_R_hasStacked_25 ?_
  refine j_iadd C d_R_hasStacked_26 ?_
  refine j_if_le (tgt := 34) C d_R_hasStacked_27 (by decide) (fun h21 => ?_) (fun h21 => ?_)
  · refine j_iconst (v := 0) C (by decide) d_R_hasStacked_34 ?_
    exact j_zret C (Or.inl rfl) rfl rfl d_R_hasStacked_35
  · refine j_iconst (v := 1) C (by decide) d_R_hasStacked_30 ?_
    refine j_goto (tgt := 35) C d_R_hasStacked_31 (by decide) ?_
    exact j_zret C (Or.inr rfl) rfl rfl d_R_hasStacked_35
def f_R_reverse_30 (g : Nat) : Nat → Mem → Int32 → Option (Mem × (Unit))
  | 0, _, _ => none
  | n + 1, S, x2 => if (4 : Int32) ≤ x2 then (some (S, ())) else (grd (¬ (x2 < 0 ∨ 4 ≤ x2.toNatClampNeg)) (grd (¬ (x2 < 0 ∨ 4 ≤ x2.toNatClampNeg)) (grd (¬ (x2 < 0 ∨ 4 ≤ x2.toNatClampNeg)) (lt (sI S 12 x2.toNatClampNeg ((S.1 12 x2.toNatClampNeg) + (S.1 10 x2.toNatClampNeg))) (fun S40 => grd (¬ (x2 < 0 ∨ 4 ≤ x2.toNatClampNeg)) (lt (sI S40 10 x2.toNatClampNeg (0 : Int32)) (fun S42 => lt (x2 + (1 : Int32)) (fun x43 => f_R_reverse_30 g n S42 x43))))))))
set_option maxRecDepth 100000 in
set_option maxHeartbeats 4000000 in
theorem lp_R_reverse_30 {l : Launch} {D : va_G} {cI cJ cZ cL : ClassId} {a : Nat → Nat} {p : Program} {e : Env} {s : State} {m : MethodId} {args : Array Value} {below : List Frame} {meth : Method} {c : Code} {A : Nat → Prop} (C : Cx p s m args meth c "AutoTellerModel" prog_9_method_19_code 3 none D (tyT cI cJ cZ cL) (wdR cI cJ cZ cL a) A) (g : Nat) {K : (Mem × (Unit)) → Option (Unit × Mem)} (hx : ∀ (S : Mem) (y : Unit), Tj p l e rm_R_reverse s m args below meth c D (wdR cI cJ cZ cL a) A 3 vV K (some (S, y)) S 63 [(0, .ref (a 0))] []) : ∀ (n : Nat) (S : Mem) (x2 : Int32), Tj p l e rm_R_reverse s m args below meth c D (wdR cI cJ cZ cL a) A 3 vV K (f_R_reverse_30 g n S x2) S 30 [(0, .ref (a 0)), (2, .int x2)] [] := by
  intro n
  induction n with
  | zero =>
    intro S x2
    exact j_none
  | succ n ih =>
    intro S x2
    rw [f_R_reverse_30]
    refine j_iload_n C 1 rfl rfl d_R_reverse_30 ?_
    refine j_iconst (v := 4) C (by decide) d_R_reverse_31 ?_
    refine j_icmp_ge (tgt := 63) C d_R_reverse_32 (by decide) (fun h36 => ?_) (fun h36 => ?_)
    · refine j_sub [0] rfl ?_
      exact hx S ()
    · refine j_aload_n C 0 rfl rfl d_R_reverse_35 ?_
      refine gR_R_inBin C u_699 d_R_reverse_36 ?_
      refine j_iload_n C 1 rfl rfl d_R_reverse_39 ?_
      refine j_dup2 C rfl rfl d_R_reverse_40 ?_
      refine j_grd (fun h37 => ?_)
      refine lR_R_inBin C h37 d_R_reverse_41 ?_
      refine j_aload_n C 0 rfl rfl d_R_reverse_42 ?_
      refine gR_R_stacked C u_697 d_R_reverse_43 ?_
      refine j_iload_n C 1 rfl rfl d_R_reverse_46 ?_
      refine j_grd (fun h38 => ?_)
      refine lR_R_stacked C h38 d_R_reverse_47 ?_
      refine j_iadd C d_R_reverse_48 ?_
      refine j_grd (fun h39 => ?_)
      refine sR_R_inBin C h39 d_R_reverse_49 ?_
      refine j_ltS (fun S40 => ?_)
      refine j_aload_n C 0 rfl rfl d_R_reverse_50 ?_
      refine gR_R_stacked C u_697 d_R_reverse_51 ?_
      refine j_iload_n C 1 rfl rfl d_R_reverse_54 ?_
      refine j_iconst (v := 0) C (by decide) d_R_reverse_55 ?_
      refine j_grd (fun h41 => ?_)
      refine sR_R_stacked C h41 d_R_reverse_56 ?_
      refine j_ltS (fun S42 => ?_)
      refine j_iincN (n2 := 1) (lv2 := fun x43 => [(2, .int x43), (0, .ref (a 0))]) C 1 rfl (by decide) (by decide) (fun _ => rfl) d_R_reverse_57 (fun x43 => ?_)
      refine j_goto (tgt := 30) C d_R_reverse_60 (by decide) ?_
      refine j_sub [1, 0] rfl ?_
      exact ih S42 x43
def f_R_reverse (g : Nat) (S : Mem) (x1 : Int32) : Option (Unit × Mem) := if x1 = 0 then (bnd (f_R_hasStacked g S) (fun r22 S23 => if r22 = 0 then (bnd (f_R_sendStep g S23 (3 : Int32) (S23.1 24 0)) (fun r26 S27 => if r26 = 0 then (some ((), S27)) else (lt (sI S27 21 0 (-1 : Int32)) (fun S30 => lt (sI S30 20 0 (5 : Int32)) (fun S31 => some ((), S31)))))) else (bnd (f_R_step g S23) (fun r32 S33 => if r32 = 0 then (some ((), S33)) else (seqM (f_R_reverse_30 g g S33 (0 : Int32)) (fun S44 y45 => lt (sL S44 2 0 (0 : Int64)) (fun S46 => bnd (f_R_sendStep g S46 (3 : Int32) (S46.1 24 0)) (fun r47 S48 => if r47 = 0 then (some ((), S48)) else (lt (sI S48 21 0 (-1 : Int32)) (fun S51 => lt (sI S51 20 0 (5 : Int32)) (fun S52 => some ((), S52)))))))))))) else (bnd (f_R_record g S (4 : Int32)) (fun r53 S54 => if r53 = 0 then (some ((), S54)) else (bnd (f_R_hasStacked g S54) (fun r57 S58 => if r57 = 0 then (bnd (f_R_sendStep g S58 (3 : Int32) (S58.1 24 0)) (fun r61 S62 => if r61 = 0 then (some ((), S62)) else (lt (sI S62 21 0 (-1 : Int32)) (fun S65 => lt (sI S65 20 0 (5 : Int32)) (fun S66 => some ((), S66)))))) else (bnd (f_R_step g S58) (fun r67 S68 => if r67 = 0 then (some ((), S68)) else (seqM (f_R_reverse_30 g g S68 (0 : Int32)) (fun S71 y72 => lt (sL S71 2 0 (0 : Int64)) (fun S73 => bnd (f_R_sendStep g S73 (3 : Int32) (S73.1 24 0)) (fun r74 S75 => if r74 = 0 then (some ((), S75)) else (lt (sI S75 21 0 (-1 : Int32)) (fun S78 => lt (sI S78 20 0 (5 : Int32)) (fun S79 => some ((), S79))))))))))))))
set_option maxRecDepth 100000 in
set_option maxHeartbeats 4000000 in
theorem c_R_reverse {l : Launch} {D : va_G} {cI cJ cZ cL : ClassId} {a : Nat → Nat} (g : Nat) (S : Mem) (x1 : Int32) {r : Unit} {S9 : Mem} (h : f_R_reverse g S x1 = some (r, S9)) : Ctr l y_R_reverse prog_9_method_19_code 3 none rm_R_reverse D (tyT cI cJ cZ cL) (wdR cI cJ cZ cL a) [.ref (a 0), .int x1] S (vV r, S9) := by
  refine Ctr.of (lv0 := [(0, .ref (a 0)), (1, .int x1)]) (vv := vV) (by decide) rfl (wdR_fst cI cJ cZ cL a) (Nat.le_of_ble_eq_true rfl) rfl (fun p e s m args below meth c A C => ?_) r S9 h
  unfold f_R_reverse
  refine j_iload_n C 1 rfl rfl d_R_reverse_0 ?_
  refine j_if_eq (tgt := 13) C d_R_reverse_1 (by decide) (fun h21 => ?_) (fun h21 => ?_)
  · refine j_aload_n C 0 rfl rfl d_R_reverse_13 ?_
    refine j_bnd (fun r22 S23 e24 => ?_)
    refine j_callVi (As := []) (rest := []) C 0 7 Y_R_hasStacked u_868 (c_R_hasStacked g S e24) rfl rfl ⟨by decide, by decide⟩ rfl rfl rfl rfl (Nat.le_of_ble_eq_true rfl) d_R_reverse_14 ?_
    refine j_if_eq (tgt := 68) C d_R_reverse_17 (by decide) (fun h25 => ?_) (fun h25 => ?_)
    · refine j_aload_n C 0 rfl rfl d_R_reverse_68 ?_
      refine j_iconst (v := 3) C (by decide) d_R_reverse_69 ?_
      refine j_aload_n C 0 rfl rfl d_R_reverse_70 ?_
      refine gR_R_amount C u_714 d_R_reverse_71 ?_
      refine j_bnd (fun r26 S27 e28 => ?_)
      refine j_callVi (As := [.int (3 : Int32), .int (S23.1 24 0)]) (rest := []) C 0 7 Y_R_sendStep u_815 (c_R_sendStep g S23 (3 : Int32) (S23.1 24 0) e28) rfl rfl ⟨by decide, by decide⟩ rfl rfl rfl rfl (Nat.le_of_ble_eq_true rfl) d_R_reverse_74 ?_
      refine j_if_eq (tgt := 90) C d_R_reverse_77 (by decide) (fun h29 => ?_) (fun h29 => ?_)
      · exact j_vret C rfl rfl d_R_reverse_90
      · refine j_aload_n C 0 rfl rfl d_R_reverse_80 ?_
        refine j_iconst (v := -1) C (by decide) d_R_reverse_81 ?_
        refine pR_R_slotCard C u_711 d_R_reverse_82 ?_
        refine j_ltS (fun S30 => ?_)
        refine j_aload_n C 0 rfl rfl d_R_reverse_85 ?_
        refine j_iconst (v := 5) C (by decide) d_R_reverse_86 ?_
        refine pR_R_phase C u_710 d_R_reverse_87 ?_
        refine j_ltS (fun S31 => ?_)
        exact j_vret C rfl rfl d_R_reverse_90
    · refine j_aload_n C 0 rfl rfl d_R_reverse_20 ?_
      refine j_bnd (fun r32 S33 e34 => ?_)
      refine j_callVi (As := []) (rest := []) C 0 7 Y_R_step u_819 (c_R_step g S23 e34) rfl rfl ⟨by decide, by decide⟩ rfl rfl rfl rfl (Nat.le_of_ble_eq_true rfl) d_R_reverse_21 ?_
      refine j_if_ne (tgt := 28) C d_R_reverse_24 (by decide) (fun h35 => ?_) (fun h35 => ?_)
      · exact j_vret C rfl rfl d_R_reverse_27
      · refine j_iconst (v := 0) C (by decide) d_R_reverse_28 ?_
        refine j_istore_n (i := 2) (lv2 := [(2, .int (0 : Int32)), (0, .ref (a 0)), (1, .int x1)]) C rfl (by decide) rfl d_R_reverse_29 ?_
        refine j_sub [1, 0] rfl ?_
        refine j_seqM ?_
        refine lp_R_reverse_30 C g  (fun S44 y45 => ?_) g S33 (0 : Int32)
        refine j_outM ?_
        refine j_aload_n C 0 rfl rfl d_R_reverse_63 ?_
        refine j_lconst (v := 0) C rfl d_R_reverse_64 ?_
        refine pR_R_stackedWorth C u_700 d_R_reverse_65 ?_
        refine j_ltS (fun S46 => ?_)
        refine j_aload_n C 0 rfl rfl d_R_reverse_68 ?_
        refine j_iconst (v := 3) C (by decide) d_R_reverse_69 ?_
        refine j_aload_n C 0 rfl rfl d_R_reverse_70 ?_
        refine gR_R_amount C u_714 d_R_reverse_71 ?_
        refine j_bnd (fun r47 S48 e49 => ?_)
        refine j_callVi (As := [.int (3 : Int32), .int (S46.1 24 0)]) (rest := []) C 0 7 Y_R_sendStep u_815 (c_R_sendStep g S46 (3 : Int32) (S46.1 24 0) e49) rfl rfl ⟨by decide, by decide⟩ rfl rfl rfl rfl (Nat.le_of_ble_eq_true rfl) d_R_reverse_74 ?_
        refine j_if_eq (tgt := 90) C d_R_reverse_77 (by decide) (fun h50 => ?_) (fun h50 => ?_)
        · exact j_vret C rfl rfl d_R_reverse_90
        · refine j_aload_n C 0 rfl rfl d_R_reverse_80 ?_
          refine j_iconst (v := -1) C (by decide) d_R_reverse_81 ?_
          refine pR_R_slotCard C u_711 d_R_reverse_82 ?_
          refine j_ltS (fun S51 => ?_)
          refine j_aload_n C 0 rfl rfl d_R_reverse_85 ?_
          refine j_iconst (v := 5) C (by decide) d_R_reverse_86 ?_
          refine pR_R_phase C u_710 d_R_reverse_87 ?_
          refine j_ltS (fun S52 => ?_)
          exact j_vret C rfl rfl d_R_reverse_90
  · refine j_aload_n C 0 rfl rfl d_R_reverse_4 ?_
    refine j_iconst (v := 4) C (by decide) d_R_reverse_5 ?_
    refine j_bnd (fun r53 S54 e55 => ?_)
    refine j_callVi (As := [.int (4 : Int32)]) (rest := []) C 0 7 Y_R_record u_848 (c_R_record g S (4 : Int32) e55) rfl rfl ⟨by decide, by decide⟩ rfl rfl rfl rfl (Nat.le_of_ble_eq_true rfl) d_R_reverse_6 ?_
    refine j_if_ne (tgt := 13) C d_R_reverse_9 (by decide) (fun h56 => ?_) (fun h56 => ?_)
    · exact j_vret C rfl rfl d_R_reverse_12
    · refine j_aload_n C 0 rfl rfl d_R_reverse_13 ?_
      refine j_bnd (fun r57 S58 e59 => ?_)
      refine j_callVi (As := []) (rest := []) C 0 7 Y_R_hasStacked u_868 (c_R_hasStacked g S54 e59) rfl rfl ⟨by decide, by decide⟩ rfl rfl rfl rfl (Nat.le_of_ble_eq_true rfl) d_R_reverse_14 ?_
      refine j_if_eq (tgt := 68) C d_R_reverse_17 (by decide) (fun h60 => ?_) (fun h60 => ?_)
      · refine j_aload_n C 0 rfl rfl d_R_reverse_68 ?_
        refine j_iconst (v := 3) C (by decide) d_R_reverse_69 ?_
        refine j_aload_n C 0 rfl rfl d_R_reverse_70 ?_
        refine gR_R_amount C u_714 d_R_reverse_71 ?_
        refine j_bnd (fun r61 S62 e63 => ?_)
        refine j_callVi (As := [.int (3 : Int32), .int (S58.1 24 0)]) (rest := []) C 0 7 Y_R_sendStep u_815 (c_R_sendStep g S58 (3 : Int32) (S58.1 24 0) e63) rfl rfl ⟨by decide, by decide⟩ rfl rfl rfl rfl (Nat.le_of_ble_eq_true rfl) d_R_reverse_74 ?_
        refine j_if_eq (tgt := 90) C d_R_reverse_77 (by decide) (fun h64 => ?_) (fun h64 => ?_)
        · exact j_vret C rfl rfl d_R_reverse_90
        · refine j_aload_n C 0 rfl rfl d_R_reverse_80 ?_
          refine j_iconst (v := -1) C (by decide) d_R_reverse_81 ?_
          refine pR_R_slotCard C u_711 d_R_reverse_82 ?_
          refine j_ltS (fun S65 => ?_)
          refine j_aload_n C 0 rfl rfl d_R_reverse_85 ?_
          refine j_iconst (v := 5) C (by decide) d_R_reverse_86 ?_
          refine pR_R_phase C u_710 d_R_reverse_87 ?_
          refine j_ltS (fun S66 => ?_)
          exact j_vret C rfl rfl d_R_reverse_90
      · refine j_aload_n C 0 rfl rfl d_R_reverse_20 ?_
        refine j_bnd (fun r67 S68 e69 => ?_)
        refine j_callVi (As := []) (rest := []) C 0 7 Y_R_step u_819 (c_R_step g S58 e69) rfl rfl ⟨by decide, by decide⟩ rfl rfl rfl rfl (Nat.le_of_ble_eq_true rfl) d_R_reverse_21 ?_
        refine j_if_ne (tgt := 28) C d_R_reverse_24 (by decide) (fun h70 => ?_) (fun h70 => ?_)
        · exact j_vret C rfl rfl d_R_reverse_27
        · refine j_iconst (v := 0) C (by decide) d_R_reverse_28 ?_
          refine j_istore_n (i := 2) (lv2 := [(2, .int (0 : Int32)), (0, .ref (a 0)), (1, .int x1)]) C rfl (by decide) rfl d_R_reverse_29 ?_
          refine j_sub [1, 0] rfl ?_
          refine j_seqM ?_
          refine lp_R_reverse_30 C g  (fun S71 y72 => ?_) g S68 (0 : Int32)
          refine j_outM ?_
          refine j_aload_n C 0 rfl rfl d_R_reverse_63 ?_
          refine j_lconst (v := 0) C rfl d_R_reverse_64 ?_
          refine pR_R_stackedWorth C u_700 d_R_reverse_65 ?_
          refine j_ltS (fun S73 => ?_)
          refine j_aload_n C 0 rfl rfl d_R_reverse_68 ?_
          refine j_iconst (v := 3) C (by decide) d_R_reverse_69 ?_
          refine j_aload_n C 0 rfl rfl d_R_reverse_70 ?_
          refine gR_R_amount C u_714 d_R_reverse_71 ?_
          refine j_bnd (fun r74 S75 e76 => ?_)
          refine j_callVi (As := [.int (3 : Int32), .int (S73.1 24 0)]) (rest := []) C 0 7 Y_R_sendStep u_815 (c_R_sendStep g S73 (3 : Int32) (S73.1 24 0) e76) rfl rfl ⟨by decide, by decide⟩ rfl rfl rfl rfl (Nat.le_of_ble_eq_true rfl) d_R_reverse_74 ?_
          refine j_if_eq (tgt := 90) C d_R_reverse_77 (by decide) (fun h77 => ?_) (fun h77 => ?_)
          · exact j_vret C rfl rfl d_R_reverse_90
          · refine j_aload_n C 0 rfl rfl d_R_reverse_80 ?_
            refine j_iconst (v := -1) C (by decide) d_R_reverse_81 ?_
            refine pR_R_slotCard C u_711 d_R_reverse_82 ?_
            refine j_ltS (fun S78 => ?_)
            refine j_aload_n C 0 rfl rfl d_R_reverse_85 ?_
            refine j_iconst (v := 5) C (by decide) d_R_reverse_86 ?_
            refine pR_R_phase C u_710 d_R_reverse_87 ?_
            refine j_ltS (fun S79 => ?_)
            exact j_vret C rfl rfl d_R_reverse_90
def f_R_timeout (g : Nat) (S : Mem) : Option (Int32 × Mem) := if (S.1 18 0) = 0 then (some ((0 : Int32), S)) else (if (S.1 20 0) = (2 : Int32) then (if (S.1 20 0) = (2 : Int32) then (lt (sI S 21 0 (-1 : Int32)) (fun S24 => lt (sI S24 20 0 (0 : Int32)) (fun S25 => some ((1 : Int32), S25)))) else (if (S.1 20 0) = (4 : Int32) then (bnd (f_R_reverse g S (1 : Int32)) (fun _ S28 => some ((1 : Int32), S28))) else (bnd (f_R_sendStep g S (3 : Int32) (S.1 24 0)) (fun r30 S31 => some ((1 : Int32), S31))))) else (if (S.1 20 0) = (4 : Int32) then (if (S.1 20 0) = (2 : Int32) then (lt (sI S 21 0 (-1 : Int32)) (fun S35 => lt (sI S35 20 0 (0 : Int32)) (fun S36 => some ((1 : Int32), S36)))) else (if (S.1 20 0) = (4 : Int32) then (bnd (f_R_reverse g S (1 : Int32)) (fun _ S39 => some ((1 : Int32), S39))) else (bnd (f_R_sendStep g S (3 : Int32) (S.1 24 0)) (fun r41 S42 => some ((1 : Int32), S42))))) else (if (S.1 20 0) = (5 : Int32) then (if (S.1 20 0) = (2 : Int32) then (lt (sI S 21 0 (-1 : Int32)) (fun S46 => lt (sI S46 20 0 (0 : Int32)) (fun S47 => some ((1 : Int32), S47)))) else (if (S.1 20 0) = (4 : Int32) then (bnd (f_R_reverse g S (1 : Int32)) (fun _ S50 => some ((1 : Int32), S50))) else (bnd (f_R_sendStep g S (3 : Int32) (S.1 24 0)) (fun r52 S53 => some ((1 : Int32), S53))))) else (some ((0 : Int32), S)))))
set_option maxRecDepth 100000 in
set_option maxHeartbeats 4000000 in
theorem c_R_timeout {l : Launch} {D : va_G} {cI cJ cZ cL : ClassId} {a : Nat → Nat} (g : Nat) (S : Mem) {r : Int32} {S9 : Mem} (h : f_R_timeout g S = some (r, S9)) : Ctr l y_R_timeout prog_9_method_29_code 1 (some .boolean) rm_R_timeout D (tyT cI cJ cZ cL) (wdR cI cJ cZ cL a) [.ref (a 0)] S (vI r, S9) := by
  refine Ctr.of (lv0 := [(0, .ref (a 0))]) (vv := vI) (by decide) rfl (wdR_fst cI cJ cZ cL a) (Nat.le_of_ble_eq_true rfl) rfl (fun p e s m args below meth c A C => ?_) r S9 h
  unfold f_R_timeout
  refine j_aload_n C 0 rfl rfl d_R_timeout_0 ?_
  refine gR_R_isOn C u_708 d_R_timeout_1 ?_
  refine j_if_eq (tgt := 31) C d_R_timeout_4 (by decide) (fun h21 => ?_) (fun h21 => ?_)
  · refine j_iconst (v := 0) C (by decide) d_R_timeout_31 ?_
    exact j_zret C (Or.inl rfl) rfl rfl d_R_timeout_32
  · refine j_aload_n C 0 rfl rfl d_R_timeout_7 ?_
    refine gR_R_phase C u_710 d_R_timeout_8 ?_
    refine j_iconst (v := 2) C (by decide) d_R_timeout_11 ?_
    refine j_icmp_eq (tgt := 33) C d_R_timeout_12 (by decide) (fun h22 => ?_) (fun h22 => ?_)
    · refine j_aload_n C 0 rfl rfl d_R_timeout_33 ?_
      refine gR_R_phase C u_710 d_R_timeout_34 ?_
      refine j_iconst (v := 2) C (by decide) d_R_timeout_37 ?_
      refine j_icmp_ne (tgt := 54) C d_R_timeout_38 (by decide) (fun h23 => ?_) (fun h23 => ?_)
      · refine j_aload_n C 0 rfl rfl d_R_timeout_41 ?_
        refine j_iconst (v := -1) C (by decide) d_R_timeout_42 ?_
        refine pR_R_slotCard C u_711 d_R_timeout_43 ?_
        refine j_ltS (fun S24 => ?_)
        refine j_aload_n C 0 rfl rfl d_R_timeout_46 ?_
        refine j_iconst (v := 0) C (by decide) d_R_timeout_47 ?_
        refine pR_R_phase C u_710 d_R_timeout_48 ?_
        refine j_ltS (fun S25 => ?_)
        refine j_goto (tgt := 80) C d_R_timeout_51 (by decide) ?_
        refine j_iconst (v := 1) C (by decide) d_R_timeout_80 ?_
        exact j_zret C (Or.inr rfl) rfl rfl d_R_timeout_81
      · refine j_aload_n C 0 rfl rfl d_R_timeout_54 ?_
        refine gR_R_phase C u_710 d_R_timeout_55 ?_
        refine j_iconst (v := 4) C (by decide) d_R_timeout_58 ?_
        refine j_icmp_ne (tgt := 70) C d_R_timeout_59 (by decide) (fun h26 => ?_) (fun h26 => ?_)
        · refine j_aload_n C 0 rfl rfl d_R_timeout_62 ?_
          refine j_iconst (v := 1) C (by decide) d_R_timeout_63 ?_
          refine j_bnd (fun _ S28 e29 => ?_)
          refine j_callVv (As := [.int (1 : Int32)]) (rest := []) C 0 7 Y_R_reverse u_864 (c_R_reverse g S (1 : Int32) e29) rfl rfl ⟨by decide, by decide⟩ rfl rfl rfl rfl (Nat.le_of_ble_eq_true rfl) d_R_timeout_64 ?_
          refine j_goto (tgt := 80) C d_R_timeout_67 (by decide) ?_
          refine j_iconst (v := 1) C (by decide) d_R_timeout_80 ?_
          exact j_zret C (Or.inr rfl) rfl rfl d_R_timeout_81
        · refine j_aload_n C 0 rfl rfl d_R_timeout_70 ?_
          refine j_iconst (v := 3) C (by decide) d_R_timeout_71 ?_
          refine j_aload_n C 0 rfl rfl d_R_timeout_72 ?_
          refine gR_R_amount C u_714 d_R_timeout_73 ?_
          refine j_bnd (fun r30 S31 e32 => ?_)
          refine j_callVi (As := [.int (3 : Int32), .int (S.1 24 0)]) (rest := []) C 0 7 Y_R_sendStep u_815 (c_R_sendStep g S (3 : Int32) (S.1 24 0) e32) rfl rfl ⟨by decide, by decide⟩ rfl rfl rfl rfl (Nat.le_of_ble_eq_true rfl) d_R_timeout_76 ?_
          refine j_pop C rfl d_R_timeout_79 ?_
          refine j_iconst (v := 1) C (by decide) d_R_timeout_80 ?_
          exact j_zret C (Or.inr rfl) rfl rfl d_R_timeout_81
    · refine j_aload_n C 0 rfl rfl d_R_timeout_15 ?_
      refine gR_R_phase C u_710 d_R_timeout_16 ?_
      refine j_iconst (v := 4) C (by decide) d_R_timeout_19 ?_
      refine j_icmp_eq (tgt := 33) C d_R_timeout_20 (by decide) (fun h33 => ?_) (fun h33 => ?_)
      · refine j_aload_n C 0 rfl rfl d_R_timeout_33 ?_
        refine gR_R_phase C u_710 d_R_timeout_34 ?_
        refine j_iconst (v := 2) C (by decide) d_R_timeout_37 ?_
        refine j_icmp_ne (tgt := 54) C d_R_timeout_38 (by decide) (fun h34 => ?_) (fun h34 => ?_)
        · refine j_aload_n C 0 rfl rfl d_R_timeout_41 ?_
          refine j_iconst (v := -1) C (by decide) d_R_timeout_42 ?_
          refine pR_R_slotCard C u_711 d_R_timeout_43 ?_
          refine j_ltS (fun S35 => ?_)
          refine j_aload_n C 0 rfl rfl d_R_timeout_46 ?_
          refine j_iconst (v := 0) C (by decide) d_R_timeout_47 ?_
          refine pR_R_phase C u_710 d_R_timeout_48 ?_
          refine j_ltS (fun S36 => ?_)
          refine j_goto (tgt := 80) C d_R_timeout_51 (by decide) ?_
          refine j_iconst (v := 1) C (by decide) d_R_timeout_80 ?_
          exact j_zret C (Or.inr rfl) rfl rfl d_R_timeout_81
        · refine j_aload_n C 0 rfl rfl d_R_timeout_54 ?_
          refine gR_R_phase C u_710 d_R_timeout_55 ?_
          refine j_iconst (v := 4) C (by decide) d_R_timeout_58 ?_
          refine j_icmp_ne (tgt := 70) C d_R_timeout_59 (by decide) (fun h37 => ?_) (fun h37 => ?_)
          · refine j_aload_n C 0 rfl rfl d_R_timeout_62 ?_
            refine j_iconst (v := 1) C (by decide) d_R_timeout_63 ?_
            refine j_bnd (fun _ S39 e40 => ?_)
            refine j_callVv (As := [.int (1 : Int32)]) (rest := []) C 0 7 Y_R_reverse u_864 (c_R_reverse g S (1 : Int32) e40) rfl rfl ⟨by decide, by decide⟩ rfl rfl rfl rfl (Nat.le_of_ble_eq_true rfl) d_R_timeout_64 ?_
            refine j_goto (tgt := 80) C d_R_timeout_67 (by decide) ?_
            refine j_iconst (v := 1) C (by decide) d_R_timeout_80 ?_
            exact j_zret C (Or.inr rfl) rfl rfl d_R_timeout_81
          · refine j_aload_n C 0 rfl rfl d_R_timeout_70 ?_
            refine j_iconst (v := 3) C (by decide) d_R_timeout_71 ?_
            refine j_aload_n C 0 rfl rfl d_R_timeout_72 ?_
            refine gR_R_amount C u_714 d_R_timeout_73 ?_
            refine j_bnd (fun r41 S42 e43 => ?_)
            refine j_callVi (As := [.int (3 : Int32), .int (S.1 24 0)]) (rest := []) C 0 7 Y_R_sendStep u_815 (c_R_sendStep g S (3 : Int32) (S.1 24 0) e43) rfl rfl ⟨by decide, by decide⟩ rfl rfl rfl rfl (Nat.le_of_ble_eq_true rfl) d_R_timeout_76 ?_
            refine j_pop C rfl d_R_timeout_79 ?_
            refine j_iconst (v := 1) C (by decide) d_R_timeout_80 ?_
            exact j_zret C (Or.inr rfl) rfl rfl d_R_timeout_81
      · refine j_aload_n C 0 rfl rfl d_R_timeout_23 ?_
        refine gR_R_phase C u_710 d_R_timeout_24 ?_
        refine j_iconst (v := 5) C (by decide) d_R_timeout_27 ?_
        refine j_icmp_eq (tgt := 33) C d_R_timeout_28 (by decide) (fun h44 => ?_) (fun h44 => ?_)
        · refine j_aload_n C 0 rfl rfl d_R_timeout_33 ?_
          refine gR_R_phase C u_710 d_R_timeout_34 ?_
          refine j_iconst (v := 2) C (by decide) d_R_timeout_37 ?_
          refine j_icmp_ne (tgt := 54) C d_R_timeout_38 (by decide) (fun h45 => ?_) (fun h45 => ?_)
          · refine j_aload_n C 0 rfl rfl d_R_timeout_41 ?_
            refine j_iconst (v := -1) C (by decide) d_R_timeout_42 ?_
            refine pR_R_slotCard C u_711 d_R_timeout_43 ?_
            refine j_ltS (fun S46 => ?_)
            refine j_aload_n C 0 rfl rfl d_R_timeout_46 ?_
            refine j_iconst (v := 0) C (by decide) d_R_timeout_47 ?_
            refine pR_R_phase C u_710 d_R_timeout_48 ?_
            refine j_ltS (fun S47 => ?_)
            refine j_goto (tgt := 80) C d_R_timeout_51 (by decide) ?_
            refine j_iconst (v := 1) C (by decide) d_R_timeout_80 ?_
            exact j_zret C (Or.inr rfl) rfl rfl d_R_timeout_81
          · refine j_aload_n C 0 rfl rfl d_R_timeout_54 ?_
            refine gR_R_phase C u_710 d_R_timeout_55 ?_
            refine j_iconst (v := 4) C (by decide) d_R_timeout_58 ?_
            refine j_icmp_ne (tgt := 70) C d_R_timeout_59 (by decide) (fun h48 => ?_) (fun h48 => ?_)
            · refine j_aload_n C 0 rfl rfl d_R_timeout_62 ?_
              refine j_iconst (v := 1) C (by decide) d_R_timeout_63 ?_
              refine j_bnd (fun _ S50 e51 => ?_)
              refine j_callVv (As := [.int (1 : Int32)]) (rest := []) C 0 7 Y_R_reverse u_864 (c_R_reverse g S (1 : Int32) e51) rfl rfl ⟨by decide, by decide⟩ rfl rfl rfl rfl (Nat.le_of_ble_eq_true rfl) d_R_timeout_64 ?_
              refine j_goto (tgt := 80) C d_R_timeout_67 (by decide) ?_
              refine j_iconst (v := 1) C (by decide) d_R_timeout_80 ?_
              exact j_zret C (Or.inr rfl) rfl rfl d_R_timeout_81
            · refine j_aload_n C 0 rfl rfl d_R_timeout_70 ?_
              refine j_iconst (v := 3) C (by decide) d_R_timeout_71 ?_
              refine j_aload_n C 0 rfl rfl d_R_timeout_72 ?_
              refine gR_R_amount C u_714 d_R_timeout_73 ?_
              refine j_bnd (fun r52 S53 e54 => ?_)
              refine j_callVi (As := [.int (3 : Int32), .int (S.1 24 0)]) (rest := []) C 0 7 Y_R_sendStep u_815 (c_R_sendStep g S (3 : Int32) (S.1 24 0) e54) rfl rfl ⟨by decide, by decide⟩ rfl rfl rfl rfl (Nat.le_of_ble_eq_true rfl) d_R_timeout_76 ?_
              refine j_pop C rfl d_R_timeout_79 ?_
              refine j_iconst (v := 1) C (by decide) d_R_timeout_80 ?_
              exact j_zret C (Or.inr rfl) rfl rfl d_R_timeout_81
        · refine j_iconst (v := 0) C (by decide) d_R_timeout_31 ?_
          exact j_zret C (Or.inl rfl) rfl rfl d_R_timeout_32
def f_R_isLetter (g : Nat) (S : Mem) (x1 : Int32) : Option (Int32 × Mem) := if x1 < 0 then (some ((0 : Int32), S)) else (if (S.1 26 0) ≤ x1 then (some ((0 : Int32), S)) else (some ((1 : Int32), S)))
set_option maxRecDepth 100000 in
set_option maxHeartbeats 4000000 in
theorem c_R_isLetter {l : Launch} {D : va_G} {cI cJ cZ cL : ClassId} {a : Nat → Nat} (g : Nat) (S : Mem) (x1 : Int32) {r : Int32} {S9 : Mem} (h : f_R_isLetter g S x1 = some (r, S9)) : Ctr l y_R_isLetter prog_9_method_30_code 2 (some .boolean) rm_R_isLetter D (tyT cI cJ cZ cL) (wdR cI cJ cZ cL a) [.ref (a 0), .int x1] S (vI r, S9) := by
  refine Ctr.of (lv0 := [(0, .ref (a 0)), (1, .int x1)]) (vv := vI) (by decide) rfl (wdR_fst cI cJ cZ cL a) (Nat.le_of_ble_eq_true rfl) rfl (fun p e s m args below meth c A C => ?_) r S9 h
  unfold f_R_isLetter
  refine j_iload_n C 1 rfl rfl d_R_isLetter_0 ?_
  refine j_if_lt (tgt := 16) C d_R_isLetter_1 (by decide) (fun h21 => ?_) (fun h21 => ?_)
  · refine j_iconst (v := 0) C (by decide) d_R_isLetter_16 ?_
    exact j_zret C (Or.inl rfl) rfl rfl d_R_isLetter_17
  · refine j_iload_n C 1 rfl rfl d_R_isLetter_4 ?_
    refine j_aload_n C 0 rfl rfl d_R_isLetter_5 ?_
    refine gR_R_flying C u_716 d_R_isLetter_6 ?_
    refine j_icmp_ge (tgt := 16) C d_R_isLetter_9 (by decide) (fun h22 => ?_) (fun h22 => ?_)
    · refine j_iconst (v := 0) C (by decide) d_R_isLetter_16 ?_
      exact j_zret C (Or.inl rfl) rfl rfl d_R_isLetter_17
    · refine j_iconst (v := 1) C (by decide) d_R_isLetter_12 ?_
      refine j_goto (tgt := 17) C d_R_isLetter_13 (by decide) ?_
      exact j_zret C (Or.inr rfl) rfl rfl d_R_isLetter_17
def f_R_check_letter_25 (g : Nat) : Nat → Mem → Int32 → Int32 → Int32 → Int32 → Option (Mem × (Int32 × Int32 × Int32))
  | 0, _, _, _, _, _ => none
  | n + 1, S, x1, x2, x3, x4 => if (8 : Int32) ≤ x4 then (some (S, (x1, x2, x3))) else (if x2 ≤ (32767 : Int32) then (lt ((x2 * (2 : Int32)) &&& (65535 : Int32)) (fun x26 => lt (x4 + (1 : Int32)) (fun x27 => f_R_check_letter_25 g n S x1 x26 x3 x27))) else (lt ((x2 * (2 : Int32)) &&& (65535 : Int32)) (fun x28 => lt (x28 ^^^ (4129 : Int32)) (fun x29 => lt (x4 + (1 : Int32)) (fun x30 => f_R_check_letter_25 g n S x1 x29 x3 x30)))))
set_option maxRecDepth 100000 in
set_option maxHeartbeats 4000000 in
theorem lp_R_check_letter_25 {l : Launch} {D : va_G} {cI cJ cZ cL : ClassId} {a : Nat → Nat} {p : Program} {e : Env} {s : State} {m : MethodId} {args : Array Value} {below : List Frame} {meth : Method} {c : Code} {A : Nat → Prop} (C : Cx p s m args meth c "AutoTellerModel" prog_9_method_5_code 6 (some .int) D (tyT cI cJ cZ cL) (wdR cI cJ cZ cL a) A) (g : Nat) {K : (Mem × (Int32 × Int32 × Int32)) → Option (Int32 × Mem)} (hx : ∀ (S : Mem) (y : Int32 × Int32 × Int32), Tj p l e rm_R_check_letter s m args below meth c D (wdR cI cJ cZ cL a) A 6 vI K (some (S, y)) S 74 [(0, .ref (a 18)), (1, .int y.1), (2, .int y.2.1), (3, .int y.2.2)] []) : ∀ (n : Nat) (S : Mem) (x1 : Int32) (x2 : Int32) (x3 : Int32) (x4 : Int32), Tj p l e rm_R_check_letter s m args below meth c D (wdR cI cJ cZ cL a) A 6 vI K (f_R_check_letter_25 g n S x1 x2 x3 x4) S 25 [(0, .ref (a 18)), (1, .int x1), (2, .int x2), (3, .int x3), (4, .int x4)] [] := by
  intro n
  induction n with
  | zero =>
    intro S x1 x2 x3 x4
    exact j_none
  | succ n ih =>
    intro S x1 x2 x3 x4
    rw [f_R_check_letter_25]
    refine j_iload C 4 rfl d_R_check_25 ?_
    refine j_bipush (v := 8) C (by decide) d_R_check_27 ?_
    refine j_icmp_ge (tgt := 74) C d_R_check_29 (by decide) (fun h24 => ?_) (fun h24 => ?_)
    · refine j_sub [0, 1, 2, 3] rfl ?_
      exact hx S (x1, x2, x3)
    · refine j_iload_n C 2 rfl rfl d_R_check_32 ?_
      refine j_sipush (v := 32767) C (by decide) d_R_check_33 ?_
      refine j_icmp_le (tgt := 43) C d_R_check_36 (by decide) (fun h25 => ?_) (fun h25 => ?_)
      · refine j_iconst (v := 0) C (by decide) d_R_check_43 ?_
        refine j_istore (i := 5) (lv2 := [(5, .int (0 : Int32)), (0, .ref (a 18)), (1, .int x1), (2, .int x2), (3, .int x3), (4, .int x4)]) C (by decide) rfl d_R_check_44 ?_
        refine j_iload_n C 3 rfl rfl d_R_check_46 ?_
        refine j_iconst (v := 2) C (by decide) d_R_check_47 ?_
        refine j_imul C d_R_check_48 ?_
        refine j_ldc (v := 65535) C u_838 d_R_check_49 ?_
        refine j_iand C d_R_check_51 ?_
        refine j_lti (fun x26 => ?_)
        refine j_istore_n (i := 2) (lv2 := [(2, .int x26), (5, .int (0 : Int32)), (0, .ref (a 18)), (1, .int x1), (3, .int x3), (4, .int x4)]) C rfl (by decide) rfl d_R_check_52 ?_
        refine j_iload C 1 rfl d_R_check_53 ?_
        refine j_if_eq_T (tgt := 66) C d_R_check_55 (by decide) (by decide) ?_
        refine j_iload_n C 0 rfl rfl d_R_check_66 ?_
        refine j_istore_n (i := 2) (lv2 := [(2, .int x26), (5, .int (0 : Int32)), (0, .ref (a 18)), (1, .int x1), (3, .int x3), (4, .int x4)]) C rfl (by decide) rfl d_R_check_67 ?_
        refine j_iincN (n2 := 1) (lv2 := fun x27 => [(4, .int x27), (2, .int x26), (5, .int (0 : Int32)), (0, .ref (a 18)), (1, .int x1), (3, .int x3)]) C 5 rfl (by decide) (by decide) (fun _ => rfl) d_R_check_68 (fun x27 => ?_)
        refine j_goto (tgt := 25) C d_R_check_71 (by decide) ?_
        refine j_sub [3, 4, 1, 5, 0] rfl ?_
        exact ih S x1 x26 x3 x27
      · refine j_iconst (v := 1) C (by decide) d_R_check_39 ?_
        refine j_goto (tgt := 44) C d_R_check_40 (by decide) ?_
        refine j_istore (i := 5) (lv2 := [(5, .int (1 : Int32)), (0, .ref (a 18)), (1, .int x1), (2, .int x2), (3, .int x3), (4, .int x4)]) C (by decide) rfl d_R_check_44 ?_
        refine j_iload_n C 3 rfl rfl d_R_check_46 ?_
        refine j_iconst (v := 2) C (by decide) d_R_check_47 ?_
        refine j_imul C d_R_check_48 ?_
        refine j_ldc (v := 65535) C u_838 d_R_check_49 ?_
        refine j_iand C d_R_check_51 ?_
        refine j_lti (fun x28 => ?_)
        refine j_istore_n (i := 2) (lv2 := [(2, .int x28), (5, .int (1 : Int32)), (0, .ref (a 18)), (1, .int x1), (3, .int x3), (4, .int x4)]) C rfl (by decide) rfl d_R_check_52 ?_
        refine j_iload C 1 rfl d_R_check_53 ?_
        refine j_if_eq_F (tgt := 66) C d_R_check_55 (by decide) (by decide) ?_
        refine j_iload_n C 0 rfl rfl d_R_check_58 ?_
        refine j_sipush (v := 4129) C (by decide) d_R_check_59 ?_
        refine j_ixor C d_R_check_62 ?_
        refine j_goto (tgt := 67) C d_R_check_63 (by decide) ?_
        refine j_lti (fun x29 => ?_)
        refine j_istore_n (i := 2) (lv2 := [(2, .int x29), (5, .int (1 : Int32)), (0, .ref (a 18)), (1, .int x1), (3, .int x3), (4, .int x4)]) C rfl (by decide) rfl d_R_check_67 ?_
        refine j_iincN (n2 := 1) (lv2 := fun x30 => [(4, .int x30), (2, .int x29), (5, .int (1 : Int32)), (0, .ref (a 18)), (1, .int x1), (3, .int x3)]) C 5 rfl (by decide) (by decide) (fun _ => rfl) d_R_check_68 (fun x30 => ?_)
        refine j_goto (tgt := 25) C d_R_check_71 (by decide) ?_
        refine j_sub [3, 4, 1, 5, 0] rfl ?_
        exact ih S x1 x29 x3 x30
def f_R_check_letter_5 (g : Nat) : Nat → Mem → Int32 → Int32 → Int32 → Option (Mem × (Int32))
  | 0, _, _, _, _ => none
  | n + 1, S, x1, x2, x3 => if (11 : Int32) ≤ x3 then (some (S, x2)) else (grd (¬ ((x1 + x3) < 0 ∨ 14 ≤ (x1 + x3).toNatClampNeg)) (lt (x2 ^^^ ((S.1 29 ((x1 + x3).toNatClampNeg)) <<< ((8 : Int32) &&& 31))) (fun x23 => seqM (f_R_check_letter_25 g g S x1 x23 x3 (0 : Int32)) (fun S31 y32 => lt (y32.2.2 + (1 : Int32)) (fun x33 => f_R_check_letter_5 g n S31 y32.1 y32.2.1 x33)))))
set_option maxRecDepth 100000 in
set_option maxHeartbeats 4000000 in
theorem lp_R_check_letter_5 {l : Launch} {D : va_G} {cI cJ cZ cL : ClassId} {a : Nat → Nat} {p : Program} {e : Env} {s : State} {m : MethodId} {args : Array Value} {below : List Frame} {meth : Method} {c : Code} {A : Nat → Prop} (C : Cx p s m args meth c "AutoTellerModel" prog_9_method_5_code 6 (some .int) D (tyT cI cJ cZ cL) (wdR cI cJ cZ cL a) A) (g : Nat) {K : (Mem × (Int32)) → Option (Int32 × Mem)} (hx : ∀ (S : Mem) (y : Int32), Tj p l e rm_R_check_letter s m args below meth c D (wdR cI cJ cZ cL a) A 6 vI K (some (S, y)) S 80 [(2, .int y)] []) : ∀ (n : Nat) (S : Mem) (x1 : Int32) (x2 : Int32) (x3 : Int32), Tj p l e rm_R_check_letter s m args below meth c D (wdR cI cJ cZ cL a) A 6 vI K (f_R_check_letter_5 g n S x1 x2 x3) S 5 [(0, .ref (a 18)), (1, .int x1), (2, .int x2), (3, .int x3)] [] := by
  intro n
  induction n with
  | zero =>
    intro S x1 x2 x3
    exact j_none
  | succ n ih =>
    intro S x1 x2 x3
    rw [f_R_check_letter_5]
    refine j_iload_n C 3 rfl rfl d_R_check_5 ?_
    refine j_bipush (v := 11) C (by decide) d_R_check_6 ?_
    refine j_icmp_ge (tgt := 80) C d_R_check_8 (by decide) (fun h21 => ?_) (fun h21 => ?_)
    · refine j_sub [2] rfl ?_
      exact hx S x2
    · refine j_iload_n C 2 rfl rfl d_R_check_11 ?_
      refine j_aload_n C 0 rfl rfl d_R_check_12 ?_
      refine j_iload_n C 1 rfl rfl d_R_check_13 ?_
      refine j_iload_n C 3 rfl rfl d_R_check_14 ?_
      refine j_iadd C d_R_check_15 ?_
      refine j_grd (fun h22 => ?_)
      refine lR_R_letter C h22 d_R_check_16 ?_
      refine j_bipush (v := 8) C (by decide) d_R_check_17 ?_
      refine j_ishl C d_R_check_19 ?_
      refine j_ixor C d_R_check_20 ?_
      refine j_lti (fun x23 => ?_)
      refine j_istore_n (i := 2) (lv2 := [(2, .int x23), (0, .ref (a 18)), (1, .int x1), (3, .int x3)]) C rfl (by decide) rfl d_R_check_21 ?_
      refine j_iconst (v := 0) C (by decide) d_R_check_22 ?_
      refine j_istore (i := 4) (lv2 := [(4, .int (0 : Int32)), (2, .int x23), (0, .ref (a 18)), (1, .int x1), (3, .int x3)]) C (by decide) rfl d_R_check_23 ?_
      refine j_sub [2, 3, 1, 4, 0] rfl ?_
      refine j_seqM ?_
      refine lp_R_check_letter_25 C g  (fun S31 y32 => ?_) g S x1 x23 x3 (0 : Int32)
      refine j_outM ?_
      refine j_iincN (n2 := 1) (lv2 := fun x33 => [(3, .int x33), (0, .ref (a 18)), (1, .int y32.1), (2, .int y32.2.1)]) C 3 rfl (by decide) (by decide) (fun _ => rfl) d_R_check_74 (fun x33 => ?_)
      refine j_goto (tgt := 5) C d_R_check_77 (by decide) ?_
      refine j_sub [1, 2, 3, 0] rfl ?_
      exact ih S31 y32.1 y32.2.1 x33
def f_R_check_letter (g : Nat) (S : Mem) (x1 : Int32) : Option (Int32 × Mem) := seqM (f_R_check_letter_5 g g S x1 (65535 : Int32) (0 : Int32)) (fun S34 y35 => some (y35, S34))
set_option maxRecDepth 100000 in
set_option maxHeartbeats 4000000 in
theorem c_R_check_letter {l : Launch} {D : va_G} {cI cJ cZ cL : ClassId} {a : Nat → Nat} (g : Nat) (S : Mem) (x1 : Int32) {r : Int32} {S9 : Mem} (h : f_R_check_letter g S x1 = some (r, S9)) : Ctr l y_R_check prog_9_method_5_code 6 (some .int) rm_R_check_letter D (tyT cI cJ cZ cL) (wdR cI cJ cZ cL a) [.ref (a 18), .int x1] S (vI r, S9) := by
  refine Ctr.of (lv0 := [(0, .ref (a 18)), (1, .int x1)]) (vv := vI) (by decide) rfl (wdR_fst cI cJ cZ cL a) (Nat.le_of_ble_eq_true rfl) rfl (fun p e s m args below meth c A C => ?_) r S9 h
  unfold f_R_check_letter
  refine j_ldc (v := 65535) C u_838 d_R_check_0 ?_
  refine j_istore_n (i := 2) (lv2 := [(2, .int (65535 : Int32)), (0, .ref (a 18)), (1, .int x1)]) C rfl (by decide) rfl d_R_check_2 ?_
  refine j_iconst (v := 0) C (by decide) d_R_check_3 ?_
  refine j_istore_n (i := 3) (lv2 := [(3, .int (0 : Int32)), (2, .int (65535 : Int32)), (0, .ref (a 18)), (1, .int x1)]) C rfl (by decide) rfl d_R_check_4 ?_
  refine j_sub [2, 3, 1, 0] rfl ?_
  refine j_seqM ?_
  refine lp_R_check_letter_5 C g  (fun S34 y35 => ?_) g S x1 (65535 : Int32) (0 : Int32)
  refine j_outM ?_
  refine j_iload_n C 0 rfl rfl d_R_check_80 ?_
  exact j_iret C rfl rfl d_R_check_81
def f_R_numberAt (g : Nat) (S : Mem) (x1 : Int32) : Option (Int32 × Mem) := grd (¬ (x1 < 0 ∨ 14 ≤ x1.toNatClampNeg)) (grd (¬ ((x1 + (1 : Int32)) < 0 ∨ 14 ≤ (x1 + (1 : Int32)).toNatClampNeg)) (grd (¬ ((x1 + (2 : Int32)) < 0 ∨ 14 ≤ (x1 + (2 : Int32)).toNatClampNeg)) (grd (¬ ((x1 + (3 : Int32)) < 0 ∨ 14 ≤ (x1 + (3 : Int32)).toNatClampNeg)) (some (((((S.1 29 x1.toNatClampNeg) <<< ((24 : Int32) &&& 31)) ||| ((S.1 29 ((x1 + (1 : Int32)).toNatClampNeg)) <<< ((16 : Int32) &&& 31))) ||| ((S.1 29 ((x1 + (2 : Int32)).toNatClampNeg)) <<< ((8 : Int32) &&& 31))) ||| (S.1 29 ((x1 + (3 : Int32)).toNatClampNeg)), S)))))
set_option maxRecDepth 100000 in
set_option maxHeartbeats 4000000 in
theorem c_R_numberAt {l : Launch} {D : va_G} {cI cJ cZ cL : ClassId} {a : Nat → Nat} (g : Nat) (S : Mem) (x1 : Int32) {r : Int32} {S9 : Mem} (h : f_R_numberAt g S x1 = some (r, S9)) : Ctr l y_R_numberAt prog_9_method_8_code 2 (some .int) rm_R_numberAt D (tyT cI cJ cZ cL) (wdR cI cJ cZ cL a) [.ref (a 0), .int x1] S (vI r, S9) := by
  refine Ctr.of (lv0 := [(0, .ref (a 0)), (1, .int x1)]) (vv := vI) (by decide) rfl (wdR_fst cI cJ cZ cL a) (Nat.le_of_ble_eq_true rfl) rfl (fun p e s m args below meth c A C => ?_) r S9 h
  unfold f_R_numberAt
  refine j_aload_n C 0 rfl rfl d_R_numberAt_0 ?_
  refine gR_R_letter C u_719 d_R_numberAt_1 ?_
  refine j_iload_n C 1 rfl rfl d_R_numberAt_4 ?_
  refine j_grd (fun h21 => ?_)
  refine lR_R_letter C h21 d_R_numberAt_5 ?_
  refine j_bipush (v := 24) C (by decide) d_R_numberAt_6 ?_
  refine j_ishl C d_R_numberAt_8 ?_
  refine j_aload_n C 0 rfl rfl d_R_numberAt_9 ?_
  refine gR_R_letter C u_719 d_R_numberAt_10 ?_
  refine j_iload_n C 1 rfl rfl d_R_numberAt_13 ?_
  refine j_iconst (v := 1) C (by decide) d_R_numberAt_14 ?_
  refine j_iadd C d_R_numberAt_15 ?_
  refine j_grd (fun h22 => ?_)
  refine lR_R_letter C h22 d_R_numberAt_16 ?_
  refine j_bipush (v := 16) C (by decide) d_R_numberAt_17 ?_
  refine j_ishl C d_R_numberAt_19 ?_
  refine j_ior C d_R_numberAt_20 ?_
  refine j_aload_n C 0 rfl rfl d_R_numberAt_21 ?_
  refine gR_R_letter C u_719 d_R_numberAt_22 ?_
  refine j_iload_n C 1 rfl rfl d_R_numberAt_25 ?_
  refine j_iconst (v := 2) C (by decide) d_R_numberAt_26 ?_
  refine j_iadd C d_R_numberAt_27 ?_
  refine j_grd (fun h23 => ?_)
  refine lR_R_letter C h23 d_R_numberAt_28 ?_
  refine j_bipush (v := 8) C (by decide) d_R_numberAt_29 ?_
  refine j_ishl C d_R_numberAt_31 ?_
  refine j_ior C d_R_numberAt_32 ?_
  refine j_aload_n C 0 rfl rfl d_R_numberAt_33 ?_
  refine gR_R_letter C u_719 d_R_numberAt_34 ?_
  refine j_iload_n C 1 rfl rfl d_R_numberAt_37 ?_
  refine j_iconst (v := 3) C (by decide) d_R_numberAt_38 ?_
  refine j_iadd C d_R_numberAt_39 ?_
  refine j_grd (fun h24 => ?_)
  refine lR_R_letter C h24 d_R_numberAt_40 ?_
  refine j_ior C d_R_numberAt_41 ?_
  exact j_iret C rfl rfl d_R_numberAt_42
