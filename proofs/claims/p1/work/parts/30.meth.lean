def f_R_come_2 (g : Nat) : Nat → Mem → Int32 → Int32 → Int32 → Option (Mem × (Int32 × Int32))
  | 0, _, _, _, _ => none
  | n + 1, S, x1, x2, x3 => if (14 : Int32) ≤ x3 then (some (S, (x1, x2))) else (grd (¬ ((((14 : Int32) * x1) + x3) < 0 ∨ 350 ≤ (((14 : Int32) * x1) + x3).toNatClampNeg)) (grd (¬ (x3 < 0 ∨ 14 ≤ x3.toNatClampNeg)) (lt (sI S 29 x3.toNatClampNeg (S.1 25 ((((14 : Int32) * x1) + x3).toNatClampNeg))) (fun S24 => lt (x3 + (1 : Int32)) (fun x25 => f_R_come_2 g n S24 x1 x2 x25)))))
set_option maxRecDepth 100000 in
set_option maxHeartbeats 4000000 in
theorem lp_R_come_2 {l : Launch} {D : va_G} {cI cJ cZ cL : ClassId} {a : Nat → Nat} {p : Program} {e : Env} {s : State} {m : MethodId} {args : Array Value} {below : List Frame} {meth : Method} {c : Code} {A : Nat → Prop} (C : Cx p s m args meth c "AutoTellerModel" prog_9_method_9_code 6 none D (tyT cI cJ cZ cL) (wdR cI cJ cZ cL a) A) (g : Nat) {K : (Mem × (Int32 × Int32)) → Option (Unit × Mem)} (hx : ∀ (S : Mem) (y : Int32 × Int32), Tj p l e rm_R_come s m args below meth c D (wdR cI cJ cZ cL a) A 6 vV K (some (S, y)) S 31 [(0, .ref (a 0)), (1, .int y.1), (2, .int y.2)] []) : ∀ (n : Nat) (S : Mem) (x1 : Int32) (x2 : Int32) (x3 : Int32), Tj p l e rm_R_come s m args below meth c D (wdR cI cJ cZ cL a) A 6 vV K (f_R_come_2 g n S x1 x2 x3) S 2 [(0, .ref (a 0)), (1, .int x1), (2, .int x2), (3, .int x3)] [] := by
  intro n
  induction n with
  | zero =>
    intro S x1 x2 x3
    exact j_none
  | succ n ih =>
    intro S x1 x2 x3
    rw [f_R_come_2]
    refine j_iload_n C 3 rfl rfl d_R_come_2 ?_
    refine j_bipush (v := 14) C (by decide) d_R_come_3 ?_
    refine j_icmp_ge (tgt := 31) C d_R_come_5 (by decide) (fun h21 => ?_) (fun h21 => ?_)
    · refine j_sub [0, 1, 2] rfl ?_
      exact hx S (x1, x2)
    · refine j_aload_n C 0 rfl rfl d_R_come_8 ?_
      refine gR_R_letter C u_719 d_R_come_9 ?_
      refine j_iload_n C 3 rfl rfl d_R_come_12 ?_
      refine j_aload_n C 0 rfl rfl d_R_come_13 ?_
      refine gR_R_line C u_715 d_R_come_14 ?_
      refine j_bipush (v := 14) C (by decide) d_R_come_17 ?_
      refine j_iload_n C 1 rfl rfl d_R_come_19 ?_
      refine j_imul C d_R_come_20 ?_
      refine j_iload_n C 3 rfl rfl d_R_come_21 ?_
      refine j_iadd C d_R_come_22 ?_
      refine j_grd (fun h22 => ?_)
      refine lR_R_line C h22 d_R_come_23 ?_
      refine j_grd (fun h23 => ?_)
      refine sR_R_letter C h23 d_R_come_24 ?_
      refine j_ltS (fun S24 => ?_)
      refine j_iincN (n2 := 1) (lv2 := fun x25 => [(3, .int x25), (0, .ref (a 0)), (1, .int x1), (2, .int x2)]) C 3 rfl (by decide) (by decide) (fun _ => rfl) d_R_come_25 (fun x25 => ?_)
      refine j_goto (tgt := 2) C d_R_come_28 (by decide) ?_
      refine j_sub [1, 2, 3, 0] rfl ?_
      exact ih S24 x1 x2 x25
def f_R_come (g : Nat) (S : Mem) (x1 : Int32) (x2 : Int32) : Option (Unit × Mem) := seqM (f_R_come_2 g g S x1 x2 (0 : Int32)) (fun S26 y27 => if y27.2 = 0 then (bnd (f_R_drop g S26 y27.1) (fun _ S30 => if (S30.1 29 ((13 : Int32).toNatClampNeg)) = (1 : Int32) then (if (S30.1 18 0) = 0 then (some ((), S30)) else (bnd (f_R_check_letter g S30 (0 : Int32)) (fun r34 S35 => if (S35.1 29 ((11 : Int32).toNatClampNeg)) = (r34 >>> ((8 : Int32) &&& 31)) then (if (S35.1 29 ((12 : Int32).toNatClampNeg)) = (r34 &&& (255 : Int32)) then (bnd (f_R_machineTakes g S35) (fun r39 S40 => if r39 = 0 then (lt (sI S40 27 0 ((S40.1 27 0) + (1 : Int32))) (fun S43 => some ((), S43))) else (lt (sI S40 27 0 ((S40.1 27 0) + (0 : Int32))) (fun S44 => some ((), S44))))) else (lt (sI S35 27 0 ((S35.1 27 0) + (1 : Int32))) (fun S45 => some ((), S45)))) else (lt (sI S35 27 0 ((S35.1 27 0) + (1 : Int32))) (fun S46 => some ((), S46)))))) else (bnd (f_R_check_letter g S30 (0 : Int32)) (fun r47 S48 => if (S48.1 29 ((11 : Int32).toNatClampNeg)) = (r47 >>> ((8 : Int32) &&& 31)) then (if (S48.1 29 ((12 : Int32).toNatClampNeg)) = (r47 &&& (255 : Int32)) then (bnd (f_R_hostTakes g S48) (fun r52 S53 => if r52 = 0 then (lt (sI S53 27 0 ((S53.1 27 0) + (1 : Int32))) (fun S56 => some ((), S56))) else (lt (sI S53 27 0 ((S53.1 27 0) + (0 : Int32))) (fun S57 => some ((), S57))))) else (lt (sI S48 27 0 ((S48.1 27 0) + (1 : Int32))) (fun S58 => some ((), S58)))) else (lt (sI S48 27 0 ((S48.1 27 0) + (1 : Int32))) (fun S59 => some ((), S59))))))) else (if (S26.1 29 ((13 : Int32).toNatClampNeg)) = (1 : Int32) then (if (S26.1 18 0) = 0 then (some ((), S26)) else (bnd (f_R_check_letter g S26 (0 : Int32)) (fun r62 S63 => if (S63.1 29 ((11 : Int32).toNatClampNeg)) = (r62 >>> ((8 : Int32) &&& 31)) then (if (S63.1 29 ((12 : Int32).toNatClampNeg)) = (r62 &&& (255 : Int32)) then (bnd (f_R_machineTakes g S63) (fun r67 S68 => if r67 = 0 then (lt (sI S68 27 0 ((S68.1 27 0) + (1 : Int32))) (fun S71 => some ((), S71))) else (lt (sI S68 27 0 ((S68.1 27 0) + (0 : Int32))) (fun S72 => some ((), S72))))) else (lt (sI S63 27 0 ((S63.1 27 0) + (1 : Int32))) (fun S73 => some ((), S73)))) else (lt (sI S63 27 0 ((S63.1 27 0) + (1 : Int32))) (fun S74 => some ((), S74)))))) else (bnd (f_R_check_letter g S26 (0 : Int32)) (fun r75 S76 => if (S76.1 29 ((11 : Int32).toNatClampNeg)) = (r75 >>> ((8 : Int32) &&& 31)) then (if (S76.1 29 ((12 : Int32).toNatClampNeg)) = (r75 &&& (255 : Int32)) then (bnd (f_R_hostTakes g S76) (fun r80 S81 => if r80 = 0 then (lt (sI S81 27 0 ((S81.1 27 0) + (1 : Int32))) (fun S84 => some ((), S84))) else (lt (sI S81 27 0 ((S81.1 27 0) + (0 : Int32))) (fun S85 => some ((), S85))))) else (lt (sI S76 27 0 ((S76.1 27 0) + (1 : Int32))) (fun S86 => some ((), S86)))) else (lt (sI S76 27 0 ((S76.1 27 0) + (1 : Int32))) (fun S87 => some ((), S87)))))))
set_option maxRecDepth 100000 in
set_option maxHeartbeats 4000000 in
theorem c_R_come {l : Launch} {D : va_G} {cI cJ cZ cL : ClassId} {a : Nat → Nat} (g : Nat) (S : Mem) (x1 : Int32) (x2 : Int32) {r : Unit} {S9 : Mem} (h : f_R_come g S x1 x2 = some (r, S9)) : Ctr l y_R_come prog_9_method_9_code 6 none rm_R_come D (tyT cI cJ cZ cL) (wdR cI cJ cZ cL a) [.ref (a 0), .int x1, .int x2] S (vV r, S9) := by
  refine Ctr.of (lv0 := [(0, .ref (a 0)), (1, .int x1), (2, .int x2)]) (vv := vV) (by decide) rfl (wdR_fst cI cJ cZ cL a) (Nat.le_of_ble_eq_true rfl) rfl (fun p e s m args below meth c A C => ?_) r S9 h
  unfold f_R_come
  refine j_iconst (v := 0) C (by decide) d_R_come_0 ?_
  refine j_istore_n (i := 3) (lv2 := [(3, .int (0 : Int32)), (0, .ref (a 0)), (1, .int x1), (2, .int x2)]) C rfl (by decide) rfl d_R_come_1 ?_
  refine j_sub [1, 2, 3, 0] rfl ?_
  refine j_seqM ?_
  refine lp_R_come_2 C g  (fun S26 y27 => ?_) g S x1 x2 (0 : Int32)
  refine j_outM ?_
  refine j_iload_n C 2 rfl rfl d_R_come_31 ?_
  refine j_if_ne (tgt := 40) C d_R_come_32 (by decide) (fun h28 => ?_) (fun h28 => ?_)
  · refine j_aload_n C 0 rfl rfl d_R_come_35 ?_
    refine j_iload_n C 1 rfl rfl d_R_come_36 ?_
    refine j_bnd (fun _ S30 e31 => ?_)
    refine j_callVv (As := [.int y27.1]) (rest := []) C 0 7 Y_R_drop u_831 (c_R_drop g S26 y27.1 e31) rfl rfl ⟨by decide, by decide⟩ rfl rfl rfl rfl (Nat.le_of_ble_eq_true rfl) d_R_come_37 ?_
    refine j_aload_n C 0 rfl rfl d_R_come_40 ?_
    refine gR_R_letter C u_719 d_R_come_41 ?_
    refine j_bipush (v := 13) C (by decide) d_R_come_44 ?_
    refine lR_R_letter C (by decide) d_R_come_46 ?_
    refine j_iconst (v := 1) C (by decide) d_R_come_47 ?_
    refine j_icmp_ne (tgt := 55) C d_R_come_48 (by decide) (fun h32 => ?_) (fun h32 => ?_)
    · refine j_iconst (v := 1) C (by decide) d_R_come_51 ?_
      refine j_goto (tgt := 56) C d_R_come_52 (by decide) ?_
      refine j_istore_n (i := 3) (lv2 := [(3, .int (1 : Int32)), (0, .ref (a 0)), (1, .int y27.1), (2, .int y27.2)]) C rfl (by decide) rfl d_R_come_56 ?_
      refine j_iload_n C 0 rfl rfl d_R_come_57 ?_
      refine j_if_eq_F (tgt := 69) C d_R_come_58 (by decide) (by decide) ?_
      refine j_aload_n C 1 rfl rfl d_R_come_61 ?_
      refine gR_R_isOn C u_708 d_R_come_62 ?_
      refine j_if_ne (tgt := 69) C d_R_come_65 (by decide) (fun h33 => ?_) (fun h33 => ?_)
      · exact j_vret C rfl rfl d_R_come_68
      · refine j_aload_n C 1 rfl rfl d_R_come_69 ?_
        refine gR_R_letter C u_719 d_R_come_70 ?_
        refine j_iconst (v := 0) C (by decide) d_R_come_73 ?_
        refine j_bnd (fun r34 S35 e36 => ?_)
        refine j_callSi (As := [.ref (a 18), .int (0 : Int32)]) (rest := []) C Y_R_check u_835 (c_R_check_letter g S30 (0 : Int32) e36) rfl rfl ⟨by decide, by decide⟩ rfl rfl (Nat.le_of_ble_eq_true rfl) d_R_come_74 ?_
        refine j_istore (i := 4) (lv2 := [(4, .int r34), (3, .int (1 : Int32)), (0, .ref (a 0)), (1, .int y27.1), (2, .int y27.2)]) C (by decide) rfl d_R_come_77 ?_
        refine j_aload_n C 2 rfl rfl d_R_come_79 ?_
        refine gR_R_letter C u_719 d_R_come_80 ?_
        refine j_bipush (v := 11) C (by decide) d_R_come_83 ?_
        refine lR_R_letter C (by decide) d_R_come_85 ?_
        refine j_iload C 0 rfl d_R_come_86 ?_
        refine j_bipush (v := 8) C (by decide) d_R_come_88 ?_
        refine j_ishr C d_R_come_90 ?_
        refine j_icmp_ne (tgt := 114) C d_R_come_91 (by decide) (fun h37 => ?_) (fun h37 => ?_)
        · refine j_aload_n C 2 rfl rfl d_R_come_94 ?_
          refine gR_R_letter C u_719 d_R_come_95 ?_
          refine j_bipush (v := 12) C (by decide) d_R_come_98 ?_
          refine lR_R_letter C (by decide) d_R_come_100 ?_
          refine j_iload C 0 rfl d_R_come_101 ?_
          refine j_sipush (v := 255) C (by decide) d_R_come_103 ?_
          refine j_iand C d_R_come_106 ?_
          refine j_icmp_ne (tgt := 114) C d_R_come_107 (by decide) (fun h38 => ?_) (fun h38 => ?_)
          · refine j_iconst (v := 1) C (by decide) d_R_come_110 ?_
            refine j_goto (tgt := 115) C d_R_come_111 (by decide) ?_
            refine j_istore (i := 5) (lv2 := [(5, .int (1 : Int32)), (4, .int r34), (3, .int (1 : Int32)), (0, .ref (a 0)), (1, .int y27.1), (2, .int y27.2)]) C (by decide) rfl d_R_come_115 ?_
            refine j_iload C 0 rfl d_R_come_117 ?_
            refine j_if_eq_F (tgt := 139) C d_R_come_119 (by decide) (by decide) ?_
            refine j_iload_n C 2 rfl rfl d_R_come_122 ?_
            refine j_if_eq_F (tgt := 133) C d_R_come_123 (by decide) (by decide) ?_
            refine j_aload_n C 3 rfl rfl d_R_come_126 ?_
            refine j_bnd (fun r39 S40 e41 => ?_)
            refine j_callVi (As := []) (rest := []) C 0 7 Y_R_machineTakes u_884 (c_R_machineTakes g S35 e41) rfl rfl ⟨by decide, by decide⟩ rfl rfl rfl rfl (Nat.le_of_ble_eq_true rfl) d_R_come_127 ?_
            refine j_goto (tgt := 137) C d_R_come_130 (by decide) ?_
            refine j_istore (i := 5) (lv2 := [(5, .int r39), (4, .int r34), (3, .int (1 : Int32)), (0, .ref (a 0)), (1, .int y27.1), (2, .int y27.2)]) C (by decide) rfl d_R_come_137 ?_
            refine j_aload_n C 3 rfl rfl d_R_come_139 ?_
            refine j_dup C rfl d_R_come_140 ?_
            refine gR_R_dropped C u_717 d_R_come_141 ?_
            refine j_iload C 0 rfl d_R_come_144 ?_
            refine j_if_eq (tgt := 153) C d_R_come_146 (by decide) (fun h42 => ?_) (fun h42 => ?_)
            · refine j_iconst (v := 1) C (by decide) d_R_come_153 ?_
              refine j_iadd C d_R_come_154 ?_
              refine pR_R_dropped C u_717 d_R_come_155 ?_
              refine j_ltS (fun S43 => ?_)
              exact j_vret C rfl rfl d_R_come_158
            · refine j_iconst (v := 0) C (by decide) d_R_come_149 ?_
              refine j_goto (tgt := 154) C d_R_come_150 (by decide) ?_
              refine j_iadd C d_R_come_154 ?_
              refine pR_R_dropped C u_717 d_R_come_155 ?_
              refine j_ltS (fun S44 => ?_)
              exact j_vret C rfl rfl d_R_come_158
          · refine j_iconst (v := 0) C (by decide) d_R_come_114 ?_
            refine j_istore (i := 5) (lv2 := [(5, .int (0 : Int32)), (4, .int r34), (3, .int (1 : Int32)), (0, .ref (a 0)), (1, .int y27.1), (2, .int y27.2)]) C (by decide) rfl d_R_come_115 ?_
            refine j_iload C 0 rfl d_R_come_117 ?_
            refine j_if_eq_T (tgt := 139) C d_R_come_119 (by decide) (by decide) ?_
            refine j_aload_n C 3 rfl rfl d_R_come_139 ?_
            refine j_dup C rfl d_R_come_140 ?_
            refine gR_R_dropped C u_717 d_R_come_141 ?_
            refine j_iload C 0 rfl d_R_come_144 ?_
            refine j_if_eq_T (tgt := 153) C d_R_come_146 (by decide) (by decide) ?_
            refine j_iconst (v := 1) C (by decide) d_R_come_153 ?_
            refine j_iadd C d_R_come_154 ?_
            refine pR_R_dropped C u_717 d_R_come_155 ?_
            refine j_ltS (fun S45 => ?_)
            exact j_vret C rfl rfl d_R_come_158
        · refine j_iconst (v := 0) C (by decide) d_R_come_114 ?_
          refine j_istore (i := 5) (lv2 := [(5, .int (0 : Int32)), (4, .int r34), (3, .int (1 : Int32)), (0, .ref (a 0)), (1, .int y27.1), (2, .int y27.2)]) C (by decide) rfl d_R_come_115 ?_
          refine j_iload C 0 rfl d_R_come_117 ?_
          refine j_if_eq_T (tgt := 139) C d_R_come_119 (by decide) (by decide) ?_
          refine j_aload_n C 3 rfl rfl d_R_come_139 ?_
          refine j_dup C rfl d_R_come_140 ?_
          refine gR_R_dropped C u_717 d_R_come_141 ?_
          refine j_iload C 0 rfl d_R_come_144 ?_
          refine j_if_eq_T (tgt := 153) C d_R_come_146 (by decide) (by decide) ?_
          refine j_iconst (v := 1) C (by decide) d_R_come_153 ?_
          refine j_iadd C d_R_come_154 ?_
          refine pR_R_dropped C u_717 d_R_come_155 ?_
          refine j_ltS (fun S46 => ?_)
          exact j_vret C rfl rfl d_R_come_158
    · refine j_iconst (v := 0) C (by decide) d_R_come_55 ?_
      refine j_istore_n (i := 3) (lv2 := [(3, .int (0 : Int32)), (0, .ref (a 0)), (1, .int y27.1), (2, .int y27.2)]) C rfl (by decide) rfl d_R_come_56 ?_
      refine j_iload_n C 0 rfl rfl d_R_come_57 ?_
      refine j_if_eq_T (tgt := 69) C d_R_come_58 (by decide) (by decide) ?_
      refine j_aload_n C 1 rfl rfl d_R_come_69 ?_
      refine gR_R_letter C u_719 d_R_come_70 ?_
      refine j_iconst (v := 0) C (by decide) d_R_come_73 ?_
      refine j_bnd (fun r47 S48 e49 => ?_)
      refine j_callSi (As := [.ref (a 18), .int (0 : Int32)]) (rest := []) C Y_R_check u_835 (c_R_check_letter g S30 (0 : Int32) e49) rfl rfl ⟨by decide, by decide⟩ rfl rfl (Nat.le_of_ble_eq_true rfl) d_R_come_74 ?_
      refine j_istore (i := 4) (lv2 := [(4, .int r47), (3, .int (0 : Int32)), (0, .ref (a 0)), (1, .int y27.1), (2, .int y27.2)]) C (by decide) rfl d_R_come_77 ?_
      refine j_aload_n C 2 rfl rfl d_R_come_79 ?_
      refine gR_R_letter C u_719 d_R_come_80 ?_
      refine j_bipush (v := 11) C (by decide) d_R_come_83 ?_
      refine lR_R_letter C (by decide) d_R_come_85 ?_
      refine j_iload C 0 rfl d_R_come_86 ?_
      refine j_bipush (v := 8) C (by decide) d_R_come_88 ?_
      refine j_ishr C d_R_come_90 ?_
      refine j_icmp_ne (tgt := 114) C d_R_come_91 (by decide) (fun h50 => ?_) (fun h50 => ?_)
      · refine j_aload_n C 2 rfl rfl d_R_come_94 ?_
        refine gR_R_letter C u_719 d_R_come_95 ?_
        refine j_bipush (v := 12) C (by decide) d_R_come_98 ?_
        refine lR_R_letter C (by decide) d_R_come_100 ?_
        refine j_iload C 0 rfl d_R_come_101 ?_
        refine j_sipush (v := 255) C (by decide) d_R_come_103 ?_
        refine j_iand C d_R_come_106 ?_
        refine j_icmp_ne (tgt := 114) C d_R_come_107 (by decide) (fun h51 => ?_) (fun h51 => ?_)
        · refine j_iconst (v := 1) C (by decide) d_R_come_110 ?_
          refine j_goto (tgt := 115) C d_R_come_111 (by decide) ?_
          refine j_istore (i := 5) (lv2 := [(5, .int (1 : Int32)), (4, .int r47), (3, .int (0 : Int32)), (0, .ref (a 0)), (1, .int y27.1), (2, .int y27.2)]) C (by decide) rfl d_R_come_115 ?_
          refine j_iload C 0 rfl d_R_come_117 ?_
          refine j_if_eq_F (tgt := 139) C d_R_come_119 (by decide) (by decide) ?_
          refine j_iload_n C 2 rfl rfl d_R_come_122 ?_
          refine j_if_eq_T (tgt := 133) C d_R_come_123 (by decide) (by decide) ?_
          refine j_aload_n C 3 rfl rfl d_R_come_133 ?_
          refine j_bnd (fun r52 S53 e54 => ?_)
          refine j_callVi (As := []) (rest := []) C 0 7 Y_R_hostTakes u_896 (c_R_hostTakes g S48 e54) rfl rfl ⟨by decide, by decide⟩ rfl rfl rfl rfl (Nat.le_of_ble_eq_true rfl) d_R_come_134 ?_
          refine j_istore (i := 5) (lv2 := [(5, .int r52), (4, .int r47), (3, .int (0 : Int32)), (0, .ref (a 0)), (1, .int y27.1), (2, .int y27.2)]) C (by decide) rfl d_R_come_137 ?_
          refine j_aload_n C 3 rfl rfl d_R_come_139 ?_
          refine j_dup C rfl d_R_come_140 ?_
          refine gR_R_dropped C u_717 d_R_come_141 ?_
          refine j_iload C 0 rfl d_R_come_144 ?_
          refine j_if_eq (tgt := 153) C d_R_come_146 (by decide) (fun h55 => ?_) (fun h55 => ?_)
          · refine j_iconst (v := 1) C (by decide) d_R_come_153 ?_
            refine j_iadd C d_R_come_154 ?_
            refine pR_R_dropped C u_717 d_R_come_155 ?_
            refine j_ltS (fun S56 => ?_)
            exact j_vret C rfl rfl d_R_come_158
          · refine j_iconst (v := 0) C (by decide) d_R_come_149 ?_
            refine j_goto (tgt := 154) C d_R_come_150 (by decide) ?_
            refine j_iadd C d_R_come_154 ?_
            refine pR_R_dropped C u_717 d_R_come_155 ?_
            refine j_ltS (fun S57 => ?_)
            exact j_vret C rfl rfl d_R_come_158
        · refine j_iconst (v := 0) C (by decide) d_R_come_114 ?_
          refine j_istore (i := 5) (lv2 := [(5, .int (0 : Int32)), (4, .int r47), (3, .int (0 : Int32)), (0, .ref (a 0)), (1, .int y27.1), (2, .int y27.2)]) C (by decide) rfl d_R_come_115 ?_
          refine j_iload C 0 rfl d_R_come_117 ?_
          refine j_if_eq_T (tgt := 139) C d_R_come_119 (by decide) (by decide) ?_
          refine j_aload_n C 3 rfl rfl d_R_come_139 ?_
          refine j_dup C rfl d_R_come_140 ?_
          refine gR_R_dropped C u_717 d_R_come_141 ?_
          refine j_iload C 0 rfl d_R_come_144 ?_
          refine j_if_eq_T (tgt := 153) C d_R_come_146 (by decide) (by decide) ?_
          refine j_iconst (v := 1) C (by decide) d_R_come_153 ?_
          refine j_iadd C d_R_come_154 ?_
          refine pR_R_dropped C u_717 d_R_come_155 ?_
          refine j_ltS (fun S58 => ?_)
          exact j_vret C rfl rfl d_R_come_158
      · refine j_iconst (v := 0) C (by decide) d_R_come_114 ?_
        refine j_istore (i := 5) (lv2 := [(5, .int (0 : Int32)), (4, .int r47), (3, .int (0 : Int32)), (0, .ref (a 0)), (1, .int y27.1), (2, .int y27.2)]) C (by decide) rfl d_R_come_115 ?_
        refine j_iload C 0 rfl d_R_come_117 ?_
        refine j_if_eq_T (tgt := 139) C d_R_come_119 (by decide) (by decide) ?_
        refine j_aload_n C 3 rfl rfl d_R_come_139 ?_
        refine j_dup C rfl d_R_come_140 ?_
        refine gR_R_dropped C u_717 d_R_come_141 ?_
        refine j_iload C 0 rfl d_R_come_144 ?_
        refine j_if_eq_T (tgt := 153) C d_R_come_146 (by decide) (by decide) ?_
        refine j_iconst (v := 1) C (by decide) d_R_come_153 ?_
        refine j_iadd C d_R_come_154 ?_
        refine pR_R_dropped C u_717 d_R_come_155 ?_
        refine j_ltS (fun S59 => ?_)
        exact j_vret C rfl rfl d_R_come_158
  · refine j_aload_n C 0 rfl rfl d_R_come_40 ?_
    refine gR_R_letter C u_719 d_R_come_41 ?_
    refine j_bipush (v := 13) C (by decide) d_R_come_44 ?_
    refine lR_R_letter C (by decide) d_R_come_46 ?_
    refine j_iconst (v := 1) C (by decide) d_R_come_47 ?_
    refine j_icmp_ne (tgt := 55) C d_R_come_48 (by decide) (fun h60 => ?_) (fun h60 => ?_)
    · refine j_iconst (v := 1) C (by decide) d_R_come_51 ?_
      refine j_goto (tgt := 56) C d_R_come_52 (by decide) ?_
      refine j_istore_n (i := 3) (lv2 := [(3, .int (1 : Int32)), (0, .ref (a 0)), (1, .int y27.1), (2, .int y27.2)]) C rfl (by decide) rfl d_R_come_56 ?_
      refine j_iload_n C 0 rfl rfl d_R_come_57 ?_
      refine j_if_eq_F (tgt := 69) C d_R_come_58 (by decide) (by decide) ?_
      refine j_aload_n C 1 rfl rfl d_R_come_61 ?_
      refine gR_R_isOn C u_708 d_R_come_62 ?_
      refine j_if_ne (tgt := 69) C d_R_come_65 (by decide) (fun h61 => ?_) (fun h61 => ?_)
      · exact j_vret C rfl rfl d_R_come_68
      · refine j_aload_n C 1 rfl rfl d_R_come_69 ?_
        refine gR_R_letter C u_719 d_R_come_70 ?_
        refine j_iconst (v := 0) C (by decide) d_R_come_73 ?_
        refine j_bnd (fun r62 S63 e64 => ?_)
        refine j_callSi (As := [.ref (a 18), .int (0 : Int32)]) (rest := []) C Y_R_check u_835 (c_R_check_letter g S26 (0 : Int32) e64) rfl rfl ⟨by decide, by decide⟩ rfl rfl (Nat.le_of_ble_eq_true rfl) d_R_come_74 ?_
        refine j_istore (i := 4) (lv2 := [(4, .int r62), (3, .int (1 : Int32)), (0, .ref (a 0)), (1, .int y27.1), (2, .int y27.2)]) C (by decide) rfl d_R_come_77 ?_
        refine j_aload_n C 2 rfl rfl d_R_come_79 ?_
        refine gR_R_letter C u_719 d_R_come_80 ?_
        refine j_bipush (v := 11) C (by decide) d_R_come_83 ?_
        refine lR_R_letter C (by decide) d_R_come_85 ?_
        refine j_iload C 0 rfl d_R_come_86 ?_
        refine j_bipush (v := 8) C (by decide) d_R_come_88 ?_
        refine j_ishr C d_R_come_90 ?_
        refine j_icmp_ne (tgt := 114) C d_R_come_91 (by decide) (fun h65 => ?_) (fun h65 => ?_)
        · refine j_aload_n C 2 rfl rfl d_R_come_94 ?_
          refine gR_R_letter C u_719 d_R_come_95 ?_
          refine j_bipush (v := 12) C (by decide) d_R_come_98 ?_
          refine lR_R_letter C (by decide) d_R_come_100 ?_
          refine j_iload C 0 rfl d_R_come_101 ?_
          refine j_sipush (v := 255) C (by decide) d_R_come_103 ?_
          refine j_iand C d_R_come_106 ?_
          refine j_icmp_ne (tgt := 114) C d_R_come_107 (by decide) (fun h66 => ?_) (fun h66 => ?_)
          · refine j_iconst (v := 1) C (by decide) d_R_come_110 ?_
            refine j_goto (tgt := 115) C d_R_come_111 (by decide) ?_
            refine j_istore (i := 5) (lv2 := [(5, .int (1 : Int32)), (4, .int r62), (3, .int (1 : Int32)), (0, .ref (a 0)), (1, .int y27.1), (2, .int y27.2)]) C (by decide) rfl d_R_come_115 ?_
            refine j_iload C 0 rfl d_R_come_117 ?_
            refine j_if_eq_F (tgt := 139) C d_R_come_119 (by decide) (by decide) ?_
            refine j_iload_n C 2 rfl rfl d_R_come_122 ?_
            refine j_if_eq_F (tgt := 133) C d_R_come_123 (by decide) (by decide) ?_
            refine j_aload_n C 3 rfl rfl d_R_come_126 ?_
            refine j_bnd (fun r67 S68 e69 => ?_)
            refine j_callVi (As := []) (rest := []) C 0 7 Y_R_machineTakes u_884 (c_R_machineTakes g S63 e69) rfl rfl ⟨by decide, by decide⟩ rfl rfl rfl rfl (Nat.le_of_ble_eq_true rfl) d_R_come_127 ?_
            refine j_goto (tgt := 137) C d_R_come_130 (by decide) ?_
            refine j_istore (i := 5) (lv2 := [(5, .int r67), (4, .int r62), (3, .int (1 : Int32)), (0, .ref (a 0)), (1, .int y27.1), (2, .int y27.2)]) C (by decide) rfl d_R_come_137 ?_
            refine j_aload_n C 3 rfl rfl d_R_come_139 ?_
            refine j_dup C rfl d_R_come_140 ?_
            refine gR_R_dropped C u_717 d_R_come_141 ?_
            refine j_iload C 0 rfl d_R_come_144 ?_
            refine j_if_eq (tgt := 153) C d_R_come_146 (by decide) (fun h70 => ?_) (fun h70 => ?_)
            · refine j_iconst (v := 1) C (by decide) d_R_come_153 ?_
              refine j_iadd C d_R_come_154 ?_
              refine pR_R_dropped C u_717 d_R_come_155 ?_
              refine j_ltS (fun S71 => ?_)
              exact j_vret C rfl rfl d_R_come_158
            · refine j_iconst (v := 0) C (by decide) d_R_come_149 ?_
              refine j_goto (tgt := 154) C d_R_come_150 (by decide) ?_
              refine j_iadd C d_R_come_154 ?_
              refine pR_R_dropped C u_717 d_R_come_155 ?_
              refine j_ltS (fun S72 => ?_)
              exact j_vret C rfl rfl d_R_come_158
          · refine j_iconst (v := 0) C (by decide) d_R_come_114 ?_
            refine j_istore (i := 5) (lv2 := [(5, .int (0 : Int32)), (4, .int r62), (3, .int (1 : Int32)), (0, .ref (a 0)), (1, .int y27.1), (2, .int y27.2)]) C (by decide) rfl d_R_come_115 ?_
            refine j_iload C 0 rfl d_R_come_117 ?_
            refine j_if_eq_T (tgt := 139) C d_R_come_119 (by decide) (by decide) ?_
            refine j_aload_n C 3 rfl rfl d_R_come_139 ?_
            refine j_dup C rfl d_R_come_140 ?_
            refine gR_R_dropped C u_717 d_R_come_141 ?_
            refine j_iload C 0 rfl d_R_come_144 ?_
            refine j_if_eq_T (tgt := 153) C d_R_come_146 (by decide) (by decide) ?_
            refine j_iconst (v := 1) C (by decide) d_R_come_153 ?_
            refine j_iadd C d_R_come_154 ?_
            refine pR_R_dropped C u_717 d_R_come_155 ?_
            refine j_ltS (fun S73 => ?_)
            exact j_vret C rfl rfl d_R_come_158
        · refine j_iconst (v := 0) C (by decide) d_R_come_114 ?_
          refine j_istore (i := 5) (lv2 := [(5, .int (0 : Int32)), (4, .int r62), (3, .int (1 : Int32)), (0, .ref (a 0)), (1, .int y27.1), (2, .int y27.2)]) C (by decide) rfl d_R_come_115 ?_
          refine j_iload C 0 rfl d_R_come_117 ?_
          refine j_if_eq_T (tgt := 139) C d_R_come_119 (by decide) (by decide) ?_
          refine j_aload_n C 3 rfl rfl d_R_come_139 ?_
          refine j_dup C rfl d_R_come_140 ?_
          refine gR_R_dropped C u_717 d_R_come_141 ?_
          refine j_iload C 0 rfl d_R_come_144 ?_
          refine j_if_eq_T (tgt := 153) C d_R_come_146 (by decide) (by decide) ?_
          refine j_iconst (v := 1) C (by decide) d_R_come_153 ?_
          refine j_iadd C d_R_come_154 ?_
          refine pR_R_dropped C u_717 d_R_come_155 ?_
          refine j_ltS (fun S74 => ?_)
          exact j_vret C rfl rfl d_R_come_158
    · refine j_iconst (v := 0) C (by decide) d_R_come_55 ?_
      refine j_istore_n (i := 3) (lv2 := [(3, .int (0 : Int32)), (0, .ref (a 0)), (1, .int y27.1), (2, .int y27.2)]) C rfl (by decide) rfl d_R_come_56 ?_
      refine j_iload_n C 0 rfl rfl d_R_come_57 ?_
      refine j_if_eq_T (tgt := 69) C d_R_come_58 (by decide) (by decide) ?_
      refine j_aload_n C 1 rfl rfl d_R_come_69 ?_
      refine gR_R_letter C u_719 d_R_come_70 ?_
      refine j_iconst (v := 0) C (by decide) d_R_come_73 ?_
      refine j_bnd (fun r75 S76 e77 => ?_)
      refine j_callSi (As := [.ref (a 18), .int (0 : Int32)]) (rest := []) C Y_R_check u_835 (c_R_check_letter g S26 (0 : Int32) e77) rfl rfl ⟨by decide, by decide⟩ rfl rfl (Nat.le_of_ble_eq_true rfl) d_R_come_74 ?_
      refine j_istore (i := 4) (lv2 := [(4, .int r75), (3, .int (0 : Int32)), (0, .ref (a 0)), (1, .int y27.1), (2, .int y27.2)]) C (by decide) rfl d_R_come_77 ?_
      refine j_aload_n C 2 rfl rfl d_R_come_79 ?_
      refine gR_R_letter C u_719 d_R_come_80 ?_
      refine j_bipush (v := 11) C (by decide) d_R_come_83 ?_
      refine lR_R_letter C (by decide) d_R_come_85 ?_
      refine j_iload C 0 rfl d_R_come_86 ?_
      refine j_bipush (v := 8) C (by decide) d_R_come_88 ?_
      refine j_ishr C d_R_come_90 ?_
      refine j_icmp_ne (tgt := 114) C d_R_come_91 (by decide) (fun h78 => ?_) (fun h78 => ?_)
      · refine j_aload_n C 2 rfl rfl d_R_come_94 ?_
        refine gR_R_letter C u_719 d_R_come_95 ?_
        refine j_bipush (v := 12) C (by decide) d_R_come_98 ?_
        refine lR_R_letter C (by decide) d_R_come_100 ?_
        refine j_iload C 0 rfl d_R_come_101 ?_
        refine j_sipush (v := 255) C (by decide) d_R_come_103 ?_
        refine j_iand C d_R_come_106 ?_
        refine j_icmp_ne (tgt := 114) C d_R_come_107 (by decide) (fun h79 => ?_) (fun h79 => ?_)
        · refine j_iconst (v := 1) C (by decide) d_R_come_110 ?_
          refine j_goto (tgt := 115) C d_R_come_111 (by decide) ?_
          refine j_istore (i := 5) (lv2 := [(5, .int (1 : Int32)), (4, .int r75), (3, .int (0 : Int32)), (0, .ref (a 0)), (1, .int y27.1), (2, .int y27.2)]) C (by decide) rfl d_R_come_115 ?_
          refine j_iload C 0 rfl d_R_come_117 ?_
          refine j_if_eq_F (tgt := 139) C d_R_come_119 (by decide) (by decide) ?_
          refine j_iload_n C 2 rfl rfl d_R_come_122 ?_
          refine j_if_eq_T (tgt := 133) C d_R_come_123 (by decide) (by decide) ?_
          refine j_aload_n C 3 rfl rfl d_R_come_133 ?_
          refine j_bnd (fun r80 S81 e82 => ?_)
          refine j_callVi (As := []) (rest := []) C 0 7 Y_R_hostTakes u_896 (c_R_hostTakes g S76 e82) rfl rfl ⟨by decide, by decide⟩ rfl rfl rfl rfl (Nat.le_of_ble_eq_true rfl) d_R_come_134 ?_
          refine j_istore (i := 5) (lv2 := [(5, .int r80), (4, .int r75), (3, .int (0 : Int32)), (0, .ref (a 0)), (1, .int y27.1), (2, .int y27.2)]) C (by decide) rfl d_R_come_137 ?_
          refine j_aload_n C 3 rfl rfl d_R_come_139 ?_
          refine j_dup C rfl d_R_come_140 ?_
          refine gR_R_dropped C u_717 d_R_come_141 ?_
          refine j_iload C 0 rfl d_R_come_144 ?_
          refine j_if_eq (tgt := 153) C d_R_come_146 (by decide) (fun h83 => ?_) (fun h83 => ?_)
          · refine j_iconst (v := 1) C (by decide) d_R_come_153 ?_
            refine j_iadd C d_R_come_154 ?_
            refine pR_R_dropped C u_717 d_R_come_155 ?_
            refine j_ltS (fun S84 => ?_)
            exact j_vret C rfl rfl d_R_come_158
          · refine j_iconst (v := 0) C (by decide) d_R_come_149 ?_
            refine j_goto (tgt := 154) C d_R_come_150 (by decide) ?_
            refine j_iadd C d_R_come_154 ?_
            refine pR_R_dropped C u_717 d_R_come_155 ?_
            refine j_ltS (fun S85 => ?_)
            exact j_vret C rfl rfl d_R_come_158
        · refine j_iconst (v := 0) C (by decide) d_R_come_114 ?_
          refine j_istore (i := 5) (lv2 := [(5, .int (0 : Int32)), (4, .int r75), (3, .int (0 : Int32)), (0, .ref (a 0)), (1, .int y27.1), (2, .int y27.2)]) C (by decide) rfl d_R_come_115 ?_
          refine j_iload C 0 rfl d_R_come_117 ?_
          refine j_if_eq_T (tgt := 139) C d_R_come_119 (by decide) (by decide) ?_
          refine j_aload_n C 3 rfl rfl d_R_come_139 ?_
          refine j_dup C rfl d_R_come_140 ?_
          refine gR_R_dropped C u_717 d_R_come_141 ?_
          refine j_iload C 0 rfl d_R_come_144 ?_
          refine j_if_eq_T (tgt := 153) C d_R_come_146 (by decide) (by decide) ?_
          refine j_iconst (v := 1) C (by decide) d_R_come_153 ?_
          refine j_iadd C d_R_come_154 ?_
          refine pR_R_dropped C u_717 d_R_come_155 ?_
          refine j_ltS (fun S86 => ?_)
          exact j_vret C rfl rfl d_R_come_158
      · refine j_iconst (v := 0) C (by decide) d_R_come_114 ?_
        refine j_istore (i := 5) (lv2 := [(5, .int (0 : Int32)), (4, .int r75), (3, .int (0 : Int32)), (0, .ref (a 0)), (1, .int y27.1), (2, .int y27.2)]) C (by decide) rfl d_R_come_115 ?_
        refine j_iload C 0 rfl d_R_come_117 ?_
        refine j_if_eq_T (tgt := 139) C d_R_come_119 (by decide) (by decide) ?_
        refine j_aload_n C 3 rfl rfl d_R_come_139 ?_
        refine j_dup C rfl d_R_come_140 ?_
        refine gR_R_dropped C u_717 d_R_come_141 ?_
        refine j_iload C 0 rfl d_R_come_144 ?_
        refine j_if_eq_T (tgt := 153) C d_R_come_146 (by decide) (by decide) ?_
        refine j_iconst (v := 1) C (by decide) d_R_come_153 ?_
        refine j_iadd C d_R_come_154 ?_
        refine pR_R_dropped C u_717 d_R_come_155 ?_
        refine j_ltS (fun S87 => ?_)
        exact j_vret C rfl rfl d_R_come_158
def f_R_deliver (g : Nat) (S : Mem) (x1 : Int32) : Option (Int32 × Mem) := bnd (f_R_isLetter g S x1) (fun r21 S22 => if r21 = 0 then (some ((-1 : Int32), S22)) else (bnd (f_R_come g S22 x1 (0 : Int32)) (fun _ S26 => some (S26.1 26 0, S26))))
set_option maxRecDepth 100000 in
set_option maxHeartbeats 4000000 in
theorem c_R_deliver {l : Launch} {D : va_G} {cI cJ cZ cL : ClassId} {a : Nat → Nat} (g : Nat) (S : Mem) (x1 : Int32) {r : Int32} {S9 : Mem} (h : f_R_deliver g S x1 = some (r, S9)) : Ctr l y_R_deliver prog_9_method_31_code 2 (some .int) rm_R_deliver D (tyT cI cJ cZ cL) (wdR cI cJ cZ cL a) [.ref (a 0), .int x1] S (vI r, S9) := by
  refine Ctr.of (lv0 := [(0, .ref (a 0)), (1, .int x1)]) (vv := vI) (by decide) rfl (wdR_fst cI cJ cZ cL a) (Nat.le_of_ble_eq_true rfl) rfl (fun p e s m args below meth c A C => ?_) r S9 h
  unfold f_R_deliver
  refine j_aload_n C 0 rfl rfl d_R_deliver_0 ?_
  refine j_iload_n C 1 rfl rfl d_R_deliver_1 ?_
  refine j_bnd (fun r21 S22 e23 => ?_)
  refine j_callVi (As := [.int x1]) (rest := []) C 0 7 Y_R_isLetter u_876 (c_R_isLetter g S x1 e23) rfl rfl ⟨by decide, by decide⟩ rfl rfl rfl rfl (Nat.le_of_ble_eq_true rfl) d_R_deliver_2 ?_
  refine j_if_ne (tgt := 10) C d_R_deliver_5 (by decide) (fun h24 => ?_) (fun h24 => ?_)
  · refine j_iconst (v := -1) C (by decide) d_R_deliver_8 ?_
    exact j_iret C rfl rfl d_R_deliver_9
  · refine j_aload_n C 0 rfl rfl d_R_deliver_10 ?_
    refine j_iload_n C 1 rfl rfl d_R_deliver_11 ?_
    refine j_iconst (v := 0) C (by decide) d_R_deliver_12 ?_
    refine j_bnd (fun _ S26 e27 => ?_)
    refine j_callVv (As := [.int x1, .int (0 : Int32)]) (rest := []) C 0 7 Y_R_come u_880 (c_R_come g S22 x1 (0 : Int32) e27) rfl rfl ⟨by decide, by decide⟩ rfl rfl rfl rfl (Nat.le_of_ble_eq_true rfl) d_R_deliver_13 ?_
    refine j_aload_n C 0 rfl rfl d_R_deliver_16 ?_
    refine gR_R_flying C u_716 d_R_deliver_17 ?_
    exact j_iret C rfl rfl d_R_deliver_20
def f_R_twice (g : Nat) (S : Mem) (x1 : Int32) : Option (Int32 × Mem) := bnd (f_R_isLetter g S x1) (fun r21 S22 => if r21 = 0 then (some ((-1 : Int32), S22)) else (bnd (f_R_come g S22 x1 (1 : Int32)) (fun _ S26 => some (S26.1 26 0, S26))))
set_option maxRecDepth 100000 in
set_option maxHeartbeats 4000000 in
theorem c_R_twice {l : Launch} {D : va_G} {cI cJ cZ cL : ClassId} {a : Nat → Nat} (g : Nat) (S : Mem) (x1 : Int32) {r : Int32} {S9 : Mem} (h : f_R_twice g S x1 = some (r, S9)) : Ctr l y_R_twice prog_9_method_32_code 2 (some .int) rm_R_twice D (tyT cI cJ cZ cL) (wdR cI cJ cZ cL a) [.ref (a 0), .int x1] S (vI r, S9) := by
  refine Ctr.of (lv0 := [(0, .ref (a 0)), (1, .int x1)]) (vv := vI) (by decide) rfl (wdR_fst cI cJ cZ cL a) (Nat.le_of_ble_eq_true rfl) rfl (fun p e s m args below meth c A C => ?_) r S9 h
  unfold f_R_twice
  refine j_aload_n C 0 rfl rfl d_R_twice_0 ?_
  refine j_iload_n C 1 rfl rfl d_R_twice_1 ?_
  refine j_bnd (fun r21 S22 e23 => ?_)
  refine j_callVi (As := [.int x1]) (rest := []) C 0 7 Y_R_isLetter u_876 (c_R_isLetter g S x1 e23) rfl rfl ⟨by decide, by decide⟩ rfl rfl rfl rfl (Nat.le_of_ble_eq_true rfl) d_R_twice_2 ?_
  refine j_if_ne (tgt := 10) C d_R_twice_5 (by decide) (fun h24 => ?_) (fun h24 => ?_)
  · refine j_iconst (v := -1) C (by decide) d_R_twice_8 ?_
    exact j_iret C rfl rfl d_R_twice_9
  · refine j_aload_n C 0 rfl rfl d_R_twice_10 ?_
    refine j_iload_n C 1 rfl rfl d_R_twice_11 ?_
    refine j_iconst (v := 1) C (by decide) d_R_twice_12 ?_
    refine j_bnd (fun _ S26 e27 => ?_)
    refine j_callVv (As := [.int x1, .int (1 : Int32)]) (rest := []) C 0 7 Y_R_come u_880 (c_R_come g S22 x1 (1 : Int32) e27) rfl rfl ⟨by decide, by decide⟩ rfl rfl rfl rfl (Nat.le_of_ble_eq_true rfl) d_R_twice_13 ?_
    refine j_aload_n C 0 rfl rfl d_R_twice_16 ?_
    refine gR_R_flying C u_716 d_R_twice_17 ?_
    exact j_iret C rfl rfl d_R_twice_20
def f_R_lose (g : Nat) (S : Mem) (x1 : Int32) : Option (Int32 × Mem) := bnd (f_R_isLetter g S x1) (fun r21 S22 => if r21 = 0 then (some ((-1 : Int32), S22)) else (bnd (f_R_drop g S22 x1) (fun _ S26 => some (S26.1 26 0, S26))))
set_option maxRecDepth 100000 in
set_option maxHeartbeats 4000000 in
theorem c_R_lose {l : Launch} {D : va_G} {cI cJ cZ cL : ClassId} {a : Nat → Nat} (g : Nat) (S : Mem) (x1 : Int32) {r : Int32} {S9 : Mem} (h : f_R_lose g S x1 = some (r, S9)) : Ctr l y_R_lose prog_9_method_33_code 2 (some .int) rm_R_lose D (tyT cI cJ cZ cL) (wdR cI cJ cZ cL a) [.ref (a 0), .int x1] S (vI r, S9) := by
  refine Ctr.of (lv0 := [(0, .ref (a 0)), (1, .int x1)]) (vv := vI) (by decide) rfl (wdR_fst cI cJ cZ cL a) (Nat.le_of_ble_eq_true rfl) rfl (fun p e s m args below meth c A C => ?_) r S9 h
  unfold f_R_lose
  refine j_aload_n C 0 rfl rfl d_R_lose_0 ?_
  refine j_iload_n C 1 rfl rfl d_R_lose_1 ?_
  refine j_bnd (fun r21 S22 e23 => ?_)
  refine j_callVi (As := [.int x1]) (rest := []) C 0 7 Y_R_isLetter u_876 (c_R_isLetter g S x1 e23) rfl rfl ⟨by decide, by decide⟩ rfl rfl rfl rfl (Nat.le_of_ble_eq_true rfl) d_R_lose_2 ?_
  refine j_if_ne (tgt := 10) C d_R_lose_5 (by decide) (fun h24 => ?_) (fun h24 => ?_)
  · refine j_iconst (v := -1) C (by decide) d_R_lose_8 ?_
    exact j_iret C rfl rfl d_R_lose_9
  · refine j_aload_n C 0 rfl rfl d_R_lose_10 ?_
    refine j_iload_n C 1 rfl rfl d_R_lose_11 ?_
    refine j_bnd (fun _ S26 e27 => ?_)
    refine j_callVv (As := [.int x1]) (rest := []) C 0 7 Y_R_drop u_831 (c_R_drop g S22 x1 e27) rfl rfl ⟨by decide, by decide⟩ rfl rfl rfl rfl (Nat.le_of_ble_eq_true rfl) d_R_lose_12 ?_
    refine j_aload_n C 0 rfl rfl d_R_lose_15 ?_
    refine gR_R_flying C u_716 d_R_lose_16 ?_
    exact j_iret C rfl rfl d_R_lose_19
def f_R_poke (g : Nat) (S : Mem) (x1 : Int32) (x2 : Int32) (x3 : Int32) : Option (Int32 × Mem) := bnd (f_R_isLetter g S x1) (fun r21 S22 => if r21 = 0 then (some ((0 : Int32), S22)) else (if x2 < 0 then (some ((0 : Int32), S22)) else (if (12 : Int32) < x2 then (some ((0 : Int32), S22)) else (if x3 < (1 : Int32) then (some ((0 : Int32), S22)) else (if x3 ≤ (255 : Int32) then (grd (¬ ((((14 : Int32) * x1) + x2) < 0 ∨ 350 ≤ (((14 : Int32) * x1) + x2).toNatClampNeg)) (grd (¬ ((((14 : Int32) * x1) + x2) < 0 ∨ 350 ≤ (((14 : Int32) * x1) + x2).toNatClampNeg)) (lt (sI S22 25 ((((14 : Int32) * x1) + x2).toNatClampNeg) ((S22.1 25 ((((14 : Int32) * x1) + x2).toNatClampNeg)) ^^^ x3)) (fun S31 => some ((1 : Int32), S31))))) else (some ((0 : Int32), S22)))))))
set_option maxRecDepth 100000 in
set_option maxHeartbeats 4000000 in
theorem c_R_poke {l : Launch} {D : va_G} {cI cJ cZ cL : ClassId} {a : Nat → Nat} (g : Nat) (S : Mem) (x1 : Int32) (x2 : Int32) (x3 : Int32) {r : Int32} {S9 : Mem} (h : f_R_poke g S x1 x2 x3 = some (r, S9)) : Ctr l y_R_poke prog_9_method_34_code 4 (some .boolean) rm_R_poke D (tyT cI cJ cZ cL) (wdR cI cJ cZ cL a) [.ref (a 0), .int x1, .int x2, .int x3] S (vI r, S9) := by
  refine Ctr.of (lv0 := [(0, .ref (a 0)), (1, .int x1), (2, .int x2), (3, .int x3)]) (vv := vI) (by decide) rfl (wdR_fst cI cJ cZ cL a) (Nat.le_of_ble_eq_true rfl) rfl (fun p e s m args below meth c A C => ?_) r S9 h
  unfold f_R_poke
  refine j_aload_n C 0 rfl rfl d_R_poke_0 ?_
  refine j_iload_n C 1 rfl rfl d_R_poke_1 ?_
  refine j_bnd (fun r21 S22 e23 => ?_)
  refine j_callVi (As := [.int x1]) (rest := []) C 0 7 Y_R_isLetter u_876 (c_R_isLetter g S x1 e23) rfl rfl ⟨by decide, by decide⟩ rfl rfl rfl rfl (Nat.le_of_ble_eq_true rfl) d_R_poke_2 ?_
  refine j_if_eq (tgt := 30) C d_R_poke_5 (by decide) (fun h24 => ?_) (fun h24 => ?_)
  · refine j_iconst (v := 0) C (by decide) d_R_poke_30 ?_
    exact j_zret C (Or.inl rfl) rfl rfl d_R_poke_31
  · refine j_iload_n C 2 rfl rfl d_R_poke_8 ?_
    refine j_if_lt (tgt := 30) C d_R_poke_9 (by decide) (fun h25 => ?_) (fun h25 => ?_)
    · refine j_iconst (v := 0) C (by decide) d_R_poke_30 ?_
      exact j_zret C (Or.inl rfl) rfl rfl d_R_poke_31
    · refine j_iload_n C 2 rfl rfl d_R_poke_12 ?_
      refine j_bipush (v := 12) C (by decide) d_R_poke_13 ?_
      refine j_icmp_gt (tgt := 30) C d_R_poke_15 (by decide) (fun h26 => ?_) (fun h26 => ?_)
      · refine j_iconst (v := 0) C (by decide) d_R_poke_30 ?_
        exact j_zret C (Or.inl rfl) rfl rfl d_R_poke_31
      · refine j_iload_n C 3 rfl rfl d_R_poke_18 ?_
        refine j_iconst (v := 1) C (by decide) d_R_poke_19 ?_
        refine j_icmp_lt (tgt := 30) C d_R_poke_20 (by decide) (fun h27 => ?_) (fun h27 => ?_)
        · refine j_iconst (v := 0) C (by decide) d_R_poke_30 ?_
          exact j_zret C (Or.inl rfl) rfl rfl d_R_poke_31
        · refine j_iload_n C 3 rfl rfl d_R_poke_23 ?_
          refine j_sipush (v := 255) C (by decide) d_R_poke_24 ?_
          refine j_icmp_le (tgt := 32) C d_R_poke_27 (by decide) (fun h28 => ?_) (fun h28 => ?_)
          · refine j_aload_n C 0 rfl rfl d_R_poke_32 ?_
            refine gR_R_line C u_715 d_R_poke_33 ?_
            refine j_bipush (v := 14) C (by decide) d_R_poke_36 ?_
            refine j_iload_n C 1 rfl rfl d_R_poke_38 ?_
            refine j_imul C d_R_poke_39 ?_
            refine j_iload_n C 2 rfl rfl d_R_poke_40 ?_
            refine j_iadd C d_R_poke_41 ?_
            refine j_dup2 C rfl rfl d_R_poke_42 ?_
            refine j_grd (fun h29 => ?_)
            refine lR_R_line C h29 d_R_poke_43 ?_
            refine j_iload_n C 3 rfl rfl d_R_poke_44 ?_
            refine j_ixor C d_R_poke_45 ?_
            refine j_grd (fun h30 => ?_)
            refine sR_R_line C h30 d_R_poke_46 ?_
            refine j_ltS (fun S31 => ?_)
            refine j_iconst (v := 1) C (by decide) d_R_poke_47 ?_
            exact j_zret C (Or.inr rfl) rfl rfl d_R_poke_48
          · refine j_iconst (v := 0) C (by decide) d_R_poke_30 ?_
            exact j_zret C (Or.inl rfl) rfl rfl d_R_poke_31
def f_R_letter (g : Nat) (S : Mem) (x1 : Int32) (x2 : Int32) : Option (Int32 × Mem) := bnd (f_R_isLetter g S x1) (fun r21 S22 => if r21 = 0 then (some ((-1 : Int32), S22)) else (if x2 < 0 then (some ((-1 : Int32), S22)) else (if (12 : Int32) < x2 then (some ((-1 : Int32), S22)) else (grd (¬ ((((14 : Int32) * x1) + x2) < 0 ∨ 350 ≤ (((14 : Int32) * x1) + x2).toNatClampNeg)) (some (S22.1 25 ((((14 : Int32) * x1) + x2).toNatClampNeg), S22))))))
set_option maxRecDepth 100000 in
set_option maxHeartbeats 4000000 in
theorem c_R_letter {l : Launch} {D : va_G} {cI cJ cZ cL : ClassId} {a : Nat → Nat} (g : Nat) (S : Mem) (x1 : Int32) (x2 : Int32) {r : Int32} {S9 : Mem} (h : f_R_letter g S x1 x2 = some (r, S9)) : Ctr l y_R_letter prog_9_method_35_code 3 (some .int) rm_R_letter D (tyT cI cJ cZ cL) (wdR cI cJ cZ cL a) [.ref (a 0), .int x1, .int x2] S (vI r, S9) := by
  refine Ctr.of (lv0 := [(0, .ref (a 0)), (1, .int x1), (2, .int x2)]) (vv := vI) (by decide) rfl (wdR_fst cI cJ cZ cL a) (Nat.le_of_ble_eq_true rfl) rfl (fun p e s m args below meth c A C => ?_) r S9 h
  unfold f_R_letter
  refine j_aload_n C 0 rfl rfl d_R_letter_0 ?_
  refine j_iload_n C 1 rfl rfl d_R_letter_1 ?_
  refine j_bnd (fun r21 S22 e23 => ?_)
  refine j_callVi (As := [.int x1]) (rest := []) C 0 7 Y_R_isLetter u_876 (c_R_isLetter g S x1 e23) rfl rfl ⟨by decide, by decide⟩ rfl rfl rfl rfl (Nat.le_of_ble_eq_true rfl) d_R_letter_2 ?_
  refine j_if_eq (tgt := 32) C d_R_letter_5 (by decide) (fun h24 => ?_) (fun h24 => ?_)
  · refine j_iconst (v := -1) C (by decide) d_R_letter_32 ?_
    exact j_iret C rfl rfl d_R_letter_33
  · refine j_iload_n C 2 rfl rfl d_R_letter_8 ?_
    refine j_if_lt (tgt := 32) C d_R_letter_9 (by decide) (fun h25 => ?_) (fun h25 => ?_)
    · refine j_iconst (v := -1) C (by decide) d_R_letter_32 ?_
      exact j_iret C rfl rfl d_R_letter_33
    · refine j_iload_n C 2 rfl rfl d_R_letter_12 ?_
      refine j_bipush (v := 12) C (by decide) d_R_letter_13 ?_
      refine j_icmp_gt (tgt := 32) C d_R_letter_15 (by decide) (fun h26 => ?_) (fun h26 => ?_)
      · refine j_iconst (v := -1) C (by decide) d_R_letter_32 ?_
        exact j_iret C rfl rfl d_R_letter_33
      · refine j_aload_n C 0 rfl rfl d_R_letter_18 ?_
        refine gR_R_line C u_715 d_R_letter_19 ?_
        refine j_bipush (v := 14) C (by decide) d_R_letter_22 ?_
        refine j_iload_n C 1 rfl rfl d_R_letter_24 ?_
        refine j_imul C d_R_letter_25 ?_
        refine j_iload_n C 2 rfl rfl d_R_letter_26 ?_
        refine j_iadd C d_R_letter_27 ?_
        refine j_grd (fun h27 => ?_)
        refine lR_R_line C h27 d_R_letter_28 ?_
        refine j_goto (tgt := 33) C d_R_letter_29 (by decide) ?_
        exact j_iret C rfl rfl d_R_letter_33
def f_R_cut (g : Nat) (S : Mem) : Option (Int32 × Mem) := if (S.1 18 0) = 0 then (some ((0 : Int32), S)) else (bnd (f_R_goOff g S) (fun _ S23 => some ((1 : Int32), S23)))
set_option maxRecDepth 100000 in
set_option maxHeartbeats 4000000 in
theorem c_R_cut {l : Launch} {D : va_G} {cI cJ cZ cL : ClassId} {a : Nat → Nat} (g : Nat) (S : Mem) {r : Int32} {S9 : Mem} (h : f_R_cut g S = some (r, S9)) : Ctr l y_R_cut prog_9_method_36_code 1 (some .boolean) rm_R_cut D (tyT cI cJ cZ cL) (wdR cI cJ cZ cL a) [.ref (a 0)] S (vI r, S9) := by
  refine Ctr.of (lv0 := [(0, .ref (a 0))]) (vv := vI) (by decide) rfl (wdR_fst cI cJ cZ cL a) (Nat.le_of_ble_eq_true rfl) rfl (fun p e s m args below meth c A C => ?_) r S9 h
  unfold f_R_cut
  refine j_aload_n C 0 rfl rfl d_R_cut_0 ?_
  refine gR_R_isOn C u_708 d_R_cut_1 ?_
  refine j_if_ne (tgt := 9) C d_R_cut_4 (by decide) (fun h21 => ?_) (fun h21 => ?_)
  · refine j_iconst (v := 0) C (by decide) d_R_cut_7 ?_
    exact j_zret C (Or.inl rfl) rfl rfl d_R_cut_8
  · refine j_aload_n C 0 rfl rfl d_R_cut_9 ?_
    refine j_bnd (fun _ S23 e24 => ?_)
    refine j_callVv (As := []) (rest := []) C 0 7 Y_R_goOff u_823 (c_R_goOff g S e24) rfl rfl ⟨by decide, by decide⟩ rfl rfl rfl rfl (Nat.le_of_ble_eq_true rfl) d_R_cut_10 ?_
    refine j_iconst (v := 1) C (by decide) d_R_cut_13 ?_
    exact j_zret C (Or.inr rfl) rfl rfl d_R_cut_14
