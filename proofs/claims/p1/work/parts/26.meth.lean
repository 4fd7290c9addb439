def f_R_send_44 (g : Nat) : Nat → Mem → Int32 → Int32 → Int32 → Int32 → Int32 → Int32 → Int32 → Option (Mem × (Int32 × Int32 × Int32 × Int32))
  | 0, _, _, _, _, _, _, _, _ => none
  | n + 1, S, x2, x3, x4, x5, x6, x7, x8 => if (4 : Int32) ≤ x8 then (some (S, (x3, x5, x6, x7))) else (grd (¬ (((x7 + (1 : Int32)) + x8) < 0 ∨ 350 ≤ ((x7 + (1 : Int32)) + x8).toNatClampNeg)) (lt (sI S 25 (((x7 + (1 : Int32)) + x8).toNatClampNeg) ((x2 >>> (((24 : Int32) - ((8 : Int32) * x8)) &&& 31)) &&& (255 : Int32))) (fun S31 => grd (¬ (((x7 + (6 : Int32)) + x8) < 0 ∨ 350 ≤ ((x7 + (6 : Int32)) + x8).toNatClampNeg)) (lt (sI S31 25 (((x7 + (6 : Int32)) + x8).toNatClampNeg) ((x4 >>> (((24 : Int32) - ((8 : Int32) * x8)) &&& 31)) &&& (255 : Int32))) (fun S33 => lt (x8 + (1 : Int32)) (fun x34 => f_R_send_44 g n S33 x2 x3 x4 x5 x6 x7 x34))))))
set_option maxRecDepth 100000 in
set_option maxHeartbeats 4000000 in
theorem lp_R_send_44 {l : Launch} {D : va_G} {cI cJ cZ cL : ClassId} {a : Nat → Nat} {p : Program} {e : Env} {s : State} {m : MethodId} {args : Array Value} {below : List Frame} {meth : Method} {c : Code} {A : Nat → Prop} (C : Cx p s m args meth c "AutoTellerModel" prog_9_method_7_code 9 none D (tyT cI cJ cZ cL) (wdR cI cJ cZ cL a) A) (g : Nat) {K : (Mem × (Int32 × Int32 × Int32 × Int32)) → Option (Unit × Mem)} (hx : ∀ (S : Mem) (y : Int32 × Int32 × Int32 × Int32), Tj p l e rm_R_send s m args below meth c D (wdR cI cJ cZ cL a) A 9 vV K (some (S, y)) S 110 [(0, .ref (a 0)), (3, .int y.1), (5, .int y.2.1), (6, .int y.2.2.1), (7, .int y.2.2.2)] []) : ∀ (n : Nat) (S : Mem) (x2 : Int32) (x3 : Int32) (x4 : Int32) (x5 : Int32) (x6 : Int32) (x7 : Int32) (x8 : Int32), Tj p l e rm_R_send s m args below meth c D (wdR cI cJ cZ cL a) A 9 vV K (f_R_send_44 g n S x2 x3 x4 x5 x6 x7 x8) S 44 [(0, .ref (a 0)), (2, .int x2), (3, .int x3), (4, .int x4), (5, .int x5), (6, .int x6), (7, .int x7), (8, .int x8)] [] := by
  intro n
  induction n with
  | zero =>
    intro S x2 x3 x4 x5 x6 x7 x8
    exact j_none
  | succ n ih =>
    intro S x2 x3 x4 x5 x6 x7 x8
    rw [f_R_send_44]
    refine j_iload C 7 rfl d_R_send_44 ?_
    refine j_iconst (v := 4) C (by decide) d_R_send_46 ?_
    refine j_icmp_ge (tgt := 110) C d_R_send_47 (by decide) (fun h29 => ?_) (fun h29 => ?_)
    · refine j_sub [0, 2, 4, 5, 6] rfl ?_
      exact hx S (x3, x5, x6, x7)
    · refine j_aload_n C 0 rfl rfl d_R_send_50 ?_
      refine gR_R_line C u_715 d_R_send_51 ?_
      refine j_iload C 6 rfl d_R_send_54 ?_
      refine j_iconst (v := 1) C (by decide) d_R_send_56 ?_
      refine j_iadd C d_R_send_57 ?_
      refine j_iload C 7 rfl d_R_send_58 ?_
      refine j_iadd C d_R_send_60 ?_
      refine j_iload_n C 1 rfl rfl d_R_send_61 ?_
      refine j_bipush (v := 24) C (by decide) d_R_send_62 ?_
      refine j_bipush (v := 8) C (by decide) d_R_send_64 ?_
      refine j_iload C 7 rfl d_R_send_66 ?_
      refine j_imul C d_R_send_68 ?_
      refine j_isub C d_R_send_69 ?_
      refine j_ishr C d_R_send_70 ?_
      refine j_sipush (v := 255) C (by decide) d_R_send_71 ?_
      refine j_iand C d_R_send_74 ?_
      refine j_grd (fun h30 => ?_)
      refine sR_R_line C h30 d_R_send_75 ?_
      refine j_ltS (fun S31 => ?_)
      refine j_aload_n C 0 rfl rfl d_R_send_76 ?_
      refine gR_R_line C u_715 d_R_send_77 ?_
      refine j_iload C 6 rfl d_R_send_80 ?_
      refine j_bipush (v := 6) C (by decide) d_R_send_82 ?_
      refine j_iadd C d_R_send_84 ?_
      refine j_iload C 7 rfl d_R_send_85 ?_
      refine j_iadd C d_R_send_87 ?_
      refine j_iload C 3 rfl d_R_send_88 ?_
      refine j_bipush (v := 24) C (by decide) d_R_send_90 ?_
      refine j_bipush (v := 8) C (by decide) d_R_send_92 ?_
      refine j_iload C 7 rfl d_R_send_94 ?_
      refine j_imul C d_R_send_96 ?_
      refine j_isub C d_R_send_97 ?_
      refine j_ishr C d_R_send_98 ?_
      refine j_sipush (v := 255) C (by decide) d_R_send_99 ?_
      refine j_iand C d_R_send_102 ?_
      refine j_grd (fun h32 => ?_)
      refine sR_R_line C h32 d_R_send_103 ?_
      refine j_ltS (fun S33 => ?_)
      refine j_iincN (n2 := 1) (lv2 := fun x34 => [(8, .int x34), (0, .ref (a 0)), (2, .int x2), (3, .int x3), (4, .int x4), (5, .int x5), (6, .int x6), (7, .int x7)]) C 7 rfl (by decide) (by decide) (fun _ => rfl) d_R_send_104 (fun x34 => ?_)
      refine j_goto (tgt := 44) C d_R_send_107 (by decide) ?_
      refine j_sub [1, 2, 3, 4, 5, 6, 7, 0] rfl ?_
      exact ih S33 x2 x3 x4 x5 x6 x7 x34
def f_R_send (g : Nat) (S : Mem) (x1 : Int32) (x2 : Int32) (x3 : Int32) (x4 : Int32) (x5 : Int32) (x6 : Int32) : Option (Unit × Mem) := if (S.1 26 0) = (24 : Int32) then (bnd (f_R_drop g S (0 : Int32)) (fun _ S23 => lt (sI S23 28 0 ((S23.1 28 0) + (1 : Int32))) (fun S25 => lt ((14 : Int32) * (S25.1 26 0)) (fun x26 => grd (¬ (x26 < 0 ∨ 350 ≤ x26.toNatClampNeg)) (lt (sI S25 25 x26.toNatClampNeg x1) (fun S28 => seqM (f_R_send_44 g g S28 x2 x3 x4 x5 x6 x26 (0 : Int32)) (fun S35 y36 => grd (¬ ((y36.2.2.2 + (5 : Int32)) < 0 ∨ 350 ≤ (y36.2.2.2 + (5 : Int32)).toNatClampNeg)) (lt (sI S35 25 ((y36.2.2.2 + (5 : Int32)).toNatClampNeg) (y36.1 &&& (255 : Int32))) (fun S38 => grd (¬ ((y36.2.2.2 + (10 : Int32)) < 0 ∨ 350 ≤ (y36.2.2.2 + (10 : Int32)).toNatClampNeg)) (lt (sI S38 25 ((y36.2.2.2 + (10 : Int32)).toNatClampNeg) y36.2.1) (fun S40 => bnd (f_R_check_line g S40 y36.2.2.2) (fun r41 S42 => grd (¬ ((y36.2.2.2 + (11 : Int32)) < 0 ∨ 350 ≤ (y36.2.2.2 + (11 : Int32)).toNatClampNeg)) (lt (sI S42 25 ((y36.2.2.2 + (11 : Int32)).toNatClampNeg) (r41 >>> ((8 : Int32) &&& 31))) (fun S45 => grd (¬ ((y36.2.2.2 + (12 : Int32)) < 0 ∨ 350 ≤ (y36.2.2.2 + (12 : Int32)).toNatClampNeg)) (lt (sI S45 25 ((y36.2.2.2 + (12 : Int32)).toNatClampNeg) (r41 &&& (255 : Int32))) (fun S47 => grd (¬ ((y36.2.2.2 + (13 : Int32)) < 0 ∨ 350 ≤ (y36.2.2.2 + (13 : Int32)).toNatClampNeg)) (lt (sI S47 25 ((y36.2.2.2 + (13 : Int32)).toNatClampNeg) y36.2.2.1) (fun S49 => lt (sI S49 26 0 ((S49.1 26 0) + (1 : Int32))) (fun S50 => some ((), S50)))))))))))))))))))) else (lt ((14 : Int32) * (S.1 26 0)) (fun x51 => grd (¬ (x51 < 0 ∨ 350 ≤ x51.toNatClampNeg)) (lt (sI S 25 x51.toNatClampNeg x1) (fun S53 => seqM (f_R_send_44 g g S53 x2 x3 x4 x5 x6 x51 (0 : Int32)) (fun S54 y55 => grd (¬ ((y55.2.2.2 + (5 : Int32)) < 0 ∨ 350 ≤ (y55.2.2.2 + (5 : Int32)).toNatClampNeg)) (lt (sI S54 25 ((y55.2.2.2 + (5 : Int32)).toNatClampNeg) (y55.1 &&& (255 : Int32))) (fun S57 => grd (¬ ((y55.2.2.2 + (10 : Int32)) < 0 ∨ 350 ≤ (y55.2.2.2 + (10 : Int32)).toNatClampNeg)) (lt (sI S57 25 ((y55.2.2.2 + (10 : Int32)).toNatClampNeg) y55.2.1) (fun S59 => bnd (f_R_check_line g S59 y55.2.2.2) (fun r60 S61 => grd (¬ ((y55.2.2.2 + (11 : Int32)) < 0 ∨ 350 ≤ (y55.2.2.2 + (11 : Int32)).toNatClampNeg)) (lt (sI S61 25 ((y55.2.2.2 + (11 : Int32)).toNatClampNeg) (r60 >>> ((8 : Int32) &&& 31))) (fun S64 => grd (¬ ((y55.2.2.2 + (12 : Int32)) < 0 ∨ 350 ≤ (y55.2.2.2 + (12 : Int32)).toNatClampNeg)) (lt (sI S64 25 ((y55.2.2.2 + (12 : Int32)).toNatClampNeg) (r60 &&& (255 : Int32))) (fun S66 => grd (¬ ((y55.2.2.2 + (13 : Int32)) < 0 ∨ 350 ≤ (y55.2.2.2 + (13 : Int32)).toNatClampNeg)) (lt (sI S66 25 ((y55.2.2.2 + (13 : Int32)).toNatClampNeg) y55.2.2.1) (fun S68 => lt (sI S68 26 0 ((S68.1 26 0) + (1 : Int32))) (fun S69 => some ((), S69))))))))))))))))))
set_option maxRecDepth 100000 in
set_option maxHeartbeats 4000000 in
theorem c_R_send {l : Launch} {D : va_G} {cI cJ cZ cL : ClassId} {a : Nat → Nat} (g : Nat) (S : Mem) (x1 : Int32) (x2 : Int32) (x3 : Int32) (x4 : Int32) (x5 : Int32) (x6 : Int32) {r : Unit} {S9 : Mem} (h : f_R_send g S x1 x2 x3 x4 x5 x6 = some (r, S9)) : Ctr l y_R_send prog_9_method_7_code 9 none rm_R_send D (tyT cI cJ cZ cL) (wdR cI cJ cZ cL a) [.ref (a 0), .int x1, .int x2, .int x3, .int x4, .int x5, .int x6] S (vV r, S9) := by
  refine Ctr.of (lv0 := [(0, .ref (a 0)), (1, .int x1), (2, .int x2), (3, .int x3), (4, .int x4), (5, .int x5), (6, .int x6)]) (vv := vV) (by decide) rfl (wdR_fst cI cJ cZ cL a) (Nat.le_of_ble_eq_true rfl) rfl (fun p e s m args below meth c A C => ?_) r S9 h
  unfold f_R_send
  refine j_aload_n C 0 rfl rfl d_R_send_0 ?_
  refine gR_R_flying C u_716 d_R_send_1 ?_
  refine j_bipush (v := 24) C (by decide) d_R_send_4 ?_
  refine j_icmp_ne (tgt := 24) C d_R_send_6 (by decide) (fun h21 => ?_) (fun h21 => ?_)
  · refine j_aload_n C 0 rfl rfl d_R_send_9 ?_
    refine j_iconst (v := 0) C (by decide) d_R_send_10 ?_
    refine j_bnd (fun _ S23 e24 => ?_)
    refine j_callVv (As := [.int (0 : Int32)]) (rest := []) C 0 7 Y_R_drop u_831 (c_R_drop g S (0 : Int32) e24) rfl rfl ⟨by decide, by decide⟩ rfl rfl rfl rfl (Nat.le_of_ble_eq_true rfl) d_R_send_11 ?_
    refine j_aload_n C 0 rfl rfl d_R_send_14 ?_
    refine j_dup C rfl d_R_send_15 ?_
    refine gR_R_lost C u_718 d_R_send_16 ?_
    refine j_iconst (v := 1) C (by decide) d_R_send_19 ?_
    refine j_iadd C d_R_send_20 ?_
    refine pR_R_lost C u_718 d_R_send_21 ?_
    refine j_ltS (fun S25 => ?_)
    refine j_bipush (v := 14) C (by decide) d_R_send_24 ?_
    refine j_aload_n C 0 rfl rfl d_R_send_26 ?_
    refine gR_R_flying C u_716 d_R_send_27 ?_
    refine j_imul C d_R_send_30 ?_
    refine j_lti (fun x26 => ?_)
    refine j_istore (i := 7) (lv2 := [(7, .int x26), (0, .ref (a 0)), (1, .int x1), (2, .int x2), (3, .int x3), (4, .int x4), (5, .int x5), (6, .int x6)]) C (by decide) rfl d_R_send_31 ?_
    refine j_aload_n C 1 rfl rfl d_R_send_33 ?_
    refine gR_R_line C u_715 d_R_send_34 ?_
    refine j_iload C 0 rfl d_R_send_37 ?_
    refine j_iload_n C 2 rfl rfl d_R_send_39 ?_
    refine j_grd (fun h27 => ?_)
    refine sR_R_line C h27 d_R_send_40 ?_
    refine j_ltS (fun S28 => ?_)
    refine j_iconst (v := 0) C (by decide) d_R_send_41 ?_
    refine j_istore (i := 8) (lv2 := [(8, .int (0 : Int32)), (7, .int x26), (0, .ref (a 0)), (1, .int x1), (2, .int x2), (3, .int x3), (4, .int x4), (5, .int x5), (6, .int x6)]) C (by decide) rfl d_R_send_42 ?_
    refine j_sub [2, 4, 5, 6, 7, 8, 1, 0] rfl ?_
    refine j_seqM ?_
    refine lp_R_send_44 C g  (fun S35 y36 => ?_) g S28 x2 x3 x4 x5 x6 x26 (0 : Int32)
    refine j_outM ?_
    refine j_aload_n C 0 rfl rfl d_R_send_110 ?_
    refine gR_R_line C u_715 d_R_send_111 ?_
    refine j_iload C 4 rfl d_R_send_114 ?_
    refine j_iconst (v := 5) C (by decide) d_R_send_116 ?_
    refine j_iadd C d_R_send_117 ?_
    refine j_iload_n C 1 rfl rfl d_R_send_118 ?_
    refine j_sipush (v := 255) C (by decide) d_R_send_119 ?_
    refine j_iand C d_R_send_122 ?_
    refine j_grd (fun h37 => ?_)
    refine sR_R_line C h37 d_R_send_123 ?_
    refine j_ltS (fun S38 => ?_)
    refine j_aload_n C 0 rfl rfl d_R_send_124 ?_
    refine gR_R_line C u_715 d_R_send_125 ?_
    refine j_iload C 4 rfl d_R_send_128 ?_
    refine j_bipush (v := 10) C (by decide) d_R_send_130 ?_
    refine j_iadd C d_R_send_132 ?_
    refine j_iload C 2 rfl d_R_send_133 ?_
    refine j_grd (fun h39 => ?_)
    refine sR_R_line C h39 d_R_send_135 ?_
    refine j_ltS (fun S40 => ?_)
    refine j_aload_n C 0 rfl rfl d_R_send_136 ?_
    refine gR_R_line C u_715 d_R_send_137 ?_
    refine j_iload C 4 rfl d_R_send_140 ?_
    refine j_bnd (fun r41 S42 e43 => ?_)
    refine j_callSi (As := [.ref (a 17), .int y36.2.2.2]) (rest := []) C Y_R_check u_835 (c_R_check_line g S40 y36.2.2.2 e43) rfl rfl ⟨by decide, by decide⟩ rfl rfl (Nat.le_of_ble_eq_true rfl) d_R_send_142 ?_
    refine j_istore (i := 8) (lv2 := [(8, .int r41), (0, .ref (a 0)), (3, .int y36.1), (5, .int y36.2.1), (6, .int y36.2.2.1), (7, .int y36.2.2.2)]) C (by decide) rfl d_R_send_145 ?_
    refine j_aload_n C 1 rfl rfl d_R_send_147 ?_
    refine gR_R_line C u_715 d_R_send_148 ?_
    refine j_iload C 5 rfl d_R_send_151 ?_
    refine j_bipush (v := 11) C (by decide) d_R_send_153 ?_
    refine j_iadd C d_R_send_155 ?_
    refine j_iload C 0 rfl d_R_send_156 ?_
    refine j_bipush (v := 8) C (by decide) d_R_send_158 ?_
    refine j_ishr C d_R_send_160 ?_
    refine j_grd (fun h44 => ?_)
    refine sR_R_line C h44 d_R_send_161 ?_
    refine j_ltS (fun S45 => ?_)
    refine j_aload_n C 1 rfl rfl d_R_send_162 ?_
    refine gR_R_line C u_715 d_R_send_163 ?_
    refine j_iload C 5 rfl d_R_send_166 ?_
    refine j_bipush (v := 12) C (by decide) d_R_send_168 ?_
    refine j_iadd C d_R_send_170 ?_
    refine j_iload C 0 rfl d_R_send_171 ?_
    refine j_sipush (v := 255) C (by decide) d_R_send_173 ?_
    refine j_iand C d_R_send_176 ?_
    refine j_grd (fun h46 => ?_)
    refine sR_R_line C h46 d_R_send_177 ?_
    refine j_ltS (fun S47 => ?_)
    refine j_aload_n C 1 rfl rfl d_R_send_178 ?_
    refine gR_R_line C u_715 d_R_send_179 ?_
    refine j_iload C 5 rfl d_R_send_182 ?_
    refine j_bipush (v := 13) C (by decide) d_R_send_184 ?_
    refine j_iadd C d_R_send_186 ?_
    refine j_iload C 4 rfl d_R_send_187 ?_
    refine j_grd (fun h48 => ?_)
    refine sR_R_line C h48 d_R_send_189 ?_
    refine j_ltS (fun S49 => ?_)
    refine j_aload_n C 1 rfl rfl d_R_send_190 ?_
    refine j_dup C rfl d_R_send_191 ?_
    refine gR_R_flying C u_716 d_R_send_192 ?_
    refine j_iconst (v := 1) C (by decide) d_R_send_195 ?_
    refine j_iadd C d_R_send_196 ?_
    refine pR_R_flying C u_716 d_R_send_197 ?_
    refine j_ltS (fun S50 => ?_)
    exact j_vret C rfl rfl d_R_send_200
  · refine j_bipush (v := 14) C (by decide) d_R_send_24 ?_
    refine j_aload_n C 0 rfl rfl d_R_send_26 ?_
    refine gR_R_flying C u_716 d_R_send_27 ?_
    refine j_imul C d_R_send_30 ?_
    refine j_lti (fun x51 => ?_)
    refine j_istore (i := 7) (lv2 := [(7, .int x51), (0, .ref (a 0)), (1, .int x1), (2, .int x2), (3, .int x3), (4, .int x4), (5, .int x5), (6, .int x6)]) C (by decide) rfl d_R_send_31 ?_
    refine j_aload_n C 1 rfl rfl d_R_send_33 ?_
    refine gR_R_line C u_715 d_R_send_34 ?_
    refine j_iload C 0 rfl d_R_send_37 ?_
    refine j_iload_n C 2 rfl rfl d_R_send_39 ?_
    refine j_grd (fun h52 => ?_)
    refine sR_R_line C h52 d_R_send_40 ?_
    refine j_ltS (fun S53 => ?_)
    refine j_iconst (v := 0) C (by decide) d_R_send_41 ?_
    refine j_istore (i := 8) (lv2 := [(8, .int (0 : Int32)), (7, .int x51), (0, .ref (a 0)), (1, .int x1), (2, .int x2), (3, .int x3), (4, .int x4), (5, .int x5), (6, .int x6)]) C (by decide) rfl d_R_send_42 ?_
    refine j_sub [2, 4, 5, 6, 7, 8, 1, 0] rfl ?_
    refine j_seqM ?_
    refine lp_R_send_44 C g  (fun S54 y55 => ?_) g S53 x2 x3 x4 x5 x6 x51 (0 : Int32)
    refine j_outM ?_
    refine j_aload_n C 0 rfl rfl d_R_send_110 ?_
    refine gR_R_line C u_715 d_R_send_111 ?_
    refine j_iload C 4 rfl d_R_send_114 ?_
    refine j_iconst (v := 5) C (by decide) d_R_send_116 ?_
    refine j_iadd C d_R_send_117 ?_
    refine j_iload_n C 1 rfl rfl d_R_send_118 ?_
    refine j_sipush (v := 255) C (by decide) d_R_send_119 ?_
    refine j_iand C d_R_send_122 ?_
    refine j_grd (fun h56 => ?_)
    refine sR_R_line C h56 d_R_send_123 ?_
    refine j_ltS (fun S57 => ?_)
    refine j_aload_n C 0 rfl rfl d_R_send_124 ?_
    refine gR_R_line C u_715 d_R_send_125 ?_
    refine j_iload C 4 rfl d_R_send_128 ?_
    refine j_bipush (v := 10) C (by decide) d_R_send_130 ?_
    refine j_iadd C d_R_send_132 ?_
    refine j_iload C 2 rfl d_R_send_133 ?_
    refine j_grd (fun h58 => ?_)
    refine sR_R_line C h58 d_R_send_135 ?_
    refine j_ltS (fun S59 => ?_)
    refine j_aload_n C 0 rfl rfl d_R_send_136 ?_
    refine gR_R_line C u_715 d_R_send_137 ?_
    refine j_iload C 4 rfl d_R_send_140 ?_
    refine j_bnd (fun r60 S61 e62 => ?_)
    refine j_callSi (As := [.ref (a 17), .int y55.2.2.2]) (rest := []) C Y_R_check u_835 (c_R_check_line g S59 y55.2.2.2 e62) rfl rfl ⟨by decide, by decide⟩ rfl rfl (Nat.le_of_ble_eq_true rfl) d_R_send_142 ?_
    refine j_istore (i := 8) (lv2 := [(8, .int r60), (0, .ref (a 0)), (3, .int y55.1), (5, .int y55.2.1), (6, .int y55.2.2.1), (7, .int y55.2.2.2)]) C (by decide) rfl d_R_send_145 ?_
    refine j_aload_n C 1 rfl rfl d_R_send_147 ?_
    refine gR_R_line C u_715 d_R_send_148 ?_
    refine j_iload C 5 rfl d_R_send_151 ?_
    refine j_bipush (v := 11) C (by decide) d_R_send_153 ?_
    refine j_iadd C d_R_send_155 ?_
    refine j_iload C 0 rfl d_R_send_156 ?_
    refine j_bipush (v := 8) C (by decide) d_R_send_158 ?_
    refine j_ishr C d_R_send_160 ?_
    refine j_grd (fun h63 => ?_)
    refine sR_R_line C h63 d_R_send_161 ?_
    refine j_ltS (fun S64 => ?_)
    refine j_aload_n C 1 rfl rfl d_R_send_162 ?_
    refine gR_R_line C u_715 d_R_send_163 ?_
    refine j_iload C 5 rfl d_R_send_166 ?_
    refine j_bipush (v := 12) C (by decide) d_R_send_168 ?_
    refine j_iadd C d_R_send_170 ?_
    refine j_iload C 0 rfl d_R_send_171 ?_
    refine j_sipush (v := 255) C (by decide) d_R_send_173 ?_
    refine j_iand C d_R_send_176 ?_
    refine j_grd (fun h65 => ?_)
    refine sR_R_line C h65 d_R_send_177 ?_
    refine j_ltS (fun S66 => ?_)
    refine j_aload_n C 1 rfl rfl d_R_send_178 ?_
    refine gR_R_line C u_715 d_R_send_179 ?_
    refine j_iload C 5 rfl d_R_send_182 ?_
    refine j_bipush (v := 13) C (by decide) d_R_send_184 ?_
    refine j_iadd C d_R_send_186 ?_
    refine j_iload C 4 rfl d_R_send_187 ?_
    refine j_grd (fun h67 => ?_)
    refine sR_R_line C h67 d_R_send_189 ?_
    refine j_ltS (fun S68 => ?_)
    refine j_aload_n C 1 rfl rfl d_R_send_190 ?_
    refine j_dup C rfl d_R_send_191 ?_
    refine gR_R_flying C u_716 d_R_send_192 ?_
    refine j_iconst (v := 1) C (by decide) d_R_send_195 ?_
    refine j_iadd C d_R_send_196 ?_
    refine pR_R_flying C u_716 d_R_send_197 ?_
    refine j_ltS (fun S69 => ?_)
    exact j_vret C rfl rfl d_R_send_200
def f_R_sendStep (g : Nat) (S : Mem) (x1 : Int32) (x2 : Int32) : Option (Int32 × Mem) := bnd (f_R_step g S) (fun r21 S22 => if r21 = 0 then (some ((0 : Int32), S22)) else (bnd (f_R_send g S22 x1 (S22.1 22 0) (S22.1 23 0) x2 (0 : Int32) (0 : Int32)) (fun _ S26 => some ((1 : Int32), S26))))
set_option maxRecDepth 100000 in
set_option maxHeartbeats 4000000 in
theorem c_R_sendStep {l : Launch} {D : va_G} {cI cJ cZ cL : ClassId} {a : Nat → Nat} (g : Nat) (S : Mem) (x1 : Int32) (x2 : Int32) {r : Int32} {S9 : Mem} (h : f_R_sendStep g S x1 x2 = some (r, S9)) : Ctr l y_R_sendStep prog_9_method_17_code 3 (some .boolean) rm_R_sendStep D (tyT cI cJ cZ cL) (wdR cI cJ cZ cL a) [.ref (a 0), .int x1, .int x2] S (vI r, S9) := by
  refine Ctr.of (lv0 := [(0, .ref (a 0)), (1, .int x1), (2, .int x2)]) (vv := vI) (by decide) rfl (wdR_fst cI cJ cZ cL a) (Nat.le_of_ble_eq_true rfl) rfl (fun p e s m args below meth c A C => ?_) r S9 h
  unfold f_R_sendStep
  refine j_aload_n C 0 rfl rfl d_R_sendStep_0 ?_
  refine j_bnd (fun r21 S22 e23 => ?_)
  refine j_callVi (As := []) (rest := []) C 0 7 Y_R_step u_819 (c_R_step g S e23) rfl rfl ⟨by decide, by decide⟩ rfl rfl rfl rfl (Nat.le_of_ble_eq_true rfl) d_R_sendStep_1 ?_
  refine j_if_ne (tgt := 9) C d_R_sendStep_4 (by decide) (fun h24 => ?_) (fun h24 => ?_)
  · refine j_iconst (v := 0) C (by decide) d_R_sendStep_7 ?_
    exact j_zret C (Or.inl rfl) rfl rfl d_R_sendStep_8
  · refine j_aload_n C 0 rfl rfl d_R_sendStep_9 ?_
    refine j_iload_n C 1 rfl rfl d_R_sendStep_10 ?_
    refine j_aload_n C 0 rfl rfl d_R_sendStep_11 ?_
    refine gR_R_trace C u_712 d_R_sendStep_12 ?_
    refine j_aload_n C 0 rfl rfl d_R_sendStep_15 ?_
    refine gR_R_cardAtHand C u_713 d_R_sendStep_16 ?_
    refine j_iload_n C 2 rfl rfl d_R_sendStep_19 ?_
    refine j_iconst (v := 0) C (by decide) d_R_sendStep_20 ?_
    refine j_iconst (v := 0) C (by decide) d_R_sendStep_21 ?_
    refine j_bnd (fun _ S26 e27 => ?_)
    refine j_callVv (As := [.int x1, .int (S22.1 22 0), .int (S22.1 23 0), .int x2, .int (0 : Int32), .int (0 : Int32)]) (rest := []) C 0 7 Y_R_send u_827 (c_R_send g S22 x1 (S22.1 22 0) (S22.1 23 0) x2 (0 : Int32) (0 : Int32) e27) rfl rfl ⟨by decide, by decide⟩ rfl rfl rfl rfl (Nat.le_of_ble_eq_true rfl) d_R_sendStep_22 ?_
    refine j_iconst (v := 1) C (by decide) d_R_sendStep_25 ?_
    exact j_zret C (Or.inr rfl) rfl rfl d_R_sendStep_26
def f_R_pin (g : Nat) (S : Mem) (x1 : Int32) : Option (Int32 × Mem) := if (S.1 18 0) = 0 then (some ((0 : Int32), S)) else (if (S.1 20 0) = (1 : Int32) then (if x1 < 0 then (some ((0 : Int32), S)) else (if (9999 : Int32) < x1 then (some ((0 : Int32), S)) else (if (S.1 16 0) ≤ (2000 : Int32) then (lt (sI S 22 0 (S.1 16 0)) (fun S26 => lt (sI S26 16 0 ((S26.1 16 0) + (1 : Int32))) (fun S27 => lt (sI S27 23 0 (S27.1 21 0)) (fun S28 => bnd (f_R_sendStep g S28 (1 : Int32) x1) (fun r29 S30 => if r29 = 0 then (some ((1 : Int32), S30)) else (lt (sI S30 20 0 (2 : Int32)) (fun S33 => some ((1 : Int32), S33)))))))) else (some ((0 : Int32), S))))) else (some ((0 : Int32), S)))
set_option maxRecDepth 100000 in
set_option maxHeartbeats 4000000 in
theorem c_R_pin {l : Launch} {D : va_G} {cI cJ cZ cL : ClassId} {a : Nat → Nat} (g : Nat) (S : Mem) (x1 : Int32) {r : Int32} {S9 : Mem} (h : f_R_pin g S x1 = some (r, S9)) : Ctr l y_R_pin prog_9_method_25_code 2 (some .boolean) rm_R_pin D (tyT cI cJ cZ cL) (wdR cI cJ cZ cL a) [.ref (a 0), .int x1] S (vI r, S9) := by
  refine Ctr.of (lv0 := [(0, .ref (a 0)), (1, .int x1)]) (vv := vI) (by decide) rfl (wdR_fst cI cJ cZ cL a) (Nat.le_of_ble_eq_true rfl) rfl (fun p e s m args below meth c A C => ?_) r S9 h
  unfold f_R_pin
  refine j_aload_n C 0 rfl rfl d_R_pin_0 ?_
  refine gR_R_isOn C u_708 d_R_pin_1 ?_
  refine j_if_eq (tgt := 36) C d_R_pin_4 (by decide) (fun h21 => ?_) (fun h21 => ?_)
  · refine j_iconst (v := 0) C (by decide) d_R_pin_36 ?_
    exact j_zret C (Or.inl rfl) rfl rfl d_R_pin_37
  · refine j_aload_n C 0 rfl rfl d_R_pin_7 ?_
    refine gR_R_phase C u_710 d_R_pin_8 ?_
    refine j_iconst (v := 1) C (by decide) d_R_pin_11 ?_
    refine j_icmp_ne (tgt := 36) C d_R_pin_12 (by decide) (fun h22 => ?_) (fun h22 => ?_)
    · refine j_iload_n C 1 rfl rfl d_R_pin_15 ?_
      refine j_if_lt (tgt := 36) C d_R_pin_16 (by decide) (fun h23 => ?_) (fun h23 => ?_)
      · refine j_iconst (v := 0) C (by decide) d_R_pin_36 ?_
        exact j_zret C (Or.inl rfl) rfl rfl d_R_pin_37
      · refine j_iload_n C 1 rfl rfl d_R_pin_19 ?_
        refine j_sipush (v := 9999) C (by decide) d_R_pin_20 ?_
        refine j_icmp_gt (tgt := 36) C d_R_pin_23 (by decide) (fun h24 => ?_) (fun h24 => ?_)
        · refine j_iconst (v := 0) C (by decide) d_R_pin_36 ?_
          exact j_zret C (Or.inl rfl) rfl rfl d_R_pin_37
        · refine j_aload_n C 0 rfl rfl d_R_pin_26 ?_
          refine gR_R_nextTrace C u_706 d_R_pin_27 ?_
          refine j_sipush (v := 2000) C (by decide) d_R_pin_30 ?_
          refine j_icmp_le (tgt := 38) C d_R_pin_33 (by decide) (fun h25 => ?_) (fun h25 => ?_)
          · refine j_aload_n C 0 rfl rfl d_R_pin_38 ?_
            refine j_aload_n C 0 rfl rfl d_R_pin_39 ?_
            refine gR_R_nextTrace C u_706 d_R_pin_40 ?_
            refine pR_R_trace C u_712 d_R_pin_43 ?_
            refine j_ltS (fun S26 => ?_)
            refine j_aload_n C 0 rfl rfl d_R_pin_46 ?_
            refine j_dup C rfl d_R_pin_47 ?_
            refine gR_R_nextTrace C u_706 d_R_pin_48 ?_
            refine j_iconst (v := 1) C (by decide) d_R_pin_51 ?_
            refine j_iadd C d_R_pin_52 ?_
            refine pR_R_nextTrace C u_706 d_R_pin_53 ?_
            refine j_ltS (fun S27 => ?_)
            refine j_aload_n C 0 rfl rfl d_R_pin_56 ?_
            refine j_aload_n C 0 rfl rfl d_R_pin_57 ?_
            refine gR_R_slotCard C u_711 d_R_pin_58 ?_
            refine pR_R_cardAtHand C u_713 d_R_pin_61 ?_
            refine j_ltS (fun S28 => ?_)
            refine j_aload_n C 0 rfl rfl d_R_pin_64 ?_
            refine j_iconst (v := 1) C (by decide) d_R_pin_65 ?_
            refine j_iload_n C 1 rfl rfl d_R_pin_66 ?_
            refine j_bnd (fun r29 S30 e31 => ?_)
            refine j_callVi (As := [.int (1 : Int32), .int x1]) (rest := []) C 0 7 Y_R_sendStep u_815 (c_R_sendStep g S28 (1 : Int32) x1 e31) rfl rfl ⟨by decide, by decide⟩ rfl rfl rfl rfl (Nat.le_of_ble_eq_true rfl) d_R_pin_67 ?_
            refine j_if_eq (tgt := 78) C d_R_pin_70 (by decide) (fun h32 => ?_) (fun h32 => ?_)
            · refine j_iconst (v := 1) C (by decide) d_R_pin_78 ?_
              exact j_zret C (Or.inr rfl) rfl rfl d_R_pin_79
            · refine j_aload_n C 0 rfl rfl d_R_pin_73 ?_
              refine j_iconst (v := 2) C (by decide) d_R_pin_74 ?_
              refine pR_R_phase C u_710 d_R_pin_75 ?_
              refine j_ltS (fun S33 => ?_)
              refine j_iconst (v := 1) C (by decide) d_R_pin_78 ?_
              exact j_zret C (Or.inr rfl) rfl rfl d_R_pin_79
          · refine j_iconst (v := 0) C (by decide) d_R_pin_36 ?_
            exact j_zret C (Or.inl rfl) rfl rfl d_R_pin_37
    · refine j_iconst (v := 0) C (by decide) d_R_pin_36 ?_
      exact j_zret C (Or.inl rfl) rfl rfl d_R_pin_37
def f_R_findMix_40 (g : Nat) : Nat → Mem → Int32 → Int32 → Int32 → Int32 → Int32 → Option (Mem × (Int32 × Int32 × Int32 × Int32))
  | 0, _, _, _, _, _, _ => none
  | n + 1, S, x1, x2, x3, x4, x5 => if x5 < 0 then (some (S, (x1, x2, x3, x4))) else (if (S.1 9 ((1 : Int32).toNatClampNeg)) < x4 then (some (S, (x1, x2, x3, x4))) else (lt (((x1 - (x3 * (S.1 8 ((0 : Int32).toNatClampNeg)))) - (x4 * (S.1 8 ((1 : Int32).toNatClampNeg)))) - (x5 * (S.1 8 ((2 : Int32).toNatClampNeg)))) (fun x28 => if (S.1 9 ((2 : Int32).toNatClampNeg)) < x5 then (lt (x5 + (-1 : Int32)) (fun x30 => f_R_findMix_40 g n S x1 x2 x3 x4 x30)) else (if x28 < 0 then (lt (x5 + (-1 : Int32)) (fun x32 => f_R_findMix_40 g n S x1 x2 x3 x4 x32)) else (grd (¬ (S.1 8 ((3 : Int32).toNatClampNeg)) = 0) (if (x28 - x28 / (S.1 8 ((3 : Int32).toNatClampNeg)) * (S.1 8 ((3 : Int32).toNatClampNeg))) = 0 then (grd (¬ (S.1 8 ((3 : Int32).toNatClampNeg)) = 0) (lt (x28 / (S.1 8 ((3 : Int32).toNatClampNeg))) (fun x36 => if (S.1 9 ((3 : Int32).toNatClampNeg)) < x36 then (lt (x5 + (-1 : Int32)) (fun x38 => f_R_findMix_40 g n S x1 x2 x3 x4 x38)) else (if x2 ≤ (((x3 + x4) + x5) + x36) then (lt (x5 + (-1 : Int32)) (fun x40 => f_R_findMix_40 g n S x1 x2 x3 x4 x40)) else (lt (((x3 + x4) + x5) + x36) (fun x41 => lt (sI S 30 ((0 : Int32).toNatClampNeg) x3) (fun S42 => lt (sI S42 30 ((1 : Int32).toNatClampNeg) x4) (fun S43 => lt (sI S43 30 ((2 : Int32).toNatClampNeg) x5) (fun S44 => lt (sI S44 30 ((3 : Int32).toNatClampNeg) x36) (fun S45 => lt (x5 + (-1 : Int32)) (fun x46 => f_R_findMix_40 g n S45 x1 x41 x3 x4 x46))))))))))) else (lt (x5 + (-1 : Int32)) (fun x47 => f_R_findMix_40 g n S x1 x2 x3 x4 x47))))))))
set_option maxRecDepth 100000 in
set_option maxHeartbeats 4000000 in
theorem lp_R_findMix_40 {l : Launch} {D : va_G} {cI cJ cZ cL : ClassId} {a : Nat → Nat} {p : Program} {e : Env} {s : State} {m : MethodId} {args : Array Value} {below : List Frame} {meth : Method} {c : Code} {A : Nat → Prop} (C : Cx p s m args meth c "AutoTellerModel" prog_9_method_22_code 8 (some .boolean) D (tyT cI cJ cZ cL) (wdR cI cJ cZ cL a) A) (g : Nat) {K : (Mem × (Int32 × Int32 × Int32 × Int32)) → Option (Int32 × Mem)} (hx : ∀ (S : Mem) (y : Int32 × Int32 × Int32 × Int32), Tj p l e rm_R_findMix s m args below meth c D (wdR cI cJ cZ cL a) A 8 vI K (some (S, y)) S 200 [(0, .ref (a 0)), (1, .int y.1), (2, .int y.2.1), (3, .int y.2.2.1), (4, .int y.2.2.2)] []) : ∀ (n : Nat) (S : Mem) (x1 : Int32) (x2 : Int32) (x3 : Int32) (x4 : Int32) (x5 : Int32), Tj p l e rm_R_findMix s m args below meth c D (wdR cI cJ cZ cL a) A 8 vI K (f_R_findMix_40 g n S x1 x2 x3 x4 x5) S 40 [(0, .ref (a 0)), (1, .int x1), (2, .int x2), (3, .int x3), (4, .int x4), (5, .int x5)] [] := by
  intro n
  induction n with
  | zero =>
    intro S x1 x2 x3 x4 x5
    exact j_none
  | succ n ih =>
    intro S x1 x2 x3 x4 x5
    rw [f_R_findMix_40]
    refine j_iload C 5 rfl d_R_findMix_40 ?_
    refine j_if_lt (tgt := 200) C d_R_findMix_42 (by decide) (fun h26 => ?_) (fun h26 => ?_)
    · refine j_sub [0, 1, 2, 3, 4] rfl ?_
      exact hx S (x1, x2, x3, x4)
    · refine j_iload C 4 rfl d_R_findMix_45 ?_
      refine j_aload_n C 0 rfl rfl d_R_findMix_47 ?_
      refine gR_R_notes C u_696 d_R_findMix_48 ?_
      refine j_iconst (v := 1) C (by decide) d_R_findMix_51 ?_
      refine lR_R_notes C (by decide) d_R_findMix_52 ?_
      refine j_icmp_gt (tgt := 200) C d_R_findMix_53 (by decide) (fun h27 => ?_) (fun h27 => ?_)
      · refine j_sub [0, 1, 2, 3, 4] rfl ?_
        exact hx S (x1, x2, x3, x4)
      · refine j_iload_n C 1 rfl rfl d_R_findMix_56 ?_
        refine j_iload_n C 3 rfl rfl d_R_findMix_57 ?_
        refine j_aload_n C 0 rfl rfl d_R_findMix_58 ?_
        refine gR_R_denomination C u_695 d_R_findMix_59 ?_
        refine j_iconst (v := 0) C (by decide) d_R_findMix_62 ?_
        refine lR_R_denomination C (by decide) d_R_findMix_63 ?_
        refine j_imul C d_R_findMix_64 ?_
        refine j_isub C d_R_findMix_65 ?_
        refine j_iload C 4 rfl d_R_findMix_66 ?_
        refine j_aload_n C 0 rfl rfl d_R_findMix_68 ?_
        refine gR_R_denomination C u_695 d_R_findMix_69 ?_
        refine j_iconst (v := 1) C (by decide) d_R_findMix_72 ?_
        refine lR_R_denomination C (by decide) d_R_findMix_73 ?_
        refine j_imul C d_R_findMix_74 ?_
        refine j_isub C d_R_findMix_75 ?_
        refine j_iload C 5 rfl d_R_findMix_76 ?_
        refine j_aload_n C 0 rfl rfl d_R_findMix_78 ?_
        refine gR_R_denomination C u_695 d_R_findMix_79 ?_
        refine j_iconst (v := 2) C (by decide) d_R_findMix_82 ?_
        refine lR_R_denomination C (by decide) d_R_findMix_83 ?_
        refine j_imul C d_R_findMix_84 ?_
        refine j_isub C d_R_findMix_85 ?_
        refine j_lti (fun x28 => ?_)
        refine j_istore (i := 6) (lv2 := [(6, .int x28), (0, .ref (a 0)), (1, .int x1), (2, .int x2), (3, .int x3), (4, .int x4), (5, .int x5)]) C (by decide) rfl d_R_findMix_86 ?_
        refine j_iload C 6 rfl d_R_findMix_88 ?_
        refine j_aload_n C 1 rfl rfl d_R_findMix_90 ?_
        refine gR_R_notes C u_696 d_R_findMix_91 ?_
        refine j_iconst (v := 2) C (by decide) d_R_findMix_94 ?_
        refine lR_R_notes C (by decide) d_R_findMix_95 ?_
        refine j_icmp_gt (tgt := 194) C d_R_findMix_96 (by decide) (fun h29 => ?_) (fun h29 => ?_)
        · refine j_iincN (n2 := -1) (lv2 := fun x30 => [(5, .int x30), (6, .int x28), (0, .ref (a 0)), (1, .int x1), (2, .int x2), (3, .int x3), (4, .int x4)]) C 6 rfl (by decide) (by decide) (fun _ => rfl) d_R_findMix_194 (fun x30 => ?_)
          refine j_goto (tgt := 40) C d_R_findMix_197 (by decide) ?_
          refine j_sub [2, 3, 4, 5, 6, 0] rfl ?_
          exact ih S x1 x2 x3 x4 x30
        · refine j_iload C 0 rfl d_R_findMix_99 ?_
          refine j_if_lt (tgt := 194) C d_R_findMix_101 (by decide) (fun h31 => ?_) (fun h31 => ?_)
          · refine j_iincN (n2 := -1) (lv2 := fun x32 => [(5, .int x32), (6, .int x28), (0, .ref (a 0)), (1, .int x1), (2, .int x2), (3, .int x3), (4, .int x4)]) C 6 rfl (by decide) (by decide) (fun _ => rfl) d_R_findMix_194 (fun x32 => ?_)
            refine j_goto (tgt := 40) C d_R_findMix_197 (by decide) ?_
            refine j_sub [2, 3, 4, 5, 6, 0] rfl ?_
            exact ih S x1 x2 x3 x4 x32
          · refine j_iload C 0 rfl d_R_findMix_104 ?_
            refine j_aload_n C 1 rfl rfl d_R_findMix_106 ?_
            refine gR_R_denomination C u_695 d_R_findMix_107 ?_
            refine j_iconst (v := 3) C (by decide) d_R_findMix_110 ?_
            refine lR_R_denomination C (by decide) d_R_findMix_111 ?_
            refine j_grd (fun h33 => ?_)
            refine j_irem C h33 d_R_findMix_112 ?_
            refine j_if_ne (tgt := 194) C d_R_findMix_113 (by decide) (fun h34 => ?_) (fun h34 => ?_)
            · refine j_iload C 0 rfl d_R_findMix_116 ?_
              refine j_aload_n C 1 rfl rfl d_R_findMix_118 ?_
              refine gR_R_denomination C u_695 d_R_findMix_119 ?_
              refine j_iconst (v := 3) C (by decide) d_R_findMix_122 ?_
              refine lR_R_denomination C (by decide) d_R_findMix_123 ?_
              refine j_grd (fun h35 => ?_)
              refine j_idiv C h35 d_R_findMix_124 ?_
              refine j_lti (fun x36 => ?_)
              refine j_istore (i := 7) (lv2 := [(7, .int x36), (6, .int x28), (0, .ref (a 0)), (1, .int x1), (2, .int x2), (3, .int x3), (4, .int x4), (5, .int x5)]) C (by decide) rfl d_R_findMix_125 ?_
              refine j_iload C 0 rfl d_R_findMix_127 ?_
              refine j_aload_n C 2 rfl rfl d_R_findMix_129 ?_
              refine gR_R_notes C u_696 d_R_findMix_130 ?_
              refine j_iconst (v := 3) C (by decide) d_R_findMix_133 ?_
              refine lR_R_notes C (by decide) d_R_findMix_134 ?_
              refine j_icmp_gt (tgt := 194) C d_R_findMix_135 (by decide) (fun h37 => ?_) (fun h37 => ?_)
              · refine j_iincN (n2 := -1) (lv2 := fun x38 => [(5, .int x38), (7, .int x36), (6, .int x28), (0, .ref (a 0)), (1, .int x1), (2, .int x2), (3, .int x3), (4, .int x4)]) C 7 rfl (by decide) (by decide) (fun _ => rfl) d_R_findMix_194 (fun x38 => ?_)
                refine j_goto (tgt := 40) C d_R_findMix_197 (by decide) ?_
                refine j_sub [3, 4, 5, 6, 7, 0] rfl ?_
                exact ih S x1 x2 x3 x4 x38
              · refine j_iload_n C 5 rfl rfl d_R_findMix_138 ?_
                refine j_iload C 6 rfl d_R_findMix_139 ?_
                refine j_iadd C d_R_findMix_141 ?_
                refine j_iload C 7 rfl d_R_findMix_142 ?_
                refine j_iadd C d_R_findMix_144 ?_
                refine j_iload C 0 rfl d_R_findMix_145 ?_
                refine j_iadd C d_R_findMix_147 ?_
                refine j_iload_n C 4 rfl rfl d_R_findMix_148 ?_
                refine j_icmp_ge (tgt := 194) C d_R_findMix_149 (by decide) (fun h39 => ?_) (fun h39 => ?_)
                · refine j_iincN (n2 := -1) (lv2 := fun x40 => [(5, .int x40), (7, .int x36), (6, .int x28), (0, .ref (a 0)), (1, .int x1), (2, .int x2), (3, .int x3), (4, .int x4)]) C 7 rfl (by decide) (by decide) (fun _ => rfl) d_R_findMix_194 (fun x40 => ?_)
                  refine j_goto (tgt := 40) C d_R_findMix_197 (by decide) ?_
                  refine j_sub [3, 4, 5, 6, 7, 0] rfl ?_
                  exact ih S x1 x2 x3 x4 x40
                · refine j_iload_n C 5 rfl rfl d_R_findMix_152 ?_
                  refine j_iload C 6 rfl d_R_findMix_153 ?_
                  refine j_iadd C d_R_findMix_155 ?_
                  refine j_iload C 7 rfl d_R_findMix_156 ?_
                  refine j_iadd C d_R_findMix_158 ?_
                  refine j_iload C 0 rfl d_R_findMix_159 ?_
                  refine j_iadd C d_R_findMix_161 ?_
                  refine j_lti (fun x41 => ?_)
                  refine j_istore_n (i := 2) (lv2 := [(2, .int x41), (7, .int x36), (6, .int x28), (0, .ref (a 0)), (1, .int x1), (3, .int x3), (4, .int x4), (5, .int x5)]) C rfl (by decide) rfl d_R_findMix_162 ?_
                  refine j_aload_n C 3 rfl rfl d_R_findMix_163 ?_
                  refine gR_R_mixed C u_720 d_R_findMix_164 ?_
                  refine j_iconst (v := 0) C (by decide) d_R_findMix_167 ?_
                  refine j_iload_n C 5 rfl rfl d_R_findMix_168 ?_
                  refine sR_R_mixed C (by decide) d_R_findMix_169 ?_
                  refine j_ltS (fun S42 => ?_)
                  refine j_aload_n C 3 rfl rfl d_R_findMix_170 ?_
                  refine gR_R_mixed C u_720 d_R_findMix_171 ?_
                  refine j_iconst (v := 1) C (by decide) d_R_findMix_174 ?_
                  refine j_iload C 6 rfl d_R_findMix_175 ?_
                  refine sR_R_mixed C (by decide) d_R_findMix_177 ?_
                  refine j_ltS (fun S43 => ?_)
                  refine j_aload_n C 3 rfl rfl d_R_findMix_178 ?_
                  refine gR_R_mixed C u_720 d_R_findMix_179 ?_
                  refine j_iconst (v := 2) C (by decide) d_R_findMix_182 ?_
                  refine j_iload C 7 rfl d_R_findMix_183 ?_
                  refine sR_R_mixed C (by decide) d_R_findMix_185 ?_
                  refine j_ltS (fun S44 => ?_)
                  refine j_aload_n C 3 rfl rfl d_R_findMix_186 ?_
                  refine gR_R_mixed C u_720 d_R_findMix_187 ?_
                  refine j_iconst (v := 3) C (by decide) d_R_findMix_190 ?_
                  refine j_iload C 1 rfl d_R_findMix_191 ?_
                  refine sR_R_mixed C (by decide) d_R_findMix_193 ?_
                  refine j_ltS (fun S45 => ?_)
                  refine j_iincN (n2 := -1) (lv2 := fun x46 => [(5, .int x46), (2, .int x41), (7, .int x36), (6, .int x28), (0, .ref (a 0)), (1, .int x1), (3, .int x3), (4, .int x4)]) C 7 rfl (by decide) (by decide) (fun _ => rfl) d_R_findMix_194 (fun x46 => ?_)
                  refine j_goto (tgt := 40) C d_R_findMix_197 (by decide) ?_
                  refine j_sub [4, 5, 1, 6, 7, 0] rfl ?_
                  exact ih S45 x1 x41 x3 x4 x46
            · refine j_iincN (n2 := -1) (lv2 := fun x47 => [(5, .int x47), (6, .int x28), (0, .ref (a 0)), (1, .int x1), (2, .int x2), (3, .int x3), (4, .int x4)]) C 6 rfl (by decide) (by decide) (fun _ => rfl) d_R_findMix_194 (fun x47 => ?_)
              refine j_goto (tgt := 40) C d_R_findMix_197 (by decide) ?_
              refine j_sub [2, 3, 4, 5, 6, 0] rfl ?_
              exact ih S x1 x2 x3 x4 x47
def f_R_findMix_16 (g : Nat) : Nat → Mem → Int32 → Int32 → Int32 → Int32 → Option (Mem × (Int32 × Int32 × Int32))
  | 0, _, _, _, _, _ => none
  | n + 1, S, x1, x2, x3, x4 => if x4 < 0 then (some (S, (x1, x2, x3))) else (if (S.1 9 ((0 : Int32).toNatClampNeg)) < x3 then (some (S, (x1, x2, x3))) else (lt (((40 : Int32) - x3) - x4) (fun x25 => seqM (f_R_findMix_40 g g S x1 x2 x3 x4 x25) (fun S48 y49 => lt (y49.2.2.2 + (-1 : Int32)) (fun x50 => f_R_findMix_16 g n S48 y49.1 y49.2.1 y49.2.2.1 x50)))))
set_option maxRecDepth 100000 in
set_option maxHeartbeats 4000000 in
theorem lp_R_findMix_16 {l : Launch} {D : va_G} {cI cJ cZ cL : ClassId} {a : Nat → Nat} {p : Program} {e : Env} {s : State} {m : MethodId} {args : Array Value} {below : List Frame} {meth : Method} {c : Code} {A : Nat → Prop} (C : Cx p s m args meth c "AutoTellerModel" prog_9_method_22_code 8 (some .boolean) D (tyT cI cJ cZ cL) (wdR cI cJ cZ cL a) A) (g : Nat) {K : (Mem × (Int32 × Int32 × Int32)) → Option (Int32 × Mem)} (hx : ∀ (S : Mem) (y : Int32 × Int32 × Int32), Tj p l e rm_R_findMix s m args below meth c D (wdR cI cJ cZ cL a) A 8 vI K (some (S, y)) S 206 [(0, .ref (a 0)), (1, .int y.1), (2, .int y.2.1), (3, .int y.2.2)] []) : ∀ (n : Nat) (S : Mem) (x1 : Int32) (x2 : Int32) (x3 : Int32) (x4 : Int32), Tj p l e rm_R_findMix s m args below meth c D (wdR cI cJ cZ cL a) A 8 vI K (f_R_findMix_16 g n S x1 x2 x3 x4) S 16 [(0, .ref (a 0)), (1, .int x1), (2, .int x2), (3, .int x3), (4, .int x4)] [] := by
  intro n
  induction n with
  | zero =>
    intro S x1 x2 x3 x4
    exact j_none
  | succ n ih =>
    intro S x1 x2 x3 x4
    rw [f_R_findMix_16]
    refine j_iload C 4 rfl d_R_findMix_16 ?_
    refine j_if_lt (tgt := 206) C d_R_findMix_18 (by decide) (fun h23 => ?_) (fun h23 => ?_)
    · refine j_sub [0, 1, 2, 3] rfl ?_
      exact hx S (x1, x2, x3)
    · refine j_iload_n C 3 rfl rfl d_R_findMix_21 ?_
      refine j_aload_n C 0 rfl rfl d_R_findMix_22 ?_
      refine gR_R_notes C u_696 d_R_findMix_23 ?_
      refine j_iconst (v := 0) C (by decide) d_R_findMix_26 ?_
      refine lR_R_notes C (by decide) d_R_findMix_27 ?_
      refine j_icmp_gt (tgt := 206) C d_R_findMix_28 (by decide) (fun h24 => ?_) (fun h24 => ?_)
      · refine j_sub [0, 1, 2, 3] rfl ?_
        exact hx S (x1, x2, x3)
      · refine j_bipush (v := 40) C (by decide) d_R_findMix_31 ?_
        refine j_iload_n C 3 rfl rfl d_R_findMix_33 ?_
        refine j_isub C d_R_findMix_34 ?_
        refine j_iload C 4 rfl d_R_findMix_35 ?_
        refine j_isub C d_R_findMix_37 ?_
        refine j_lti (fun x25 => ?_)
        refine j_istore (i := 5) (lv2 := [(5, .int x25), (0, .ref (a 0)), (1, .int x1), (2, .int x2), (3, .int x3), (4, .int x4)]) C (by decide) rfl d_R_findMix_38 ?_
        refine j_sub [1, 2, 3, 4, 5, 0] rfl ?_
        refine j_seqM ?_
        refine lp_R_findMix_40 C g  (fun S48 y49 => ?_) g S x1 x2 x3 x4 x25
        refine j_outM ?_
        refine j_iincN (n2 := -1) (lv2 := fun x50 => [(4, .int x50), (0, .ref (a 0)), (1, .int y49.1), (2, .int y49.2.1), (3, .int y49.2.2.1)]) C 4 rfl (by decide) (by decide) (fun _ => rfl) d_R_findMix_200 (fun x50 => ?_)
        refine j_goto (tgt := 16) C d_R_findMix_203 (by decide) ?_
        refine j_sub [1, 2, 3, 4, 0] rfl ?_
        exact ih S48 y49.1 y49.2.1 y49.2.2.1 x50
def f_R_findMix_6 (g : Nat) : Nat → Mem → Int32 → Int32 → Int32 → Option (Mem × (Int32))
  | 0, _, _, _, _ => none
  | n + 1, S, x1, x2, x3 => if x3 < 0 then (some (S, x2)) else (lt ((40 : Int32) - x3) (fun x22 => seqM (f_R_findMix_16 g g S x1 x2 x3 x22) (fun S51 y52 => lt (y52.2.2 + (-1 : Int32)) (fun x53 => f_R_findMix_6 g n S51 y52.1 y52.2.1 x53))))
set_option maxRecDepth 100000 in
set_option maxHeartbeats 4000000 in
theorem lp_R_findMix_6 {l : Launch} {D : va_G} {cI cJ cZ cL : ClassId} {a : Nat → Nat} {p : Program} {e : Env} {s : State} {m : MethodId} {args : Array Value} {below : List Frame} {meth : Method} {c : Code} {A : Nat → Prop} (C : Cx p s m args meth c "AutoTellerModel" prog_9_method_22_code 8 (some .boolean) D (tyT cI cJ cZ cL) (wdR cI cJ cZ cL a) A) (g : Nat) {K : (Mem × (Int32)) → Option (Int32 × Mem)} (hx : ∀ (S : Mem) (y : Int32), Tj p l e rm_R_findMix s m args below meth c D (wdR cI cJ cZ cL a) A 8 vI K (some (S, y)) S 212 [(2, .int y)] []) : ∀ (n : Nat) (S : Mem) (x1 : Int32) (x2 : Int32) (x3 : Int32), Tj p l e rm_R_findMix s m args below meth c D (wdR cI cJ cZ cL a) A 8 vI K (f_R_findMix_6 g n S x1 x2 x3) S 6 [(0, .ref (a 0)), (1, .int x1), (2, .int x2), (3, .int x3)] [] := by
  intro n
  induction n with
  | zero =>
    intro S x1 x2 x3
    exact j_none
  | succ n ih =>
    intro S x1 x2 x3
    rw [f_R_findMix_6]
    refine j_iload_n C 3 rfl rfl d_R_findMix_6 ?_
    refine j_if_lt (tgt := 212) C d_R_findMix_7 (by decide) (fun h21 => ?_) (fun h21 => ?_)
    · refine j_sub [2] rfl ?_
      exact hx S x2
    · refine j_bipush (v := 40) C (by decide) d_R_findMix_10 ?_
      refine j_iload_n C 3 rfl rfl d_R_findMix_12 ?_
      refine j_isub C d_R_findMix_13 ?_
      refine j_lti (fun x22 => ?_)
      refine j_istore (i := 4) (lv2 := [(4, .int x22), (0, .ref (a 0)), (1, .int x1), (2, .int x2), (3, .int x3)]) C (by decide) rfl d_R_findMix_14 ?_
      refine j_sub [1, 2, 3, 4, 0] rfl ?_
      refine j_seqM ?_
      refine lp_R_findMix_16 C g  (fun S51 y52 => ?_) g S x1 x2 x3 x22
      refine j_outM ?_
      refine j_iincN (n2 := -1) (lv2 := fun x53 => [(3, .int x53), (0, .ref (a 0)), (1, .int y52.1), (2, .int y52.2.1)]) C 3 rfl (by decide) (by decide) (fun _ => rfl) d_R_findMix_206 (fun x53 => ?_)
      refine j_goto (tgt := 6) C d_R_findMix_209 (by decide) ?_
      refine j_sub [1, 2, 3, 0] rfl ?_
      exact ih S51 y52.1 y52.2.1 x53
def f_R_findMix (g : Nat) (S : Mem) (x1 : Int32) : Option (Int32 × Mem) := seqM (f_R_findMix_6 g g S x1 (41 : Int32) (40 : Int32)) (fun S54 y55 => if (40 : Int32) < y55 then (some ((0 : Int32), S54)) else (some ((1 : Int32), S54)))
set_option maxRecDepth 100000 in
set_option maxHeartbeats 4000000 in
theorem c_R_findMix {l : Launch} {D : va_G} {cI cJ cZ cL : ClassId} {a : Nat → Nat} (g : Nat) (S : Mem) (x1 : Int32) {r : Int32} {S9 : Mem} (h : f_R_findMix g S x1 = some (r, S9)) : Ctr l y_R_findMix prog_9_method_22_code 8 (some .boolean) rm_R_findMix D (tyT cI cJ cZ cL) (wdR cI cJ cZ cL a) [.ref (a 0), .int x1] S (vI r, S9) := by
  refine Ctr.of (lv0 := [(0, .ref (a 0)), (1, .int x1)]) (vv := vI) (by decide) rfl (wdR_fst cI cJ cZ cL a) (Nat.le_of_ble_eq_true rfl) rfl (fun p e s m args below meth c A C => ?_) r S9 h
  unfold f_R_findMix
  refine j_bipush (v := 41) C (by decide) d_R_findMix_0 ?_
  refine j_istore_n (i := 2) (lv2 := [(2, .int (41 : Int32)), (0, .ref (a 0)), (1, .int x1)]) C rfl (by decide) rfl d_R_findMix_2 ?_
  refine j_bipush (v := 40) C (by decide) d_R_findMix_3 ?_
  refine j_istore_n (i := 3) (lv2 := [(3, .int (40 : Int32)), (2, .int (41 : Int32)), (0, .ref (a 0)), (1, .int x1)]) C rfl (by decide) rfl d_R_findMix_5 ?_
  refine j_sub [2, 3, 1, 0] rfl ?_
  refine j_seqM ?_
  refine lp_R_findMix_6 C g  (fun S54 y55 => ?_) g S x1 (41 : Int32) (40 : Int32)
  refine j_outM ?_
  refine j_iload_n C 0 rfl rfl d_R_findMix_212 ?_
  refine j_bipush (v := 40) C (by decide) d_R_findMix_213 ?_
  refine j_icmp_gt (tgt := 222) C d_R_findMix_215 (by decide) (fun h56 => ?_) (fun h56 => ?_)
  · refine j_iconst (v := 0) C (by decide) d_R_findMix_222 ?_
    exact j_zret C (Or.inl rfl) rfl rfl d_R_findMix_223
  · refine j_iconst (v := 1) C (by decide) d_R_findMix_218 ?_
    refine j_goto (tgt := 223) C d_R_findMix_219 (by decide) ?_
    exact j_zret C (Or.inr rfl) rfl rfl d_R_findMix_223
def f_R_record (g : Nat) (S : Mem) (x1 : Int32) : Option (Int32 × Mem) := if (S.1 15 0) = (300 : Int32) then (grd ((S.1 18 0) = 0 ∨ (S.1 18 0) = 1) (some (S.1 18 0, S))) else (bnd (f_R_step g S) (fun r23 S24 => if r23 = 0 then (some ((0 : Int32), S24)) else (lt ((5 : Int32) * (S24.1 15 0)) (fun x27 => grd (¬ (x27 < 0 ∨ 1500 ≤ x27.toNatClampNeg)) (lt (sI S24 14 x27.toNatClampNeg x1) (fun S29 => grd (¬ ((x27 + (1 : Int32)) < 0 ∨ 1500 ≤ (x27 + (1 : Int32)).toNatClampNeg)) (lt (sI S29 14 ((x27 + (1 : Int32)).toNatClampNeg) (S29.1 22 0)) (fun S31 => grd (¬ ((x27 + (2 : Int32)) < 0 ∨ 1500 ≤ (x27 + (2 : Int32)).toNatClampNeg)) (lt (sI S31 14 ((x27 + (2 : Int32)).toNatClampNeg) (S31.1 24 0)) (fun S33 => grd (¬ ((x27 + (3 : Int32)) < 0 ∨ 1500 ≤ (x27 + (3 : Int32)).toNatClampNeg)) (lt (sI S33 14 ((x27 + (3 : Int32)).toNatClampNeg) (S33.1 23 0)) (fun S35 => grd (¬ ((x27 + (4 : Int32)) < 0 ∨ 1500 ≤ (x27 + (4 : Int32)).toNatClampNeg)) (lt (sI S35 14 ((x27 + (4 : Int32)).toNatClampNeg) (S35.1 17 0)) (fun S37 => lt (sI S37 15 0 ((S37.1 15 0) + (1 : Int32))) (fun S38 => some ((1 : Int32), S38))))))))))))))))
set_option maxRecDepth 100000 in
set_option maxHeartbeats 4000000 in
theorem c_R_record {l : Launch} {D : va_G} {cI cJ cZ cL : ClassId} {a : Nat → Nat} (g : Nat) (S : Mem) (x1 : Int32) {r : Int32} {S9 : Mem} (h : f_R_record g S x1 = some (r, S9)) : Ctr l y_R_record prog_9_method_16_code 3 (some .boolean) rm_R_record D (tyT cI cJ cZ cL) (wdR cI cJ cZ cL a) [.ref (a 0), .int x1] S (vI r, S9) := by
  refine Ctr.of (lv0 := [(0, .ref (a 0)), (1, .int x1)]) (vv := vI) (by decide) rfl (wdR_fst cI cJ cZ cL a) (Nat.le_of_ble_eq_true rfl) rfl (fun p e s m args below meth c A C => ?_) r S9 h
  unfold f_R_record
  refine j_aload_n C 0 rfl rfl d_R_record_0 ?_
  refine gR_R_recordCount C u_705 d_R_record_1 ?_
  refine j_sipush (v := 300) C (by decide) d_R_record_4 ?_
  refine j_icmp_ne (tgt := 15) C d_R_record_7 (by decide) (fun h21 => ?_) (fun h21 => ?_)
  · refine j_aload_n C 0 rfl rfl d_R_record_10 ?_
    refine gR_R_isOn C u_708 d_R_record_11 ?_
    refine j_grd (fun h22 => ?_)
    exact j_zret C h22 rfl rfl d_R_record_14
  · refine j_aload_n C 0 rfl rfl d_R_record_15 ?_
    refine j_bnd (fun r23 S24 e25 => ?_)
    refine j_callVi (As := []) (rest := []) C 0 7 Y_R_step u_819 (c_R_step g S e25) rfl rfl ⟨by decide, by decide⟩ rfl rfl rfl rfl (Nat.le_of_ble_eq_true rfl) d_R_record_16 ?_
    refine j_if_ne (tgt := 24) C d_R_record_19 (by decide) (fun h26 => ?_) (fun h26 => ?_)
    · refine j_iconst (v := 0) C (by decide) d_R_record_22 ?_
      exact j_zret C (Or.inl rfl) rfl rfl d_R_record_23
    · refine j_iconst (v := 5) C (by decide) d_R_record_24 ?_
      refine j_aload_n C 0 rfl rfl d_R_record_25 ?_
      refine gR_R_recordCount C u_705 d_R_record_26 ?_
      refine j_imul C d_R_record_29 ?_
      refine j_lti (fun x27 => ?_)
      refine j_istore_n (i := 2) (lv2 := [(2, .int x27), (0, .ref (a 0)), (1, .int x1)]) C rfl (by decide) rfl d_R_record_30 ?_
      refine j_aload_n C 1 rfl rfl d_R_record_31 ?_
      refine gR_R_records C u_704 d_R_record_32 ?_
      refine j_iload_n C 0 rfl rfl d_R_record_35 ?_
      refine j_iload_n C 2 rfl rfl d_R_record_36 ?_
      refine j_grd (fun h28 => ?_)
      refine sR_R_records C h28 d_R_record_37 ?_
      refine j_ltS (fun S29 => ?_)
      refine j_aload_n C 1 rfl rfl d_R_record_38 ?_
      refine gR_R_records C u_704 d_R_record_39 ?_
      refine j_iload_n C 0 rfl rfl d_R_record_42 ?_
      refine j_iconst (v := 1) C (by decide) d_R_record_43 ?_
      refine j_iadd C d_R_record_44 ?_
      refine j_aload_n C 1 rfl rfl d_R_record_45 ?_
      refine gR_R_trace C u_712 d_R_record_46 ?_
      refine j_grd (fun h30 => ?_)
      refine sR_R_records C h30 d_R_record_49 ?_
      refine j_ltS (fun S31 => ?_)
      refine j_aload_n C 1 rfl rfl d_R_record_50 ?_
      refine gR_R_records C u_704 d_R_record_51 ?_
      refine j_iload_n C 0 rfl rfl d_R_record_54 ?_
      refine j_iconst (v := 2) C (by decide) d_R_record_55 ?_
      refine j_iadd C d_R_record_56 ?_
      refine j_aload_n C 1 rfl rfl d_R_record_57 ?_
      refine gR_R_amount C u_714 d_R_record_58 ?_
      refine j_grd (fun h32 => ?_)
      refine sR_R_records C h32 d_R_record_61 ?_
      refine j_ltS (fun S33 => ?_)
      refine j_aload_n C 1 rfl rfl d_R_record_62 ?_
      refine gR_R_records C u_704 d_R_record_63 ?_
      refine j_iload_n C 0 rfl rfl d_R_record_66 ?_
      refine j_iconst (v := 3) C (by decide) d_R_record_67 ?_
      refine j_iadd C d_R_record_68 ?_
      refine j_aload_n C 1 rfl rfl d_R_record_69 ?_
      refine gR_R_cardAtHand C u_713 d_R_record_70 ?_
      refine j_grd (fun h34 => ?_)
      refine sR_R_records C h34 d_R_record_73 ?_
      refine j_ltS (fun S35 => ?_)
      refine j_aload_n C 1 rfl rfl d_R_record_74 ?_
      refine gR_R_records C u_704 d_R_record_75 ?_
      refine j_iload_n C 0 rfl rfl d_R_record_78 ?_
      refine j_iconst (v := 4) C (by decide) d_R_record_79 ?_
      refine j_iadd C d_R_record_80 ?_
      refine j_aload_n C 1 rfl rfl d_R_record_81 ?_
      refine gR_R_openings C u_707 d_R_record_82 ?_
      refine j_grd (fun h36 => ?_)
      refine sR_R_records C h36 d_R_record_85 ?_
      refine j_ltS (fun S37 => ?_)
      refine j_aload_n C 1 rfl rfl d_R_record_86 ?_
      refine j_dup C rfl d_R_record_87 ?_
      refine gR_R_recordCount C u_705 d_R_record_88 ?_
      refine j_iconst (v := 1) C (by decide) d_R_record_91 ?_
      refine j_iadd C d_R_record_92 ?_
      refine pR_R_recordCount C u_705 d_R_record_93 ?_
      refine j_ltS (fun S38 => ?_)
      refine j_iconst (v := 1) C (by decide) d_R_record_96 ?_
      exact j_zret C (Or.inr rfl) rfl rfl d_R_record_97
