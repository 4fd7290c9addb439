def f_R_arm (g : Nat) (S : Mem) (x1 : Int32) : Option (Int32 × Mem) := if (S.1 18 0) = 0 then (some ((0 : Int32), S)) else (if x1 < 0 then (some ((0 : Int32), S)) else (if x1 ≤ (100 : Int32) then (lt (sI S 19 0 x1) (fun S24 => some ((1 : Int32), S24))) else (some ((0 : Int32), S))))
set_option maxRecDepth 100000 in
set_option maxHeartbeats 4000000 in
theorem c_R_arm {l : Launch} {D : va_G} {cI cJ cZ cL : ClassId} {a : Nat → Nat} (g : Nat) (S : Mem) (x1 : Int32) {r : Int32} {S9 : Mem} (h : f_R_arm g S x1 = some (r, S9)) : Ctr l y_R_arm prog_9_method_37_code 2 (some .boolean) rm_R_arm D (tyT cI cJ cZ cL) (wdR cI cJ cZ cL a) [.ref (a 0), .int x1] S (vI r, S9) := by
  refine Ctr.of (lv0 := [(0, .ref (a 0)), (1, .int x1)]) (vv := vI) (by decide) rfl (wdR_fst cI cJ cZ cL a) (Nat.le_of_ble_eq_true rfl) rfl (fun p e s m args below meth c A C => ?_) r S9 h
  unfold f_R_arm
  refine j_aload_n C 0 rfl rfl d_R_arm_0 ?_
  refine gR_R_isOn C u_708 d_R_arm_1 ?_
  refine j_if_eq (tgt := 17) C d_R_arm_4 (by decide) (fun h21 => ?_) (fun h21 => ?_)
  · refine j_iconst (v := 0) C (by decide) d_R_arm_17 ?_
    exact j_zret C (Or.inl rfl) rfl rfl d_R_arm_18
  · refine j_iload_n C 1 rfl rfl d_R_arm_7 ?_
    refine j_if_lt (tgt := 17) C d_R_arm_8 (by decide) (fun h22 => ?_) (fun h22 => ?_)
    · refine j_iconst (v := 0) C (by decide) d_R_arm_17 ?_
      exact j_zret C (Or.inl rfl) rfl rfl d_R_arm_18
    · refine j_iload_n C 1 rfl rfl d_R_arm_11 ?_
      refine j_bipush (v := 100) C (by decide) d_R_arm_12 ?_
      refine j_icmp_le (tgt := 19) C d_R_arm_14 (by decide) (fun h23 => ?_) (fun h23 => ?_)
      · refine j_aload_n C 0 rfl rfl d_R_arm_19 ?_
        refine j_iload_n C 1 rfl rfl d_R_arm_20 ?_
        refine pR_R_armed C u_709 d_R_arm_21 ?_
        refine j_ltS (fun S24 => ?_)
        refine j_iconst (v := 1) C (by decide) d_R_arm_24 ?_
        exact j_zret C (Or.inr rfl) rfl rfl d_R_arm_25
      · refine j_iconst (v := 0) C (by decide) d_R_arm_17 ?_
        exact j_zret C (Or.inl rfl) rfl rfl d_R_arm_18
def f_R_power_58 (g : Nat) : Nat → Mem → Int32 → Int32 → Int32 → Option (Mem × (Int32 × Int32))
  | 0, _, _, _, _ => none
  | n + 1, S, x1, x2, x3 => if (S.1 15 0) ≤ x3 then (some (S, (x1, x2))) else (grd (¬ (((5 : Int32) * x3) < 0 ∨ 1500 ≤ ((5 : Int32) * x3).toNatClampNeg)) (if (S.1 14 (((5 : Int32) * x3).toNatClampNeg)) = (1 : Int32) then (lt (x3 + (1 : Int32)) (fun x30 => f_R_power_58 g n S x1 x3 x30)) else (lt (x3 + (1 : Int32)) (fun x31 => f_R_power_58 g n S x1 x2 x31))))
set_option maxRecDepth 100000 in
set_option maxHeartbeats 4000000 in
theorem lp_R_power_58 {l : Launch} {D : va_G} {cI cJ cZ cL : ClassId} {a : Nat → Nat} {p : Program} {e : Env} {s : State} {m : MethodId} {args : Array Value} {below : List Frame} {meth : Method} {c : Code} {A : Nat → Prop} (C : Cx p s m args meth c "AutoTellerModel" prog_9_method_38_code 4 (some .boolean) D (tyT cI cJ cZ cL) (wdR cI cJ cZ cL a) A) (g : Nat) {K : (Mem × (Int32 × Int32)) → Option (Int32 × Mem)} (hx : ∀ (S : Mem) (y : Int32 × Int32), Tj p l e rm_R_power s m args below meth c D (wdR cI cJ cZ cL a) A 4 vI K (some (S, y)) S 90 [(0, .ref (a 0)), (1, .int y.1), (2, .int y.2)] []) : ∀ (n : Nat) (S : Mem) (x1 : Int32) (x2 : Int32) (x3 : Int32), Tj p l e rm_R_power s m args below meth c D (wdR cI cJ cZ cL a) A 4 vI K (f_R_power_58 g n S x1 x2 x3) S 58 [(0, .ref (a 0)), (1, .int x1), (2, .int x2), (3, .int x3)] [] := by
  intro n
  induction n with
  | zero =>
    intro S x1 x2 x3
    exact j_none
  | succ n ih =>
    intro S x1 x2 x3
    rw [f_R_power_58]
    refine j_iload_n C 3 rfl rfl d_R_power_58 ?_
    refine j_aload_n C 0 rfl rfl d_R_power_59 ?_
    refine gR_R_recordCount C u_705 d_R_power_60 ?_
    refine j_icmp_ge (tgt := 90) C d_R_power_63 (by decide) (fun h27 => ?_) (fun h27 => ?_)
    · refine j_sub [0, 1, 2] rfl ?_
      exact hx S (x1, x2)
    · refine j_aload_n C 0 rfl rfl d_R_power_66 ?_
      refine gR_R_records C u_704 d_R_power_67 ?_
      refine j_iconst (v := 5) C (by decide) d_R_power_70 ?_
      refine j_iload_n C 3 rfl rfl d_R_power_71 ?_
      refine j_imul C d_R_power_72 ?_
      refine j_grd (fun h28 => ?_)
      refine lR_R_records C h28 d_R_power_73 ?_
      refine j_iconst (v := 1) C (by decide) d_R_power_74 ?_
      refine j_icmp_ne (tgt := 82) C d_R_power_75 (by decide) (fun h29 => ?_) (fun h29 => ?_)
      · refine j_iload_n C 3 rfl rfl d_R_power_78 ?_
        refine j_goto (tgt := 83) C d_R_power_79 (by decide) ?_
        refine j_istore_n (i := 2) (lv2 := [(2, .int x3), (0, .ref (a 0)), (1, .int x1), (3, .int x3)]) C rfl (by decide) rfl d_R_power_83 ?_
        refine j_iincN (n2 := 1) (lv2 := fun x30 => [(3, .int x30), (2, .int x3), (0, .ref (a 0)), (1, .int x1)]) C 3 rfl (by decide) (by decide) (fun _ => rfl) d_R_power_84 (fun x30 => ?_)
        refine j_goto (tgt := 58) C d_R_power_87 (by decide) ?_
        refine j_sub [2, 3, 1, 0] rfl ?_
        exact ih S x1 x3 x30
      · refine j_iload_n C 2 rfl rfl d_R_power_82 ?_
        refine j_istore_n (i := 2) (lv2 := [(2, .int x2), (0, .ref (a 0)), (1, .int x1), (3, .int x3)]) C rfl (by decide) rfl d_R_power_83 ?_
        refine j_iincN (n2 := 1) (lv2 := fun x31 => [(3, .int x31), (2, .int x2), (0, .ref (a 0)), (1, .int x1)]) C 3 rfl (by decide) (by decide) (fun _ => rfl) d_R_power_84 (fun x31 => ?_)
        refine j_goto (tgt := 58) C d_R_power_87 (by decide) ?_
        refine j_sub [2, 3, 1, 0] rfl ?_
        exact ih S x1 x2 x31
def f_R_power (g : Nat) (S : Mem) : Option (Int32 × Mem) := if (S.1 18 0) = 0 then (lt (sI S 18 0 (1 : Int32)) (fun S22 => lt (sI S22 19 0 (-1 : Int32)) (fun S23 => lt (sI S23 21 0 (-1 : Int32)) (fun S24 => lt (sI S24 20 0 (0 : Int32)) (fun S25 => if (S25.1 15 0) = 0 then (seqM (f_R_power_58 g g S25 (0 : Int32) (-1 : Int32) (0 : Int32)) (fun S32 y33 => if y33.2 = (-1 : Int32) then (if y33.1 = (2 : Int32) then (grd (¬ ((((5 : Int32) * y33.2) + (4 : Int32)) < 0 ∨ 1500 ≤ (((5 : Int32) * y33.2) + (4 : Int32)).toNatClampNeg)) (if (S32.1 17 0) ≤ (S32.1 14 ((((5 : Int32) * y33.2) + (4 : Int32)).toNatClampNeg)) then (if y33.1 = (1 : Int32) then (if y33.1 = (4 : Int32) then (bnd (f_R_reverse g S32 (0 : Int32)) (fun _ S41 => some ((1 : Int32), S41))) else (bnd (f_R_reverse g S32 (1 : Int32)) (fun _ S44 => some ((1 : Int32), S44)))) else (if y33.1 = (2 : Int32) then (if y33.1 = (4 : Int32) then (bnd (f_R_reverse g S32 (0 : Int32)) (fun _ S49 => some ((1 : Int32), S49))) else (bnd (f_R_reverse g S32 (1 : Int32)) (fun _ S52 => some ((1 : Int32), S52)))) else (if y33.1 = (4 : Int32) then (if y33.1 = (4 : Int32) then (bnd (f_R_reverse g S32 (0 : Int32)) (fun _ S57 => some ((1 : Int32), S57))) else (bnd (f_R_reverse g S32 (1 : Int32)) (fun _ S60 => some ((1 : Int32), S60)))) else (some ((1 : Int32), S32))))) else (bnd (f_R_record g S32 (3 : Int32)) (fun r62 S63 => some ((1 : Int32), S63))))) else (if y33.1 = (1 : Int32) then (if y33.1 = (4 : Int32) then (bnd (f_R_reverse g S32 (0 : Int32)) (fun _ S68 => some ((1 : Int32), S68))) else (bnd (f_R_reverse g S32 (1 : Int32)) (fun _ S71 => some ((1 : Int32), S71)))) else (if y33.1 = (2 : Int32) then (if y33.1 = (4 : Int32) then (bnd (f_R_reverse g S32 (0 : Int32)) (fun _ S76 => some ((1 : Int32), S76))) else (bnd (f_R_reverse g S32 (1 : Int32)) (fun _ S79 => some ((1 : Int32), S79)))) else (if y33.1 = (4 : Int32) then (if y33.1 = (4 : Int32) then (bnd (f_R_reverse g S32 (0 : Int32)) (fun _ S84 => some ((1 : Int32), S84))) else (bnd (f_R_reverse g S32 (1 : Int32)) (fun _ S87 => some ((1 : Int32), S87)))) else (some ((1 : Int32), S32)))))) else (grd (¬ ((((5 : Int32) * y33.2) + (1 : Int32)) < 0 ∨ 1500 ≤ (((5 : Int32) * y33.2) + (1 : Int32)).toNatClampNeg)) (lt (sI S32 22 0 (S32.1 14 ((((5 : Int32) * y33.2) + (1 : Int32)).toNatClampNeg))) (fun S90 => grd (¬ ((((5 : Int32) * y33.2) + (2 : Int32)) < 0 ∨ 1500 ≤ (((5 : Int32) * y33.2) + (2 : Int32)).toNatClampNeg)) (lt (sI S90 24 0 (S90.1 14 ((((5 : Int32) * y33.2) + (2 : Int32)).toNatClampNeg))) (fun S92 => grd (¬ ((((5 : Int32) * y33.2) + (3 : Int32)) < 0 ∨ 1500 ≤ (((5 : Int32) * y33.2) + (3 : Int32)).toNatClampNeg)) (lt (sI S92 23 0 (S92.1 14 ((((5 : Int32) * y33.2) + (3 : Int32)).toNatClampNeg))) (fun S94 => if y33.1 = (2 : Int32) then (grd (¬ ((((5 : Int32) * y33.2) + (4 : Int32)) < 0 ∨ 1500 ≤ (((5 : Int32) * y33.2) + (4 : Int32)).toNatClampNeg)) (if (S94.1 17 0) ≤ (S94.1 14 ((((5 : Int32) * y33.2) + (4 : Int32)).toNatClampNeg)) then (if y33.1 = (1 : Int32) then (if y33.1 = (4 : Int32) then (bnd (f_R_reverse g S94 (0 : Int32)) (fun _ S101 => some ((1 : Int32), S101))) else (bnd (f_R_reverse g S94 (1 : Int32)) (fun _ S104 => some ((1 : Int32), S104)))) else (if y33.1 = (2 : Int32) then (if y33.1 = (4 : Int32) then (bnd (f_R_reverse g S94 (0 : Int32)) (fun _ S109 => some ((1 : Int32), S109))) else (bnd (f_R_reverse g S94 (1 : Int32)) (fun _ S112 => some ((1 : Int32), S112)))) else (if y33.1 = (4 : Int32) then (if y33.1 = (4 : Int32) then (bnd (f_R_reverse g S94 (0 : Int32)) (fun _ S117 => some ((1 : Int32), S117))) else (bnd (f_R_reverse g S94 (1 : Int32)) (fun _ S120 => some ((1 : Int32), S120)))) else (some ((1 : Int32), S94))))) else (bnd (f_R_record g S94 (3 : Int32)) (fun r122 S123 => some ((1 : Int32), S123))))) else (if y33.1 = (1 : Int32) then (if y33.1 = (4 : Int32) then (bnd (f_R_reverse g S94 (0 : Int32)) (fun _ S128 => some ((1 : Int32), S128))) else (bnd (f_R_reverse g S94 (1 : Int32)) (fun _ S131 => some ((1 : Int32), S131)))) else (if y33.1 = (2 : Int32) then (if y33.1 = (4 : Int32) then (bnd (f_R_reverse g S94 (0 : Int32)) (fun _ S136 => some ((1 : Int32), S136))) else (bnd (f_R_reverse g S94 (1 : Int32)) (fun _ S139 => some ((1 : Int32), S139)))) else (if y33.1 = (4 : Int32) then (if y33.1 = (4 : Int32) then (bnd (f_R_reverse g S94 (0 : Int32)) (fun _ S144 => some ((1 : Int32), S144))) else (bnd (f_R_reverse g S94 (1 : Int32)) (fun _ S147 => some ((1 : Int32), S147)))) else (some ((1 : Int32), S94)))))))))))))) else (grd (¬ ((((5 : Int32) * (S25.1 15 0)) - (5 : Int32)) < 0 ∨ 1500 ≤ (((5 : Int32) * (S25.1 15 0)) - (5 : Int32)).toNatClampNeg)) (lt (S25.1 14 ((((5 : Int32) * (S25.1 15 0)) - (5 : Int32)).toNatClampNeg)) (fun x150 => seqM (f_R_power_58 g g S25 x150 (-1 : Int32) (0 : Int32)) (fun S151 y152 => if y152.2 = (-1 : Int32) then (if y152.1 = (2 : Int32) then (grd (¬ ((((5 : Int32) * y152.2) + (4 : Int32)) < 0 ∨ 1500 ≤ (((5 : Int32) * y152.2) + (4 : Int32)).toNatClampNeg)) (if (S151.1 17 0) ≤ (S151.1 14 ((((5 : Int32) * y152.2) + (4 : Int32)).toNatClampNeg)) then (if y152.1 = (1 : Int32) then (if y152.1 = (4 : Int32) then (bnd (f_R_reverse g S151 (0 : Int32)) (fun _ S160 => some ((1 : Int32), S160))) else (bnd (f_R_reverse g S151 (1 : Int32)) (fun _ S163 => some ((1 : Int32), S163)))) else (if y152.1 = (2 : Int32) then (if y152.1 = (4 : Int32) then (bnd (f_R_reverse g S151 (0 : Int32)) (fun _ S168 => some ((1 : Int32), S168))) else (bnd (f_R_reverse g S151 (1 : Int32)) (fun _ S171 => some ((1 : Int32), S171)))) else (if y152.1 = (4 : Int32) then (if y152.1 = (4 : Int32) then (bnd (f_R_reverse g S151 (0 : Int32)) (fun _ S176 => some ((1 : Int32), S176))) else (bnd (f_R_reverse g S151 (1 : Int32)) (fun _ S179 => some ((1 : Int32), S179)))) else (some ((1 : Int32), S151))))) else (bnd (f_R_record g S151 (3 : Int32)) (fun r181 S182 => some ((1 : Int32), S182))))) else (if y152.1 = (1 : Int32) then (if y152.1 = (4 : Int32) then (bnd (f_R_reverse g S151 (0 : Int32)) (fun _ S187 => some ((1 : Int32), S187))) else (bnd (f_R_reverse g S151 (1 : Int32)) (fun _ S190 => some ((1 : Int32), S190)))) else (if y152.1 = (2 : Int32) then (if y152.1 = (4 : Int32) then (bnd (f_R_reverse g S151 (0 : Int32)) (fun _ S195 => some ((1 : Int32), S195))) else (bnd (f_R_reverse g S151 (1 : Int32)) (fun _ S198 => some ((1 : Int32), S198)))) else (if y152.1 = (4 : Int32) then (if y152.1 = (4 : Int32) then (bnd (f_R_reverse g S151 (0 : Int32)) (fun _ S203 => some ((1 : Int32), S203))) else (bnd (f_R_reverse g S151 (1 : Int32)) (fun _ S206 => some ((1 : Int32), S206)))) else (some ((1 : Int32), S151)))))) else (grd (¬ ((((5 : Int32) * y152.2) + (1 : Int32)) < 0 ∨ 1500 ≤ (((5 : Int32) * y152.2) + (1 : Int32)).toNatClampNeg)) (lt (sI S151 22 0 (S151.1 14 ((((5 : Int32) * y152.2) + (1 : Int32)).toNatClampNeg))) (fun S209 => grd (¬ ((((5 : Int32) * y152.2) + (2 : Int32)) < 0 ∨ 1500 ≤ (((5 : Int32) * y152.2) + (2 : Int32)).toNatClampNeg)) (lt (sI S209 24 0 (S209.1 14 ((((5 : Int32) * y152.2) + (2 : Int32)).toNatClampNeg))) (fun S211 => grd (¬ ((((5 : Int32) * y152.2) + (3 : Int32)) < 0 ∨ 1500 ≤ (((5 : Int32) * y152.2) + (3 : Int32)).toNatClampNeg)) (lt (sI S211 23 0 (S211.1 14 ((((5 : Int32) * y152.2) + (3 : Int32)).toNatClampNeg))) (fun S213 => if y152.1 = (2 : Int32) then (grd (¬ ((((5 : Int32) * y152.2) + (4 : Int32)) < 0 ∨ 1500 ≤ (((5 : Int32) * y152.2) + (4 : Int32)).toNatClampNeg)) (if (S213.1 17 0) ≤ (S213.1 14 ((((5 : Int32) * y152.2) + (4 : Int32)).toNatClampNeg)) then (if y152.1 = (1 : Int32) then (if y152.1 = (4 : Int32) then (bnd (f_R_reverse g S213 (0 : Int32)) (fun _ S220 => some ((1 : Int32), S220))) else (bnd (f_R_reverse g S213 (1 : Int32)) (fun _ S223 => some ((1 : Int32), S223)))) else (if y152.1 = (2 : Int32) then (if y152.1 = (4 : Int32) then (bnd (f_R_reverse g S213 (0 : Int32)) (fun _ S228 => some ((1 : Int32), S228))) else (bnd (f_R_reverse g S213 (1 : Int32)) (fun _ S231 => some ((1 : Int32), S231)))) else (if y152.1 = (4 : Int32) then (if y152.1 = (4 : Int32) then (bnd (f_R_reverse g S213 (0 : Int32)) (fun _ S236 => some ((1 : Int32), S236))) else (bnd (f_R_reverse g S213 (1 : Int32)) (fun _ S239 => some ((1 : Int32), S239)))) else (some ((1 : Int32), S213))))) else (bnd (f_R_record g S213 (3 : Int32)) (fun r241 S242 => some ((1 : Int32), S242))))) else (if y152.1 = (1 : Int32) then (if y152.1 = (4 : Int32) then (bnd (f_R_reverse g S213 (0 : Int32)) (fun _ S247 => some ((1 : Int32), S247))) else (bnd (f_R_reverse g S213 (1 : Int32)) (fun _ S250 => some ((1 : Int32), S250)))) else (if y152.1 = (2 : Int32) then (if y152.1 = (4 : Int32) then (bnd (f_R_reverse g S213 (0 : Int32)) (fun _ S255 => some ((1 : Int32), S255))) else (bnd (f_R_reverse g S213 (1 : Int32)) (fun _ S258 => some ((1 : Int32), S258)))) else (if y152.1 = (4 : Int32) then (if y152.1 = (4 : Int32) then (bnd (f_R_reverse g S213 (0 : Int32)) (fun _ S263 => some ((1 : Int32), S263))) else (bnd (f_R_reverse g S213 (1 : Int32)) (fun _ S266 => some ((1 : Int32), S266)))) else (some ((1 : Int32), S213))))))))))))))))))))) else (some ((0 : Int32), S))
set_option maxRecDepth 100000 in
set_option maxHeartbeats 4000000 in
theorem c_R_power {l : Launch} {D : va_G} {cI cJ cZ cL : ClassId} {a : Nat → Nat} (g : Nat) (S : Mem) {r : Int32} {S9 : Mem} (h : f_R_power g S = some (r, S9)) : Ctr l y_R_power prog_9_method_38_code 4 (some .boolean) rm_R_power D (tyT cI cJ cZ cL) (wdR cI cJ cZ cL a) [.ref (a 0)] S (vI r, S9) := by
  refine Ctr.of (lv0 := [(0, .ref (a 0))]) (vv := vI) (by decide) rfl (wdR_fst cI cJ cZ cL a) (Nat.le_of_ble_eq_true rfl) rfl (fun p e s m args below meth c A C => ?_) r S9 h
  unfold f_R_power
  refine j_aload_n C 0 rfl rfl d_R_power_0 ?_
  refine gR_R_isOn C u_708 d_R_power_1 ?_
  refine j_if_eq (tgt := 9) C d_R_power_4 (by decide) (fun h21 => ?_) (fun h21 => ?_)
  · refine j_aload_n C 0 rfl rfl d_R_power_9 ?_
    refine j_iconst (v := 1) C (by decide) d_R_power_10 ?_
    refine pR_R_isOn C (Or.inr rfl) u_708 d_R_power_11 ?_
    refine j_ltS (fun S22 => ?_)
    refine j_aload_n C 0 rfl rfl d_R_power_14 ?_
    refine j_iconst (v := -1) C (by decide) d_R_power_15 ?_
    refine pR_R_armed C u_709 d_R_power_16 ?_
    refine j_ltS (fun S23 => ?_)
    refine j_aload_n C 0 rfl rfl d_R_power_19 ?_
    refine j_iconst (v := -1) C (by decide) d_R_power_20 ?_
    refine pR_R_slotCard C u_711 d_R_power_21 ?_
    refine j_ltS (fun S24 => ?_)
    refine j_aload_n C 0 rfl rfl d_R_power_24 ?_
    refine j_iconst (v := 0) C (by decide) d_R_power_25 ?_
    refine pR_R_phase C u_710 d_R_power_26 ?_
    refine j_ltS (fun S25 => ?_)
    refine j_aload_n C 0 rfl rfl d_R_power_29 ?_
    refine gR_R_recordCount C u_705 d_R_power_30 ?_
    refine j_if_ne (tgt := 40) C d_R_power_33 (by decide) (fun h26 => ?_) (fun h26 => ?_)
    · refine j_iconst (v := 0) C (by decide) d_R_power_36 ?_
      refine j_goto (tgt := 53) C d_R_power_37 (by decide) ?_
      refine j_istore_n (i := 1) (lv2 := [(1, .int (0 : Int32)), (0, .ref (a 0))]) C rfl (by decide) rfl d_R_power_53 ?_
      refine j_iconst (v := -1) C (by decide) d_R_power_54 ?_
      refine j_istore_n (i := 2) (lv2 := [(2, .int (-1 : Int32)), (1, .int (0 : Int32)), (0, .ref (a 0))]) C rfl (by decide) rfl d_R_power_55 ?_
      refine j_iconst (v := 0) C (by decide) d_R_power_56 ?_
      refine j_istore_n (i := 3) (lv2 := [(3, .int (0 : Int32)), (2, .int (-1 : Int32)), (1, .int (0 : Int32)), (0, .ref (a 0))]) C rfl (by decide) rfl d_R_power_57 ?_
      refine j_sub [3, 2, 1, 0] rfl ?_
      refine j_seqM ?_
      refine lp_R_power_58 C g  (fun S32 y33 => ?_) g S25 (0 : Int32) (-1 : Int32) (0 : Int32)
      refine j_outM ?_
      refine j_iload_n C 2 rfl rfl d_R_power_90 ?_
      refine j_iconst (v := -1) C (by decide) d_R_power_91 ?_
      refine j_icmp_eq (tgt := 137) C d_R_power_92 (by decide) (fun h34 => ?_) (fun h34 => ?_)
      · refine j_iload_n C 1 rfl rfl d_R_power_137 ?_
        refine j_iconst (v := 2) C (by decide) d_R_power_138 ?_
        refine j_icmp_ne (tgt := 168) C d_R_power_139 (by decide) (fun h35 => ?_) (fun h35 => ?_)
        · refine j_aload_n C 0 rfl rfl d_R_power_142 ?_
          refine gR_R_openings C u_707 d_R_power_143 ?_
          refine j_aload_n C 0 rfl rfl d_R_power_146 ?_
          refine gR_R_records C u_704 d_R_power_147 ?_
          refine j_iconst (v := 5) C (by decide) d_R_power_150 ?_
          refine j_iload_n C 2 rfl rfl d_R_power_151 ?_
          refine j_imul C d_R_power_152 ?_
          refine j_iconst (v := 4) C (by decide) d_R_power_153 ?_
          refine j_iadd C d_R_power_154 ?_
          refine j_grd (fun h36 => ?_)
          refine lR_R_records C h36 d_R_power_155 ?_
          refine j_icmp_le (tgt := 168) C d_R_power_156 (by decide) (fun h37 => ?_) (fun h37 => ?_)
          · refine j_iload_n C 1 rfl rfl d_R_power_168 ?_
            refine j_iconst (v := 1) C (by decide) d_R_power_169 ?_
            refine j_icmp_eq (tgt := 183) C d_R_power_170 (by decide) (fun h38 => ?_) (fun h38 => ?_)
            · refine j_aload_n C 0 rfl rfl d_R_power_183 ?_
              refine j_iload_n C 1 rfl rfl d_R_power_184 ?_
              refine j_iconst (v := 4) C (by decide) d_R_power_185 ?_
              refine j_icmp_eq (tgt := 193) C d_R_power_186 (by decide) (fun h39 => ?_) (fun h39 => ?_)
              · refine j_iconst (v := 0) C (by decide) d_R_power_193 ?_
                refine j_bnd (fun _ S41 e42 => ?_)
                refine j_callVv (As := [.int (0 : Int32)]) (rest := []) C 0 7 Y_R_reverse u_864 (c_R_reverse g S32 (0 : Int32) e42) rfl rfl ⟨by decide, by decide⟩ rfl rfl rfl rfl (Nat.le_of_ble_eq_true rfl) d_R_power_194 ?_
                refine j_iconst (v := 1) C (by decide) d_R_power_197 ?_
                exact j_zret C (Or.inr rfl) rfl rfl d_R_power_198
              · refine j_iconst (v := 1) C (by decide) d_R_power_189 ?_
                refine j_goto (tgt := 194) C d_R_power_190 (by decide) ?_
                refine j_bnd (fun _ S44 e45 => ?_)
                refine j_callVv (As := [.int (1 : Int32)]) (rest := []) C 0 7 Y_R_reverse u_864 (c_R_reverse g S32 (1 : Int32) e45) rfl rfl ⟨by decide, by decide⟩ rfl rfl rfl rfl (Nat.le_of_ble_eq_true rfl) d_R_power_194 ?_
                refine j_iconst (v := 1) C (by decide) d_R_power_197 ?_
                exact j_zret C (Or.inr rfl) rfl rfl d_R_power_198
            · refine j_iload_n C 1 rfl rfl d_R_power_173 ?_
              refine j_iconst (v := 2) C (by decide) d_R_power_174 ?_
              refine j_icmp_eq (tgt := 183) C d_R_power_175 (by decide) (fun h46 => ?_) (fun h46 => ?_)
              · refine j_aload_n C 0 rfl rfl d_R_power_183 ?_
                refine j_iload_n C 1 rfl rfl d_R_power_184 ?_
                refine j_iconst (v := 4) C (by decide) d_R_power_185 ?_
                refine j_icmp_eq (tgt := 193) C d_R_power_186 (by decide) (fun h47 => ?_) (fun h47 => ?_)
                · refine j_iconst (v := 0) C (by decide) d_R_power_193 ?_
                  refine j_bnd (fun _ S49 e50 => ?_)
                  refine j_callVv (As := [.int (0 : Int32)]) (rest := []) C 0 7 Y_R_reverse u_864 (c_R_reverse g S32 (0 : Int32) e50) rfl rfl ⟨by decide, by decide⟩ rfl rfl rfl rfl (Nat.le_of_ble_eq_true rfl) d_R_power_194 ?_
                  refine j_iconst (v := 1) C (by decide) d_R_power_197 ?_
                  exact j_zret C (Or.inr rfl) rfl rfl d_R_power_198
                · refine j_iconst (v := 1) C (by decide) d_R_power_189 ?_
                  refine j_goto (tgt := 194) C d_R_power_190 (by decide) ?_
                  refine j_bnd (fun _ S52 e53 => ?_)
                  refine j_callVv (As := [.int (1 : Int32)]) (rest := []) C 0 7 Y_R_reverse u_864 (c_R_reverse g S32 (1 : Int32) e53) rfl rfl ⟨by decide, by decide⟩ rfl rfl rfl rfl (Nat.le_of_ble_eq_true rfl) d_R_power_194 ?_
                  refine j_iconst (v := 1) C (by decide) d_R_power_197 ?_
                  exact j_zret C (Or.inr rfl) rfl rfl d_R_power_198
              · refine j_iload_n C 1 rfl rfl d_R_power_178 ?_
                refine j_iconst (v := 4) C (by decide) d_R_power_179 ?_
                refine j_icmp_ne (tgt := 197) C d_R_power_180 (by decide) (fun h54 => ?_) (fun h54 => ?_)
                · refine j_aload_n C 0 rfl rfl d_R_power_183 ?_
                  refine j_iload_n C 1 rfl rfl d_R_power_184 ?_
                  refine j_iconst (v := 4) C (by decide) d_R_power_185 ?_
                  refine j_icmp_eq (tgt := 193) C d_R_power_186 (by decide) (fun h55 => ?_) (fun h55 => ?_)
                  · refine j_iconst (v := 0) C (by decide) d_R_power_193 ?_
                    refine j_bnd (fun _ S57 e58 => ?_)
                    refine j_callVv (As := [.int (0 : Int32)]) (rest := []) C 0 7 Y_R_reverse u_864 (c_R_reverse g S32 (0 : Int32) e58) rfl rfl ⟨by decide, by decide⟩ rfl rfl rfl rfl (Nat.le_of_ble_eq_true rfl) d_R_power_194 ?_
                    refine j_iconst (v := 1) C (by decide) d_R_power_197 ?_
                    exact j_zret C (Or.inr rfl) rfl rfl d_R_power_198
                  · refine j_iconst (v := 1) C (by decide) d_R_power_189 ?_
                    refine j_goto (tgt := 194) C d_R_power_190 (by decide) ?_
                    refine j_bnd (fun _ S60 e61 => ?_)
                    refine j_callVv (As := [.int (1 : Int32)]) (rest := []) C 0 7 Y_R_reverse u_864 (c_R_reverse g S32 (1 : Int32) e61) rfl rfl ⟨by decide, by decide⟩ rfl rfl rfl rfl (Nat.le_of_ble_eq_true rfl) d_R_power_194 ?_
                    refine j_iconst (v := 1) C (by decide) d_R_power_197 ?_
                    exact j_zret C (Or.inr rfl) rfl rfl d_R_power_198
                · refine j_iconst (v := 1) C (by decide) d_R_power_197 ?_
                  exact j_zret C (Or.inr rfl) rfl rfl d_R_power_198
          · refine j_aload_n C 0 rfl rfl d_R_power_159 ?_
            refine j_iconst (v := 3) C (by decide) d_R_power_160 ?_
            refine j_bnd (fun r62 S63 e64 => ?_)
            refine j_callVi (As := [.int (3 : Int32)]) (rest := []) C 0 7 Y_R_record u_848 (c_R_record g S32 (3 : Int32) e64) rfl rfl ⟨by decide, by decide⟩ rfl rfl rfl rfl (Nat.le_of_ble_eq_true rfl) d_R_power_161 ?_
            refine j_pop C rfl d_R_power_164 ?_
            refine j_goto (tgt := 197) C d_R_power_165 (by decide) ?_
            refine j_iconst (v := 1) C (by decide) d_R_power_197 ?_
            exact j_zret C (Or.inr rfl) rfl rfl d_R_power_198
        · refine j_iload_n C 1 rfl rfl d_R_power_168 ?_
          refine j_iconst (v := 1) C (by decide) d_R_power_169 ?_
          refine j_icmp_eq (tgt := 183) C d_R_power_170 (by decide) (fun h65 => ?_) (fun h65 => ?_)
          · refine j_aload_n C 0 rfl rfl d_R_power_183 ?_
            refine j_iload_n C 1 rfl rfl d_R_power_184 ?_
            refine j_iconst (v := 4) C (by decide) d_R_power_185 ?_
            refine j_icmp_eq (tgt := 193) C d_R_power_186 (by decide) (fun h66 => ?_) (fun h66 => ?_)
            · refine j_iconst (v := 0) C (by decide) d_R_power_193 ?_
              refine j_bnd (fun _ S68 e69 => ?_)
              refine j_callVv (As := [.int (0 : Int32)]) (rest := []) C 0 7 Y_R_reverse u_864 (c_R_reverse g S32 (0 : Int32) e69) rfl rfl ⟨by decide, by decide⟩ rfl rfl rfl rfl (Nat.le_of_ble_eq_true rfl) d_R_power_194 ?_
              refine j_iconst (v := 1) C (by decide) d_R_power_197 ?_
              exact j_zret C (Or.inr rfl) rfl rfl d_R_power_198
            · refine j_iconst (v := 1) C (by decide) d_R_power_189 ?_
              refine j_goto (tgt := 194) C d_R_power_190 (by decide) ?_
              refine j_bnd (fun _ S71 e72 => ?_)
              refine j_callVv (As := [.int (1 : Int32)]) (rest := []) C 0 7 Y_R_reverse u_864 (c_R_reverse g S32 (1 : Int32) e72) rfl rfl ⟨by decide, by decide⟩ rfl rfl rfl rfl (Nat.le_of_ble_eq_true rfl) d_R_power_194 ?_
              refine j_iconst (v := 1) C (by decide) d_R_power_197 ?_
              exact j_zret C (Or.inr rfl) rfl rfl d_R_power_198
          · refine j_iload_n C 1 rfl rfl d_R_power_173 ?_
            refine j_iconst (v := 2) C (by decide) d_R_power_174 ?_
            refine j_icmp_eq (tgt := 183) C d_R_power_175 (by decide) (fun h73 => ?_) (fun h73 => ?_)
            · refine j_aload_n C 0 rfl rfl d_R_power_183 ?_
              refine j_iload_n C 1 rfl rfl d_R_power_184 ?_
              refine j_iconst (v := 4) C (by decide) d_R_power_185 ?_
              refine j_icmp_eq (tgt := 193) C d_R_power_186 (by decide) (fun h74 => ?_) (fun h74 => ?_)
              · refine j_iconst (v := 0) C (by decide) d_R_power_193 ?_
                refine j_bnd (fun _ S76 e77 => ?_)
                refine j_callVv (As := [.int (0 : Int32)]) (rest := []) C 0 7 Y_R_reverse u_864 (c_R_reverse g S32 (0 : Int32) e77) rfl rfl ⟨by decide, by decide⟩ rfl rfl rfl rfl (Nat.le_of_ble_eq_true rfl) d_R_power_194 ?_
                refine j_iconst (v := 1) C (by decide) d_R_power_197 ?_
                exact j_zret C (Or.inr rfl) rfl rfl d_R_power_198
              · refine j_iconst (v := 1) C (by decide) d_R_power_189 ?_
                refine j_goto (tgt := 194) C d_R_power_190 (by decide) ?_
                refine j_bnd (fun _ S79 e80 => ?_)
                refine j_callVv (As := [.int (1 : Int32)]) (rest := []) C 0 7 Y_R_reverse u_864 (c_R_reverse g S32 (1 : Int32) e80) rfl rfl ⟨by decide, by decide⟩ rfl rfl rfl rfl (Nat.le_of_ble_eq_true rfl) d_R_power_194 ?_
                refine j_iconst (v := 1) C (by decide) d_R_power_197 ?_
                exact j_zret C (Or.inr rfl) rfl rfl d_R_power_198
            · refine j_iload_n C 1 rfl rfl d_R_power_178 ?_
              refine j_iconst (v := 4) C (by decide) d_R_power_179 ?_
              refine j_icmp_ne (tgt := 197) C d_R_power_180 (by decide) (fun h81 => ?_) (fun h81 => ?_)
              · refine j_aload_n C 0 rfl rfl d_R_power_183 ?_
                refine j_iload_n C 1 rfl rfl d_R_power_184 ?_
                refine j_iconst (v := 4) C (by decide) d_R_power_185 ?_
                refine j_icmp_eq (tgt := 193) C d_R_power_186 (by decide) (fun h82 => ?_) (fun h82 => ?_)
                · refine j_iconst (v := 0) C (by decide) d_R_power_193 ?_
                  refine j_bnd (fun _ S84 e85 => ?_)
                  refine j_callVv (As := [.int (0 : Int32)]) (rest := []) C 0 7 Y_R_reverse u_864 (c_R_reverse g S32 (0 : Int32) e85) rfl rfl ⟨by decide, by decide⟩ rfl rfl rfl rfl (Nat.le_of_ble_eq_true rfl) d_R_power_194 ?_
                  refine j_iconst (v := 1) C (by decide) d_R_power_197 ?_
                  exact j_zret C (Or.inr rfl) rfl rfl d_R_power_198
                · refine j_iconst (v := 1) C (by decide) d_R_power_189 ?_
                  refine j_goto (tgt := 194) C d_R_power_190 (by decide) ?_
                  refine j_bnd (fun _ S87 e88 => ?_)
                  refine j_callVv (As := [.int (1 : Int32)]) (rest := []) C 0 7 Y_R_reverse u_864 (c_R_reverse g S32 (1 : Int32) e88) rfl rfl ⟨by decide, by decide⟩ rfl rfl rfl rfl (Nat.le_of_ble_eq_true rfl) d_R_power_194 ?_
                  refine j_iconst (v := 1) C (by decide) d_R_power_197 ?_
                  exact j_zret C (Or.inr rfl) rfl rfl d_R_power_198
              · refine j_iconst (v := 1) C (by decide) d_R_power_197 ?_
                exact j_zret C (Or.inr rfl) rfl rfl d_R_power_198
      · refine j_aload_n C 0 rfl rfl d_R_power_95 ?_
        refine j_aload_n C 0 rfl rfl d_R_power_96 ?_
        refine gR_R_records C u_704 d_R_power_97 ?_
        refine j_iconst (v := 5) C (by decide) d_R_power_100 ?_
        refine j_iload_n C 2 rfl rfl d_R_power_101 ?_
        refine j_imul C d_R_power_102 ?_
        refine j_iconst (v := 1) C (by decide) d_R_power_103 ?_
        refine j_iadd C d_R_power_104 ?_
        refine j_grd (fun h89 => ?_)
        refine lR_R_records C h89 d_R_power_105 ?_
        refine pR_R_trace C u_712 d_R_power_106 ?_
        refine j_ltS (fun S90 => ?_)
        refine j_aload_n C 0 rfl rfl d_R_power_109 ?_
        refine j_aload_n C 0 rfl rfl d_R_power_110 ?_
        refine gR_R_records C u_704 d_R_power_111 ?_
        refine j_iconst (v := 5) C (by decide) d_R_power_114 ?_
        refine j_iload_n C 2 rfl rfl d_R_power_115 ?_
        refine j_imul C d_R_power_116 ?_
        refine j_iconst (v := 2) C (by decide) d_R_power_117 ?_
        refine j_iadd C d_R_power_118 ?_
        refine j_grd (fun h91 => ?_)
        refine lR_R_records C h91 d_R_power_119 ?_
        refine pR_R_amount C u_714 d_R_power_120 ?_
        refine j_ltS (fun S92 => ?_)
        refine j_aload_n C 0 rfl rfl d_R_power_123 ?_
        refine j_aload_n C 0 rfl rfl d_R_power_124 ?_
        refine gR_R_records C u_704 d_R_power_125 ?_
        refine j_iconst (v := 5) C (by decide) d_R_power_128 ?_
        refine j_iload_n C 2 rfl rfl d_R_power_129 ?_
        refine j_imul C d_R_power_130 ?_
        refine j_iconst (v := 3) C (by decide) d_R_power_131 ?_
        refine j_iadd C d_R_power_132 ?_
        refine j_grd (fun h93 => ?_)
        refine lR_R_records C h93 d_R_power_133 ?_
        refine pR_R_cardAtHand C u_713 d_R_power_134 ?_
        refine j_ltS (fun S94 => ?_)
        refine j_iload_n C 1 rfl rfl d_R_power_137 ?_
        refine j_iconst (v := 2) C (by decide) d_R_power_138 ?_
        refine j_icmp_ne (tgt := 168) C d_R_power_139 (by decide) (fun h95 => ?_) (fun h95 => ?_)
        · refine j_aload_n C 0 rfl rfl d_R_power_142 ?_
          refine gR_R_openings C u_707 d_R_power_143 ?_
          refine j_aload_n C 0 rfl rfl d_R_power_146 ?_
          refine gR_R_records C u_704 d_R_power_147 ?_
          refine j_iconst (v := 5) C (by decide) d_R_power_150 ?_
          refine j_iload_n C 2 rfl rfl d_R_power_151 ?_
          refine j_imul C d_R_power_152 ?_
          refine j_iconst (v := 4) C (by decide) d_R_power_153 ?_
          refine j_iadd C d_R_power_154 ?_
          refine j_grd (fun h96 => ?_)
          refine lR_R_records C h96 d_R_power_155 ?_
          refine j_icmp_le (tgt := 168) C d_R_power_156 (by decide) (fun h97 => ?_) (fun h97 => ?_)
          · refine j_iload_n C 1 rfl rfl d_R_power_168 ?_
            refine j_iconst (v := 1) C (by decide) d_R_power_169 ?_
            refine j_icmp_eq (tgt := 183) C d_R_power_170 (by decide) (fun h98 => ?_) (fun h98 => ?_)
            · refine j_aload_n C 0 rfl rfl d_R_power_183 ?_
              refine j_iload_n C 1 rfl rfl d_R_power_184 ?_
              refine j_iconst (v := 4) C (by decide) d_R_power_185 ?_
              refine j_icmp_eq (tgt := 193) C d_R_power_186 (by decide) (fun h99 => ?_) (fun h99 => ?_)
              · refine j_iconst (v := 0) C (by decide) d_R_power_193 ?_
                refine j_bnd (fun _ S101 e102 => ?_)
                refine j_callVv (As := [.int (0 : Int32)]) (rest := []) C 0 7 Y_R_reverse u_864 (c_R_reverse g S94 (0 : Int32) e102) rfl rfl ⟨by decide, by decide⟩ rfl rfl rfl rfl (Nat.le_of_ble_eq_true rfl) d_R_power_194 ?_
                refine j_iconst (v := 1) C (by decide) d_R_power_197 ?_
                exact j_zret C (Or.inr rfl) rfl rfl d_R_power_198
              · refine j_iconst (v := 1) C (by decide) d_R_power_189 ?_
                refine j_goto (tgt := 194) C d_R_power_190 (by decide) ?_
                refine j_bnd (fun _ S104 e105 => ?_)
                refine j_callVv (As := [.int (1 : Int32)]) (rest := []) C 0 7 Y_R_reverse u_864 (c_R_reverse g S94 (1 : Int32) e105) rfl rfl ⟨by decide, by decide⟩ rfl rfl rfl rfl (Nat.le_of_ble_eq_true rfl) d_R_power_194 ?_
                refine j_iconst (v := 1) C (by decide) d_R_power_197 ?_
                exact j_zret C (Or.inr rfl) rfl rfl d_R_power_198
            · refine j_iload_n C 1 rfl rfl d_R_power_173 ?_
              refine j_iconst (v := 2) C (by decide) d_R_power_174 ?_
              refine j_icmp_eq (tgt := 183) C d_R_power_175 (by decide) (fun h106 => ?_) (fun h106 => ?_)
              · refine j_aload_n C 0 rfl rfl d_R_power_183 ?_
                refine j_iload_n C 1 rfl rfl d_R_power_184 ?_
                refine j_iconst (v := 4) C (by decide) d_R_power_185 ?_
                refine j_icmp_eq (tgt := 193) C d_R_power_186 (by decide) (fun h107 => ?_) (fun h107 => ?_)
                · refine j_iconst (v := 0) C (by decide) d_R_power_193 ?_
                  refine j_bnd (fun _ S109 e110 => ?_)
                  refine j_callVv (As := [.int (0 : Int32)]) (rest := []) C 0 7 Y_R_reverse u_864 (c_R_reverse g S94 (0 : Int32) e110) rfl rfl ⟨by decide, by decide⟩ rfl rfl rfl rfl (Nat.le_of_ble_eq_true rfl) d_R_power_194 ?_
                  refine j_iconst (v := 1) C (by decide) d_R_power_197 ?_
                  exact j_zret C (Or.inr rfl) rfl rfl d_R_power_198
                · refine j_iconst (v := 1) C (by decide) d_R_power_189 ?_
                  refine j_goto (tgt := 194) C d_R_power_190 (by decide) ?_
                  refine j_bnd (fun _ S112 e113 => ?_)
                  refine j_callVv (As := [.int (1 : Int32)]) (rest := []) C 0 7 Y_R_reverse u_864 (c_R_reverse g S94 (1 : Int32) e113) rfl rfl ⟨by decide, by decide⟩ rfl rfl rfl rfl (Nat.le_of_ble_eq_true rfl) d_R_power_194 ?_
                  refine j_iconst (v := 1) C (by decide) d_R_power_197 ?_
                  exact j_zret C (Or.inr rfl) rfl rfl d_R_power_198
              · refine j_iload_n C 1 rfl rfl d_R_power_178 ?_
                refine j_iconst (v := 4) C (by decide) d_R_power_179 ?_
                refine j_icmp_ne (tgt := 197) C d_R_power_180 (by decide) (fun h114 => ?_) (fun h114 => ?_)
                · refine j_aload_n C 0 rfl rfl d_R_power_183 ?_
                  refine j_iload_n C 1 rfl rfl d_R_power_184 ?_
                  refine j_iconst (v := 4) C (by decide) d_R_power_185 ?_
                  refine j_icmp_eq (tgt := 193) C d_R_power_186 (by decide) (fun h115 => ?_) (fun h115 => ?_)
                  · refine j_iconst (v := 0) C (by decide) d_R_power_193 ?_
                    refine j_bnd (fun _ S117 e118 => ?_)
                    refine j_callVv (As := [.int (0 : Int32)]) (rest := []) C 0 7 Y_R_reverse u_864 (c_R_reverse g S94 (0 : Int32) e118) rfl rfl ⟨by decide, by decide⟩ rfl rfl rfl rfl (Nat.le_of_ble_eq_true rfl) d_R_power_194 ?_
                    refine j_iconst (v := 1) C (by decide) d_R_power_197 ?_
                    exact j_zret C (Or.inr rfl) rfl rfl d_R_power_198
                  · refine j_iconst (v := 1) C (by decide) d_R_power_189 ?_
                    refine j_goto (tgt := 194) C d_R_power_190 (by decide) ?_
                    refine j_bnd (fun _ S120 e121 => ?_)
                    refine j_callVv (As := [.int (1 : Int32)]) (rest := []) C 0 7 Y_R_reverse u_864 (c_R_reverse g S94 (1 : Int32) e121) rfl rfl ⟨by decide, by decide⟩ rfl rfl rfl rfl (Nat.le_of_ble_eq_true rfl) d_R_power_194 ?_
                    refine j_iconst (v := 1) C (by decide) d_R_power_197 ?_
                    exact j_zret C (Or.inr rfl) rfl rfl d_R_power_198
                · refine j_iconst (v := 1) C (by decide) d_R_power_197 ?_
                  exact j_zret C (Or.inr rfl) rfl rfl d_R_power_198
          · refine j_aload_n C 0 rfl rfl d_R_power_159 ?_
            refine j_iconst (v := 3) C (by decide) d_R_power_160 ?_
            refine j_bnd (fun r122 S123 e124 => ?_)
            refine j_callVi (As := [.int (3 : Int32)]) (rest := []) C 0 7 Y_R_record u_848 (c_R_record g S94 (3 : Int32) e124) rfl rfl ⟨by decide, by decide⟩ rfl rfl rfl rfl (Nat.le_of_ble_eq_true rfl) d_R_power_161 ?_
            refine j_pop C rfl d_R_power_164 ?_
            refine j_goto (tgt := 197) C d_R_power_165 (by decide) ?_
            refine j_iconst (v := 1) C (by decide) d_R_power_197 ?_
            exact j_zret C (Or.inr rfl) rfl rfl d_R_power_198
        · refine j_iload_n C 1 rfl rfl d_R_power_168 ?_
          refine j_iconst (v := 1) C (by decide) d_R_power_169 ?_
          refine j_icmp_eq (tgt := 183) C d_R_power_170 (by decide) (fun h125 => ?_) (fun h125 => ?_)
          · refine j_aload_n C 0 rfl rfl d_R_power_183 ?_
            refine j_iload_n C 1 rfl rfl d_R_power_184 ?_
            refine j_iconst (v := 4) C (by decide) d_R_power_185 ?_
            refine j_icmp_eq (tgt := 193) C d_R_power_186 (by decide) (fun h126 => ?_) (fun h126 => ?_)
            · refine j_iconst (v := 0) C (by decide) d_R_power_193 ?_
              refine j_bnd (fun _ S128 e129 => ?_)
              refine j_callVv (As := [.int (0 : Int32)]) (rest := []) C 0 7 Y_R_reverse u_864 (c_R_reverse g S94 (0 : Int32) e129) rfl rfl ⟨by decide, by decide⟩ rfl rfl rfl rfl (Nat.le_of_ble_eq_true rfl) d_R_power_194 ?_
              refine j_iconst (v := 1) C (by decide) d_R_power_197 ?_
              exact j_zret C (Or.inr rfl) rfl rfl d_R_power_198
            · refine j_iconst (v := 1) C (by decide) d_R_power_189 ?_
              refine j_goto (tgt := 194) C d_R_power_190 (by decide) ?_
              refine j_bnd (fun _ S131 e132 => ?_)
              refine j_callVv (As := [.int (1 : Int32)]) (rest := []) C 0 7 Y_R_reverse u_864 (c_R_reverse g S94 (1 : Int32) e132) rfl rfl ⟨by decide, by decide⟩ rfl rfl rfl rfl (Nat.le_of_ble_eq_true rfl) d_R_power_194 ?_
              refine j_iconst (v := 1) C (by decide) d_R_power_197 ?_
              exact j_zret C (Or.inr rfl) rfl rfl d_R_power_198
          · refine j_iload_n C 1 rfl rfl d_R_power_173 ?_
            refine j_iconst (v := 2) C (by decide) d_R_power_174 ?_
            refine j_icmp_eq (tgt := 183) C d_R_power_175 (by decide) (fun h133 => ?_) (fun h133 => ?_)
            · refine j_aload_n C 0 rfl rfl d_R_power_183 ?_
              refine j_iload_n C 1 rfl rfl d_R_power_184 ?_
              refine j_iconst (v := 4) C (by decide) d_R_power_185 ?_
              refine j_icmp_eq (tgt := 193) C d_R_power_186 (by decide) (fun h134 => ?_) (fun h134 => ?_)
              · refine j_iconst (v := 0) C (by decide) d_R_power_193 ?_
                refine j_bnd (fun _ S136 e137 => ?_)
                refine j_callVv (As := [.int (0 : Int32)]) (rest := []) C 0 7 Y_R_reverse u_864 (c_R_reverse g S94 (0 : Int32) e137) rfl rfl ⟨by decide, by decide⟩ rfl rfl rfl rfl (Nat.le_of_ble_eq_true rfl) d_R_power_194 ?_
                refine j_iconst (v := 1) C (by decide) d_R_power_197 ?_
                exact j_zret C (Or.inr rfl) rfl rfl d_R_power_198
              · refine j_iconst (v := 1) C (by decide) d_R_power_189 ?_
                refine j_goto (tgt := 194) C d_R_power_190 (by decide) ?_
                refine j_bnd (fun _ S139 e140 => ?_)
                refine j_callVv (As := [.int (1 : Int32)]) (rest := []) C 0 7 Y_R_reverse u_864 (c_R_reverse g S94 (1 : Int32) e140) rfl rfl ⟨by decide, by decide⟩ rfl rfl rfl rfl (Nat.le_of_ble_eq_true rfl) d_R_power_194 ?_
                refine j_iconst (v := 1) C (by decide) d_R_power_197 ?_
                exact j_zret C (Or.inr rfl) rfl rfl d_R_power_198
            · refine j_iload_n C 1 rfl rfl d_R_power_178 ?_
              refine j_iconst (v := 4) C (by decide) d_R_power_179 ?_
              refine j_icmp_ne (tgt := 197) C d_R_power_180 (by decide) (fun h141 => ?_) (fun h141 => ?_)
              · refine j_aload_n C 0 rfl rfl d_R_power_183 ?_
                refine j_iload_n C 1 rfl rfl d_R_power_184 ?_
                refine j_iconst (v := 4) C (by decide) d_R_power_185 ?_
                refine j_icmp_eq (tgt := 193) C d_R_power_186 (by decide) (fun h142 => ?_) (fun h142 => ?_)
                · refine j_iconst (v := 0) C (by decide) d_R_power_193 ?_
                  refine j_bnd (fun _ S144 e145 => ?_)
                  refine j_callVv (As := [.int (0 : Int32)]) (rest := []) C 0 7 Y_R_reverse u_864 (c_R_reverse g S94 (0 : Int32) e145) rfl rfl ⟨by decide, by decide⟩ rfl rfl rfl rfl (Nat.le_of_ble_eq_true rfl) d_R_power_194 ?_
                  refine j_iconst (v := 1) C (by decide) d_R_power_197 ?_
                  exact j_zret C (Or.inr rfl) rfl rfl d_R_power_198
                · refine j_iconst (v := 1) C (by decide) d_R_power_189 ?_
                  refine j_goto (tgt := 194) C d_R_power_190 (by decide) ?_
                  refine j_bnd (fun _ S147 e148 => ?_)
                  refine j_callVv (As := [.int (1 : Int32)]) (rest := []) C 0 7 Y_R_reverse u_864 (c_R_reverse g S94 (1 : Int32) e148) rfl rfl ⟨by decide, by decide⟩ rfl rfl rfl rfl (Nat.le_of_ble_eq_true rfl) d_R_power_194 ?_
                  refine j_iconst (v := 1) C (by decide) d_R_power_197 ?_
                  exact j_zret C (Or.inr rfl) rfl rfl d_R_power_198
              · refine j_iconst (v := 1) C (by decide) d_R_power_197 ?_
                exact j_zret C (Or.inr rfl) rfl rfl d_R_power_198
    · refine j_aload_n C 0 rfl rfl d_R_power_40 ?_
      refine gR_R_records C u_704 d_R_power_41 ?_
      refine j_iconst (v := 5) C (by decide) d_R_power_44 ?_
      refine j_aload_n C 0 rfl rfl d_R_power_45 ?_
      refine gR_R_recordCount C u_705 d_R_power_46 ?_
      refine j_imul C d_R_power_49 ?_
      refine j_iconst (v := 5) C (by decide) d_R_power_50 ?_
      refine j_isub C d_R_power_51 ?_
      refine j_grd (fun h149 => ?_)
      refine lR_R_records C h149 d_R_power_52 ?_
      refine j_lti (fun x150 => ?_)
      refine j_istore_n (i := 1) (lv2 := [(1, .int x150), (0, .ref (a 0))]) C rfl (by decide) rfl d_R_power_53 ?_
      refine j_iconst (v := -1) C (by decide) d_R_power_54 ?_
      refine j_istore_n (i := 2) (lv2 := [(2, .int (-1 : Int32)), (1, .int x150), (0, .ref (a 0))]) C rfl (by decide) rfl d_R_power_55 ?_
      refine j_iconst (v := 0) C (by decide) d_R_power_56 ?_
      refine j_istore_n (i := 3) (lv2 := [(3, .int (0 : Int32)), (2, .int (-1 : Int32)), (1, .int x150), (0, .ref (a 0))]) C rfl (by decide) rfl d_R_power_57 ?_
      refine j_sub [3, 2, 1, 0] rfl ?_
      refine j_seqM ?_
      refine lp_R_power_58 C g  (fun S151 y152 => ?_) g S25 x150 (-1 : Int32) (0 : Int32)
      refine j_outM ?_
      refine j_iload_n C 2 rfl rfl d_R_power_90 ?_
      refine j_iconst (v := -1) C (by decide) d_R_power_91 ?_
      refine j_icmp_eq (tgt := 137) C d_R_power_92 (by decide) (fun h153 => ?_) (fun h153 => ?_)
      · refine j_iload_n C 1 rfl rfl d_R_power_137 ?_
        refine j_iconst (v := 2) C (by decide) d_R_power_138 ?_
        refine j_icmp_ne (tgt := 168) C d_R_power_139 (by decide) (fun h154 => ?_) (fun h154 => ?_)
        · refine j_aload_n C 0 rfl rfl d_R_power_142 ?_
          refine gR_R_openings C u_707 d_R_power_143 ?_
          refine j_aload_n C 0 rfl rfl d_R_power_146 ?_
          refine gR_R_records C u_704 d_R_power_147 ?_
          refine j_iconst (v := 5) C (by decide) d_R_power_150 ?_
          refine j_iload_n C 2 rfl rfl d_R_power_151 ?_
          refine j_imul C d_R_power_152 ?_
          refine j_iconst (v := 4) C (by decide) d_R_power_153 ?_
          refine j_iadd C d_R_power_154 ?_
          refine j_grd (fun h155 => ?_)
          refine lR_R_records C h155 d_R_power_155 ?_
          refine j_icmp_le (tgt := 168) C d_R_power_156 (by decide) (fun h156 => ?_) (fun h156 => ?_)
          · refine j_iload_n C 1 rfl rfl d_R_power_168 ?_
            refine j_iconst (v := 1) C (by decide) d_R_power_169 ?_
            refine j_icmp_eq (tgt := 183) C d_R_power_170 (by decide) (fun h157 => ?_) (fun h157 => ?_)
            · refine j_aload_n C 0 rfl rfl d_R_power_183 ?_
              refine j_iload_n C 1 rfl rfl d_R_power_184 ?_
              refine j_iconst (v := 4) C (by decide) d_R_power_185 ?_
              refine j_icmp_eq (tgt := 193) C d_R_power_186 (by decide) (fun h158 => ?_) (fun h158 => ?_)
              · refine j_iconst (v := 0) C (by decide) d_R_power_193 ?_
                refine j_bnd (fun _ S160 e161 => ?_)
                refine j_callVv (As := [.int (0 : Int32)]) (rest := []) C 0 7 Y_R_reverse u_864 (c_R_reverse g S151 (0 : Int32) e161) rfl rfl ⟨by decide, by decide⟩ rfl rfl rfl rfl (Nat.le_of_ble_eq_true rfl) d_R_power_194 ?_
                refine j_iconst (v := 1) C (by decide) d_R_power_197 ?_
                exact j_zret C (Or.inr rfl) rfl rfl d_R_power_198
              · refine j_iconst (v := 1) C (by decide) d_R_power_189 ?_
                refine j_goto (tgt := 194) C d_R_power_190 (by decide) ?_
                refine j_bnd (fun _ S163 e164 => ?_)
                refine j_callVv (As := [.int (1 : Int32)]) (rest := []) C 0 7 Y_R_reverse u_864 (c_R_reverse g S151 (1 : Int32) e164) rfl rfl ⟨by decide, by decide⟩ rfl rfl rfl rfl (Nat.le_of_ble_eq_true rfl) d_R_power_194 ?_
                refine j_iconst (v := 1) C (by decide) d_R_power_197 ?_
                exact j_zret C (Or.inr rfl) rfl rfl d_R_power_198
            · refine j_iload_n C 1 rfl rfl d_R_power_173 ?_
              refine j_iconst (v := 2) C (by decide) d_R_power_174 ?_
              refine j_icmp_eq (tgt := 183) C d_R_power_175 (by decide) (fun h165 => ?_) (fun h165 => ?_)
              · refine j_aload_n C 0 rfl rfl d_R_power_183 ?_
                refine j_iload_n C 1 rfl rfl d_R_power_184 ?_
                refine j_iconst (v := 4) C (by decide) d_R_power_185 ?_
                refine j_icmp_eq (tgt := 193) C d_R_power_186 (by decide) (fun h166 => ?_) (fun h166 => ?_)
                · refine j_iconst (v := 0) C (by decide) d_R_power_193 ?_
                  refine j_bnd (fun _ S168 e169 => ?_)
                  refine j_callVv (As := [.int (0 : Int32)]) (rest := []) C 0 7 Y_R_reverse u_864 (c_R_reverse g S151 (0 : Int32) e169) rfl rfl ⟨by decide, by decide⟩ rfl rfl rfl rfl (Nat.le_of_ble_eq_true rfl) d_R_power_194 ?_
                  refine j_iconst (v := 1) C (by decide) d_R_power_197 ?_
                  exact j_zret C (Or.inr rfl) rfl rfl d_R_power_198
                · refine j_iconst (v := 1) C (by decide) d_R_power_189 ?_
                  refine j_goto (tgt := 194) C d_R_power_190 (by decide) ?_
                  refine j_bnd (fun _ S171 e172 => ?_)
                  refine j_callVv (As := [.int (1 : Int32)]) (rest := []) C 0 7 Y_R_reverse u_864 (c_R_reverse g S151 (1 : Int32) e172) rfl rfl ⟨by decide, by decide⟩ rfl rfl rfl rfl (Nat.le_of_ble_eq_true rfl) d_R_power_194 ?_
                  refine j_iconst (v := 1) C (by decide) d_R_power_197 ?_
                  exact j_zret C (Or.inr rfl) rfl rfl d_R_power_198
              · refine j_iload_n C 1 rfl rfl d_R_power_178 ?_
                refine j_iconst (v := 4) C (by decide) d_R_power_179 ?_
                refine j_icmp_ne (tgt := 197) C d_R_power_180 (by decide) (fun h173 => ?_) (fun h173 => ?_)
                · refine j_aload_n C 0 rfl rfl d_R_power_183 ?_
                  refine j_iload_n C 1 rfl rfl d_R_power_184 ?_
                  refine j_iconst (v := 4) C (by decide) d_R_power_185 ?_
                  refine j_icmp_eq (tgt := 193) C d_R_power_186 (by decide) (fun h174 => ?_) (fun h174 => ?_)
                  · refine j_iconst (v := 0) C (by decide) d_R_power_193 ?_
                    refine j_bnd (fun _ S176 e177 => ?_)
                    refine j_callVv (As := [.int (0 : Int32)]) (rest := []) C 0 7 Y_R_reverse u_864 (c_R_reverse g S151 (0 : Int32) e177) rfl rfl ⟨by decide, by decide⟩ rfl rfl rfl rfl (Nat.le_of_ble_eq_true rfl) d_R_power_194 ?_
                    refine j_iconst (v := 1) C (by decide) d_R_power_197 ?_
                    exact j_zret C (Or.inr rfl) rfl rfl d_R_power_198
                  · refine j_iconst (v := 1) C (by decide) d_R_power_189 ?_
                    refine j_goto (tgt := 194) C d_R_power_190 (by decide) ?_
                    refine j_bnd (fun _ S179 e180 => ?_)
                    refine j_callVv (As := [.int (1 : Int32)]) (rest := []) C 0 7 Y_R_reverse u_864 (c_R_reverse g S151 (1 : Int32) e180) rfl rfl ⟨by decide, by decide⟩ rfl rfl rfl rfl (Nat.le_of_ble_eq_true rfl) d_R_power_194 ?_
                    refine j_iconst (v := 1) C (by decide) d_R_power_197 ?_
                    exact j_zret C (Or.inr rfl) rfl rfl d_R_power_198
                · refine j_iconst (v := 1) C (by decide) d_R_power_197 ?_
                  exact j_zret C (Or.inr rfl) rfl rfl d_R_power_198
          · refine j_aload_n C 0 rfl rfl d_R_power_159 ?_
            refine j_iconst (v := 3) C (by decide) d_R_power_160 ?_
            refine j_bnd (fun r181 S182 e183 => ?_)
            refine j_callVi (As := [.int (3 : Int32)]) (rest := []) C 0 7 Y_R_record u_848 (c_R_record g S151 (3 : Int32) e183) rfl rfl ⟨by decide, by decide⟩ rfl rfl rfl rfl (Nat.le_of_ble_eq_true rfl) d_R_power_161 ?_
            refine j_pop C rfl d_R_power_164 ?_
            refine j_goto (tgt := 197) C d_R_power_165 (by decide) ?_
            refine j_iconst (v := 1) C (by decide) d_R_power_197 ?_
            exact j_zret C (Or.inr rfl) rfl rfl d_R_power_198
        · refine j_iload_n C 1 rfl rfl d_R_power_168 ?_
          refine j_iconst (v := 1) C (by decide) d_R_power_169 ?_
          refine j_icmp_eq (tgt := 183) C d_R_power_170 (by decide) (fun h184 => ?_) (fun h184 => ?_)
          · refine j_aload_n C 0 rfl rfl d_R_power_183 ?_
            refine j_iload_n C 1 rfl rfl d_R_power_184 ?_
            refine j_iconst (v := 4) C (by decide) d_R_power_185 ?_
            refine j_icmp_eq (tgt := 193) C d_R_power_186 (by decide) (fun h185 => ?_) (fun h185 => ?_)
            · refine j_iconst (v := 0) C (by decide) d_R_power_193 ?_
              refine j_bnd (fun _ S187 e188 => ?_)
              refine j_callVv (As := [.int (0 : Int32)]) (rest := []) C 0 7 Y_R_reverse u_864 (c_R_reverse g S151 (0 : Int32) e188) rfl rfl ⟨by decide, by decide⟩ rfl rfl rfl rfl (Nat.le_of_ble_eq_true rfl) d_R_power_194 ?_
              refine j_iconst (v := 1) C (by decide) d_R_power_197 ?_
              exact j_zret C (Or.inr rfl) rfl rfl d_R_power_198
            · refine j_iconst (v := 1) C (by decide) d_R_power_189 ?_
              refine j_goto (tgt := 194) C d_R_power_190 (by decide) ?_
              refine j_bnd (fun _ S190 e191 => ?_)
              refine j_callVv (As := [.int (1 : Int32)]) (rest := []) C 0 7 Y_R_reverse u_864 (c_R_reverse g S151 (1 : Int32) e191) rfl rfl ⟨by decide, by decide⟩ rfl rfl rfl rfl (Nat.le_of_ble_eq_true rfl) d_R_power_194 ?_
              refine j_iconst (v := 1) C (by decide) d_R_power_197 ?_
              exact j_zret C (Or.inr rfl) rfl rfl d_R_power_198
          · refine j_iload_n C 1 rfl rfl d_R_power_173 ?_
            refine j_iconst (v := 2) C (by decide) d_R_power_174 ?_
            refine j_icmp_eq (tgt := 183) C d_R_power_175 (by decide) (fun h192 => ?_) (fun h192 => ?_)
            · refine j_aload_n C 0 rfl rfl d_R_power_183 ?_
              refine j_iload_n C 1 rfl rfl d_R_power_184 ?_
              refine j_iconst (v := 4) C (by decide) d_R_power_185 ?_
              refine j_icmp_eq (tgt := 193) C d_R_power_186 (by decide) (fun h193 => ?_) (fun h193 => ?_)
              · refine j_iconst (v := 0) C (by decide) d_R_power_193 ?_
                refine j_bnd (fun _ S195 e196 => ?_)
                refine j_callVv (As := [.int (0 : Int32)]) (rest := []) C 0 7 Y_R_reverse u_864 (c_R_reverse g S151 (0 : Int32) e196) rfl rfl ⟨by decide, by decide⟩ rfl rfl rfl rfl (Nat.le_of_ble_eq_true rfl) d_R_power_194 ?_
                refine j_iconst (v := 1) C (by decide) d_R_power_197 ?_
                exact j_zret C (Or.inr rfl) rfl rfl d_R_power_198
              · refine j_iconst (v := 1) C (by decide) d_R_power_189 ?_
                refine j_goto (tgt := 194) C d_R_power_190 (by decide) ?_
                refine j_bnd (fun _ S198 e199 => ?_)
                refine j_callVv (As := [.int (1 : Int32)]) (rest := []) C 0 7 Y_R_reverse u_864 (c_R_reverse g S151 (1 : Int32) e199) rfl rfl ⟨by decide, by decide⟩ rfl rfl rfl rfl (Nat.le_of_ble_eq_true rfl) d_R_power_194 ?_
                refine j_iconst (v := 1) C (by decide) d_R_power_197 ?_
                exact j_zret C (Or.inr rfl) rfl rfl d_R_power_198
            · refine j_iload_n C 1 rfl rfl d_R_power_178 ?_
              refine j_iconst (v := 4) C (by decide) d_R_power_179 ?_
              refine j_icmp_ne (tgt := 197) C d_R_power_180 (by decide) (fun h200 => ?_) (fun h200 => ?_)
              · refine j_aload_n C 0 rfl rfl d_R_power_183 ?_
                refine j_iload_n C 1 rfl rfl d_R_power_184 ?_
                refine j_iconst (v := 4) C (by decide) d_R_power_185 ?_
                refine j_icmp_eq (tgt := 193) C d_R_power_186 (by decide) (fun h201 => ?_) (fun h201 => ?_)
                · refine j_iconst (v := 0) C (by decide) d_R_power_193 ?_
                  refine j_bnd (fun _ S203 e204 => ?_)
                  refine j_callVv (As := [.int (0 : Int32)]) (rest := []) C 0 7 Y_R_reverse u_864 (c_R_reverse g S151 (0 : Int32) e204) rfl rfl ⟨by decide, by decide⟩ rfl rfl rfl rfl (Nat.le_of_ble_eq_true rfl) d_R_power_194 ?_
                  refine j_iconst (v := 1) C (by decide) d_R_power_197 ?_
                  exact j_zret C (Or.inr rfl) rfl rfl d_R_power_198
                · refine j_iconst (v := 1) C (by decide) d_R_power_189 ?_
                  refine j_goto (tgt := 194) C d_R_power_190 (by decide) ?_
                  refine j_bnd (fun _ S206 e207 => ?_)
                  refine j_callVv (As := [.int (1 : Int32)]) (rest := []) C 0 7 Y_R_reverse u_864 (c_R_reverse g S151 (1 : Int32) e207) rfl rfl ⟨by decide, by decide⟩ rfl rfl rfl rfl (Nat.le_of_ble_eq_true rfl) d_R_power_194 ?_
                  refine j_iconst (v := 1) C (by decide) d_R_power_197 ?_
                  exact j_zret C (Or.inr rfl) rfl rfl d_R_power_198
              · refine j_iconst (v := 1) C (by decide) d_R_power_197 ?_
                exact j_zret C (Or.inr rfl) rfl rfl d_R_power_198
      · refine j_aload_n C 0 rfl rfl d_R_power_95 ?_
        refine j_aload_n C 0 rfl rfl d_R_power_96 ?_
        refine gR_R_records C u_704 d_R_power_97 ?_
        refine j_iconst (v := 5) C (by decide) d_R_power_100 ?_
        refine j_iload_n C 2 rfl rfl d_R_power_101 ?_
        refine j_imul C d_R_power_102 ?_
        refine j_iconst (v := 1) C (by decide) d_R_power_103 ?_
        refine j_iadd C d_R_power_104 ?_
        refine j_grd (fun h208 => ?_)
        refine lR_R_records C h208 d_R_power_105 ?_
        refine pR_R_trace C u_712 d_R_power_106 ?_
        refine j_ltS (fun S209 => ?_)
        refine j_aload_n C 0 rfl rfl d_R_power_109 ?_
        refine j_aload_n C 0 rfl rfl d_R_power_110 ?_
        refine gR_R_records C u_704 d_R_power_111 ?_
        refine j_iconst (v := 5) C (by decide) d_R_power_114 ?_
        refine j_iload_n C 2 rfl rfl d_R_power_115 ?_
        refine j_imul C d_R_power_116 ?_
        refine j_iconst (v := 2) C (by decide) d_R_power_117 ?_
        refine j_iadd C d_R_power_118 ?_
        refine j_grd (fun h210 => ?_)
        refine lR_R_records C h210 d_R_power_119 ?_
        refine pR_R_amount C u_714 d_R_power_120 ?_
        refine j_ltS (fun S211 => ?_)
        refine j_aload_n C 0 rfl rfl d_R_power_123 ?_
        refine j_aload_n C 0 rfl rfl d_R_power_124 ?_
        refine gR_R_records C u_704 d_R_power_125 ?_
        refine j_iconst (v := 5) C (by decide) d_R_power_128 ?_
        refine j_iload_n C 2 rfl rfl d_R_power_129 ?_
        refine j_imul C d_R_power_130 ?_
        refine j_iconst (v := 3) C (by decide) d_R_power_131 ?_
        refine j_iadd C d_R_power_132 ?_
        refine j_grd (fun h212 => ?_)
        refine lR_R_records C h212 d_R_power_133 ?_
        refine pR_R_cardAtHand C u_713 d_R_power_134 ?_
        refine j_ltS (fun S213 => ?_)
        refine j_iload_n C 1 rfl rfl d_R_power_137 ?_
        refine j_iconst (v := 2) C (by decide) d_R_power_138 ?_
        refine j_icmp_ne (tgt := 168) C d_R_power_139 (by decide) (fun h214 => ?_) (fun h214 => ?_)
        · refine j_aload_n C 0 rfl rfl d_R_power_142 ?_
          refine gR_R_openings C u_707 d_R_power_143 ?_
          refine j_aload_n C 0 rfl rfl d_R_power_146 ?_
          refine gR_R_records C u_704 d_R_power_147 ?_
          refine j_iconst (v := 5) C (by decide) d_R_power_150 ?_
          refine j_iload_n C 2 rfl rfl d_R_power_151 ?_
          refine j_imul C d_R_power_152 ?_
          refine j_iconst (v := 4) C (by decide) d_R_power_153 ?_
          refine j_iadd C d_R_power_154 ?_
          refine j_grd (fun h215 => ?_)
          refine lR_R_records C h215 d_R_power_155 ?_
          refine j_icmp_le (tgt := 168) C d_R_power_156 (by decide) (fun h216 => ?_) (fun h216 => ?_)
          · refine j_iload_n C 1 rfl rfl d_R_power_168 ?_
            refine j_iconst (v := 1) C (by decide) d_R_power_169 ?_
            refine j_icmp_eq (tgt := 183) C d_R_power_170 (by decide) (fun h217 => ?_) (fun h217 => ?_)
            · refine j_aload_n C 0 rfl rfl d_R_power_183 ?_
              refine j_iload_n C 1 rfl rfl d_R_power_184 ?_
              refine j_iconst (v := 4) C (by decide) d_R_power_185 ?_
              refine j_icmp_eq (tgt := 193) C d_R_power_186 (by decide) (fun h218 => ?_) (fun h218 => ?_)
              · refine j_iconst (v := 0) C (by decide) d_R_power_193 ?_
                refine j_bnd (fun _ S220 e221 => ?_)
                refine j_callVv (As := [.int (0 : Int32)]) (rest := []) C 0 7 Y_R_reverse u_864 (c_R_reverse g S213 (0 : Int32) e221) rfl rfl ⟨by decide, by decide⟩ rfl rfl rfl rfl (Nat.le_of_ble_eq_true rfl) d_R_power_194 ?_
                refine j_iconst (v := 1) C (by decide) d_R_power_197 ?_
                exact j_zret C (Or.inr rfl) rfl rfl d_R_power_198
              · refine j_iconst (v := 1) C (by decide) d_R_power_189 ?_
                refine j_goto (tgt := 194) C d_R_power_190 (by decide) ?_
                refine j_bnd (fun _ S223 e224 => ?_)
                refine j_callVv (As := [.int (1 : Int32)]) (rest := []) C 0 7 Y_R_reverse u_864 (c_R_reverse g S213 (1 : Int32) e224) rfl rfl ⟨by decide, by decide⟩ rfl rfl rfl rfl (Nat.le_of_ble_eq_true rfl) d_R_power_194 ?_
                refine j_iconst (v := 1) C (by decide) d_R_power_197 ?_
                exact j_zret C (Or.inr rfl) rfl rfl d_R_power_198
            · refine j_iload_n C 1 rfl rfl d_R_power_173 ?_
              refine j_iconst (v := 2) C (by decide) d_R_power_174 ?_
              refine j_icmp_eq (tgt := 183) C d_R_power_175 (by decide) (fun h225 => ?_) (fun h225 => ?_)
              · refine j_aload_n C 0 rfl rfl d_R_power_183 ?_
                refine j_iload_n C 1 rfl rfl d_R_power_184 ?_
                refine j_iconst (v := 4) C (by decide) d_R_power_185 ?_
                refine j_icmp_eq (tgt := 193) C d_R_power_186 (by decide) (fun h226 => ?_) (fun h226 => ?_)
                · refine j_iconst (v := 0) C (by decide) d_R_power_193 ?_
                  refine j_bnd (fun _ S228 e229 => ?_)
                  refine j_callVv (As := [.int (0 : Int32)]) (rest := []) C 0 7 Y_R_reverse u_864 (c_R_reverse g S213 (0 : Int32) e229) rfl rfl ⟨by decide, by decide⟩ rfl rfl rfl rfl (Nat.le_of_ble_eq_true rfl) d_R_power_194 ?_
                  refine j_iconst (v := 1) C (by decide) d_R_power_197 ?_
                  exact j_zret C (Or.inr rfl) rfl rfl d_R_power_198
                · refine j_iconst (v := 1) C (by decide) d_R_power_189 ?_
                  refine j_goto (tgt := 194) C d_R_power_190 (by decide) ?_
                  refine j_bnd (fun _ S231 e232 => ?_)
                  refine j_callVv (As := [.int (1 : Int32)]) (rest := []) C 0 7 Y_R_reverse u_864 (c_R_reverse g S213 (1 : Int32) e232) rfl rfl ⟨by decide, by decide⟩ rfl rfl rfl rfl (Nat.le_of_ble_eq_true rfl) d_R_power_194 ?_
                  refine j_iconst (v := 1) C (by decide) d_R_power_197 ?_
                  exact j_zret C (Or.inr rfl) rfl rfl d_R_power_198
              · refine j_iload_n C 1 rfl rfl d_R_power_178 ?_
                refine j_iconst (v := 4) C (by decide) d_R_power_179 ?_
                refine j_icmp_ne (tgt := 197) C d_R_power_180 (by decide) (fun h233 => ?_) (fun h233 => ?_)
                · refine j_aload_n C 0 rfl rfl d_R_power_183 ?_
                  refine j_iload_n C 1 rfl rfl d_R_power_184 ?_
                  refine j_iconst (v := 4) C (by decide) d_R_power_185 ?_
                  refine j_icmp_eq (tgt := 193) C d_R_power_186 (by decide) (fun h234 => ?_) (fun h234 => ?_)
                  · refine j_iconst (v := 0) C (by decide) d_R_power_193 ?_
                    refine j_bnd (fun _ S236 e237 => ?_)
                    refine j_callVv (As := [.int (0 : Int32)]) (rest := []) C 0 7 Y_R_reverse u_864 (c_R_reverse g S213 (0 : Int32) e237) rfl rfl ⟨by decide, by decide⟩ rfl rfl rfl rfl (Nat.le_of_ble_eq_true rfl) d_R_power_194 ?_
                    refine j_iconst (v := 1) C (by decide) d_R_power_197 ?_
                    exact j_zret C (Or.inr rfl) rfl rfl d_R_power_198
                  · refine j_iconst (v := 1) C (by decide) d_R_power_189 ?_
                    refine j_goto (tgt := 194) C d_R_power_190 (by decide) ?_
                    refine j_bnd (fun _ S239 e240 => ?_)
                    refine j_callVv (As := [.int (1 : Int32)]) (rest := []) C 0 7 Y_R_reverse u_864 (c_R_reverse g S213 (1 : Int32) e240) rfl rfl ⟨by decide, by decide⟩ rfl rfl rfl rfl (Nat.le_of_ble_eq_true rfl) d_R_power_194 ?_
                    refine j_iconst (v := 1) C (by decide) d_R_power_197 ?_
                    exact j_zret C (Or.inr rfl) rfl rfl d_R_power_198
                · refine j_iconst (v := 1) C (by decide) d_R_power_197 ?_
                  exact j_zret C (Or.inr rfl) rfl rfl d_R_power_198
          · refine j_aload_n C 0 rfl rfl d_R_power_159 ?_
            refine j_iconst (v := 3) C (by decide) d_R_power_160 ?_
            refine j_bnd (fun r241 S242 e243 => ?_)
            refine j_callVi (As := [.int (3 : Int32)]) (rest := []) C 0 7 Y_R_record u_848 (c_R_record g S213 (3 : Int32) e243) rfl rfl ⟨by decide, by decide⟩ rfl rfl rfl rfl (Nat.le_of_ble_eq_true rfl) d_R_power_161 ?_
            refine j_pop C rfl d_R_power_164 ?_
            refine j_goto (tgt := 197) C d_R_power_165 (by decide) ?_
            refine j_iconst (v := 1) C (by decide) d_R_power_197 ?_
            exact j_zret C (Or.inr rfl) rfl rfl d_R_power_198
        · refine j_iload_n C 1 rfl rfl d_R_power_168 ?_
          refine j_iconst (v := 1) C (by decide) d_R_power_169 ?_
          refine j_icmp_eq (tgt := 183) C d_R_power_170 (by decide) (fun h244 => ?_) (fun h244 => ?_)
          · refine j_aload_n C 0 rfl rfl d_R_power_183 ?_
            refine j_iload_n C 1 rfl rfl d_R_power_184 ?_
            refine j_iconst (v := 4) C (by decide) d_R_power_185 ?_
            refine j_icmp_eq (tgt := 193) C d_R_power_186 (by decide) (fun h245 => ?_) (fun h245 => ?_)
            · refine j_iconst (v := 0) C (by decide) d_R_power_193 ?_
              refine j_bnd (fun _ S247 e248 => ?_)
              refine j_callVv (As := [.int (0 : Int32)]) (rest := []) C 0 7 Y_R_reverse u_864 (c_R_reverse g S213 (0 : Int32) e248) rfl rfl ⟨by decide, by decide⟩ rfl rfl rfl rfl (Nat.le_of_ble_eq_true rfl) d_R_power_194 ?_
              refine j_iconst (v := 1) C (by decide) d_R_power_197 ?_
              exact j_zret C (Or.inr rfl) rfl rfl d_R_power_198
            · refine j_iconst (v := 1) C (by decide) d_R_power_189 ?_
              refine j_goto (tgt := 194) C d_R_power_190 (by decide) ?_
              refine j_bnd (fun _ S250 e251 => ?_)
              refine j_callVv (As := [.int (1 : Int32)]) (rest := []) C 0 7 Y_R_reverse u_864 (c_R_reverse g S213 (1 : Int32) e251) rfl rfl ⟨by decide, by decide⟩ rfl rfl rfl rfl (Nat.le_of_ble_eq_true rfl) d_R_power_194 ?_
              refine j_iconst (v := 1) C (by decide) d_R_power_197 ?_
              exact j_zret C (Or.inr rfl) rfl rfl d_R_power_198
          · refine j_iload_n C 1 rfl rfl d_R_power_173 ?_
            refine j_iconst (v := 2) C (by decide) d_R_power_174 ?_
            refine j_icmp_eq (tgt := 183) C d_R_power_175 (by decide) (fun h252 => ?_) (fun h252 => ?_)
            · refine j_aload_n C 0 rfl rfl d_R_power_183 ?_
              refine j_iload_n C 1 rfl rfl d_R_power_184 ?_
              refine j_iconst (v := 4) C (by decide) d_R_power_185 ?_
              refine j_icmp_eq (tgt := 193) C d_R_power_186 (by decide) (fun h253 => ?_) (fun h253 => ?_)
              · refine j_iconst (v := 0) C (by decide) d_R_power_193 ?_
                refine j_bnd (fun _ S255 e256 => ?_)
                refine j_callVv (As := [.int (0 : Int32)]) (rest := []) C 0 7 Y_R_reverse u_864 (c_R_reverse g S213 (0 : Int32) e256) rfl rfl ⟨by decide, by decide⟩ rfl rfl rfl rfl (Nat.le_of_ble_eq_true rfl) d_R_power_194 ?_
                refine j_iconst (v := 1) C (by decide) d_R_power_197 ?_
                exact j_zret C (Or.inr rfl) rfl rfl d_R_power_198
              · refine j_iconst (v := 1) C (by decide) d_R_power_189 ?_
                refine j_goto (tgt := 194) C d_R_power_190 (by decide) ?_
                refine j_bnd (fun _ S258 e259 => ?_)
                refine j_callVv (As := [.int (1 : Int32)]) (rest := []) C 0 7 Y_R_reverse u_864 (c_R_reverse g S213 (1 : Int32) e259) rfl rfl ⟨by decide, by decide⟩ rfl rfl rfl rfl (Nat.le_of_ble_eq_true rfl) d_R_power_194 ?_
                refine j_iconst (v := 1) C (by decide) d_R_power_197 ?_
                exact j_zret C (Or.inr rfl) rfl rfl d_R_power_198
            · refine j_iload_n C 1 rfl rfl d_R_power_178 ?_
              refine j_iconst (v := 4) C (by decide) d_R_power_179 ?_
              refine j_icmp_ne (tgt := 197) C d_R_power_180 (by decide) (fun h260 => ?_) (fun h260 => ?_)
              · refine j_aload_n C 0 rfl rfl d_R_power_183 ?_
                refine j_iload_n C 1 rfl rfl d_R_power_184 ?_
                refine j_iconst (v := 4) C (by decide) d_R_power_185 ?_
                refine j_icmp_eq (tgt := 193) C d_R_power_186 (by decide) (fun h261 => ?_) (fun h261 => ?_)
                · refine j_iconst (v := 0) C (by decide) d_R_power_193 ?_
                  refine j_bnd (fun _ S263 e264 => ?_)
                  refine j_callVv (As := [.int (0 : Int32)]) (rest := []) C 0 7 Y_R_reverse u_864 (c_R_reverse g S213 (0 : Int32) e264) rfl rfl ⟨by decide, by decide⟩ rfl rfl rfl rfl (Nat.le_of_ble_eq_true rfl) d_R_power_194 ?_
                  refine j_iconst (v := 1) C (by decide) d_R_power_197 ?_
                  exact j_zret C (Or.inr rfl) rfl rfl d_R_power_198
                · refine j_iconst (v := 1) C (by decide) d_R_power_189 ?_
                  refine j_goto (tgt := 194) C d_R_power_190 (by decide) ?_
                  refine j_bnd (fun _ S266 e267 => ?_)
                  refine j_callVv (As := [.int (1 : Int32)]) (rest := []) C 0 7 Y_R_reverse u_864 (c_R_reverse g S213 (1 : Int32) e267) rfl rfl ⟨by decide, by decide⟩ rfl rfl rfl rfl (Nat.le_of_ble_eq_true rfl) d_R_power_194 ?_
                  refine j_iconst (v := 1) C (by decide) d_R_power_197 ?_
                  exact j_zret C (Or.inr rfl) rfl rfl d_R_power_198
              · refine j_iconst (v := 1) C (by decide) d_R_power_197 ?_
                exact j_zret C (Or.inr rfl) rfl rfl d_R_power_198
  · refine j_iconst (v := 0) C (by decide) d_R_power_7 ?_
    exact j_zret C (Or.inl rfl) rfl rfl d_R_power_8
