def f_R_giveOut_32 (g : Nat) : Nat → Mem → Int32 → Int32 → Option ((Unit × Mem) ⊕ (Mem × (Int32)))
  | 0, _, _, _ => none
  | n + 1, S, x1, x2 => if x2 ≤ 0 then (some (.inr (S, x1))) else (bnd (f_R_step g S) (fun r32 S33 => if r32 = 0 then (some (.inl ((), S33))) else (grd (¬ (x1 < 0 ∨ 4 ≤ x1.toNatClampNeg)) (grd (¬ (x1 < 0 ∨ 4 ≤ x1.toNatClampNeg)) (lt (sI S33 9 x1.toNatClampNeg ((S33.1 9 x1.toNatClampNeg) - (1 : Int32))) (fun S38 => grd (¬ (x1 < 0 ∨ 4 ≤ x1.toNatClampNeg)) (grd (¬ (x1 < 0 ∨ 4 ≤ x1.toNatClampNeg)) (lt (sI S38 10 x1.toNatClampNeg ((S38.1 10 x1.toNatClampNeg) + (1 : Int32))) (fun S41 => grd (¬ (x1 < 0 ∨ 4 ≤ x1.toNatClampNeg)) (lt (sL S41 2 0 ((S41.2.1 2 0) + ((S41.1 8 x1.toNatClampNeg).toInt64))) (fun S43 => lt (x2 + (-1 : Int32)) (fun x44 => f_R_giveOut_32 g n S43 x1 x44))))))))))))
set_option maxRecDepth 100000 in
set_option maxHeartbeats 4000000 in
theorem lp_R_giveOut_32 {l : Launch} {D : va_G} {cI cJ cZ cL : ClassId} {a : Nat → Nat} {p : Program} {e : Env} {s : State} {m : MethodId} {args : Array Value} {below : List Frame} {meth : Method} {c : Code} {A : Nat → Prop} (C : Cx p s m args meth c "AutoTellerModel" prog_9_method_21_code 3 none D (tyT cI cJ cZ cL) (wdR cI cJ cZ cL a) A) (g : Nat) {K : ((Unit × Mem) ⊕ (Mem × (Int32))) → Option (Unit × Mem)} (hret : ∀ t, K (.inl t) = some t) (hx : ∀ (S : Mem) (y : Int32), Tj p l e rm_R_giveOut s m args below meth c D (wdR cI cJ cZ cL a) A 3 vV K (some (.inr (S, y))) S 86 [(0, .ref (a 0)), (1, .int y)] []) : ∀ (n : Nat) (S : Mem) (x1 : Int32) (x2 : Int32), Tj p l e rm_R_giveOut s m args below meth c D (wdR cI cJ cZ cL a) A 3 vV K (f_R_giveOut_32 g n S x1 x2) S 32 [(0, .ref (a 0)), (1, .int x1), (2, .int x2)] [] := by
  intro n
  induction n with
  | zero =>
    intro S x1 x2
    exact j_none
  | succ n ih =>
    intro S x1 x2
    rw [f_R_giveOut_32]
    refine j_iload_n C 2 rfl rfl d_R_giveOut_32 ?_
    refine j_if_le (tgt := 86) C d_R_giveOut_33 (by decide) (fun h31 => ?_) (fun h31 => ?_)
    · refine j_sub [0, 1] rfl ?_
      exact hx S x1
    · refine j_aload_n C 0 rfl rfl d_R_giveOut_36 ?_
      refine j_bnd (fun r32 S33 e34 => ?_)
      refine j_callVi (As := []) (rest := []) C 0 7 Y_R_step u_819 (c_R_step g S e34) rfl rfl ⟨by decide, by decide⟩ rfl rfl rfl rfl (Nat.le_of_ble_eq_true rfl) d_R_giveOut_37 ?_
      refine j_if_ne (tgt := 44) C d_R_giveOut_40 (by decide) (fun h35 => ?_) (fun h35 => ?_)
      · exact j_vret C (hret _) rfl d_R_giveOut_43
      · refine j_aload_n C 0 rfl rfl d_R_giveOut_44 ?_
        refine gR_R_notes C u_696 d_R_giveOut_45 ?_
        refine j_iload_n C 1 rfl rfl d_R_giveOut_48 ?_
        refine j_dup2 C rfl rfl d_R_giveOut_49 ?_
        refine j_grd (fun h36 => ?_)
        refine lR_R_notes C h36 d_R_giveOut_50 ?_
        refine j_iconst (v := 1) C (by decide) d_R_giveOut_51 ?_
        refine j_isub C d_R_giveOut_52 ?_
        refine j_grd (fun h37 => ?_)
        refine sR_R_notes C h37 d_R_giveOut_53 ?_
        refine j_ltS (fun S38 => ?_)
        refine j_aload_n C 0 rfl rfl d_R_giveOut_54 ?_
        refine gR_R_stacked C u_697 d_R_giveOut_55 ?_
        refine j_iload_n C 1 rfl rfl d_R_giveOut_58 ?_
        refine j_dup2 C rfl rfl d_R_giveOut_59 ?_
        refine j_grd (fun h39 => ?_)
        refine lR_R_stacked C h39 d_R_giveOut_60 ?_
        refine j_iconst (v := 1) C (by decide) d_R_giveOut_61 ?_
        refine j_iadd C d_R_giveOut_62 ?_
        refine j_grd (fun h40 => ?_)
        refine sR_R_stacked C h40 d_R_giveOut_63 ?_
        refine j_ltS (fun S41 => ?_)
        refine j_aload_n C 0 rfl rfl d_R_giveOut_64 ?_
        refine j_dup C rfl d_R_giveOut_65 ?_
        refine gR_R_stackedWorth C u_700 d_R_giveOut_66 ?_
        refine j_aload_n C 0 rfl rfl d_R_giveOut_69 ?_
        refine gR_R_denomination C u_695 d_R_giveOut_70 ?_
        refine j_iload_n C 1 rfl rfl d_R_giveOut_73 ?_
        refine j_grd (fun h42 => ?_)
        refine lR_R_denomination C h42 d_R_giveOut_74 ?_
        refine j_i2l C d_R_giveOut_75 ?_
        refine j_ladd C d_R_giveOut_76 ?_
        refine pR_R_stackedWorth C u_700 d_R_giveOut_77 ?_
        refine j_ltS (fun S43 => ?_)
        refine j_iincN (n2 := -1) (lv2 := fun x44 => [(2, .int x44), (0, .ref (a 0)), (1, .int x1)]) C 2 rfl (by decide) (by decide) (fun _ => rfl) d_R_giveOut_80 (fun x44 => ?_)
        refine j_goto (tgt := 32) C d_R_giveOut_83 (by decide) ?_
        refine j_sub [1, 2, 0] rfl ?_
        exact ih S43 x1 x44
def f_R_giveOut_20 (g : Nat) : Nat → Mem → Int32 → Option ((Unit × Mem) ⊕ (Mem × (Unit)))
  | 0, _, _ => none
  | n + 1, S, x1 => if (4 : Int32) ≤ x1 then (some (.inr (S, ()))) else (grd (¬ (x1 < 0 ∨ 4 ≤ x1.toNatClampNeg)) (lt (S.1 30 x1.toNatClampNeg) (fun x30 => seqR (f_R_giveOut_32 g g S x1 x30) (fun t => some (.inl t)) (fun S45 y46 => lt (y46 + (1 : Int32)) (fun x47 => f_R_giveOut_20 g n S45 x47)))))
set_option maxRecDepth 100000 in
set_option maxHeartbeats 4000000 in
theorem lp_R_giveOut_20 {l : Launch} {D : va_G} {cI cJ cZ cL : ClassId} {a : Nat → Nat} {p : Program} {e : Env} {s : State} {m : MethodId} {args : Array Value} {below : List Frame} {meth : Method} {c : Code} {A : Nat → Prop} (C : Cx p s m args meth c "AutoTellerModel" prog_9_method_21_code 3 none D (tyT cI cJ cZ cL) (wdR cI cJ cZ cL a) A) (g : Nat) {K : ((Unit × Mem) ⊕ (Mem × (Unit))) → Option (Unit × Mem)} (hret : ∀ t, K (.inl t) = some t) (hx : ∀ (S : Mem) (y : Unit), Tj p l e rm_R_giveOut s m args below meth c D (wdR cI cJ cZ cL a) A 3 vV K (some (.inr (S, y))) S 92 [(0, .ref (a 0))] []) : ∀ (n : Nat) (S : Mem) (x1 : Int32), Tj p l e rm_R_giveOut s m args below meth c D (wdR cI cJ cZ cL a) A 3 vV K (f_R_giveOut_20 g n S x1) S 20 [(0, .ref (a 0)), (1, .int x1)] [] := by
  intro n
  induction n with
  | zero =>
    intro S x1
    exact j_none
  | succ n ih =>
    intro S x1
    rw [f_R_giveOut_20]
    refine j_iload_n C 1 rfl rfl d_R_giveOut_20 ?_
    refine j_iconst (v := 4) C (by decide) d_R_giveOut_21 ?_
    refine j_icmp_ge (tgt := 92) C d_R_giveOut_22 (by decide) (fun h28 => ?_) (fun h28 => ?_)
    · refine j_sub [0] rfl ?_
      exact hx S ()
    · refine j_aload_n C 0 rfl rfl d_R_giveOut_25 ?_
      refine gR_R_mixed C u_720 d_R_giveOut_26 ?_
      refine j_iload_n C 1 rfl rfl d_R_giveOut_29 ?_
      refine j_grd (fun h29 => ?_)
      refine lR_R_mixed C h29 d_R_giveOut_30 ?_
      refine j_lti (fun x30 => ?_)
      refine j_istore_n (i := 2) (lv2 := [(2, .int x30), (0, .ref (a 0)), (1, .int x1)]) C rfl (by decide) rfl d_R_giveOut_31 ?_
      refine j_sub [1, 2, 0] rfl ?_
      refine j_seqR ?_
      refine lp_R_giveOut_32 C g  (fun t => hret t) (fun S45 y46 => ?_) g S x1 x30
      refine j_outR ?_
      refine j_iincN (n2 := 1) (lv2 := fun x47 => [(1, .int x47), (0, .ref (a 0))]) C 1 rfl (by decide) (by decide) (fun _ => rfl) d_R_giveOut_86 (fun x47 => ?_)
      refine j_goto (tgt := 20) C d_R_giveOut_89 (by decide) ?_
      refine j_sub [1, 0] rfl ?_
      exact ih S45 x47
def f_R_giveOut_102 (g : Nat) : Nat → Mem → Int32 → Option (Mem × (Unit))
  | 0, _, _ => none
  | n + 1, S, x1 => if (4 : Int32) ≤ x1 then (some (S, ())) else (grd (¬ (x1 < 0 ∨ 4 ≤ x1.toNatClampNeg)) (grd (¬ (x1 < 0 ∨ 4 ≤ x1.toNatClampNeg)) (grd (¬ (x1 < 0 ∨ 4 ≤ x1.toNatClampNeg)) (lt (sI S 11 x1.toNatClampNeg ((S.1 11 x1.toNatClampNeg) + (S.1 10 x1.toNatClampNeg))) (fun S58 => grd (¬ (x1 < 0 ∨ 4 ≤ x1.toNatClampNeg)) (lt (sI S58 10 x1.toNatClampNeg (0 : Int32)) (fun S60 => lt (x1 + (1 : Int32)) (fun x61 => f_R_giveOut_102 g n S60 x61))))))))
set_option maxRecDepth 100000 in
set_option maxHeartbeats 4000000 in
theorem lp_R_giveOut_102 {l : Launch} {D : va_G} {cI cJ cZ cL : ClassId} {a : Nat → Nat} {p : Program} {e : Env} {s : State} {m : MethodId} {args : Array Value} {below : List Frame} {meth : Method} {c : Code} {A : Nat → Prop} (C : Cx p s m args meth c "AutoTellerModel" prog_9_method_21_code 3 none D (tyT cI cJ cZ cL) (wdR cI cJ cZ cL a) A) (g : Nat) {K : (Mem × (Unit)) → Option (Unit × Mem)} (hx : ∀ (S : Mem) (y : Unit), Tj p l e rm_R_giveOut s m args below meth c D (wdR cI cJ cZ cL a) A 3 vV K (some (S, y)) S 135 [(0, .ref (a 0))] []) : ∀ (n : Nat) (S : Mem) (x1 : Int32), Tj p l e rm_R_giveOut s m args below meth c D (wdR cI cJ cZ cL a) A 3 vV K (f_R_giveOut_102 g n S x1) S 102 [(0, .ref (a 0)), (1, .int x1)] [] := by
  intro n
  induction n with
  | zero =>
    intro S x1
    exact j_none
  | succ n ih =>
    intro S x1
    rw [f_R_giveOut_102]
    refine j_iload_n C 1 rfl rfl d_R_giveOut_102 ?_
    refine j_iconst (v := 4) C (by decide) d_R_giveOut_103 ?_
    refine j_icmp_ge (tgt := 135) C d_R_giveOut_104 (by decide) (fun h54 => ?_) (fun h54 => ?_)
    · refine j_sub [0] rfl ?_
      exact hx S ()
    · refine j_aload_n C 0 rfl rfl d_R_giveOut_107 ?_
      refine gR_R_inTray C u_698 d_R_giveOut_108 ?_
      refine j_iload_n C 1 rfl rfl d_R_giveOut_111 ?_
      refine j_dup2 C rfl rfl d_R_giveOut_112 ?_
      refine j_grd (fun h55 => ?_)
      refine lR_R_inTray C h55 d_R_giveOut_113 ?_
      refine j_aload_n C 0 rfl rfl d_R_giveOut_114 ?_
      refine gR_R_stacked C u_697 d_R_giveOut_115 ?_
      refine j_iload_n C 1 rfl rfl d_R_giveOut_118 ?_
      refine j_grd (fun h56 => ?_)
      refine lR_R_stacked C h56 d_R_giveOut_119 ?_
      refine j_iadd C d_R_giveOut_120 ?_
      refine j_grd (fun h57 => ?_)
      refine sR_R_inTray C h57 d_R_giveOut_121 ?_
      refine j_ltS (fun S58 => ?_)
      refine j_aload_n C 0 rfl rfl d_R_giveOut_122 ?_
      refine gR_R_stacked C u_697 d_R_giveOut_123 ?_
      refine j_iload_n C 1 rfl rfl d_R_giveOut_126 ?_
      refine j_iconst (v := 0) C (by decide) d_R_giveOut_127 ?_
      refine j_grd (fun h59 => ?_)
      refine sR_R_stacked C h59 d_R_giveOut_128 ?_
      refine j_ltS (fun S60 => ?_)
      refine j_iincN (n2 := 1) (lv2 := fun x61 => [(1, .int x61), (0, .ref (a 0))]) C 1 rfl (by decide) (by decide) (fun _ => rfl) d_R_giveOut_129 (fun x61 => ?_)
      refine j_goto (tgt := 102) C d_R_giveOut_132 (by decide) ?_
      refine j_sub [1, 0] rfl ?_
      exact ih S60 x61
def f_R_giveOut (g : Nat) (S : Mem) : Option (Unit × Mem) := bnd (f_R_record g S (2 : Int32)) (fun r21 S22 => if r21 = 0 then (some ((), S22)) else (bnd (f_R_findMix g S22 (S22.1 24 0)) (fun r25 S26 => seqR (f_R_giveOut_20 g g S26 (0 : Int32)) some (fun S48 y49 => bnd (f_R_step g S48) (fun r50 S51 => if r50 = 0 then (some ((), S51)) else (seqM (f_R_giveOut_102 g g S51 (0 : Int32)) (fun S62 y63 => lt (sL S62 3 0 ((S62.2.1 3 0) + (S62.2.1 2 0))) (fun S64 => lt (sL S64 4 0 ((S64.2.1 4 0) + (S64.2.1 2 0))) (fun S65 => lt (sL S65 2 0 (0 : Int64)) (fun S66 => lt (sI S66 17 0 ((S66.1 17 0) + (1 : Int32))) (fun S67 => bnd (f_R_record g S67 (3 : Int32)) (fun r68 S69 => if r68 = 0 then (some ((), S69)) else (lt (sI S69 20 0 (3 : Int32)) (fun S72 => some ((), S72)))))))))))))))
set_option maxRecDepth 100000 in
set_option maxHeartbeats 4000000 in
theorem c_R_giveOut {l : Launch} {D : va_G} {cI cJ cZ cL : ClassId} {a : Nat → Nat} (g : Nat) (S : Mem) {r : Unit} {S9 : Mem} (h : f_R_giveOut g S = some (r, S9)) : Ctr l y_R_giveOut prog_9_method_21_code 3 none rm_R_giveOut D (tyT cI cJ cZ cL) (wdR cI cJ cZ cL a) [.ref (a 0)] S (vV r, S9) := by
  refine Ctr.of (lv0 := [(0, .ref (a 0))]) (vv := vV) (by decide) rfl (wdR_fst cI cJ cZ cL a) (Nat.le_of_ble_eq_true rfl) rfl (fun p e s m args below meth c A C => ?_) r S9 h
  unfold f_R_giveOut
  refine j_aload_n C 0 rfl rfl d_R_giveOut_0 ?_
  refine j_iconst (v := 2) C (by decide) d_R_giveOut_1 ?_
  refine j_bnd (fun r21 S22 e23 => ?_)
  refine j_callVi (As := [.int (2 : Int32)]) (rest := []) C 0 7 Y_R_record u_848 (c_R_record g S (2 : Int32) e23) rfl rfl ⟨by decide, by decide⟩ rfl rfl rfl rfl (Nat.le_of_ble_eq_true rfl) d_R_giveOut_2 ?_
  refine j_if_ne (tgt := 9) C d_R_giveOut_5 (by decide) (fun h24 => ?_) (fun h24 => ?_)
  · exact j_vret C rfl rfl d_R_giveOut_8
  · refine j_aload_n C 0 rfl rfl d_R_giveOut_9 ?_
    refine j_aload_n C 0 rfl rfl d_R_giveOut_10 ?_
    refine gR_R_amount C u_714 d_R_giveOut_11 ?_
    refine j_bnd (fun r25 S26 e27 => ?_)
    refine j_callVi (As := [.int (S22.1 24 0)]) (rest := []) C 0 7 Y_R_findMix u_844 (c_R_findMix g S22 (S22.1 24 0) e27) rfl rfl ⟨by decide, by decide⟩ rfl rfl rfl rfl (Nat.le_of_ble_eq_true rfl) d_R_giveOut_14 ?_
    refine j_pop C rfl d_R_giveOut_17 ?_
    refine j_iconst (v := 0) C (by decide) d_R_giveOut_18 ?_
    refine j_istore_n (i := 1) (lv2 := [(1, .int (0 : Int32)), (0, .ref (a 0))]) C rfl (by decide) rfl d_R_giveOut_19 ?_
    refine j_sub [1, 0] rfl ?_
    refine j_seqR ?_
    refine lp_R_giveOut_20 C g  (fun _ => rfl) (fun S48 y49 => ?_) g S26 (0 : Int32)
    refine j_outR ?_
    refine j_aload_n C 0 rfl rfl d_R_giveOut_92 ?_
    refine j_bnd (fun r50 S51 e52 => ?_)
    refine j_callVi (As := []) (rest := []) C 0 7 Y_R_step u_819 (c_R_step g S48 e52) rfl rfl ⟨by decide, by decide⟩ rfl rfl rfl rfl (Nat.le_of_ble_eq_true rfl) d_R_giveOut_93 ?_
    refine j_if_ne (tgt := 100) C d_R_giveOut_96 (by decide) (fun h53 => ?_) (fun h53 => ?_)
    · exact j_vret C rfl rfl d_R_giveOut_99
    · refine j_iconst (v := 0) C (by decide) d_R_giveOut_100 ?_
      refine j_istore_n (i := 1) (lv2 := [(1, .int (0 : Int32)), (0, .ref (a 0))]) C rfl (by decide) rfl d_R_giveOut_101 ?_
      refine j_sub [1, 0] rfl ?_
      refine j_seqM ?_
      refine lp_R_giveOut_102 C g  (fun S62 y63 => ?_) g S51 (0 : Int32)
      refine j_outM ?_
      refine j_aload_n C 0 rfl rfl d_R_giveOut_135 ?_
      refine j_dup C rfl d_R_giveOut_136 ?_
      refine gR_R_trayWorth C u_701 d_R_giveOut_137 ?_
      refine j_aload_n C 0 rfl rfl d_R_giveOut_140 ?_
      refine gR_R_stackedWorth C u_700 d_R_giveOut_141 ?_
      refine j_ladd C d_R_giveOut_144 ?_
      refine pR_R_trayWorth C u_701 d_R_giveOut_145 ?_
      refine j_ltS (fun S64 => ?_)
      refine j_aload_n C 0 rfl rfl d_R_giveOut_148 ?_
      refine j_dup C rfl d_R_giveOut_149 ?_
      refine gR_R_everWorth C u_702 d_R_giveOut_150 ?_
      refine j_aload_n C 0 rfl rfl d_R_giveOut_153 ?_
      refine gR_R_stackedWorth C u_700 d_R_giveOut_154 ?_
      refine j_ladd C d_R_giveOut_157 ?_
      refine pR_R_everWorth C u_702 d_R_giveOut_158 ?_
      refine j_ltS (fun S65 => ?_)
      refine j_aload_n C 0 rfl rfl d_R_giveOut_161 ?_
      refine j_lconst (v := 0) C rfl d_R_giveOut_162 ?_
      refine pR_R_stackedWorth C u_700 d_R_giveOut_163 ?_
      refine j_ltS (fun S66 => ?_)
      refine j_aload_n C 0 rfl rfl d_R_giveOut_166 ?_
      refine j_dup C rfl d_R_giveOut_167 ?_
      refine gR_R_openings C u_707 d_R_giveOut_168 ?_
      refine j_iconst (v := 1) C (by decide) d_R_giveOut_171 ?_
      refine j_iadd C d_R_giveOut_172 ?_
      refine pR_R_openings C u_707 d_R_giveOut_173 ?_
      refine j_ltS (fun S67 => ?_)
      refine j_aload_n C 0 rfl rfl d_R_giveOut_176 ?_
      refine j_iconst (v := 3) C (by decide) d_R_giveOut_177 ?_
      refine j_bnd (fun r68 S69 e70 => ?_)
      refine j_callVi (As := [.int (3 : Int32)]) (rest := []) C 0 7 Y_R_record u_848 (c_R_record g S67 (3 : Int32) e70) rfl rfl ⟨by decide, by decide⟩ rfl rfl rfl rfl (Nat.le_of_ble_eq_true rfl) d_R_giveOut_178 ?_
      refine j_if_eq (tgt := 189) C d_R_giveOut_181 (by decide) (fun h71 => ?_) (fun h71 => ?_)
      · exact j_vret C rfl rfl d_R_giveOut_189
      · refine j_aload_n C 0 rfl rfl d_R_giveOut_184 ?_
        refine j_iconst (v := 3) C (by decide) d_R_giveOut_185 ?_
        refine pR_R_phase C u_710 d_R_giveOut_186 ?_
        refine j_ltS (fun S72 => ?_)
        exact j_vret C rfl rfl d_R_giveOut_189
def f_R_machineTakes (g : Nat) (S : Mem) : Option (Int32 × Mem) := bnd (f_R_numberAt g S (1 : Int32)) (fun r21 S22 => if r21 = (S22.1 22 0) then (if (S22.1 20 0) = (2 : Int32) then (if (S22.1 29 ((0 : Int32).toNatClampNeg)) = (129 : Int32) then (lt (S22.1 29 ((10 : Int32).toNatClampNeg)) (fun x27 => if (S22.1 20 0) = (2 : Int32) then (if x27 = (2 : Int32) then (grd (¬ ((S22.1 21 0) < 0 ∨ 16 ≤ (S22.1 21 0).toNatClampNeg)) (lt (sI S22 13 ((S22.1 21 0).toNatClampNeg) (1 : Int32)) (fun S31 => lt (sI S31 21 0 (-1 : Int32)) (fun S32 => if x27 = 0 then (lt (sI S32 20 0 (3 : Int32)) (fun S34 => some ((1 : Int32), S34))) else (if x27 = (2 : Int32) then (lt (sI S32 20 0 (0 : Int32)) (fun S36 => some ((1 : Int32), S36))) else (lt (sI S32 20 0 (1 : Int32)) (fun S37 => some ((1 : Int32), S37)))))))) else (if x27 = 0 then (lt (sI S22 20 0 (3 : Int32)) (fun S39 => some ((1 : Int32), S39))) else (if x27 = (2 : Int32) then (lt (sI S22 20 0 (0 : Int32)) (fun S41 => some ((1 : Int32), S41))) else (lt (sI S22 20 0 (1 : Int32)) (fun S42 => some ((1 : Int32), S42)))))) else (if (S22.1 20 0) = (5 : Int32) then (bnd (f_R_record g S22 (5 : Int32)) (fun r44 S45 => if r44 = 0 then (some ((1 : Int32), S45)) else (lt (sI S45 20 0 (0 : Int32)) (fun S48 => some ((1 : Int32), S48))))) else (if x27 = 0 then (bnd (f_R_giveOut g S22) (fun _ S51 => some ((1 : Int32), S51))) else (bnd (f_R_record g S22 (6 : Int32)) (fun r53 S54 => if r53 = 0 then (some ((1 : Int32), S54)) else (lt (sI S54 20 0 (3 : Int32)) (fun S57 => some ((1 : Int32), S57))))))))) else (if (S22.1 20 0) = (4 : Int32) then (if (S22.1 29 ((0 : Int32).toNatClampNeg)) = (130 : Int32) then (lt (S22.1 29 ((10 : Int32).toNatClampNeg)) (fun x60 => if (S22.1 20 0) = (2 : Int32) then (if x60 = (2 : Int32) then (grd (¬ ((S22.1 21 0) < 0 ∨ 16 ≤ (S22.1 21 0).toNatClampNeg)) (lt (sI S22 13 ((S22.1 21 0).toNatClampNeg) (1 : Int32)) (fun S64 => lt (sI S64 21 0 (-1 : Int32)) (fun S65 => if x60 = 0 then (lt (sI S65 20 0 (3 : Int32)) (fun S67 => some ((1 : Int32), S67))) else (if x60 = (2 : Int32) then (lt (sI S65 20 0 (0 : Int32)) (fun S69 => some ((1 : Int32), S69))) else (lt (sI S65 20 0 (1 : Int32)) (fun S70 => some ((1 : Int32), S70)))))))) else (if x60 = 0 then (lt (sI S22 20 0 (3 : Int32)) (fun S72 => some ((1 : Int32), S72))) else (if x60 = (2 : Int32) then (lt (sI S22 20 0 (0 : Int32)) (fun S74 => some ((1 : Int32), S74))) else (lt (sI S22 20 0 (1 : Int32)) (fun S75 => some ((1 : Int32), S75)))))) else (if (S22.1 20 0) = (5 : Int32) then (bnd (f_R_record g S22 (5 : Int32)) (fun r77 S78 => if r77 = 0 then (some ((1 : Int32), S78)) else (lt (sI S78 20 0 (0 : Int32)) (fun S81 => some ((1 : Int32), S81))))) else (if x60 = 0 then (bnd (f_R_giveOut g S22) (fun _ S84 => some ((1 : Int32), S84))) else (bnd (f_R_record g S22 (6 : Int32)) (fun r86 S87 => if r86 = 0 then (some ((1 : Int32), S87)) else (lt (sI S87 20 0 (3 : Int32)) (fun S90 => some ((1 : Int32), S90))))))))) else (if (S22.1 20 0) = (5 : Int32) then (if (S22.1 29 ((0 : Int32).toNatClampNeg)) = (131 : Int32) then (lt (S22.1 29 ((10 : Int32).toNatClampNeg)) (fun x93 => if (S22.1 20 0) = (2 : Int32) then (if x93 = (2 : Int32) then (grd (¬ ((S22.1 21 0) < 0 ∨ 16 ≤ (S22.1 21 0).toNatClampNeg)) (lt (sI S22 13 ((S22.1 21 0).toNatClampNeg) (1 : Int32)) (fun S97 => lt (sI S97 21 0 (-1 : Int32)) (fun S98 => if x93 = 0 then (lt (sI S98 20 0 (3 : Int32)) (fun S100 => some ((1 : Int32), S100))) else (if x93 = (2 : Int32) then (lt (sI S98 20 0 (0 : Int32)) (fun S102 => some ((1 : Int32), S102))) else (lt (sI S98 20 0 (1 : Int32)) (fun S103 => some ((1 : Int32), S103)))))))) else (if x93 = 0 then (lt (sI S22 20 0 (3 : Int32)) (fun S105 => some ((1 : Int32), S105))) else (if x93 = (2 : Int32) then (lt (sI S22 20 0 (0 : Int32)) (fun S107 => some ((1 : Int32), S107))) else (lt (sI S22 20 0 (1 : Int32)) (fun S108 => some ((1 : Int32), S108)))))) else (if (S22.1 20 0) = (5 : Int32) then (bnd (f_R_record g S22 (5 : Int32)) (fun r110 S111 => if r110 = 0 then (some ((1 : Int32), S111)) else (lt (sI S111 20 0 (0 : Int32)) (fun S114 => some ((1 : Int32), S114))))) else (if x93 = 0 then (bnd (f_R_giveOut g S22) (fun _ S117 => some ((1 : Int32), S117))) else (bnd (f_R_record g S22 (6 : Int32)) (fun r119 S120 => if r119 = 0 then (some ((1 : Int32), S120)) else (lt (sI S120 20 0 (3 : Int32)) (fun S123 => some ((1 : Int32), S123))))))))) else (some ((0 : Int32), S22))) else (some ((0 : Int32), S22)))) else (if (S22.1 20 0) = (5 : Int32) then (if (S22.1 29 ((0 : Int32).toNatClampNeg)) = (131 : Int32) then (lt (S22.1 29 ((10 : Int32).toNatClampNeg)) (fun x126 => if (S22.1 20 0) = (2 : Int32) then (if x126 = (2 : Int32) then (grd (¬ ((S22.1 21 0) < 0 ∨ 16 ≤ (S22.1 21 0).toNatClampNeg)) (lt (sI S22 13 ((S22.1 21 0).toNatClampNeg) (1 : Int32)) (fun S130 => lt (sI S130 21 0 (-1 : Int32)) (fun S131 => if x126 = 0 then (lt (sI S131 20 0 (3 : Int32)) (fun S133 => some ((1 : Int32), S133))) else (if x126 = (2 : Int32) then (lt (sI S131 20 0 (0 : Int32)) (fun S135 => some ((1 : Int32), S135))) else (lt (sI S131 20 0 (1 : Int32)) (fun S136 => some ((1 : Int32), S136)))))))) else (if x126 = 0 then (lt (sI S22 20 0 (3 : Int32)) (fun S138 => some ((1 : Int32), S138))) else (if x126 = (2 : Int32) then (lt (sI S22 20 0 (0 : Int32)) (fun S140 => some ((1 : Int32), S140))) else (lt (sI S22 20 0 (1 : Int32)) (fun S141 => some ((1 : Int32), S141)))))) else (if (S22.1 20 0) = (5 : Int32) then (bnd (f_R_record g S22 (5 : Int32)) (fun r143 S144 => if r143 = 0 then (some ((1 : Int32), S144)) else (lt (sI S144 20 0 (0 : Int32)) (fun S147 => some ((1 : Int32), S147))))) else (if x126 = 0 then (bnd (f_R_giveOut g S22) (fun _ S150 => some ((1 : Int32), S150))) else (bnd (f_R_record g S22 (6 : Int32)) (fun r152 S153 => if r152 = 0 then (some ((1 : Int32), S153)) else (lt (sI S153 20 0 (3 : Int32)) (fun S156 => some ((1 : Int32), S156))))))))) else (some ((0 : Int32), S22))) else (some ((0 : Int32), S22))))) else (if (S22.1 20 0) = (4 : Int32) then (if (S22.1 29 ((0 : Int32).toNatClampNeg)) = (130 : Int32) then (lt (S22.1 29 ((10 : Int32).toNatClampNeg)) (fun x159 => if (S22.1 20 0) = (2 : Int32) then (if x159 = (2 : Int32) then (grd (¬ ((S22.1 21 0) < 0 ∨ 16 ≤ (S22.1 21 0).toNatClampNeg)) (lt (sI S22 13 ((S22.1 21 0).toNatClampNeg) (1 : Int32)) (fun S163 => lt (sI S163 21 0 (-1 : Int32)) (fun S164 => if x159 = 0 then (lt (sI S164 20 0 (3 : Int32)) (fun S166 => some ((1 : Int32), S166))) else (if x159 = (2 : Int32) then (lt (sI S164 20 0 (0 : Int32)) (fun S168 => some ((1 : Int32), S168))) else (lt (sI S164 20 0 (1 : Int32)) (fun S169 => some ((1 : Int32), S169)))))))) else (if x159 = 0 then (lt (sI S22 20 0 (3 : Int32)) (fun S171 => some ((1 : Int32), S171))) else (if x159 = (2 : Int32) then (lt (sI S22 20 0 (0 : Int32)) (fun S173 => some ((1 : Int32), S173))) else (lt (sI S22 20 0 (1 : Int32)) (fun S174 => some ((1 : Int32), S174)))))) else (if (S22.1 20 0) = (5 : Int32) then (bnd (f_R_record g S22 (5 : Int32)) (fun r176 S177 => if r176 = 0 then (some ((1 : Int32), S177)) else (lt (sI S177 20 0 (0 : Int32)) (fun S180 => some ((1 : Int32), S180))))) else (if x159 = 0 then (bnd (f_R_giveOut g S22) (fun _ S183 => some ((1 : Int32), S183))) else (bnd (f_R_record g S22 (6 : Int32)) (fun r185 S186 => if r185 = 0 then (some ((1 : Int32), S186)) else (lt (sI S186 20 0 (3 : Int32)) (fun S189 => some ((1 : Int32), S189))))))))) else (if (S22.1 20 0) = (5 : Int32) then (if (S22.1 29 ((0 : Int32).toNatClampNeg)) = (131 : Int32) then (lt (S22.1 29 ((10 : Int32).toNatClampNeg)) (fun x192 => if (S22.1 20 0) = (2 : Int32) then (if x192 = (2 : Int32) then (grd (¬ ((S22.1 21 0) < 0 ∨ 16 ≤ (S22.1 21 0).toNatClampNeg)) (lt (sI S22 13 ((S22.1 21 0).toNatClampNeg) (1 : Int32)) (fun S196 => lt (sI S196 21 0 (-1 : Int32)) (fun S197 => if x192 = 0 then (lt (sI S197 20 0 (3 : Int32)) (fun S199 => some ((1 : Int32), S199))) else (if x192 = (2 : Int32) then (lt (sI S197 20 0 (0 : Int32)) (fun S201 => some ((1 : Int32), S201))) else (lt (sI S197 20 0 (1 : Int32)) (fun S202 => some ((1 : Int32), S202)))))))) else (if x192 = 0 then (lt (sI S22 20 0 (3 : Int32)) (fun S204 => some ((1 : Int32), S204))) else (if x192 = (2 : Int32) then (lt (sI S22 20 0 (0 : Int32)) (fun S206 => some ((1 : Int32), S206))) else (lt (sI S22 20 0 (1 : Int32)) (fun S207 => some ((1 : Int32), S207)))))) else (if (S22.1 20 0) = (5 : Int32) then (bnd (f_R_record g S22 (5 : Int32)) (fun r209 S210 => if r209 = 0 then (some ((1 : Int32), S210)) else (lt (sI S210 20 0 (0 : Int32)) (fun S213 => some ((1 : Int32), S213))))) else (if x192 = 0 then (bnd (f_R_giveOut g S22) (fun _ S216 => some ((1 : Int32), S216))) else (bnd (f_R_record g S22 (6 : Int32)) (fun r218 S219 => if r218 = 0 then (some ((1 : Int32), S219)) else (lt (sI S219 20 0 (3 : Int32)) (fun S222 => some ((1 : Int32), S222))))))))) else (some ((0 : Int32), S22))) else (some ((0 : Int32), S22)))) else (if (S22.1 20 0) = (5 : Int32) then (if (S22.1 29 ((0 : Int32).toNatClampNeg)) = (131 : Int32) then (lt (S22.1 29 ((10 : Int32).toNatClampNeg)) (fun x225 => if (S22.1 20 0) = (2 : Int32) then (if x225 = (2 : Int32) then (grd (¬ ((S22.1 21 0) < 0 ∨ 16 ≤ (S22.1 21 0).toNatClampNeg)) (lt (sI S22 13 ((S22.1 21 0).toNatClampNeg) (1 : Int32)) (fun S229 => lt (sI S229 21 0 (-1 : Int32)) (fun S230 => if x225 = 0 then (lt (sI S230 20 0 (3 : Int32)) (fun S232 => some ((1 : Int32), S232))) else (if x225 = (2 : Int32) then (lt (sI S230 20 0 (0 : Int32)) (fun S234 => some ((1 : Int32), S234))) else (lt (sI S230 20 0 (1 : Int32)) (fun S235 => some ((1 : Int32), S235)))))))) else (if x225 = 0 then (lt (sI S22 20 0 (3 : Int32)) (fun S237 => some ((1 : Int32), S237))) else (if x225 = (2 : Int32) then (lt (sI S22 20 0 (0 : Int32)) (fun S239 => some ((1 : Int32), S239))) else (lt (sI S22 20 0 (1 : Int32)) (fun S240 => some ((1 : Int32), S240)))))) else (if (S22.1 20 0) = (5 : Int32) then (bnd (f_R_record g S22 (5 : Int32)) (fun r242 S243 => if r242 = 0 then (some ((1 : Int32), S243)) else (lt (sI S243 20 0 (0 : Int32)) (fun S246 => some ((1 : Int32), S246))))) else (if x225 = 0 then (bnd (f_R_giveOut g S22) (fun _ S249 => some ((1 : Int32), S249))) else (bnd (f_R_record g S22 (6 : Int32)) (fun r251 S252 => if r251 = 0 then (some ((1 : Int32), S252)) else (lt (sI S252 20 0 (3 : Int32)) (fun S255 => some ((1 : Int32), S255))))))))) else (some ((0 : Int32), S22))) else (some ((0 : Int32), S22))))) else (some ((0 : Int32), S22)))
set_option maxRecDepth 100000 in
set_option maxHeartbeats 4000000 in
theorem c_R_machineTakes {l : Launch} {D : va_G} {cI cJ cZ cL : ClassId} {a : Nat → Nat} (g : Nat) (S : Mem) {r : Int32} {S9 : Mem} (h : f_R_machineTakes g S = some (r, S9)) : Ctr l y_R_machineTakes prog_9_method_20_code 3 (some .boolean) rm_R_machineTakes D (tyT cI cJ cZ cL) (wdR cI cJ cZ cL a) [.ref (a 0)] S (vI r, S9) := by
  refine Ctr.of (lv0 := [(0, .ref (a 0))]) (vv := vI) (by decide) rfl (wdR_fst cI cJ cZ cL a) (Nat.le_of_ble_eq_true rfl) rfl (fun p e s m args below meth c A C => ?_) r S9 h
  unfold f_R_machineTakes
  refine j_aload_n C 0 rfl rfl d_R_machineTakes_0 ?_
  refine j_iconst (v := 1) C (by decide) d_R_machineTakes_1 ?_
  refine j_bnd (fun r21 S22 e23 => ?_)
  refine j_callVi (As := [.int (1 : Int32)]) (rest := []) C 0 7 Y_R_numberAt u_888 (c_R_numberAt g S (1 : Int32) e23) rfl rfl ⟨by decide, by decide⟩ rfl rfl rfl rfl (Nat.le_of_ble_eq_true rfl) d_R_machineTakes_2 ?_
  refine j_aload_n C 0 rfl rfl d_R_machineTakes_5 ?_
  refine gR_R_trace C u_712 d_R_machineTakes_6 ?_
  refine j_icmp_ne (tgt := 76) C d_R_machineTakes_9 (by decide) (fun h24 => ?_) (fun h24 => ?_)
  · refine j_aload_n C 0 rfl rfl d_R_machineTakes_12 ?_
    refine gR_R_phase C u_710 d_R_machineTakes_13 ?_
    refine j_iconst (v := 2) C (by decide) d_R_machineTakes_16 ?_
    refine j_icmp_ne (tgt := 32) C d_R_machineTakes_17 (by decide) (fun h25 => ?_) (fun h25 => ?_)
    · refine j_aload_n C 0 rfl rfl d_R_machineTakes_20 ?_
      refine gR_R_letter C u_719 d_R_machineTakes_21 ?_
      refine j_iconst (v := 0) C (by decide) d_R_machineTakes_24 ?_
      refine lR_R_letter C (by decide) d_R_machineTakes_25 ?_
      refine j_sipush (v := 129) C (by decide) d_R_machineTakes_26 ?_
      refine j_icmp_eq (tgt := 72) C d_R_machineTakes_29 (by decide) (fun h26 => ?_) (fun h26 => ?_)
      · refine j_iconst (v := 1) C (by decide) d_R_machineTakes_72 ?_
        refine j_goto (tgt := 77) C d_R_machineTakes_73 (by decide) ?_
        refine j_istore_n (i := 1) (lv2 := [(1, .int (1 : Int32)), (0, .ref (a 0))]) C rfl (by decide) rfl d_R_machineTakes_77 ?_
        refine j_iload_n C 0 rfl rfl d_R_machineTakes_78 ?_
        refine j_if_ne_T (tgt := 84) C d_R_machineTakes_79 (by decide) (by decide) ?_
        refine j_aload_n C 1 rfl rfl d_R_machineTakes_84 ?_
        refine gR_R_letter C u_719 d_R_machineTakes_85 ?_
        refine j_bipush (v := 10) C (by decide) d_R_machineTakes_88 ?_
        refine lR_R_letter C (by decide) d_R_machineTakes_90 ?_
        refine j_lti (fun x27 => ?_)
        refine j_istore_n (i := 2) (lv2 := [(2, .int x27), (1, .int (1 : Int32)), (0, .ref (a 0))]) C rfl (by decide) rfl d_R_machineTakes_91 ?_
        refine j_aload_n C 2 rfl rfl d_R_machineTakes_92 ?_
        refine gR_R_phase C u_710 d_R_machineTakes_93 ?_
        refine j_iconst (v := 2) C (by decide) d_R_machineTakes_96 ?_
        refine j_icmp_ne (tgt := 145) C d_R_machineTakes_97 (by decide) (fun h28 => ?_) (fun h28 => ?_)
        · refine j_iload_n C 0 rfl rfl d_R_machineTakes_100 ?_
          refine j_iconst (v := 2) C (by decide) d_R_machineTakes_101 ?_
          refine j_icmp_ne (tgt := 120) C d_R_machineTakes_102 (by decide) (fun h29 => ?_) (fun h29 => ?_)
          · refine j_aload_n C 2 rfl rfl d_R_machineTakes_105 ?_
            refine gR_R_isKept C u_703 d_R_machineTakes_106 ?_
            refine j_aload_n C 2 rfl rfl d_R_machineTakes_109 ?_
            refine gR_R_slotCard C u_711 d_R_machineTakes_110 ?_
            refine j_iconst (v := 1) C (by decide) d_R_machineTakes_113 ?_
            refine j_grd (fun h30 => ?_)
            refine sR_R_isKept C (Or.inr rfl) h30 d_R_machineTakes_114 ?_
            refine j_ltS (fun S31 => ?_)
            refine j_aload_n C 2 rfl rfl d_R_machineTakes_115 ?_
            refine j_iconst (v := -1) C (by decide) d_R_machineTakes_116 ?_
            refine pR_R_slotCard C u_711 d_R_machineTakes_117 ?_
            refine j_ltS (fun S32 => ?_)
            refine j_aload_n C 2 rfl rfl d_R_machineTakes_120 ?_
            refine j_iload_n C 0 rfl rfl d_R_machineTakes_121 ?_
            refine j_if_ne (tgt := 129) C d_R_machineTakes_122 (by decide) (fun h33 => ?_) (fun h33 => ?_)
            · refine j_iconst (v := 3) C (by decide) d_R_machineTakes_125 ?_
              refine j_goto (tgt := 139) C d_R_machineTakes_126 (by decide) ?_
              refine pR_R_phase C u_710 d_R_machineTakes_139 ?_
              refine j_ltS (fun S34 => ?_)
              refine j_goto (tgt := 194) C d_R_machineTakes_142 (by decide) ?_
              refine j_iconst (v := 1) C (by decide) d_R_machineTakes_194 ?_
              exact j_zret C (Or.inr rfl) rfl rfl d_R_machineTakes_195
            · refine j_iload_n C 0 rfl rfl d_R_machineTakes_129 ?_
              refine j_iconst (v := 2) C (by decide) d_R_machineTakes_130 ?_
              refine j_icmp_ne (tgt := 138) C d_R_machineTakes_131 (by decide) (fun h35 => ?_) (fun h35 => ?_)
              · refine j_iconst (v := 0) C (by decide) d_R_machineTakes_134 ?_
                refine j_goto (tgt := 139) C d_R_machineTakes_135 (by decide) ?_
                refine pR_R_phase C u_710 d_R_machineTakes_139 ?_
                refine j_ltS (fun S36 => ?_)
                refine j_goto (tgt := 194) C d_R_machineTakes_142 (by decide) ?_
                refine j_iconst (v := 1) C (by decide) d_R_machineTakes_194 ?_
                exact j_zret C (Or.inr rfl) rfl rfl d_R_machineTakes_195
              · refine j_iconst (v := 1) C (by decide) d_R_machineTakes_138 ?_
                refine pR_R_phase C u_710 d_R_machineTakes_139 ?_
                refine j_ltS (fun S37 => ?_)
                refine j_goto (tgt := 194) C d_R_machineTakes_142 (by decide) ?_
                refine j_iconst (v := 1) C (by decide) d_R_machineTakes_194 ?_
                exact j_zret C (Or.inr rfl) rfl rfl d_R_machineTakes_195
          · refine j_aload_n C 2 rfl rfl d_R_machineTakes_120 ?_
            refine j_iload_n C 0 rfl rfl d_R_machineTakes_121 ?_
            refine j_if_ne (tgt := 129) C d_R_machineTakes_122 (by decide) (fun h38 => ?_) (fun h38 => ?_)
            · refine j_iconst (v := 3) C (by decide) d_R_machineTakes_125 ?_
              refine j_goto (tgt := 139) C d_R_machineTakes_126 (by decide) ?_
              refine pR_R_phase C u_710 d_R_machineTakes_139 ?_
              refine j_ltS (fun S39 => ?_)
              refine j_goto (tgt := 194) C d_R_machineTakes_142 (by decide) ?_
              refine j_iconst (v := 1) C (by decide) d_R_machineTakes_194 ?_
              exact j_zret C (Or.inr rfl) rfl rfl d_R_machineTakes_195
            · refine j_iload_n C 0 rfl rfl d_R_machineTakes_129 ?_
              refine j_iconst (v := 2) C (by decide) d_R_machineTakes_130 ?_
              refine j_icmp_ne (tgt := 138) C d_R_machineTakes_131 (by decide) (fun h40 => ?_) (fun h40 => ?_)
              · refine j_iconst (v := 0) C (by decide) d_R_machineTakes_134 ?_
                refine j_goto (tgt := 139) C d_R_machineTakes_135 (by decide) ?_
                refine pR_R_phase C u_710 d_R_machineTakes_139 ?_
                refine j_ltS (fun S41 => ?_)
                refine j_goto (tgt := 194) C d_R_machineTakes_142 (by decide) ?_
                refine j_iconst (v := 1) C (by decide) d_R_machineTakes_194 ?_
                exact j_zret C (Or.inr rfl) rfl rfl d_R_machineTakes_195
              · refine j_iconst (v := 1) C (by decide) d_R_machineTakes_138 ?_
                refine pR_R_phase C u_710 d_R_machineTakes_139 ?_
                refine j_ltS (fun S42 => ?_)
                refine j_goto (tgt := 194) C d_R_machineTakes_142 (by decide) ?_
                refine j_iconst (v := 1) C (by decide) d_R_machineTakes_194 ?_
                exact j_zret C (Or.inr rfl) rfl rfl d_R_machineTakes_195
        · refine j_aload_n C 2 rfl rfl d_R_machineTakes_145 ?_
          refine gR_R_phase C u_710 d_R_machineTakes_146 ?_
          refine j_iconst (v := 5) C (by decide) d_R_machineTakes_149 ?_
          refine j_icmp_ne (tgt := 169) C d_R_machineTakes_150 (by decide) (fun h43 => ?_) (fun h43 => ?_)
          · refine j_aload_n C 2 rfl rfl d_R_machineTakes_153 ?_
            refine j_iconst (v := 5) C (by decide) d_R_machineTakes_154 ?_
            refine j_bnd (fun r44 S45 e46 => ?_)
            refine j_callVi (As := [.int (5 : Int32)]) (rest := []) C 0 7 Y_R_record u_848 (c_R_record g S22 (5 : Int32) e46) rfl rfl ⟨by decide, by decide⟩ rfl rfl rfl rfl (Nat.le_of_ble_eq_true rfl) d_R_machineTakes_155 ?_
            refine j_if_eq (tgt := 194) C d_R_machineTakes_158 (by decide) (fun h47 => ?_) (fun h47 => ?_)
            · refine j_iconst (v := 1) C (by decide) d_R_machineTakes_194 ?_
              exact j_zret C (Or.inr rfl) rfl rfl d_R_machineTakes_195
            · refine j_aload_n C 2 rfl rfl d_R_machineTakes_161 ?_
              refine j_iconst (v := 0) C (by decide) d_R_machineTakes_162 ?_
              refine pR_R_phase C u_710 d_R_machineTakes_163 ?_
              refine j_ltS (fun S48 => ?_)
              refine j_goto (tgt := 194) C d_R_machineTakes_166 (by decide) ?_
              refine j_iconst (v := 1) C (by decide) d_R_machineTakes_194 ?_
              exact j_zret C (Or.inr rfl) rfl rfl d_R_machineTakes_195
          · refine j_iload_n C 0 rfl rfl d_R_machineTakes_169 ?_
            refine j_if_eq (tgt := 190) C d_R_machineTakes_170 (by decide) (fun h49 => ?_) (fun h49 => ?_)
            · refine j_aload_n C 2 rfl rfl d_R_machineTakes_190 ?_
              refine j_bnd (fun _ S51 e52 => ?_)
              refine j_callVv (As := []) (rest := []) C 0 7 Y_R_giveOut u_892 (c_R_giveOut g S22 e52) rfl rfl ⟨by decide, by decide⟩ rfl rfl rfl rfl (Nat.le_of_ble_eq_true rfl) d_R_machineTakes_191 ?_
              refine j_iconst (v := 1) C (by decide) d_R_machineTakes_194 ?_
              exact j_zret C (Or.inr rfl) rfl rfl d_R_machineTakes_195
            · refine j_aload_n C 2 rfl rfl d_R_machineTakes_173 ?_
              refine j_bipush (v := 6) C (by decide) d_R_machineTakes_174 ?_
              refine j_bnd (fun r53 S54 e55 => ?_)
              refine j_callVi (As := [.int (6 : Int32)]) (rest := []) C 0 7 Y_R_record u_848 (c_R_record g S22 (6 : Int32) e55) rfl rfl ⟨by decide, by decide⟩ rfl rfl rfl rfl (Nat.le_of_ble_eq_true rfl) d_R_machineTakes_176 ?_
              refine j_if_eq (tgt := 194) C d_R_machineTakes_179 (by decide) (fun h56 => ?_) (fun h56 => ?_)
              · refine j_iconst (v := 1) C (by decide) d_R_machineTakes_194 ?_
                exact j_zret C (Or.inr rfl) rfl rfl d_R_machineTakes_195
              · refine j_aload_n C 2 rfl rfl d_R_machineTakes_182 ?_
                refine j_iconst (v := 3) C (by decide) d_R_machineTakes_183 ?_
                refine pR_R_phase C u_710 d_R_machineTakes_184 ?_
                refine j_ltS (fun S57 => ?_)
                refine j_goto (tgt := 194) C d_R_machineTakes_187 (by decide) ?_
                refine j_iconst (v := 1) C (by decide) d_R_machineTakes_194 ?_
                exact j_zret C (Or.inr rfl) rfl rfl d_R_machineTakes_195
      · refine j_aload_n C 0 rfl rfl d_R_machineTakes_32 ?_
        refine gR_R_phase C u_710 d_R_machineTakes_33 ?_
        refine j_iconst (v := 4) C (by decide) d_R_machineTakes_36 ?_
        refine j_icmp_ne (tgt := 52) C d_R_machineTakes_37 (by decide) (fun h58 => ?_) (fun h58 => ?_)
        · refine j_aload_n C 0 rfl rfl d_R_machineTakes_40 ?_
          refine gR_R_letter C u_719 d_R_machineTakes_41 ?_
          refine j_iconst (v := 0) C (by decide) d_R_machineTakes_44 ?_
          refine lR_R_letter C (by decide) d_R_machineTakes_45 ?_
          refine j_sipush (v := 130) C (by decide) d_R_machineTakes_46 ?_
          refine j_icmp_eq (tgt := 72) C d_R_machineTakes_49 (by decide) (fun h59 => ?_) (fun h59 => ?_)
          · refine j_iconst (v := 1) C (by decide) d_R_machineTakes_72 ?_
            refine j_goto (tgt := 77) C d_R_machineTakes_73 (by decide) ?_
            refine j_istore_n (i := 1) (lv2 := [(1, .int (1 : Int32)), (0, .ref (a 0))]) C rfl (by decide) rfl d_R_machineTakes_77 ?_
            refine j_iload_n C 0 rfl rfl d_R_machineTakes_78 ?_
            refine j_if_ne_T (tgt := 84) C d_R_machineTakes_79 (by decide) (by decide) ?_
            refine j_aload_n C 1 rfl rfl d_R_machineTakes_84 ?_
            refine gR_R_letter C u_719 d_R_machineTakes_85 ?_
            refine j_bipush (v := 10) C (by decide) d_R_machineTakes_88 ?_
            refine lR_R_letter C (by decide) d_R_machineTakes_90 ?_
            refine j_lti (fun x60 => ?_)
            refine j_istore_n (i := 2) (lv2 := [(2, .int x60), (1, .int (1 : Int32)), (0, .ref (a 0))]) C rfl (by decide) rfl d_R_machineTakes_91 ?_
            refine j_aload_n C 2 rfl rfl d_R_machineTakes_92 ?_
            refine gR_R_phase C u_710 d_R_machineTakes_93 ?_
            refine j_iconst (v := 2) C (by decide) d_R_machineTakes_96 ?_
            refine j_icmp_ne (tgt := 145) C d_R_machineTakes_97 (by decide) (fun h61 => ?_) (fun h61 => ?_)
            · refine j_iload_n C 0 rfl rfl d_R_machineTakes_100 ?_
              refine j_iconst (v := 2) C (by decide) d_R_machineTakes_101 ?_
              refine j_icmp_ne (tgt := 120) C d_R_machineTakes_102 (by decide) (fun h62 => ?_) (fun h62 => ?_)
              · refine j_aload_n C 2 rfl rfl d_R_machineTakes_105 ?_
                refine gR_R_isKept C u_703 d_R_machineTakes_106 ?_
                refine j_aload_n C 2 rfl rfl d_R_machineTakes_109 ?_
                refine gR_R_slotCard C u_711 d_R_machineTakes_110 ?_
                refine j_iconst (v := 1) C (by decide) d_R_machineTakes_113 ?_
                refine j_grd (fun h63 => ?_)
                refine sR_R_isKept C (Or.inr rfl) h63 d_R_machineTakes_114 ?_
                refine j_ltS (fun S64 => ?_)
                refine j_aload_n C 2 rfl rfl d_R_machineTakes_115 ?_
                refine j_iconst (v := -1) C (by decide) d_R_machineTakes_116 ?_
                refine pR_R_slotCard C u_711 d_R_machineTakes_117 ?_
                refine j_ltS (fun S65 => ?_)
                refine j_aload_n C 2 rfl rfl d_R_machineTakes_120 ?_
                refine j_iload_n C 0 rfl rfl d_R_machineTakes_121 ?_
                refine j_if_ne (tgt := 129) C d_R_machineTakes_122 (by decide) (fun h66 => ?_) (fun h66 => ?_)
                · refine j_iconst (v := 3) C (by decide) d_R_machineTakes_125 ?_
                  refine j_goto (tgt := 139) C d_R_machineTakes_126 (by decide) ?_
                  refine pR_R_phase C u_710 d_R_machineTakes_139 ?_
                  refine j_ltS (fun S67 => ?_)
                  refine j_goto (tgt := 194) C d_R_machineTakes_142 (by decide) ?_
                  refine j_iconst (v := 1) C (by decide) d_R_machineTakes_194 ?_
                  exact j_zret C (Or.inr rfl) rfl rfl d_R_machineTakes_195
                · refine j_iload_n C 0 rfl rfl d_R_machineTakes_129 ?_
                  refine j_iconst (v := 2) C (by decide) d_R_machineTakes_130 ?_
                  refine j_icmp_ne (tgt := 138) C d_R_machineTakes_131 (by decide) (fun h68 => ?_) (fun h68 => ?_)
                  · refine j_iconst (v := 0) C (by decide) d_R_machineTakes_134 ?_
                    refine j_goto (tgt := 139) C d_R_machineTakes_135 (by decide) ?_
                    refine pR_R_phase C u_710 d_R_machineTakes_139 ?_
                    refine j_ltS (fun S69 => ?_)
                    refine j_goto (tgt := 194) C d_R_machineTakes_142 (by decide) ?_
                    refine j_iconst (v := 1) C (by decide) d_R_machineTakes_194 ?_
                    exact j_zret C (Or.inr rfl) rfl rfl d_R_machineTakes_195
                  · refine j_iconst (v := 1) C (by decide) d_R_machineTakes_138 ?_
                    refine pR_R_phase C u_710 d_R_machineTakes_139 ?_
                    refine j_ltS (fun S70 => ?_)
                    refine j_goto (tgt := 194) C d_R_machineTakes_142 (by decide) ?_
                    refine j_iconst (v := 1) C (by decide) d_R_machineTakes_194 ?_
                    exact j_zret C (Or.inr rfl) rfl rfl d_R_machineTakes_195
              · refine j_aload_n C 2 rfl rfl d_R_machineTakes_120 ?_
                refine j_iload_n C 0 rfl rfl d_R_machineTakes_121 ?_
                refine j_if_ne (tgt := 129) C d_R_machineTakes_122 (by decide) (fun h71 => ?_) (fun h71 => ?_)
                · refine j_iconst (v := 3) C (by decide) d_R_machineTakes_125 ?_
                  refine j_goto (tgt := 139) C d_R_machineTakes_126 (by decide) ?_
                  refine pR_R_phase C u_710 d_R_machineTakes_139 ?_
                  refine j_ltS (fun S72 => ?_)
                  refine j_goto (tgt := 194) C d_R_machineTakes_142 (by decide) ?_
                  refine j_iconst (v := 1) C (by decide) d_R_machineTakes_194 ?_
                  exact j_zret C (Or.inr rfl) rfl rfl d_R_machineTakes_195
                · refine j_iload_n C 0 rfl rfl d_R_machineTakes_129 ?_
                  refine j_iconst (v := 2) C (by decide) d_R_machineTakes_130 ?_
                  refine j_icmp_ne (tgt := 138) C d_R_machineTakes_131 (by decide) (fun h73 => ?_) (fun h73 => ?_)
                  · refine j_iconst (v := 0) C (by decide) d_R_machineTakes_134 ?_
                    refine j_goto (tgt := 139) C d_R_machineTakes_135 (by decide) ?_
                    refine pR_R_phase C u_710 d_R_machineTakes_139 ?_
                    refine j_ltS (fun S74 => ?_)
                    refine j_goto (tgt := 194) C d_R_machineTakes_142 (by decide) ?_
                    refine j_iconst (v := 1) C (by decide) d_R_machineTakes_194 ?_
                    exact j_zret C (Or.inr rfl) rfl rfl d_R_machineTakes_195
                  · refine j_iconst (v := 1) C (by decide) d_R_machineTakes_138 ?_
                    refine pR_R_phase C u_710 d_R_machineTakes_139 ?_
                    refine j_ltS (fun S75 => ?_)
                    refine j_goto (tgt := 194) C d_R_machineTakes_142 (by decide) ?_
                    refine j_iconst (v := 1) C (by decide) d_R_machineTakes_194 ?_
                    exact j_zret C (Or.inr rfl) rfl rfl d_R_machineTakes_195
            · refine j_aload_n C 2 rfl rfl d_R_machineTakes_145 ?_
              refine gR_R_phase C u_710 d_R_machineTakes_146 ?_
              refine j_iconst (v := 5) C (by decide) d_R_machineTakes_149 ?_
              refine j_icmp_ne (tgt := 169) C d_R_machineTakes_150 (by decide) (fun h76 => ?_) (fun h76 => ?_)
              · refine j_aload_n C 2 rfl rfl d_R_machineTakes_153 ?_
                refine j_iconst (v := 5) C (by decide) d_R_machineTakes_154 ?_
                refine j_bnd (fun r77 S78 e79 => ?_)
                refine j_callVi (As := [.int (5 : Int32)]) (rest := []) C 0 7 Y_R_record u_848 (c_R_record g S22 (5 : Int32) e79) rfl rfl ⟨by decide, by decide⟩ rfl rfl rfl rfl (Nat.le_of_ble_eq_true rfl) d_R_machineTakes_155 ?_
                refine j_if_eq (tgt := 194) C d_R_machineTakes_158 (by decide) (fun h80 => ?_) (fun h80 => ?_)
                · refine j_iconst (v := 1) C (by decide) d_R_machineTakes_194 ?_
                  exact j_zret C (Or.inr rfl) rfl rfl d_R_machineTakes_195
                · refine j_aload_n C 2 rfl rfl d_R_machineTakes_161 ?_
                  refine j_iconst (v := 0) C (by decide) d_R_machineTakes_162 ?_
                  refine pR_R_phase C u_710 d_R_machineTakes_163 ?_
                  refine j_ltS (fun S81 => ?_)
                  refine j_goto (tgt := 194) C d_R_machineTakes_166 (by decide) ?_
                  refine j_iconst (v := 1) C (by decide) d_R_machineTakes_194 ?_
                  exact j_zret C (Or.inr rfl) rfl rfl d_R_machineTakes_195
              · refine j_iload_n C 0 rfl rfl d_R_machineTakes_169 ?_
                refine j_if_eq (tgt := 190) C d_R_machineTakes_170 (by decide) (fun h82 => ?_) (fun h82 => ?_)
                · refine j_aload_n C 2 rfl rfl d_R_machineTakes_190 ?_
                  refine j_bnd (fun _ S84 e85 => ?_)
                  refine j_callVv (As := []) (rest := []) C 0 7 Y_R_giveOut u_892 (c_R_giveOut g S22 e85) rfl rfl ⟨by decide, by decide⟩ rfl rfl rfl rfl (Nat.le_of_ble_eq_true rfl) d_R_machineTakes_191 ?_
                  refine j_iconst (v := 1) C (by decide) d_R_machineTakes_194 ?_
                  exact j_zret C (Or.inr rfl) rfl rfl d_R_machineTakes_195
                · refine j_aload_n C 2 rfl rfl d_R_machineTakes_173 ?_
                  refine j_bipush (v := 6) C (by decide) d_R_machineTakes_174 ?_
                  refine j_bnd (fun r86 S87 e88 => ?_)
                  refine j_callVi (As := [.int (6 : Int32)]) (rest := []) C 0 7 Y_R_record u_848 (c_R_record g S22 (6 : Int32) e88) rfl rfl ⟨by decide, by decide⟩ rfl rfl rfl rfl (Nat.le_of_ble_eq_true rfl) d_R_machineTakes_176 ?_
                  refine j_if_eq (tgt := 194) C d_R_machineTakes_179 (by decide) (fun h89 => ?_) (fun h89 => ?_)
                  · refine j_iconst (v := 1) C (by decide) d_R_machineTakes_194 ?_
                    exact j_zret C (Or.inr rfl) rfl rfl d_R_machineTakes_195
                  · refine j_aload_n C 2 rfl rfl d_R_machineTakes_182 ?_
                    refine j_iconst (v := 3) C (by decide) d_R_machineTakes_183 ?_
                    refine pR_R_phase C u_710 d_R_machineTakes_184 ?_
                    refine j_ltS (fun S90 => ?_)
                    refine j_goto (tgt := 194) C d_R_machineTakes_187 (by decide) ?_
                    refine j_iconst (v := 1) C (by decide) d_R_machineTakes_194 ?_
                    exact j_zret C (Or.inr rfl) rfl rfl d_R_machineTakes_195
          · refine j_aload_n C 0 rfl rfl d_R_machineTakes_52 ?_
            refine gR_R_phase C u_710 d_R_machineTakes_53 ?_
            refine j_iconst (v := 5) C (by decide) d_R_machineTakes_56 ?_
            refine j_icmp_ne (tgt := 76) C d_R_machineTakes_57 (by decide) (fun h91 => ?_) (fun h91 => ?_)
            · refine j_aload_n C 0 rfl rfl d_R_machineTakes_60 ?_
              refine gR_R_letter C u_719 d_R_machineTakes_61 ?_
              refine j_iconst (v := 0) C (by decide) d_R_machineTakes_64 ?_
              refine lR_R_letter C (by decide) d_R_machineTakes_65 ?_
              refine j_sipush (v := 131) C (by decide) d_R_machineTakes_66 ?_
              refine j_icmp_ne (tgt := 76) C d_R_machineTakes_69 (by decide) (fun h92 => ?_) (fun h92 => ?_)
              · refine j_iconst (v := 1) C (by decide) d_R_machineTakes_72 ?_
                refine j_goto (tgt := 77) C d_R_machineTakes_73 (by decide) ?_
                refine j_istore_n (i := 1) (lv2 := [(1, .int (1 : Int32)), (0, .ref (a 0))]) C rfl (by decide) rfl d_R_machineTakes_77 ?_
                refine j_iload_n C 0 rfl rfl d_R_machineTakes_78 ?_
                refine j_if_ne_T (tgt := 84) C d_R_machineTakes_79 (by decide) (by decide) ?_
                refine j_aload_n C 1 rfl rfl d_R_machineTakes_84 ?_
                refine gR_R_letter C u_719 d_R_machineTakes_85 ?_
                refine j_bipush (v := 10) C (by decide) d_R_machineTakes_88 ?_
                refine lR_R_letter C (by decide) d_R_machineTakes_90 ?_
                refine j_lti (fun x93 => ?_)
                refine j_istore_n (i := 2) (lv2 := [(2, .int x93), (1, .int (1 : Int32)), (0, .ref (a 0))]) C rfl (by decide) rfl d_R_machineTakes_91 ?_
                refine j_aload_n C 2 rfl rfl d_R_machineTakes_92 ?_
                refine gR_R_phase C u_710 d_R_machineTakes_93 ?_
                refine j_iconst (v := 2) C (by decide) d_R_machineTakes_96 ?_
                refine j_icmp_ne (tgt := 145) C d_R_machineTakes_97 (by decide) (fun h94 => ?_) (fun h94 => ?_)
                · refine j_iload_n C 0 rfl rfl d_R_machineTakes_100 ?_
                  refine j_iconst (v := 2) C (by decide) d_R_machineTakes_101 ?_
                  refine j_icmp_ne (tgt := 120) C d_R_machineTakes_102 (by decide) (fun h95 => ?_) (fun h95 => ?_)
                  · refine j_aload_n C 2 rfl rfl d_R_machineTakes_105 ?_
                    refine gR_R_isKept C u_703 d_R_machineTakes_106 ?_
                    refine j_aload_n C 2 rfl rfl d_R_machineTakes_109 ?_
                    refine gR_R_slotCard C u_711 d_R_machineTakes_110 ?_
                    refine j_iconst (v := 1) C (by decide) d_R_machineTakes_113 ?_
                    refine j_grd (fun h96 => ?_)
                    refine sR_R_isKept C (Or.inr rfl) h96 d_R_machineTakes_114 ?_
                    refine j_ltS (fun S97 => ?_)
                    refine j_aload_n C 2 rfl rfl d_R_machineTakes_115 ?_
                    refine j_iconst (v := -1) C (by decide) d_R_machineTakes_116 ?_
                    refine pR_R_slotCard C u_711 d_R_machineTakes_117 ?_
                    refine j_ltS (fun S98 => ?_)
                    refine j_aload_n C 2 rfl rfl d_R_machineTakes_120 ?_
                    refine j_iload_n C 0 rfl rfl d_R_machineTakes_121 ?_
                    refine j_if_ne (tgt := 129) C d_R_machineTakes_122 (by decide) (fun h99 => ?_) (fun h99 => ?_)
                    · refine j_iconst (v := 3) C (by decide) d_R_machineTakes_125 ?_
                      refine j_goto (tgt := 139) C d_R_machineTakes_126 (by decide) ?_
                      refine pR_R_phase C u_710 d_R_machineTakes_139 ?_
                      refine j_ltS (fun S100 => ?_)
                      refine j_goto (tgt := 194) C d_R_machineTakes_142 (by decide) ?_
                      refine j_iconst (v := 1) C (by decide) d_R_machineTakes_194 ?_
                      exact j_zret C (Or.inr rfl) rfl rfl d_R_machineTakes_195
                    · refine j_iload_n C 0 rfl rfl d_R_machineTakes_129 ?_
                      refine j_iconst (v := 2) C (by decide) d_R_machineTakes_130 ?_
                      refine j_icmp_ne (tgt := 138) C d_R_machineTakes_131 (by decide) (fun h101 => ?_) (fun h101 => ?_)
                      · refine j_iconst (v := 0) C (by decide) d_R_machineTakes_134 ?_
                        refine j_goto (tgt := 139) C d_R_machineTakes_135 (by decide) ?_
                        refine pR_R_phase C u_710 d_R_machineTakes_139 ?_
                        refine j_ltS (fun S102 => ?_)
                        refine j_goto (tgt := 194) C d_R_machineTakes_142 (by decide) ?_
                        refine j_iconst (v := 1) C (by decide) d_R_machineTakes_194 ?_
                        exact j_zret C (Or.inr rfl) rfl rfl d_R_machineTakes_195
                      · refine j_iconst (v := 1) C (by decide) d_R_machineTakes_138 ?_
                        refine pR_R_phase C u_710 d_R_machineTakes_139 ?_
                        refine j_ltS (fun S103 => ?_)
                        refine j_goto (tgt := 194) C d_R_machineTakes_142 (by decide) ?_
                        refine j_iconst (v := 1) C (by decide) d_R_machineTakes_194 ?_
                        exact j_zret C (Or.inr rfl) rfl rfl d_R_machineTakes_195
                  · refine j_aload_n C 2 rfl rfl d_R_machineTakes_120 ?_
                    refine j_iload_n C 0 rfl rfl d_R_machineTakes_121 ?_
                    refine j_if_ne (tgt := 129) C d_R_machineTakes_122 (by decide) (fun h104 => ?_) (fun h104 => ?_)
                    · refine j_iconst (v := 3) C (by decide) d_R_machineTakes_125 ?_
                      refine j_goto (tgt := 139) C d_R_machineTakes_126 (by decide) ?_
                      refine pR_R_phase C u_710 d_R_machineTakes_139 ?_
                      refine j_ltS (fun S105 => ?_)
                      refine j_goto (tgt := 194) C d_R_machineTakes_142 (by decide) ?_
                      refine j_iconst (v := 1) C (by decide) d_R_machineTakes_194 ?_
                      exact j_zret C (Or.inr rfl) rfl rfl d_R_machineTakes_195
                    · refine j_iload_n C 0 rfl rfl d_R_machineTakes_129 ?_
                      refine j_iconst (v := 2) C (by decide) d_R_machineTakes_130 ?_
                      refine j_icmp_ne (tgt := 138) C d_R_machineTakes_131 (by decide) (fun h106 => ?_) (fun h106 => ?_)
                      · refine j_iconst (v := 0) C (by decide) d_R_machineTakes_134 ?_
                        refine j_goto (tgt := 139) C d_R_machineTakes_135 (by decide) ?_
                        refine pR_R_phase C u_710 d_R_machineTakes_139 ?_
                        refine j_ltS (fun S107 => ?_)
                        refine j_goto (tgt := 194) C d_R_machineTakes_142 (by decide) ?_
                        refine j_iconst (v := 1) C (by decide) d_R_machineTakes_194 ?_
                        exact j_zret C (Or.inr rfl) rfl rfl d_R_machineTakes_195
                      · refine j_iconst (v := 1) C (by decide) d_R_machineTakes_138 ?_
                        refine pR_R_phase C u_710 d_R_machineTakes_139 ?_
                        refine j_ltS (fun S108 => ?_)
                        refine j_goto (tgt := 194) C d_R_machineTakes_142 (by decide) ?_
                        refine j_iconst (v := 1) C (by decide) d_R_machineTakes_194 ?_
                        exact j_zret C (Or.inr rfl) rfl rfl d_R_machineTakes_195
                · refine j_aload_n C 2 rfl rfl d_R_machineTakes_145 ?_
                  refine gR_R_phase C u_710 d_R_machineTakes_146 ?_
                  refine j_iconst (v := 5) C (by decide) d_R_machineTakes_149 ?_
                  refine j_icmp_ne (tgt := 169) C d_R_machineTakes_150 (by decide) (fun h109 => ?_) (fun h109 => ?_)
                  · refine j_aload_n C 2 rfl rfl d_R_machineTakes_153 ?_
                    refine j_iconst (v := 5) C (by decide) d_R_machineTakes_154 ?_
                    refine j_bnd (fun r110 S111 e112 => ?_)
                    refine j_callVi (As := [.int (5 : Int32)]) (rest := []) C 0 7 Y_R_record u_848 (c_R_record g S22 (5 : Int32) e112) rfl rfl ⟨by decide, by decide⟩ rfl rfl rfl rfl (Nat.le_of_ble_eq_true rfl) d_R_machineTakes_155 ?_
                    refine j_if_eq (tgt := 194) C d_R_machineTakes_158 (by decide) (fun h113 => ?_) (fun h113 => ?_)
                    · refine j_iconst (v := 1) C (by decide) d_R_machineTakes_194 ?_
                      exact j_zret C (Or.inr rfl) rfl rfl d_R_machineTakes_195
                    · refine j_aload_n C 2 rfl rfl d_R_machineTakes_161 ?_
                      refine j_iconst (v := 0) C (by decide) d_R_machineTakes_162 ?_
                      refine pR_R_phase C u_710 d_R_machineTakes_163 ?_
                      refine j_ltS (fun S114 => ?_)
                      refine j_goto (tgt := 194) C d_R_machineTakes_166 (by decide) ?_
                      refine j_iconst (v := 1) C (by decide) d_R_machineTakes_194 ?_
                      exact j_zret C (Or.inr rfl) rfl rfl d_R_machineTakes_195
                  · refine j_iload_n C 0 rfl rfl d_R_machineTakes_169 ?_
                    refine j_if_eq (tgt := 190) C d_R_machineTakes_170 (by decide) (fun h115 => ?_) (fun h115 => ?_)
                    · refine j_aload_n C 2 rfl rfl d_R_machineTakes_190 ?_
                      refine j_bnd (fun _ S117 e118 => ?_)
                      refine j_callVv (As := []) (rest := []) C 0 7 Y_R_giveOut u_892 (c_R_giveOut g S22 e118) rfl rfl ⟨by decide, by decide⟩ rfl rfl rfl rfl (Nat.le_of_ble_eq_true rfl) d_R_machineTakes_191 ?_
                      refine j_iconst (v := 1) C (by decide) d_R_machineTakes_194 ?_
                      exact j_zret C (Or.inr rfl) rfl rfl d_R_machineTakes_195
                    · refine j_aload_n C 2 rfl rfl d_R_machineTakes_173 ?_
                      refine j_bipush (v := 6) C (by decide) d_R_machineTakes_174 ?_
                      refine j_bnd (fun r119 S120 e121 => ?_)
                      refine j_callVi (As := [.int (6 : Int32)]) (rest := []) C 0 7 Y_R_record u_848 (c_R_record g S22 (6 : Int32) e121) rfl rfl ⟨by decide, by decide⟩ rfl rfl rfl rfl (Nat.le_of_ble_eq_true rfl) d_R_machineTakes_176 ?_
                      refine j_if_eq (tgt := 194) C d_R_machineTakes_179 (by decide) (fun h122 => ?_) (fun h122 => ?_)
                      · refine j_iconst (v := 1) C (by decide) d_R_machineTakes_194 ?_
                        exact j_zret C (Or.inr rfl) rfl rfl d_R_machineTakes_195
                      · refine j_aload_n C 2 rfl rfl d_R_machineTakes_182 ?_
                        refine j_iconst (v := 3) C (by decide) d_R_machineTakes_183 ?_
                        refine pR_R_phase C u_710 d_R_machineTakes_184 ?_
                        refine j_ltS (fun S123 => ?_)
                        refine j_goto (tgt := 194) C d_R_machineTakes_187 (by decide) ?_
                        refine j_iconst (v := 1) C (by decide) d_R_machineTakes_194 ?_
                        exact j_zret C (Or.inr rfl) rfl rfl d_R_machineTakes_195
              · refine j_iconst (v := 0) C (by decide) d_R_machineTakes_76 ?_
                refine j_istore_n (i := 1) (lv2 := [(1, .int (0 : Int32)), (0, .ref (a 0))]) C rfl (by decide) rfl d_R_machineTakes_77 ?_
                refine j_iload_n C 0 rfl rfl d_R_machineTakes_78 ?_
                refine j_if_ne_F (tgt := 84) C d_R_machineTakes_79 (by decide) (by decide) ?_
                refine j_iconst (v := 0) C (by decide) d_R_machineTakes_82 ?_
                exact j_zret C (Or.inl rfl) rfl rfl d_R_machineTakes_83
            · refine j_iconst (v := 0) C (by decide) d_R_machineTakes_76 ?_
              refine j_istore_n (i := 1) (lv2 := [(1, .int (0 : Int32)), (0, .ref (a 0))]) C rfl (by decide) rfl d_R_machineTakes_77 ?_
              refine j_iload_n C 0 rfl rfl d_R_machineTakes_78 ?_
              refine j_if_ne_F (tgt := 84) C d_R_machineTakes_79 (by decide) (by decide) ?_
              refine j_iconst (v := 0) C (by decide) d_R_machineTakes_82 ?_
              exact j_zret C (Or.inl rfl) rfl rfl d_R_machineTakes_83
        · refine j_aload_n C 0 rfl rfl d_R_machineTakes_52 ?_
          refine gR_R_phase C u_710 d_R_machineTakes_53 ?_
          refine j_iconst (v := 5) C (by decide) d_R_machineTakes_56 ?_
          refine j_icmp_ne (tgt := 76) C d_R_machineTakes_57 (by decide) (fun h124 => ?_) (fun h124 => ?_)
          · refine j_aload_n C 0 rfl rfl d_R_machineTakes_60 ?_
            refine gR_R_letter C u_719 d_R_machineTakes_61 ?_
            refine j_iconst (v := 0) C (by decide) d_R_machineTakes_64 ?_
            refine lR_R_letter C (by decide) d_R_machineTakes_65 ?_
            refine j_sipush (v := 131) C (by decide) d_R_machineTakes_66 ?_
            refine j_icmp_ne (tgt := 76) C d_R_machineTakes_69 (by decide) (fun h125 => ?_) (fun h125 => ?_)
            · refine j_iconst (v := 1) C (by decide) d_R_machineTakes_72 ?_
              refine j_goto (tgt := 77) C d_R_machineTakes_73 (by decide) ?_
              refine j_istore_n (i := 1) (lv2 := [(1, .int (1 : Int32)), (0, .ref (a 0))]) C rfl (by decide) rfl d_R_machineTakes_77 ?_
              refine j_iload_n C 0 rfl rfl d_R_machineTakes_78 ?_
              refine j_if_ne_T (tgt := 84) C d_R_machineTakes_79 (by decide) (by decide) ?_
              refine j_aload_n C 1 rfl rfl d_R_machineTakes_84 ?_
              refine gR_R_letter C u_719 d_R_machineTakes_85 ?_
              refine j_bipush (v := 10) C (by decide) d_R_machineTakes_88 ?_
              refine lR_R_letter C (by decide) d_R_machineTakes_90 ?_
              refine j_lti (fun x126 => ?_)
              refine j_istore_n (i := 2) (lv2 := [(2, .int x126), (1, .int (1 : Int32)), (0, .ref (a 0))]) C rfl (by decide) rfl d_R_machineTakes_91 ?_
              refine j_aload_n C 2 rfl rfl d_R_machineTakes_92 ?_
              refine gR_R_phase C u_710 d_R_machineTakes_93 ?_
              refine j_iconst (v := 2) C (by decide) d_R_machineTakes_96 ?_
              refine j_icmp_ne (tgt := 145) C d_R_machineTakes_97 (by decide) (fun h127 => ?_) (fun h127 => ?_)
              · refine j_iload_n C 0 rfl rfl d_R_machineTakes_100 ?_
                refine j_iconst (v := 2) C (by decide) d_R_machineTakes_101 ?_
                refine j_icmp_ne (tgt := 120) C d_R_machineTakes_102 (by decide) (fun h128 => ?_) (fun h128 => ?_)
                · refine j_aload_n C 2 rfl rfl d_R_machineTakes_105 ?_
                  refine gR_R_isKept C u_703 d_R_machineTakes_106 ?_
                  refine j_aload_n C 2 rfl rfl d_R_machineTakes_109 ?_
                  refine gR_R_slotCard C u_711 d_R_machineTakes_110 ?_
                  refine j_iconst (v := 1) C (by decide) d_R_machineTakes_113 ?_
                  refine j_grd (fun h129 => ?_)
                  refine sR_R_isKept C (Or.inr rfl) h129 d_R_machineTakes_114 ?_
                  refine j_ltS (fun S130 => ?_)
                  refine j_aload_n C 2 rfl rfl d_R_machineTakes_115 ?_
                  refine j_iconst (v := -1) C (by decide) d_R_machineTakes_116 ?_
                  refine pR_R_slotCard C u_711 d_R_machineTakes_117 ?_
                  refine j_ltS (fun S131 => ?_)
                  refine j_aload_n C 2 rfl rfl d_R_machineTakes_120 ?_
                  refine j_iload_n C 0 rfl rfl d_R_machineTakes_121 ?_
                  refine j_if_ne (tgt := 129) C d_R_machineTakes_122 (by decide) (fun h132 => ?_) (fun h132 => ?_)
                  · refine j_iconst (v := 3) C (by decide) d_R_machineTakes_125 ?_
                    refine j_goto (tgt := 139) C d_R_machineTakes_126 (by decide) ?_
                    refine pR_R_phase C u_710 d_R_machineTakes_139 ?_
                    refine j_ltS (fun S133 => ?_)
                    refine j_goto (tgt := 194) C d_R_machineTakes_142 (by decide) ?_
                    refine j_iconst (v := 1) C (by decide) d_R_machineTakes_194 ?_
                    exact j_zret C (Or.inr rfl) rfl rfl d_R_machineTakes_195
                  · refine j_iload_n C 0 rfl rfl d_R_machineTakes_129 ?_
                    refine j_iconst (v := 2) C (by decide) d_R_machineTakes_130 ?_
                    refine j_icmp_ne (tgt := 138) C d_R_machineTakes_131 (by decide) (fun h134 => ?_) (fun h134 => ?_)
                    · refine j_iconst (v := 0) C (by decide) d_R_machineTakes_134 ?_
                      refine j_goto (tgt := 139) C d_R_machineTakes_135 (by decide) ?_
                      refine pR_R_phase C u_710 d_R_machineTakes_139 ?_
                      refine j_ltS (fun S135 => ?_)
                      refine j_goto (tgt := 194) C d_R_machineTakes_142 (by decide) ?_
                      refine j_iconst (v := 1) C (by decide) d_R_machineTakes_194 ?_
                      exact j_zret C (Or.inr rfl) rfl rfl d_R_machineTakes_195
                    · refine j_iconst (v := 1) C (by decide) d_R_machineTakes_138 ?_
                      refine pR_R_phase C u_710 d_R_machineTakes_139 ?_
                      refine j_ltS (fun S136 => ?_)
                      refine j_goto (tgt := 194) C d_R_machineTakes_142 (by decide) ?_
                      refine j_iconst (v := 1) C (by decide) d_R_machineTakes_194 ?_
                      exact j_zret C (Or.inr rfl) rfl rfl d_R_machineTakes_195
                · refine j_aload_n C 2 rfl rfl d_R_machineTakes_120 ?_
                  refine j_iload_n C 0 rfl rfl d_R_machineTakes_121 ?_
                  refine j_if_ne (tgt := 129) C d_R_machineTakes_122 (by decide) (fun h137 => ?_) (fun h137 => ?_)
                  · refine j_iconst (v := 3) C (by decide) d_R_machineTakes_125 ?_
                    refine j_goto (tgt := 139) C d_R_machineTakes_126 (by decide) ?_
                    refine pR_R_phase C u_710 d_R_machineTakes_139 ?_
                    refine j_ltS (fun S138 => ?_)
                    refine j_goto (tgt := 194) C d_R_machineTakes_142 (by decide) ?_
                    refine j_iconst (v := 1) C (by decide) d_R_machineTakes_194 ?_
                    exact j_zret C (Or.inr rfl) rfl rfl d_R_machineTakes_195
                  · refine j_iload_n C 0 rfl rfl d_R_machineTakes_129 ?_
                    refine j_iconst (v := 2) C (by decide) d_R_machineTakes_130 ?_
                    refine j_icmp_ne (tgt := 138) C d_R_machineTakes_131 (by decide) (fun h139 => ?_) (fun h139 => ?_)
                    · refine j_iconst (v := 0) C (by decide) d_R_machineTakes_134 ?_
                      refine j_goto (tgt := 139) C d_R_machineTakes_135 (by decide) ?_
                      refine pR_R_phase C u_710 d_R_machineTakes_139 ?_
                      refine j_ltS (fun S140 => ?_)
                      refine j_goto (tgt := 194) C d_R_machineTakes_142 (by decide) ?_
                      refine j_iconst (v := 1) C (by decide) d_R_machineTakes_194 ?_
                      exact j_zret C (Or.inr rfl) rfl rfl d_R_machineTakes_195
                    · refine j_iconst (v := 1) C (by decide) d_R_machineTakes_138 ?_
                      refine pR_R_phase C u_710 d_R_machineTakes_139 ?_
                      refine j_ltS (fun S141 => ?_)
                      refine j_goto (tgt := 194) C d_R_machineTakes_142 (by decide) ?_
                      refine j_iconst (v := 1) C (by decide) d_R_machineTakes_194 ?_
                      exact j_zret C (Or.inr rfl) rfl rfl d_R_machineTakes_195
              · refine j_aload_n C 2 rfl rfl d_R_machineTakes_145 ?_
                refine gR_R_phase C u_710 d_R_machineTakes_146 ?_
                refine j_iconst (v := 5) C (by decide) d_R_machineTakes_149 ?_
                refine j_icmp_ne (tgt := 169) C d_R_machineTakes_150 (by decide) (fun h142 => ?_) (fun h142 => ?_)
                · refine j_aload_n C 2 rfl rfl d_R_machineTakes_153 ?_
                  refine j_iconst (v := 5) C (by decide) d_R_machineTakes_154 ?_
                  refine j_bnd (fun r143 S144 e145 => ?_)
                  refine j_callVi (As := [.int (5 : Int32)]) (rest := []) C 0 7 Y_R_record u_848 (c_R_record g S22 (5 : Int32) e145) rfl rfl ⟨by decide, by decide⟩ rfl rfl rfl rfl (Nat.le_of_ble_eq_true rfl) d_R_machineTakes_155 ?_
                  refine j_if_eq (tgt := 194) C d_R_machineTakes_158 (by decide) (fun h146 => ?_) (fun h146 => ?_)
                  · refine j_iconst (v := 1) C (by decide) d_R_machineTakes_194 ?_
                    exact j_zret C (Or.inr rfl) rfl rfl d_R_machineTakes_195
                  · refine j_aload_n C 2 rfl rfl d_R_machineTakes_161 ?_
                    refine j_iconst (v := 0) C (by decide) d_R_machineTakes_162 ?_
                    refine pR_R_phase C u_710 d_R_machineTakes_163 ?_
                    refine j_ltS (fun S147 => ?_)
                    refine j_goto (tgt := 194) C d_R_machineTakes_166 (by decide) ?_
                    refine j_iconst (v := 1) C (by decide) d_R_machineTakes_194 ?_
                    exact j_zret C (Or.inr rfl) rfl rfl d_R_machineTakes_195
                · refine j_iload_n C 0 rfl rfl d_R_machineTakes_169 ?_
                  refine j_if_eq (tgt := 190) C d_R_machineTakes_170 (by decide) (fun h148 => ?_) (fun h148 => ?_)
                  · refine j_aload_n C 2 rfl rfl d_R_machineTakes_190 ?_
                    refine j_bnd (fun _ S150 e151 => ?_)
                    refine j_callVv (As := []) (rest := []) C 0 7 Y_R_giveOut u_892 (c_R_giveOut g S22 e151) rfl rfl ⟨by decide, by decide⟩ rfl rfl rfl rfl (Nat.le_of_ble_eq_true rfl) d_R_machineTakes_191 ?_
                    refine j_iconst (v := 1) C (by decide) d_R_machineTakes_194 ?_
                    exact j_zret C (Or.inr rfl) rfl rfl d_R_machineTakes_195
                  · refine j_aload_n C 2 rfl rfl d_R_machineTakes_173 ?_
                    refine j_bipush (v := 6) C (by decide) d_R_machineTakes_174 ?_
                    refine j_bnd (fun r152 S153 e154 => ?_)
                    refine j_callVi (As := [.int (6 : Int32)]) (rest := []) C 0 7 Y_R_record u_848 (c_R_record g S22 (6 : Int32) e154) rfl rfl ⟨by decide, by decide⟩ rfl rfl rfl rfl (Nat.le_of_ble_eq_true rfl) d_R_machineTakes_176 ?_
                    refine j_if_eq (tgt := 194) C d_R_machineTakes_179 (by decide) (fun h155 => ?_) (fun h155 => ?_)
                    · refine j_iconst (v := 1) C (by decide) d_R_machineTakes_194 ?_
                      exact j_zret C (Or.inr rfl) rfl rfl d_R_machineTakes_195
                    · refine j_aload_n C 2 rfl rfl d_R_machineTakes_182 ?_
                      refine j_iconst (v := 3) C (by decide) d_R_machineTakes_183 ?_
                      refine pR_R_phase C u_710 d_R_machineTakes_184 ?_
                      refine j_ltS (fun S156 => ?_)
                      refine j_goto (tgt := 194) C d_R_machineTakes_187 (by decide) ?_
                      refine j_iconst (v := 1) C (by decide) d_R_machineTakes_194 ?_
                      exact j_zret C (Or.inr rfl) rfl rfl d_R_machineTakes_195
            · refine j_iconst (v := 0) C (by decide) d_R_machineTakes_76 ?_
              refine j_istore_n (i := 1) (lv2 := [(1, .int (0 : Int32)), (0, .ref (a 0))]) C rfl (by decide) rfl d_R_machineTakes_77 ?_
              refine j_iload_n C 0 rfl rfl d_R_machineTakes_78 ?_
              refine j_if_ne_F (tgt := 84) C d_R_machineTakes_79 (by decide) (by decide) ?_
              refine j_iconst (v := 0) C (by decide) d_R_machineTakes_82 ?_
              exact j_zret C (Or.inl rfl) rfl rfl d_R_machineTakes_83
          · refine j_iconst (v := 0) C (by decide) d_R_machineTakes_76 ?_
            refine j_istore_n (i := 1) (lv2 := [(1, .int (0 : Int32)), (0, .ref (a 0))]) C rfl (by decide) rfl d_R_machineTakes_77 ?_
            refine j_iload_n C 0 rfl rfl d_R_machineTakes_78 ?_
            refine j_if_ne_F (tgt := 84) C d_R_machineTakes_79 (by decide) (by decide) ?_
            refine j_iconst (v := 0) C (by decide) d_R_machineTakes_82 ?_
            exact j_zret C (Or.inl rfl) rfl rfl d_R_machineTakes_83
    · refine j_aload_n C 0 rfl rfl d_R_machineTakes_32 ?_
      refine gR_R_phase C u_710 d_R_machineTakes_33 ?_
      refine j_iconst (v := 4) C (by decide) d_R_machineTakes_36 ?_
      refine j_icmp_ne (tgt := 52) C d_R_machineTakes_37 (by decide) (fun h157 => ?_) (fun h157 => ?_)
      · refine j_aload_n C 0 rfl rfl d_R_machineTakes_40 ?_
        refine gR_R_letter C u_719 d_R_machineTakes_41 ?_
        refine j_iconst (v := 0) C (by decide) d_R_machineTakes_44 ?_
        refine lR_R_letter C (by decide) d_R_machineTakes_45 ?_
        refine j_sipush (v := 130) C (by decide) d_R_machineTakes_46 ?_
        refine j_icmp_eq (tgt := 72) C d_R_machineTakes_49 (by decide) (fun h158 => ?_) (fun h158 => ?_)
        · refine j_iconst (v := 1) C (by decide) d_R_machineTakes_72 ?_
          refine j_goto (tgt := 77) C d_R_machineTakes_73 (by decide) ?_
          refine j_istore_n (i := 1) (lv2 := [(1, .int (1 : Int32)), (0, .ref (a 0))]) C rfl (by decide) rfl d_R_machineTakes_77 ?_
          refine j_iload_n C 0 rfl rfl d_R_machineTakes_78 ?_
          refine j_if_ne_T (tgt := 84) C d_R_machineTakes_79 (by decide) (by decide) ?_
          refine j_aload_n C 1 rfl rfl d_R_machineTakes_84 ?_
          refine gR_R_letter C u_719 d_R_machineTakes_85 ?_
          refine j_bipush (v := 10) C (by decide) d_R_machineTakes_88 ?_
          refine lR_R_letter C (by decide) d_R_machineTakes_90 ?_
          refine j_lti (fun x159 => ?_)
          refine j_istore_n (i := 2) (lv2 := [(2, .int x159), (1, .int (1 : Int32)), (0, .ref (a 0))]) C rfl (by decide) rfl d_R_machineTakes_91 ?_
          refine j_aload_n C 2 rfl rfl d_R_machineTakes_92 ?_
          refine gR_R_phase C u_710 d_R_machineTakes_93 ?_
          refine j_iconst (v := 2) C (by decide) d_R_machineTakes_96 ?_
          refine j_icmp_ne (tgt := 145) C d_R_machineTakes_97 (by decide) (fun h160 => ?_) (fun h160 => ?_)
          · refine j_iload_n C 0 rfl rfl d_R_machineTakes_100 ?_
            refine j_iconst (v := 2) C (by decide) d_R_machineTakes_101 ?_
            refine j_icmp_ne (tgt := 120) C d_R_machineTakes_102 (by decide) (fun h161 => ?_) (fun h161 => ?_)
            · refine j_aload_n C 2 rfl rfl d_R_machineTakes_105 ?_
              refine gR_R_isKept C u_703 d_R_machineTakes_106 ?_
              refine j_aload_n C 2 rfl rfl d_R_machineTakes_109 ?_
              refine gR_R_slotCard C u_711 d_R_machineTakes_110 ?_
              refine j_iconst (v := 1) C (by decide) d_R_machineTakes_113 ?_
              refine j_grd (fun h162 => ?_)
              refine sR_R_isKept C (Or.inr rfl) h162 d_R_machineTakes_114 ?_
              refine j_ltS (fun S163 => ?_)
              refine j_aload_n C 2 rfl rfl d_R_machineTakes_115 ?_
              refine j_iconst (v := -1) C (by decide) d_R_machineTakes_116 ?_
              refine pR_R_slotCard C u_711 d_R_machineTakes_117 ?_
              refine j_ltS (fun S164 => ?_)
              refine j_aload_n C 2 rfl rfl d_R_machineTakes_120 ?_
              refine j_iload_n C 0 rfl rfl d_R_machineTakes_121 ?_
              refine j_if_ne (tgt := 129) C d_R_machineTakes_122 (by decide) (fun h165 => ?_) (fun h165 => ?_)
              · refine j_iconst (v := 3) C (by decide) d_R_machineTakes_125 ?_
                refine j_goto (tgt := 139) C d_R_machineTakes_126 (by decide) ?_
                refine pR_R_phase C u_710 d_R_machineTakes_139 ?_
                refine j_ltS (fun S166 => ?_)
                refine j_goto (tgt := 194) C d_R_machineTakes_142 (by decide) ?_
                refine j_iconst (v := 1) C (by decide) d_R_machineTakes_194 ?_
                exact j_zret C (Or.inr rfl) rfl rfl d_R_machineTakes_195
              · refine j_iload_n C 0 rfl rfl d_R_machineTakes_129 ?_
                refine j_iconst (v := 2) C (by decide) d_R_machineTakes_130 ?_
                refine j_icmp_ne (tgt := 138) C d_R_machineTakes_131 (by decide) (fun h167 => ?_) (fun h167 => ?_)
                · refine j_iconst (v := 0) C (by decide) d_R_machineTakes_134 ?_
                  refine j_goto (tgt := 139) C d_R_machineTakes_135 (by decide) ?_
                  refine pR_R_phase C u_710 d_R_machineTakes_139 ?_
                  refine j_ltS (fun S168 => ?_)
                  refine j_goto (tgt := 194) C d_R_machineTakes_142 (by decide) ?_
                  refine j_iconst (v := 1) C (by decide) d_R_machineTakes_194 ?_
                  exact j_zret C (Or.inr rfl) rfl rfl d_R_machineTakes_195
                · refine j_iconst (v := 1) C (by decide) d_R_machineTakes_138 ?_
                  refine pR_R_phase C u_710 d_R_machineTakes_139 ?_
                  refine j_ltS (fun S169 => ?_)
                  refine j_goto (tgt := 194) C d_R_machineTakes_142 (by decide) ?_
                  refine j_iconst (v := 1) C (by decide) d_R_machineTakes_194 ?_
                  exact j_zret C (Or.inr rfl) rfl rfl d_R_machineTakes_195
            · refine j_aload_n C 2 rfl rfl d_R_machineTakes_120 ?_
              refine j_iload_n C 0 rfl rfl d_R_machineTakes_121 ?_
              refine j_if_ne (tgt := 129) C d_R_machineTakes_122 (by decide) (fun h170 => ?_) (fun h170 => ?_)
              · refine j_iconst (v := 3) C (by decide) d_R_machineTakes_125 ?_
                refine j_goto (tgt := 139) C d_R_machineTakes_126 (by decide) ?_
                refine pR_R_phase C u_710 d_R_machineTakes_139 ?_
                refine j_ltS (fun S171 => ?_)
                refine j_goto (tgt := 194) C d_R_machineTakes_142 (by decide) ?_
                refine j_iconst (v := 1) C (by decide) d_R_machineTakes_194 ?_
                exact j_zret C (Or.inr rfl) rfl rfl d_R_machineTakes_195
              · refine j_iload_n C 0 rfl rfl d_R_machineTakes_129 ?_
                refine j_iconst (v := 2) C (by decide) d_R_machineTakes_130 ?_
                refine j_icmp_ne (tgt := 138) C d_R_machineTakes_131 (by decide) (fun h172 => ?_) (fun h172 => ?_)
                · refine j_iconst (v := 0) C (by decide) d_R_machineTakes_134 ?_
                  refine j_goto (tgt := 139) C d_R_machineTakes_135 (by decide) ?_
                  refine pR_R_phase C u_710 d_R_machineTakes_139 ?_
                  refine j_ltS (fun S173 => ?_)
                  refine j_goto (tgt := 194) C d_R_machineTakes_142 (by decide) ?_
                  refine j_iconst (v := 1) C (by decide) d_R_machineTakes_194 ?_
                  exact j_zret C (Or.inr rfl) rfl rfl d_R_machineTakes_195
                · refine j_iconst (v := 1) C (by decide) d_R_machineTakes_138 ?_
                  refine pR_R_phase C u_710 d_R_machineTakes_139 ?_
                  refine j_ltS (fun S174 => ?_)
                  refine j_goto (tgt := 194) C d_R_machineTakes_142 (by decide) ?_
                  refine j_iconst (v := 1) C (by decide) d_R_machineTakes_194 ?_
                  exact j_zret C (Or.inr rfl) rfl rfl d_R_machineTakes_195
          · refine j_aload_n C 2 rfl rfl d_R_machineTakes_145 ?_
            refine gR_R_phase C u_710 d_R_machineTakes_146 ?_
            refine j_iconst (v := 5) C (by decide) d_R_machineTakes_149 ?_
            refine j_icmp_ne (tgt := 169) C d_R_machineTakes_150 (by decide) (fun h175 => ?_) (fun h175 => ?_)
            · refine j_aload_n C 2 rfl rfl d_R_machineTakes_153 ?_
              refine j_iconst (v := 5) C (by decide) d_R_machineTakes_154 ?_
              refine j_bnd (fun r176 S177 e178 => ?_)
              refine j_callVi (As := [.int (5 : Int32)]) (rest := []) C 0 7 Y_R_record u_848 (c_R_record g S22 (5 : Int32) e178) rfl rfl ⟨by decide, by decide⟩ rfl rfl rfl rfl (Nat.le_of_ble_eq_true rfl) d_R_machineTakes_155 ?_
              refine j_if_eq (tgt := 194) C d_R_machineTakes_158 (by decide) (fun h179 => ?_) (fun h179 => ?_)
              · refine j_iconst (v := 1) C (by decide) d_R_machineTakes_194 ?_
                exact j_zret C (Or.inr rfl) rfl rfl d_R_machineTakes_195
              · refine j_aload_n C 2 rfl rfl d_R_machineTakes_161 ?_
                refine j_iconst (v := 0) C (by decide) d_R_machineTakes_162 ?_
                refine pR_R_phase C u_710 d_R_machineTakes_163 ?_
                refine j_ltS (fun S180 => ?_)
                refine j_goto (tgt := 194) C d_R_machineTakes_166 (by decide) ?_
                refine j_iconst (v := 1) C (by decide) d_R_machineTakes_194 ?_
                exact j_zret C (Or.inr rfl) rfl rfl d_R_machineTakes_195
            · refine j_iload_n C 0 rfl rfl d_R_machineTakes_169 ?_
              refine j_if_eq (tgt := 190) C d_R_machineTakes_170 (by decide) (fun h181 => ?_) (fun h181 => ?_)
              · refine j_aload_n C 2 rfl rfl d_R_machineTakes_190 ?_
                refine j_bnd (fun _ S183 e184 => ?_)
                refine j_callVv (As := []) (rest := []) C 0 7 Y_R_giveOut u_892 (c_R_giveOut g S22 e184) rfl rfl ⟨by decide, by decide⟩ rfl rfl rfl rfl (Nat.le_of_ble_eq_true rfl) d_R_machineTakes_191 ?_
                refine j_iconst (v := 1) C (by decide) d_R_machineTakes_194 ?_
                exact j_zret C (Or.inr rfl) rfl rfl d_R_machineTakes_195
              · refine j_aload_n C 2 rfl rfl d_R_machineTakes_173 ?_
                refine j_bipush (v := 6) C (by decide) d_R_machineTakes_174 ?_
                refine j_bnd (fun r185 S186 e187 => ?_)
                refine j_callVi (As := [.int (6 : Int32)]) (rest := []) C 0 7 Y_R_record u_848 (c_R_record g S22 (6 : Int32) e187) rfl rfl ⟨by decide, by decide⟩ rfl rfl rfl rfl (Nat.le_of_ble_eq_true rfl) d_R_machineTakes_176 ?_
                refine j_if_eq (tgt := 194) C d_R_machineTakes_179 (by decide) (fun h188 => ?_) (fun h188 => ?_)
                · refine j_iconst (v := 1) C (by decide) d_R_machineTakes_194 ?_
                  exact j_zret C (Or.inr rfl) rfl rfl d_R_machineTakes_195
                · refine j_aload_n C 2 rfl rfl d_R_machineTakes_182 ?_
                  refine j_iconst (v := 3) C (by decide) d_R_machineTakes_183 ?_
                  refine pR_R_phase C u_710 d_R_machineTakes_184 ?_
                  refine j_ltS (fun S189 => ?_)
                  refine j_goto (tgt := 194) C d_R_machineTakes_187 (by decide) ?_
                  refine j_iconst (v := 1) C (by decide) d_R_machineTakes_194 ?_
                  exact j_zret C (Or.inr rfl) rfl rfl d_R_machineTakes_195
        · refine j_aload_n C 0 rfl rfl d_R_machineTakes_52 ?_
          refine gR_R_phase C u_710 d_R_machineTakes_53 ?_
          refine j_iconst (v := 5) C (by decide) d_R_machineTakes_56 ?_
          refine j_icmp_ne (tgt := 76) C d_R_machineTakes_57 (by decide) (fun h190 => ?_) (fun h190 => ?_)
          · refine j_aload_n C 0 rfl rfl d_R_machineTakes_60 ?_
            refine gR_R_letter C u_719 d_R_machineTakes_61 ?_
            refine j_iconst (v := 0) C (by decide) d_R_machineTakes_64 ?_
            refine lR_R_letter C (by decide) d_R_machineTakes_65 ?_
            refine j_sipush (v := 131) C (by decide) d_R_machineTakes_66 ?_
            refine j_icmp_ne (tgt := 76) C d_R_machineTakes_69 (by decide) (fun h191 => ?_) (fun h191 => ?_)
            · refine j_iconst (v := 1) C (by decide) d_R_machineTakes_72 ?_
              refine j_goto (tgt := 77) C d_R_machineTakes_73 (by decide) ?_
              refine j_istore_n (i := 1) (lv2 := [(1, .int (1 : Int32)), (0, .ref (a 0))]) C rfl (by decide) rfl d_R_machineTakes_77 ?_
              refine j_iload_n C 0 rfl rfl d_R_machineTakes_78 ?_
              refine j_if_ne_T (tgt := 84) C d_R_machineTakes_79 (by decide) (by decide) ?_
              refine j_aload_n C 1 rfl rfl d_R_machineTakes_84 ?_
              refine gR_R_letter C u_719 d_R_machineTakes_85 ?_
              refine j_bipush (v := 10) C (by decide) d_R_machineTakes_88 ?_
              refine lR_R_letter C (by decide) d_R_machineTakes_90 ?_
              refine j_lti (fun x192 => ?_)
              refine j_istore_n (i := 2) (lv2 := [(2, .int x192), (1, .int (1 : Int32)), (0, .ref (a 0))]) C rfl (by decide) rfl d_R_machineTakes_91 ?_
              refine j_aload_n C 2 rfl rfl d_R_machineTakes_92 ?_
              refine gR_R_phase C u_710 d_R_machineTakes_93 ?_
              refine j_iconst (v := 2) C (by decide) d_R_machineTakes_96 ?_
              refine j_icmp_ne (tgt := 145) C d_R_machineTakes_97 (by decide) (fun h193 => ?_) (fun h193 => ?_)
              · refine j_iload_n C 0 rfl rfl d_R_machineTakes_100 ?_
                refine j_iconst (v := 2) C (by decide) d_R_machineTakes_101 ?_
                refine j_icmp_ne (tgt := 120) C d_R_machineTakes_102 (by decide) (fun h194 => ?_) (fun h194 => ?_)
                · refine j_aload_n C 2 rfl rfl d_R_machineTakes_105 ?_
                  refine gR_R_isKept C u_703 d_R_machineTakes_106 ?_
                  refine j_aload_n C 2 rfl rfl d_R_machineTakes_109 ?_
                  refine gR_R_slotCard C u_711 d_R_machineTakes_110 ?_
                  refine j_iconst (v := 1) C (by decide) d_R_machineTakes_113 ?_
                  refine j_grd (fun h195 => ?_)
                  refine sR_R_isKept C (Or.inr rfl) h195 d_R_machineTakes_114 ?_
                  refine j_ltS (fun S196 => ?_)
                  refine j_aload_n C 2 rfl rfl d_R_machineTakes_115 ?_
                  refine j_iconst (v := -1) C (by decide) d_R_machineTakes_116 ?_
                  refine pR_R_slotCard C u_711 d_R_machineTakes_117 ?_
                  refine j_ltS (fun S197 => ?_)
                  refine j_aload_n C 2 rfl rfl d_R_machineTakes_120 ?_
                  refine j_iload_n C 0 rfl rfl d_R_machineTakes_121 ?_
                  refine j_if_ne (tgt := 129) C d_R_machineTakes_122 (by decide) (fun h198 => ?_) (fun h198 => ?_)
                  · refine j_iconst (v := 3) C (by decide) d_R_machineTakes_125 ?_
                    refine j_goto (tgt := 139) C d_R_machineTakes_126 (by decide) ?_
                    refine pR_R_phase C u_710 d_R_machineTakes_139 ?_
                    refine j_ltS (fun S199 => ?_)
                    refine j_goto (tgt := 194) C d_R_machineTakes_142 (by decide) ?_
                    refine j_iconst (v := 1) C (by decide) d_R_machineTakes_194 ?_
                    exact j_zret C (Or.inr rfl) rfl rfl d_R_machineTakes_195
                  · refine j_iload_n C 0 rfl rfl d_R_machineTakes_129 ?_
                    refine j_iconst (v := 2) C (by decide) d_R_machineTakes_130 ?_
                    refine j_icmp_ne (tgt := 138) C d_R_machineTakes_131 (by decide) (fun h200 => ?_) (fun h200 => ?_)
                    · refine j_iconst (v := 0) C (by decide) d_R_machineTakes_134 ?_
                      refine j_goto (tgt := 139) C d_R_machineTakes_135 (by decide) ?_
                      refine pR_R_phase C u_710 d_R_machineTakes_139 ?_
                      refine j_ltS (fun S201 => ?_)
                      refine j_goto (tgt := 194) C d_R_machineTakes_142 (by decide) ?_
                      refine j_iconst (v := 1) C (by decide) d_R_machineTakes_194 ?_
                      exact j_zret C (Or.inr rfl) rfl rfl d_R_machineTakes_195
                    · refine j_iconst (v := 1) C (by decide) d_R_machineTakes_138 ?_
                      refine pR_R_phase C u_710 d_R_machineTakes_139 ?_
                      refine j_ltS (fun S202 => ?_)
                      refine j_goto (tgt := 194) C d_R_machineTakes_142 (by decide) ?_
                      refine j_iconst (v := 1) C (by decide) d_R_machineTakes_194 ?_
                      exact j_zret C (Or.inr rfl) rfl rfl d_R_machineTakes_195
                · refine j_aload_n C 2 rfl rfl d_R_machineTakes_120 ?_
                  refine j_iload_n C 0 rfl rfl d_R_machineTakes_121 ?_
                  refine j_if_ne (tgt := 129) C d_R_machineTakes_122 (by decide) (fun h203 => ?_) (fun h203 => ?_)
                  · refine j_iconst (v := 3) C (by decide) d_R_machineTakes_125 ?_
                    refine j_goto (tgt := 139) C d_R_machineTakes_126 (by decide) ?_
                    refine pR_R_phase C u_710 d_R_machineTakes_139 ?_
                    refine j_ltS (fun S204 => ?_)
                    refine j_goto (tgt := 194) C d_R_machineTakes_142 (by decide) ?_
                    refine j_iconst (v := 1) C (by decide) d_R_machineTakes_194 ?_
                    exact j_zret C (Or.inr rfl) rfl rfl d_R_machineTakes_195
                  · refine j_iload_n C 0 rfl rfl d_R_machineTakes_129 ?_
                    refine j_iconst (v := 2) C (by decide) d_R_machineTakes_130 ?_
                    refine j_icmp_ne (tgt := 138) C d_R_machineTakes_131 (by decide) (fun h205 => ?_) (fun h205 => ?_)
                    · refine j_iconst (v := 0) C (by decide) d_R_machineTakes_134 ?_
                      refine j_goto (tgt := 139) C d_R_machineTakes_135 (by decide) ?_
                      refine pR_R_phase C u_710 d_R_machineTakes_139 ?_
                      refine j_ltS (fun S206 => ?_)
                      refine j_goto (tgt := 194) C d_R_machineTakes_142 (by decide) ?_
                      refine j_iconst (v := 1) C (by decide) d_R_machineTakes_194 ?_
                      exact j_zret C (Or.inr rfl) rfl rfl d_R_machineTakes_195
                    · refine j_iconst (v := 1) C (by decide) d_R_machineTakes_138 ?_
                      refine pR_R_phase C u_710 d_R_machineTakes_139 ?_
                      refine j_ltS (fun S207 => ?_)
                      refine j_goto (tgt := 194) C d_R_machineTakes_142 (by decide) ?_
                      refine j_iconst (v := 1) C (by decide) d_R_machineTakes_194 ?_
                      exact j_zret C (Or.inr rfl) rfl rfl d_R_machineTakes_195
              · refine j_aload_n C 2 rfl rfl d_R_machineTakes_145 ?_
                refine gR_R_phase C u_710 d_R_machineTakes_146 ?_
                refine j_iconst (v := 5) C (by decide) d_R_machineTakes_149 ?_
                refine j_icmp_ne (tgt := 169) C d_R_machineTakes_150 (by decide) (fun h208 => ?_) (fun h208 => ?_)
                · refine j_aload_n C 2 rfl rfl d_R_machineTakes_153 ?_
                  refine j_iconst (v := 5) C (by decide) d_R_machineTakes_154 ?_
                  refine j_bnd (fun r209 S210 e211 => ?_)
                  refine j_callVi (As := [.int (5 : Int32)]) (rest := []) C 0 7 Y_R_record u_848 (c_R_record g S22 (5 : Int32) e211) rfl rfl ⟨by decide, by decide⟩ rfl rfl rfl rfl (Nat.le_of_ble_eq_true rfl) d_R_machineTakes_155 ?_
                  refine j_if_eq (tgt := 194) C d_R_machineTakes_158 (by decide) (fun h212 => ?_) (fun h212 => ?_)
                  · refine j_iconst (v := 1) C (by decide) d_R_machineTakes_194 ?_
                    exact j_zret C (Or.inr rfl) rfl rfl d_R_machineTakes_195
                  · refine j_aload_n C 2 rfl rfl d_R_machineTakes_161 ?_
                    refine j_iconst (v := 0) C (by decide) d_R_machineTakes_162 ?_
                    refine pR_R_phase C u_710 d_R_machineTakes_163 ?_
                    refine j_ltS (fun S213 => ?_)
                    refine j_goto (tgt := 194) C d_R_machineTakes_166 (by decide) ?_
                    refine j_iconst (v := 1) C (by decide) d_R_machineTakes_194 ?_
                    exact j_zret C (Or.inr rfl) rfl rfl d_R_machineTakes_195
                · refine j_iload_n C 0 rfl rfl d_R_machineTakes_169 ?_
                  refine j_if_eq (tgt := 190) C d_R_machineTakes_170 (by decide) (fun h214 => ?_) (fun h214 => ?_)
                  · refine j_aload_n C 2 rfl rfl d_R_machineTakes_190 ?_
                    refine j_bnd (fun _ S216 e217 => ?_)
                    refine j_callVv (As := []) (rest := []) C 0 7 Y_R_giveOut u_892 (c_R_giveOut g S22 e217) rfl rfl ⟨by decide, by decide⟩ rfl rfl rfl rfl (Nat.le_of_ble_eq_true rfl) d_R_machineTakes_191 ?_
                    refine j_iconst (v := 1) C (by decide) d_R_machineTakes_194 ?_
                    exact j_zret C (Or.inr rfl) rfl rfl d_R_machineTakes_195
                  · refine j_aload_n C 2 rfl rfl d_R_machineTakes_173 ?_
                    refine j_bipush (v := 6) C (by decide) d_R_machineTakes_174 ?_
                    refine j_bnd (fun r218 S219 e220 => ?_)
                    refine j_callVi (As := [.int (6 : Int32)]) (rest := []) C 0 7 Y_R_record u_848 (c_R_record g S22 (6 : Int32) e220) rfl rfl ⟨by decide, by decide⟩ rfl rfl rfl rfl (Nat.le_of_ble_eq_true rfl) d_R_machineTakes_176 ?_
                    refine j_if_eq (tgt := 194) C d_R_machineTakes_179 (by decide) (fun h221 => ?_) (fun h221 => ?_)
                    · refine j_iconst (v := 1) C (by decide) d_R_machineTakes_194 ?_
                      exact j_zret C (Or.inr rfl) rfl rfl d_R_machineTakes_195
                    · refine j_aload_n C 2 rfl rfl d_R_machineTakes_182 ?_
                      refine j_iconst (v := 3) C (by decide) d_R_machineTakes_183 ?_
                      refine pR_R_phase C u_710 d_R_machineTakes_184 ?_
                      refine j_ltS (fun S222 => ?_)
                      refine j_goto (tgt := 194) C d_R_machineTakes_187 (by decide) ?_
                      refine j_iconst (v := 1) C (by decide) d_R_machineTakes_194 ?_
                      exact j_zret C (Or.inr rfl) rfl rfl d_R_machineTakes_195
            · refine j_iconst (v := 0) C (by decide) d_R_machineTakes_76 ?_
              refine j_istore_n (i := 1) (lv2 := [(1, .int (0 : Int32)), (0, .ref (a 0))]) C rfl (by decide) rfl d_R_machineTakes_77 ?_
              refine j_iload_n C 0 rfl rfl d_R_machineTakes_78 ?_
              refine j_if_ne_F (tgt := 84) C d_R_machineTakes_79 (by decide) (by decide) ?_
              refine j_iconst (v := 0) C (by decide) d_R_machineTakes_82 ?_
              exact j_zret C (Or.inl rfl) rfl rfl d_R_machineTakes_83
          · refine j_iconst (v := 0) C (by decide) d_R_machineTakes_76 ?_
            refine j_istore_n (i := 1) (lv2 := [(1, .int (0 : Int32)), (0, .ref (a 0))]) C rfl (by decide) rfl d_R_machineTakes_77 ?_
            refine j_iload_n C 0 rfl rfl d_R_machineTakes_78 ?_
            refine j_if_ne_F (tgt := 84) C d_R_machineTakes_79 (by decide) (by decide) ?_
            refine j_iconst (v := 0) C (by decide) d_R_machineTakes_82 ?_
            exact j_zret C (Or.inl rfl) rfl rfl d_R_machineTakes_83
      · refine j_aload_n C 0 rfl rfl d_R_machineTakes_52 ?_
        refine gR_R_phase C u_710 d_R_machineTakes_53 ?_
        refine j_iconst (v := 5) C (by decide) d_R_machineTakes_56 ?_
        refine j_icmp_ne (tgt := 76) C d_R_machineTakes_57 (by decide) (fun h223 => ?_) (fun h223 => ?_)
        · refine j_aload_n C 0 rfl rfl d_R_machineTakes_60 ?_
          refine gR_R_letter C u_719 d_R_machineTakes_61 ?_
          refine j_iconst (v := 0) C (by decide) d_R_machineTakes_64 ?_
          refine lR_R_letter C (by decide) d_R_machineTakes_65 ?_
          refine j_sipush (v := 131) C (by decide) d_R_machineTakes_66 ?_
          refine j_icmp_ne (tgt := 76) C d_R_machineTakes_69 (by decide) (fun h224 => ?_) (fun h224 => ?_)
          · refine j_iconst (v := 1) C (by decide) d_R_machineTakes_72 ?_
            refine j_goto (tgt := 77) C d_R_machineTakes_73 (by decide) ?_
            refine j_istore_n (i := 1) (lv2 := [(1, .int (1 : Int32)), (0, .ref (a 0))]) C rfl (by decide) rfl d_R_machineTakes_77 ?_
            refine j_iload_n C 0 rfl rfl d_R_machineTakes_78 ?_
            refine j_if_ne_T (tgt := 84) C d_R_machineTakes_79 (by decide) (by decide) ?_
            refine j_aload_n C 1 rfl rfl d_R_machineTakes_84 ?_
            refine gR_R_letter C u_719 d_R_machineTakes_85 ?_
            refine j_bipush (v := 10) C (by decide) d_R_machineTakes_88 ?_
            refine lR_R_letter C (by decide) d_R_machineTakes_90 ?_
            refine j_lti (fun x225 => ?_)
            refine j_istore_n (i := 2) (lv2 := [(2, .int x225), (1, .int (1 : Int32)), (0, .ref (a 0))]) C rfl (by decide) rfl d_R_machineTakes_91 ?_
            refine j_aload_n C 2 rfl rfl d_R_machineTakes_92 ?_
            refine gR_R_phase C u_710 d_R_machineTakes_93 ?_
            refine j_iconst (v := 2) C (by decide) d_R_machineTakes_96 ?_
            refine j_icmp_ne (tgt := 145) C d_R_machineTakes_97 (by decide) (fun h226 => ?_) (fun h226 => ?_)
            · refine j_iload_n C 0 rfl rfl d_R_machineTakes_100 ?_
              refine j_iconst (v := 2) C (by decide) d_R_machineTakes_101 ?_
              refine j_icmp_ne (tgt := 120) C d_R_machineTakes_102 (by decide) (fun h227 => ?_) (fun h227 => ?_)
              · refine j_aload_n C 2 rfl rfl d_R_machineTakes_105 ?_
                refine gR_R_isKept C u_703 d_R_machineTakes_106 ?_
                refine j_aload_n C 2 rfl rfl d_R_machineTakes_109 ?_
                refine gR_R_slotCard C u_711 d_R_machineTakes_110 ?_
                refine j_iconst (v := 1) C (by decide) d_R_machineTakes_113 ?_
                refine j_grd (fun h228 => ?_)
                refine sR_R_isKept C (Or.inr rfl) h228 d_R_machineTakes_114 ?_
                refine j_ltS (fun S229 => ?_)
                refine j_aload_n C 2 rfl rfl d_R_machineTakes_115 ?_
                refine j_iconst (v := -1) C (by decide) d_R_machineTakes_116 ?_
                refine pR_R_slotCard C u_711 d_R_machineTakes_117 ?_
                refine j_ltS (fun S230 => ?_)
                refine j_aload_n C 2 rfl rfl d_R_machineTakes_120 ?_
                refine j_iload_n C 0 rfl rfl d_R_machineTakes_121 ?_
                refine j_if_ne (tgt := 129) C d_R_machineTakes_122 (by decide) (fun h231 => ?_) (fun h231 => ?_)
                · refine j_iconst (v := 3) C (by decide) d_R_machineTakes_125 ?_
                  refine j_goto (tgt := 139) C d_R_machineTakes_126 (by decide) ?_
                  refine pR_R_phase C u_710 d_R_machineTakes_139 ?_
                  refine j_ltS (fun S232 => ?_)
                  refine j_goto (tgt := 194) C d_R_machineTakes_142 (by decide) ?_
                  refine j_iconst (v := 1) C (by decide) d_R_machineTakes_194 ?_
                  exact j_zret C (Or.inr rfl) rfl rfl d_R_machineTakes_195
                · refine j_iload_n C 0 rfl rfl d_R_machineTakes_129 ?_
                  refine j_iconst (v := 2) C (by decide) d_R_machineTakes_130 ?_
                  refine j_icmp_ne (tgt := 138) C d_R_machineTakes_131 (by decide) (fun h233 => ?_) (fun h233 => ?_)
                  · refine j_iconst (v := 0) C (by decide) d_R_machineTakes_134 ?_
                    refine j_goto (tgt := 139) C d_R_machineTakes_135 (by decide) ?_
                    refine pR_R_phase C u_710 d_R_machineTakes_139 ?_
                    refine j_ltS (fun S234 => ?_)
                    refine j_goto (tgt := 194) C d_R_machineTakes_142 (by decide) ?_
                    refine j_iconst (v := 1) C (by decide) d_R_machineTakes_194 ?_
                    exact j_zret C (Or.inr rfl) rfl rfl d_R_machineTakes_195
                  · refine j_iconst (v := 1) C (by decide) d_R_machineTakes_138 ?_
                    refine pR_R_phase C u_710 d_R_machineTakes_139 ?_
                    refine j_ltS (fun S235 => ?_)
                    refine j_goto (tgt := 194) C d_R_machineTakes_142 (by decide) ?_
                    refine j_iconst (v := 1) C (by decide) d_R_machineTakes_194 ?_
                    exact j_zret C (Or.inr rfl) rfl rfl d_R_machineTakes_195
              · refine j_aload_n C 2 rfl rfl d_R_machineTakes_120 ?_
                refine j_iload_n C 0 rfl rfl d_R_machineTakes_121 ?_
                refine j_if_ne (tgt := 129) C d_R_machineTakes_122 (by decide) (fun h236 => ?_) (fun h236 => ?_)
                · refine j_iconst (v := 3) C (by decide) d_R_machineTakes_125 ?_
                  refine j_goto (tgt := 139) C d_R_machineTakes_126 (by decide) ?_
                  refine pR_R_phase C u_710 d_R_machineTakes_139 ?_
                  refine j_ltS (fun S237 => ?_)
                  refine j_goto (tgt := 194) C d_R_machineTakes_142 (by decide) ?_
                  refine j_iconst (v := 1) C (by decide) d_R_machineTakes_194 ?_
                  exact j_zret C (Or.inr rfl) rfl rfl d_R_machineTakes_195
                · refine j_iload_n C 0 rfl rfl d_R_machineTakes_129 ?_
                  refine j_iconst (v := 2) C (by decide) d_R_machineTakes_130 ?_
                  refine j_icmp_ne (tgt := 138) C d_R_machineTakes_131 (by decide) (fun h238 => ?_) (fun h238 => ?_)
                  · refine j_iconst (v := 0) C (by decide) d_R_machineTakes_134 ?_
                    refine j_goto (tgt := 139) C d_R_machineTakes_135 (by decide) ?_
                    refine pR_R_phase C u_710 d_R_machineTakes_139 ?_
                    refine j_ltS (fun S239 => ?_)
                    refine j_goto (tgt := 194) C d_R_machineTakes_142 (by decide) ?_
                    refine j_iconst (v := 1) C (by decide) d_R_machineTakes_194 ?_
                    exact j_zret C (Or.inr rfl) rfl rfl d_R_machineTakes_195
                  · refine j_iconst (v := 1) C (by decide) d_R_machineTakes_138 ?_
                    refine pR_R_phase C u_710 d_R_machineTakes_139 ?_
                    refine j_ltS (fun S240 => ?_)
                    refine j_goto (tgt := 194) C d_R_machineTakes_142 (by decide) ?_
                    refine j_iconst (v := 1) C (by decide) d_R_machineTakes_194 ?_
                    exact j_zret C (Or.inr rfl) rfl rfl d_R_machineTakes_195
            · refine j_aload_n C 2 rfl rfl d_R_machineTakes_145 ?_
              refine gR_R_phase C u_710 d_R_machineTakes_146 ?_
              refine j_iconst (v := 5) C (by decide) d_R_machineTakes_149 ?_
              refine j_icmp_ne (tgt := 169) C d_R_machineTakes_150 (by decide) (fun h241 => ?_) (fun h241 => ?_)
              · refine j_aload_n C 2 rfl rfl d_R_machineTakes_153 ?_
                refine j_iconst (v := 5) C (by decide) d_R_machineTakes_154 ?_
                refine j_bnd (fun r242 S243 e244 => ?_)
                refine j_callVi (As := [.int (5 : Int32)]) (rest := []) C 0 7 Y_R_record u_848 (c_R_record g S22 (5 : Int32) e244) rfl rfl ⟨by decide, by decide⟩ rfl rfl rfl rfl (Nat.le_of_ble_eq_true rfl) d_R_machineTakes_155 ?_
                refine j_if_eq (tgt := 194) C d_R_machineTakes_158 (by decide) (fun h245 => ?_) (fun h245 => ?_)
                · refine j_iconst (v := 1) C (by decide) d_R_machineTakes_194 ?_
                  exact j_zret C (Or.inr rfl) rfl rfl d_R_machineTakes_195
                · refine j_aload_n C 2 rfl rfl d_R_machineTakes_161 ?_
                  refine j_iconst (v := 0) C (by decide) d_R_machineTakes_162 ?_
                  refine pR_R_phase C u_710 d_R_machineTakes_163 ?_
                  refine j_ltS (fun S246 => ?_)
                  refine j_goto (tgt := 194) C d_R_machineTakes_166 (by decide) ?_
                  refine j_iconst (v := 1) C (by decide) d_R_machineTakes_194 ?_
                  exact j_zret C (Or.inr rfl) rfl rfl d_R_machineTakes_195
              · refine j_iload_n C 0 rfl rfl d_R_machineTakes_169 ?_
                refine j_if_eq (tgt := 190) C d_R_machineTakes_170 (by decide) (fun h247 => ?_) (fun h247 => ?_)
                · refine j_aload_n C 2 rfl rfl d_R_machineTakes_190 ?_
                  refine j_bnd (fun _ S249 e250 => ?_)
                  refine j_callVv (As := []) (rest := []) C 0 7 Y_R_giveOut u_892 (c_R_giveOut g S22 e250) rfl rfl ⟨by decide, by decide⟩ rfl rfl rfl rfl (Nat.le_of_ble_eq_true rfl) d_R_machineTakes_191 ?_
                  refine j_iconst (v := 1) C (by decide) d_R_machineTakes_194 ?_
                  exact j_zret C (Or.inr rfl) rfl rfl d_R_machineTakes_195
                · refine j_aload_n C 2 rfl rfl d_R_machineTakes_173 ?_
                  refine j_bipush (v := 6) C (by decide) d_R_machineTakes_174 ?_
                  refine j_bnd (fun r251 S252 e253 => ?_)
                  refine j_callVi (As := [.int (6 : Int32)]) (rest := []) C 0 7 Y_R_record u_848 (c_R_record g S22 (6 : Int32) e253) rfl rfl ⟨by decide, by decide⟩ rfl rfl rfl rfl (Nat.le_of_ble_eq_true rfl) d_R_machineTakes_176 ?_
                  refine j_if_eq (tgt := 194) C d_R_machineTakes_179 (by decide) (fun h254 => ?_) (fun h254 => ?_)
                  · refine j_iconst (v := 1) C (by decide) d_R_machineTakes_194 ?_
                    exact j_zret C (Or.inr rfl) rfl rfl d_R_machineTakes_195
                  · refine j_aload_n C 2 rfl rfl d_R_machineTakes_182 ?_
                    refine j_iconst (v := 3) C (by decide) d_R_machineTakes_183 ?_
                    refine pR_R_phase C u_710 d_R_machineTakes_184 ?_
                    refine j_ltS (fun S255 => ?_)
                    refine j_goto (tgt := 194) C d_R_machineTakes_187 (by decide) ?_
                    refine j_iconst (v := 1) C (by decide) d_R_machineTakes_194 ?_
                    exact j_zret C (Or.inr rfl) rfl rfl d_R_machineTakes_195
          · refine j_iconst (v := 0) C (by decide) d_R_machineTakes_76 ?_
            refine j_istore_n (i := 1) (lv2 := [(1, .int (0 : Int32)), (0, .ref (a 0))]) C rfl (by decide) rfl d_R_machineTakes_77 ?_
            refine j_iload_n C 0 rfl rfl d_R_machineTakes_78 ?_
            refine j_if_ne_F (tgt := 84) C d_R_machineTakes_79 (by decide) (by decide) ?_
            refine j_iconst (v := 0) C (by decide) d_R_machineTakes_82 ?_
            exact j_zret C (Or.inl rfl) rfl rfl d_R_machineTakes_83
        · refine j_iconst (v := 0) C (by decide) d_R_machineTakes_76 ?_
          refine j_istore_n (i := 1) (lv2 := [(1, .int (0 : Int32)), (0, .ref (a 0))]) C rfl (by decide) rfl d_R_machineTakes_77 ?_
          refine j_iload_n C 0 rfl rfl d_R_machineTakes_78 ?_
          refine j_if_ne_F (tgt := 84) C d_R_machineTakes_79 (by decide) (by decide) ?_
          refine j_iconst (v := 0) C (by decide) d_R_machineTakes_82 ?_
          exact j_zret C (Or.inl rfl) rfl rfl d_R_machineTakes_83
  · refine j_iconst (v := 0) C (by decide) d_R_machineTakes_76 ?_
    refine j_istore_n (i := 1) (lv2 := [(1, .int (0 : Int32)), (0, .ref (a 0))]) C rfl (by decide) rfl d_R_machineTakes_77 ?_
    refine j_iload_n C 0 rfl rfl d_R_machineTakes_78 ?_
    refine j_if_ne_F (tgt := 84) C d_R_machineTakes_79 (by decide) (by decide) ?_
    refine j_iconst (v := 0) C (by decide) d_R_machineTakes_82 ?_
    exact j_zret C (Or.inl rfl) rfl rfl d_R_machineTakes_83
