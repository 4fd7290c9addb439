def f_O_stackOne (g : Nat) (S : Mem) (x1 : Int32) : Option (Unit × Mem) := bnd (f_O_isCassette g S x1) (fun r21 S22 => if r21 = 0 then (some ((), S22)) else (grd (¬ (x1 < 0 ∨ 4 ≤ x1.toNatClampNeg)) (if (S22.1 23 x1.toNatClampNeg) ≤ 0 then (some ((), S22)) else (grd (¬ (x1 < 0 ∨ 4 ≤ x1.toNatClampNeg)) (grd (¬ (x1 < 0 ∨ 4 ≤ x1.toNatClampNeg)) (lt (sI S22 23 x1.toNatClampNeg ((S22.1 23 x1.toNatClampNeg) - (1 : Int32))) (fun S29 => grd (¬ (x1 < 0 ∨ 4 ≤ x1.toNatClampNeg)) (grd (¬ (x1 < 0 ∨ 4 ≤ x1.toNatClampNeg)) (lt (sI S29 24 x1.toNatClampNeg ((S29.1 24 x1.toNatClampNeg) + (1 : Int32))) (fun S32 => grd (¬ (x1 < 0 ∨ 4 ≤ x1.toNatClampNeg)) (lt (sI S32 27 0 ((S32.1 27 0) + (S32.1 22 x1.toNatClampNeg))) (fun S34 => some ((), S34)))))))))))))
set_option maxRecDepth 100000 in
set_option maxHeartbeats 4000000 in
theorem c_O_stackOne {l : Launch} {D : va_G} {cI cJ cZ cL : ClassId} {a : Nat → Nat} (g : Nat) (S : Mem) (x1 : Int32) {r : Unit} {S9 : Mem} (h : f_O_stackOne g S x1 = some (r, S9)) : Ctr l y_O_stackOne prog_7_method_9_code 2 none rm_O_stackOne D (tyT cI cJ cZ cL) (wdC cI cJ cZ cL a) [.ref (a 4), .int x1] S (vV r, S9) := by
  refine Ctr.of (lv0 := [(0, .ref (a 4)), (1, .int x1)]) (vv := vV) (by decide) rfl (wdC_fst cI cJ cZ cL a) (Nat.le_of_ble_eq_true rfl) rfl (fun p e s m args below meth c A C => ?_) r S9 h
  unfold f_O_stackOne
  refine j_iload_n C 1 rfl rfl d_O_stackOne_0 ?_
  refine j_bnd (fun r21 S22 e23 => ?_)
  refine j_callSi (As := [.int x1]) (rest := []) C Y_O_isCassette u_298 (c_O_isCassette g S x1 e23) rfl rfl ⟨by decide, by decide⟩ rfl rfl (Nat.le_of_ble_eq_true rfl) d_O_stackOne_1 ?_
  refine j_if_eq (tgt := 51) C d_O_stackOne_4 (by decide) (fun h24 => ?_) (fun h24 => ?_)
  · exact j_vret C rfl rfl d_O_stackOne_51
  · refine j_aload_n C 0 rfl rfl d_O_stackOne_7 ?_
    refine gC_O_inCassette C u_124 d_O_stackOne_8 ?_
    refine j_iload_n C 1 rfl rfl d_O_stackOne_11 ?_
    refine j_grd (fun h25 => ?_)
    refine lC_O_inCassette C h25 d_O_stackOne_12 ?_
    refine j_if_le (tgt := 51) C d_O_stackOne_13 (by decide) (fun h26 => ?_) (fun h26 => ?_)
    · exact j_vret C rfl rfl d_O_stackOne_51
    · refine j_aload_n C 0 rfl rfl d_O_stackOne_16 ?_
      refine gC_O_inCassette C u_124 d_O_stackOne_17 ?_
      refine j_iload_n C 1 rfl rfl d_O_stackOne_20 ?_
      refine j_dup2 C rfl rfl d_O_stackOne_21 ?_
      refine j_grd (fun h27 => ?_)
      refine lC_O_inCassette C h27 d_O_stackOne_22 ?_
      refine j_iconst (v := 1) C (by decide) d_O_stackOne_23 ?_
      refine j_isub C d_O_stackOne_24 ?_
      refine j_grd (fun h28 => ?_)
      refine sC_O_inCassette C h28 d_O_stackOne_25 ?_
      refine j_ltS (fun S29 => ?_)
      refine j_aload_n C 0 rfl rfl d_O_stackOne_26 ?_
      refine gC_O_inStacker C u_125 d_O_stackOne_27 ?_
      refine j_iload_n C 1 rfl rfl d_O_stackOne_30 ?_
      refine j_dup2 C rfl rfl d_O_stackOne_31 ?_
      refine j_grd (fun h30 => ?_)
      refine lC_O_inStacker C h30 d_O_stackOne_32 ?_
      refine j_iconst (v := 1) C (by decide) d_O_stackOne_33 ?_
      refine j_iadd C d_O_stackOne_34 ?_
      refine j_grd (fun h31 => ?_)
      refine sC_O_inStacker C h31 d_O_stackOne_35 ?_
      refine j_ltS (fun S32 => ?_)
      refine j_aload_n C 0 rfl rfl d_O_stackOne_36 ?_
      refine j_dup C rfl d_O_stackOne_37 ?_
      refine gC_O_stackerWorth C u_128 d_O_stackOne_38 ?_
      refine j_aload_n C 0 rfl rfl d_O_stackOne_41 ?_
      refine gC_O_denominations C u_123 d_O_stackOne_42 ?_
      refine j_iload_n C 1 rfl rfl d_O_stackOne_45 ?_
      refine j_grd (fun h33 => ?_)
      refine lC_O_denominations C h33 d_O_stackOne_46 ?_
      refine j_iadd C d_O_stackOne_47 ?_
      refine pC_O_stackerWorth C u_128 d_O_stackOne_48 ?_
      refine j_ltS (fun S34 => ?_)
      exact j_vret C rfl rfl d_O_stackOne_51
def f_M_stackMix_9 (g : Nat) : Nat → Mem → Int32 → Int32 → Option ((Int32 × Mem) ⊕ (Mem × (Int32)))
  | 0, _, _, _ => none
  | n + 1, S, x1, x2 => grd (¬ (x1 < 0 ∨ 4 ≤ x1.toNatClampNeg)) (if (S.1 29 x1.toNatClampNeg) ≤ x2 then (some (.inr (S, x1))) else (bnd (f_M_mayStep g S) (fun r24 S25 => if r24 = 0 then (some (.inl ((0 : Int32), S25))) else (bnd (f_O_stackOne g S25 x1) (fun _ S29 => lt (x2 + (1 : Int32)) (fun x31 => f_M_stackMix_9 g n S29 x1 x31))))))
set_option maxRecDepth 100000 in
set_option maxHeartbeats 4000000 in
theorem lp_M_stackMix_9 {l : Launch} {D : va_G} {cI cJ cZ cL : ClassId} {a : Nat → Nat} {p : Program} {e : Env} {s : State} {m : MethodId} {args : Array Value} {below : List Frame} {meth : Method} {c : Code} {A : Nat → Prop} (C : Cx p s m args meth c "AutoTeller$Machine" prog_6_method_13_code 3 (some .boolean) D (tyT cI cJ cZ cL) (wdC cI cJ cZ cL a) A) (g : Nat) {K : ((Int32 × Mem) ⊕ (Mem × (Int32))) → Option (Int32 × Mem)} (hret : ∀ t, K (.inl t) = some t) (hx : ∀ (S : Mem) (y : Int32), Tj p l e rm_M_stackMix s m args below meth c D (wdC cI cJ cZ cL a) A 3 vI K (some (.inr (S, y))) S 45 [(0, .ref (a 3)), (1, .int y)] []) : ∀ (n : Nat) (S : Mem) (x1 : Int32) (x2 : Int32), Tj p l e rm_M_stackMix s m args below meth c D (wdC cI cJ cZ cL a) A 3 vI K (f_M_stackMix_9 g n S x1 x2) S 9 [(0, .ref (a 3)), (1, .int x1), (2, .int x2)] [] := by
  intro n
  induction n with
  | zero =>
    intro S x1 x2
    exact j_none
  | succ n ih =>
    intro S x1 x2
    rw [f_M_stackMix_9]
    refine j_iload_n C 2 rfl rfl d_M_stackMix_9 ?_
    refine j_aload_n C 0 rfl rfl d_M_stackMix_10 ?_
    refine gC_M_notes C u_184 d_M_stackMix_11 ?_
    refine gnC_O_mixed C n_133 d_M_stackMix_14 ?_
    refine j_iload_n C 1 rfl rfl d_M_stackMix_17 ?_
    refine j_grd (fun h22 => ?_)
    refine lC_O_mixed C h22 d_M_stackMix_18 ?_
    refine j_icmp_ge (tgt := 45) C d_M_stackMix_19 (by decide) (fun h23 => ?_) (fun h23 => ?_)
    · refine j_sub [0, 1] rfl ?_
      exact hx S x1
    · refine j_aload_n C 0 rfl rfl d_M_stackMix_22 ?_
      refine j_bnd (fun r24 S25 e26 => ?_)
      refine j_callVi (As := []) (rest := []) C 3 4 Y_M_mayStep u_330 (c_M_mayStep g S e26) rfl rfl ⟨by decide, by decide⟩ rfl rfl rfl rfl (Nat.le_of_ble_eq_true rfl) d_M_stackMix_23 ?_
      refine j_if_ne (tgt := 31) C d_M_stackMix_26 (by decide) (fun h27 => ?_) (fun h27 => ?_)
      · refine j_iconst (v := 0) C (by decide) d_M_stackMix_29 ?_
        exact j_zret C (Or.inl rfl) (hret _) rfl d_M_stackMix_30
      · refine j_aload_n C 0 rfl rfl d_M_stackMix_31 ?_
        refine gC_M_notes C u_184 d_M_stackMix_32 ?_
        refine j_iload_n C 1 rfl rfl d_M_stackMix_35 ?_
        refine j_bnd (fun _ S29 e30 => ?_)
        refine j_callVv (As := [.int x1]) (rest := []) C 4 5 Y_O_stackOne u_548 (c_O_stackOne g S25 x1 e30) rfl rfl ⟨by decide, by decide⟩ rfl rfl rfl rfl (Nat.le_of_ble_eq_true rfl) d_M_stackMix_36 ?_
        refine j_iincN (n2 := 1) (lv2 := fun x31 => [(2, .int x31), (0, .ref (a 3)), (1, .int x1)]) C 2 rfl (by decide) (by decide) (fun _ => rfl) d_M_stackMix_39 (fun x31 => ?_)
        refine j_goto (tgt := 9) C d_M_stackMix_42 (by decide) ?_
        refine j_sub [1, 2, 0] rfl ?_
        exact ih S29 x1 x31
def f_M_stackMix_2 (g : Nat) : Nat → Mem → Int32 → Option ((Int32 × Mem) ⊕ (Mem × (Unit)))
  | 0, _, _ => none
  | n + 1, S, x1 => if (4 : Int32) ≤ x1 then (some (.inr (S, ()))) else (seqR (f_M_stackMix_9 g g S x1 (0 : Int32)) (fun t => some (.inl t)) (fun S32 y33 => lt (y33 + (1 : Int32)) (fun x34 => f_M_stackMix_2 g n S32 x34)))
set_option maxRecDepth 100000 in
set_option maxHeartbeats 4000000 in
theorem lp_M_stackMix_2 {l : Launch} {D : va_G} {cI cJ cZ cL : ClassId} {a : Nat → Nat} {p : Program} {e : Env} {s : State} {m : MethodId} {args : Array Value} {below : List Frame} {meth : Method} {c : Code} {A : Nat → Prop} (C : Cx p s m args meth c "AutoTeller$Machine" prog_6_method_13_code 3 (some .boolean) D (tyT cI cJ cZ cL) (wdC cI cJ cZ cL a) A) (g : Nat) {K : ((Int32 × Mem) ⊕ (Mem × (Unit))) → Option (Int32 × Mem)} (hret : ∀ t, K (.inl t) = some t) (hx : ∀ (S : Mem) (y : Unit), Tj p l e rm_M_stackMix s m args below meth c D (wdC cI cJ cZ cL a) A 3 vI K (some (.inr (S, y))) S 51 [] []) : ∀ (n : Nat) (S : Mem) (x1 : Int32), Tj p l e rm_M_stackMix s m args below meth c D (wdC cI cJ cZ cL a) A 3 vI K (f_M_stackMix_2 g n S x1) S 2 [(0, .ref (a 3)), (1, .int x1)] [] := by
  intro n
  induction n with
  | zero =>
    intro S x1
    exact j_none
  | succ n ih =>
    intro S x1
    rw [f_M_stackMix_2]
    refine j_iload_n C 1 rfl rfl d_M_stackMix_2 ?_
    refine j_iconst (v := 4) C (by decide) d_M_stackMix_3 ?_
    refine j_icmp_ge (tgt := 51) C d_M_stackMix_4 (by decide) (fun h21 => ?_) (fun h21 => ?_)
    · refine j_sub [] rfl ?_
      exact hx S ()
    · refine j_iconst (v := 0) C (by decide) d_M_stackMix_7 ?_
      refine j_istore_n (i := 2) (lv2 := [(2, .int (0 : Int32)), (0, .ref (a 3)), (1, .int x1)]) C rfl (by decide) rfl d_M_stackMix_8 ?_
      refine j_sub [1, 2, 0] rfl ?_
      refine j_seqR ?_
      refine lp_M_stackMix_9 C g  (fun t => hret t) (fun S32 y33 => ?_) g S x1 (0 : Int32)
      refine j_outR ?_
      refine j_iincN (n2 := 1) (lv2 := fun x34 => [(1, .int x34), (0, .ref (a 3))]) C 1 rfl (by decide) (by decide) (fun _ => rfl) d_M_stackMix_45 (fun x34 => ?_)
      refine j_goto (tgt := 2) C d_M_stackMix_48 (by decide) ?_
      refine j_sub [1, 0] rfl ?_
      exact ih S32 x34
def f_M_stackMix (g : Nat) (S : Mem) : Option (Int32 × Mem) := seqR (f_M_stackMix_2 g g S (0 : Int32)) some (fun S35 y36 => some ((1 : Int32), S35))
set_option maxRecDepth 100000 in
set_option maxHeartbeats 4000000 in
theorem c_M_stackMix {l : Launch} {D : va_G} {cI cJ cZ cL : ClassId} {a : Nat → Nat} (g : Nat) (S : Mem) {r : Int32} {S9 : Mem} (h : f_M_stackMix g S = some (r, S9)) : Ctr l y_M_stackMix prog_6_method_13_code 3 (some .boolean) rm_M_stackMix D (tyT cI cJ cZ cL) (wdC cI cJ cZ cL a) [.ref (a 3)] S (vI r, S9) := by
  refine Ctr.of (lv0 := [(0, .ref (a 3))]) (vv := vI) (by decide) rfl (wdC_fst cI cJ cZ cL a) (Nat.le_of_ble_eq_true rfl) rfl (fun p e s m args below meth c A C => ?_) r S9 h
  unfold f_M_stackMix
  refine j_iconst (v := 0) C (by decide) d_M_stackMix_0 ?_
  refine j_istore_n (i := 1) (lv2 := [(1, .int (0 : Int32)), (0, .ref (a 3))]) C rfl (by decide) rfl d_M_stackMix_1 ?_
  refine j_sub [1, 0] rfl ?_
  refine j_seqR ?_
  refine lp_M_stackMix_2 C g  (fun _ => rfl) (fun S35 y36 => ?_) g S (0 : Int32)
  refine j_outR ?_
  refine j_iconst (v := 1) C (by decide) d_M_stackMix_51 ?_
  exact j_zret C (Or.inr rfl) rfl rfl d_M_stackMix_52
def f_O_emptyStackerInto_inTray_2 (g : Nat) : Nat → Mem → Int32 → Option (Mem × (Unit))
  | 0, _, _ => none
  | n + 1, S, x2 => if (4 : Int32) ≤ x2 then (some (S, ())) else (if (4 : Int32) ≤ x2 then (some (S, ())) else (grd (¬ (x2 < 0 ∨ 4 ≤ x2.toNatClampNeg)) (grd (¬ (x2 < 0 ∨ 4 ≤ x2.toNatClampNeg)) (grd (¬ (x2 < 0 ∨ 4 ≤ x2.toNatClampNeg)) (lt (sI S 25 x2.toNatClampNeg ((S.1 25 x2.toNatClampNeg) + (S.1 24 x2.toNatClampNeg))) (fun S26 => grd (¬ (x2 < 0 ∨ 4 ≤ x2.toNatClampNeg)) (lt (sI S26 24 x2.toNatClampNeg (0 : Int32)) (fun S28 => lt (x2 + (1 : Int32)) (fun x29 => f_O_emptyStackerInto_inTray_2 g n S28 x29)))))))))
set_option maxRecDepth 100000 in
set_option maxHeartbeats 4000000 in
theorem lp_O_emptyStackerInto_inTray_2 {l : Launch} {D : va_G} {cI cJ cZ cL : ClassId} {a : Nat → Nat} {p : Program} {e : Env} {s : State} {m : MethodId} {args : Array Value} {below : List Frame} {meth : Method} {c : Code} {A : Nat → Prop} (C : Cx p s m args meth c "AutoTeller$Notes" prog_7_method_13_code 3 none D (tyT cI cJ cZ cL) (wdC cI cJ cZ cL a) A) (g : Nat) {K : (Mem × (Unit)) → Option (Unit × Mem)} (hx : ∀ (S : Mem) (y : Unit), Tj p l e rm_O_emptyStackerInto_inTray s m args below meth c D (wdC cI cJ cZ cL a) A 3 vV K (some (S, y)) S 38 [] []) : ∀ (n : Nat) (S : Mem) (x2 : Int32), Tj p l e rm_O_emptyStackerInto_inTray s m args below meth c D (wdC cI cJ cZ cL a) A 3 vV K (f_O_emptyStackerInto_inTray_2 g n S x2) S 2 [(0, .ref (a 4)), (1, .ref (a 19)), (2, .int x2)] [] := by
  intro n
  induction n with
  | zero =>
    intro S x2
    exact j_none
  | succ n ih =>
    intro S x2
    rw [f_O_emptyStackerInto_inTray_2]
    refine j_iload_n C 2 rfl rfl d_O_emptyStackerInto_2 ?_
    refine j_iconst (v := 4) C (by decide) d_O_emptyStackerInto_3 ?_
    refine j_icmp_ge (tgt := 38) C d_O_emptyStackerInto_4 (by decide) (fun h21 => ?_) (fun h21 => ?_)
    · refine j_sub [] rfl ?_
      exact hx S ()
    · refine j_iload_n C 2 rfl rfl d_O_emptyStackerInto_7 ?_
      refine j_aload_n C 1 rfl rfl d_O_emptyStackerInto_8 ?_
      refine zC_O_inTray C d_O_emptyStackerInto_9 ?_
      refine j_icmp_ge (tgt := 38) C d_O_emptyStackerInto_10 (by decide) (fun h22 => ?_) (fun h22 => ?_)
      · refine j_sub [] rfl ?_
        exact hx S ()
      · refine j_aload_n C 1 rfl rfl d_O_emptyStackerInto_13 ?_
        refine j_iload_n C 2 rfl rfl d_O_emptyStackerInto_14 ?_
        refine j_dup2 C rfl rfl d_O_emptyStackerInto_15 ?_
        refine j_grd (fun h23 => ?_)
        refine lC_O_inTray C h23 d_O_emptyStackerInto_16 ?_
        refine j_aload_n C 0 rfl rfl d_O_emptyStackerInto_17 ?_
        refine gC_O_inStacker C u_125 d_O_emptyStackerInto_18 ?_
        refine j_iload_n C 2 rfl rfl d_O_emptyStackerInto_21 ?_
        refine j_grd (fun h24 => ?_)
        refine lC_O_inStacker C h24 d_O_emptyStackerInto_22 ?_
        refine j_iadd C d_O_emptyStackerInto_23 ?_
        refine j_grd (fun h25 => ?_)
        refine sC_O_inTray C h25 d_O_emptyStackerInto_24 ?_
        refine j_ltS (fun S26 => ?_)
        refine j_aload_n C 0 rfl rfl d_O_emptyStackerInto_25 ?_
        refine gC_O_inStacker C u_125 d_O_emptyStackerInto_26 ?_
        refine j_iload_n C 2 rfl rfl d_O_emptyStackerInto_29 ?_
        refine j_iconst (v := 0) C (by decide) d_O_emptyStackerInto_30 ?_
        refine j_grd (fun h27 => ?_)
        refine sC_O_inStacker C h27 d_O_emptyStackerInto_31 ?_
        refine j_ltS (fun S28 => ?_)
        refine j_iincN (n2 := 1) (lv2 := fun x29 => [(2, .int x29), (0, .ref (a 4)), (1, .ref (a 19))]) C 2 rfl (by decide) (by decide) (fun _ => rfl) d_O_emptyStackerInto_32 (fun x29 => ?_)
        refine j_goto (tgt := 2) C d_O_emptyStackerInto_35 (by decide) ?_
        refine j_sub [1, 2, 0] rfl ?_
        exact ih S28 x29
def f_O_emptyStackerInto_inTray (g : Nat) (S : Mem) : Option (Unit × Mem) := seqM (f_O_emptyStackerInto_inTray_2 g g S (0 : Int32)) (fun S30 y31 => some ((), S30))
set_option maxRecDepth 100000 in
set_option maxHeartbeats 4000000 in
theorem c_O_emptyStackerInto_inTray {l : Launch} {D : va_G} {cI cJ cZ cL : ClassId} {a : Nat → Nat} (g : Nat) (S : Mem) {r : Unit} {S9 : Mem} (h : f_O_emptyStackerInto_inTray g S = some (r, S9)) : Ctr l y_O_emptyStackerInto prog_7_method_13_code 3 none rm_O_emptyStackerInto_inTray D (tyT cI cJ cZ cL) (wdC cI cJ cZ cL a) [.ref (a 4), .ref (a 19)] S (vV r, S9) := by
  refine Ctr.of (lv0 := [(0, .ref (a 4)), (1, .ref (a 19))]) (vv := vV) (by decide) rfl (wdC_fst cI cJ cZ cL a) (Nat.le_of_ble_eq_true rfl) rfl (fun p e s m args below meth c A C => ?_) r S9 h
  unfold f_O_emptyStackerInto_inTray
  refine j_iconst (v := 0) C (by decide) d_O_emptyStackerInto_0 ?_
  refine j_istore_n (i := 2) (lv2 := [(2, .int (0 : Int32)), (0, .ref (a 4)), (1, .ref (a 19))]) C rfl (by decide) rfl d_O_emptyStackerInto_1 ?_
  refine j_sub [1, 2, 0] rfl ?_
  refine j_seqM ?_
  refine lp_O_emptyStackerInto_inTray_2 C g  (fun S30 y31 => ?_) g S (0 : Int32)
  refine j_outM ?_
  exact j_vret C rfl rfl d_O_emptyStackerInto_38
def f_O_moveStackerToTray (g : Nat) (S : Mem) : Option (Unit × Mem) := bnd (f_O_emptyStackerInto_inTray g S) (fun _ S22 => lt (sI S22 28 0 ((S22.1 28 0) + (S22.1 27 0))) (fun S24 => lt (sL S24 2 0 ((S24.2.1 2 0) + ((S24.1 27 0).toInt64))) (fun S25 => lt (sI S25 27 0 (0 : Int32)) (fun S26 => some ((), S26)))))
set_option maxRecDepth 100000 in
set_option maxHeartbeats 4000000 in
theorem c_O_moveStackerToTray {l : Launch} {D : va_G} {cI cJ cZ cL : ClassId} {a : Nat → Nat} (g : Nat) (S : Mem) {r : Unit} {S9 : Mem} (h : f_O_moveStackerToTray g S = some (r, S9)) : Ctr l y_O_moveStackerToTray prog_7_method_11_code 1 none rm_O_moveStackerToTray D (tyT cI cJ cZ cL) (wdC cI cJ cZ cL a) [.ref (a 4)] S (vV r, S9) := by
  refine Ctr.of (lv0 := [(0, .ref (a 4))]) (vv := vV) (by decide) rfl (wdC_fst cI cJ cZ cL a) (Nat.le_of_ble_eq_true rfl) rfl (fun p e s m args below meth c A C => ?_) r S9 h
  unfold f_O_moveStackerToTray
  refine j_aload_n C 0 rfl rfl d_O_moveStackerToTray_0 ?_
  refine j_aload_n C 0 rfl rfl d_O_moveStackerToTray_1 ?_
  refine gC_O_inTray C u_126 d_O_moveStackerToTray_2 ?_
  refine j_bnd (fun _ S22 e23 => ?_)
  refine j_callVv (As := [.ref (a 19)]) (rest := []) C 4 5 Y_O_emptyStackerInto u_445 (c_O_emptyStackerInto_inTray g S e23) rfl rfl ⟨by decide, by decide⟩ rfl rfl rfl rfl (Nat.le_of_ble_eq_true rfl) d_O_moveStackerToTray_5 ?_
  refine j_aload_n C 0 rfl rfl d_O_moveStackerToTray_8 ?_
  refine j_dup C rfl d_O_moveStackerToTray_9 ?_
  refine gC_O_trayWorth C u_129 d_O_moveStackerToTray_10 ?_
  refine j_aload_n C 0 rfl rfl d_O_moveStackerToTray_13 ?_
  refine gC_O_stackerWorth C u_128 d_O_moveStackerToTray_14 ?_
  refine j_iadd C d_O_moveStackerToTray_17 ?_
  refine pC_O_trayWorth C u_129 d_O_moveStackerToTray_18 ?_
  refine j_ltS (fun S24 => ?_)
  refine j_aload_n C 0 rfl rfl d_O_moveStackerToTray_21 ?_
  refine j_dup C rfl d_O_moveStackerToTray_22 ?_
  refine gC_O_everInTray C u_130 d_O_moveStackerToTray_23 ?_
  refine j_aload_n C 0 rfl rfl d_O_moveStackerToTray_26 ?_
  refine gC_O_stackerWorth C u_128 d_O_moveStackerToTray_27 ?_
  refine j_i2l C d_O_moveStackerToTray_30 ?_
  refine j_ladd C d_O_moveStackerToTray_31 ?_
  refine pC_O_everInTray C u_130 d_O_moveStackerToTray_32 ?_
  refine j_ltS (fun S25 => ?_)
  refine j_aload_n C 0 rfl rfl d_O_moveStackerToTray_35 ?_
  refine j_iconst (v := 0) C (by decide) d_O_moveStackerToTray_36 ?_
  refine pC_O_stackerWorth C u_128 d_O_moveStackerToTray_37 ?_
  refine j_ltS (fun S26 => ?_)
  exact j_vret C rfl rfl d_O_moveStackerToTray_40
def f_M_payOut (g : Nat) (S : Mem) : Option (Unit × Mem) := bnd (f_M_write g S (2 : Int32)) (fun r21 S22 => if r21 = 0 then (some ((), S22)) else (bnd (f_O_findMix g S22 (S22.1 21 0)) (fun r25 S26 => if r25 = 0 then (some ((), S26)) else (bnd (f_M_stackMix g S26) (fun r29 S30 => if r29 = 0 then (some ((), S30)) else (bnd (f_M_mayStep g S30) (fun r33 S34 => if r33 = 0 then (some ((), S34)) else (bnd (f_O_moveStackerToTray g S34) (fun _ S38 => lt (sI S38 16 0 ((S38.1 16 0) + (1 : Int32))) (fun S40 => bnd (f_M_write g S40 (3 : Int32)) (fun r41 S42 => if r41 = 0 then (some ((), S42)) else (lt (sI S42 13 0 (3 : Int32)) (fun S45 => some ((), S45))))))))))))))
set_option maxRecDepth 100000 in
set_option maxHeartbeats 4000000 in
theorem c_M_payOut {l : Launch} {D : va_G} {cI cJ cZ cL : ClassId} {a : Nat → Nat} (g : Nat) (S : Mem) {r : Unit} {S9 : Mem} (h : f_M_payOut g S = some (r, S9)) : Ctr l y_M_payOut prog_6_method_12_code 1 none rm_M_payOut D (tyT cI cJ cZ cL) (wdC cI cJ cZ cL a) [.ref (a 3)] S (vV r, S9) := by
  refine Ctr.of (lv0 := [(0, .ref (a 3))]) (vv := vV) (by decide) rfl (wdC_fst cI cJ cZ cL a) (Nat.le_of_ble_eq_true rfl) rfl (fun p e s m args below meth c A C => ?_) r S9 h
  unfold f_M_payOut
  refine j_aload_n C 0 rfl rfl d_M_payOut_0 ?_
  refine j_iconst (v := 2) C (by decide) d_M_payOut_1 ?_
  refine j_bnd (fun r21 S22 e23 => ?_)
  refine j_callVi (As := [.int (2 : Int32)]) (rest := []) C 3 4 Y_M_write u_391 (c_M_write g S (2 : Int32) e23) rfl rfl ⟨by decide, by decide⟩ rfl rfl rfl rfl (Nat.le_of_ble_eq_true rfl) d_M_payOut_2 ?_
  refine j_if_eq (tgt := 29) C d_M_payOut_5 (by decide) (fun h24 => ?_) (fun h24 => ?_)
  · exact j_vret C rfl rfl d_M_payOut_29
  · refine j_aload_n C 0 rfl rfl d_M_payOut_8 ?_
    refine gC_M_notes C u_184 d_M_payOut_9 ?_
    refine j_aload_n C 0 rfl rfl d_M_payOut_12 ?_
    refine gC_M_amountAtHand C u_205 d_M_payOut_13 ?_
    refine j_bnd (fun r25 S26 e27 => ?_)
    refine j_callVi (As := [.int (S22.1 21 0)]) (rest := []) C 4 5 Y_O_findMix u_371 (c_O_findMix g S22 (S22.1 21 0) e27) rfl rfl ⟨by decide, by decide⟩ rfl rfl rfl rfl (Nat.le_of_ble_eq_true rfl) d_M_payOut_16 ?_
    refine j_if_eq (tgt := 29) C d_M_payOut_19 (by decide) (fun h28 => ?_) (fun h28 => ?_)
    · exact j_vret C rfl rfl d_M_payOut_29
    · refine j_aload_n C 0 rfl rfl d_M_payOut_22 ?_
      refine j_bnd (fun r29 S30 e31 => ?_)
      refine j_callVi (As := []) (rest := []) C 3 4 Y_M_stackMix u_544 (c_M_stackMix g S26 e31) rfl rfl ⟨by decide, by decide⟩ rfl rfl rfl rfl (Nat.le_of_ble_eq_true rfl) d_M_payOut_23 ?_
      refine j_if_ne (tgt := 30) C d_M_payOut_26 (by decide) (fun h32 => ?_) (fun h32 => ?_)
      · exact j_vret C rfl rfl d_M_payOut_29
      · refine j_aload_n C 0 rfl rfl d_M_payOut_30 ?_
        refine j_bnd (fun r33 S34 e35 => ?_)
        refine j_callVi (As := []) (rest := []) C 3 4 Y_M_mayStep u_330 (c_M_mayStep g S30 e35) rfl rfl ⟨by decide, by decide⟩ rfl rfl rfl rfl (Nat.le_of_ble_eq_true rfl) d_M_payOut_31 ?_
        refine j_if_ne (tgt := 38) C d_M_payOut_34 (by decide) (fun h36 => ?_) (fun h36 => ?_)
        · exact j_vret C rfl rfl d_M_payOut_37
        · refine j_aload_n C 0 rfl rfl d_M_payOut_38 ?_
          refine gC_M_notes C u_184 d_M_payOut_39 ?_
          refine j_bnd (fun _ S38 e39 => ?_)
          refine j_callVv (As := []) (rest := []) C 4 5 Y_O_moveStackerToTray u_552 (c_O_moveStackerToTray g S34 e39) rfl rfl ⟨by decide, by decide⟩ rfl rfl rfl rfl (Nat.le_of_ble_eq_true rfl) d_M_payOut_42 ?_
          refine j_aload_n C 0 rfl rfl d_M_payOut_45 ?_
          refine j_dup C rfl d_M_payOut_46 ?_
          refine gC_M_openings C u_198 d_M_payOut_47 ?_
          refine j_iconst (v := 1) C (by decide) d_M_payOut_50 ?_
          refine j_iadd C d_M_payOut_51 ?_
          refine pC_M_openings C u_198 d_M_payOut_52 ?_
          refine j_ltS (fun S40 => ?_)
          refine j_aload_n C 0 rfl rfl d_M_payOut_55 ?_
          refine j_iconst (v := 3) C (by decide) d_M_payOut_56 ?_
          refine j_bnd (fun r41 S42 e43 => ?_)
          refine j_callVi (As := [.int (3 : Int32)]) (rest := []) C 3 4 Y_M_write u_391 (c_M_write g S40 (3 : Int32) e43) rfl rfl ⟨by decide, by decide⟩ rfl rfl rfl rfl (Nat.le_of_ble_eq_true rfl) d_M_payOut_57 ?_
          refine j_if_eq (tgt := 68) C d_M_payOut_60 (by decide) (fun h44 => ?_) (fun h44 => ?_)
          · exact j_vret C rfl rfl d_M_payOut_68
          · refine j_aload_n C 0 rfl rfl d_M_payOut_63 ?_
            refine j_iconst (v := 3) C (by decide) d_M_payOut_64 ?_
            refine pC_M_phase C u_192 d_M_payOut_65 ?_
            refine j_ltS (fun S45 => ?_)
            exact j_vret C rfl rfl d_M_payOut_68
def f_M_receive (g : Nat) (j1 : Nat) (S : Mem) : Option (Unit × Mem) := if (S.1 11 0) = 0 then (some ((), S)) else (bnd (f_E_isSound g j1 S) (fun r22 S23 => if r22 = 0 then (lt (sI S23 18 0 ((S23.1 18 0) + (1 : Int32))) (fun S26 => some ((), S26))) else (bnd (f_M_isAwaited g j1 S23) (fun r27 S28 => if r27 = 0 then (lt (sI S28 18 0 ((S28.1 18 0) + (1 : Int32))) (fun S31 => some ((), S31))) else (lt (S28.1 13 0) (fun x32 => if x32 = (2 : Int32) then (bnd (f_E_code g j1 S28) (fun r34 S35 => bnd (f_M_endPinCheck g S35 r34) (fun _ S38 => some ((), S38)))) else (if x32 = (4 : Int32) then (bnd (f_E_code g j1 S28) (fun r41 S42 => if r41 = 0 then (bnd (f_M_payOut g S42) (fun _ S46 => some ((), S46))) else (bnd (f_M_write g S42 (6 : Int32)) (fun r48 S49 => if r48 = 0 then (some ((), S49)) else (lt (sI S49 13 0 (3 : Int32)) (fun S52 => some ((), S52))))))) else (bnd (f_M_write g S28 (5 : Int32)) (fun r53 S54 => if r53 = 0 then (some ((), S54)) else (lt (sI S54 13 0 (0 : Int32)) (fun S57 => some ((), S57))))))))))))
set_option maxRecDepth 100000 in
set_option maxHeartbeats 4000000 in
theorem c_M_receive {l : Launch} {D : va_G} {cI cJ cZ cL : ClassId} {a : Nat → Nat} (g : Nat) (j1 : Nat) (hj1 : j1 < 25) (S : Mem) {r : Unit} {S9 : Mem} (h : f_M_receive g j1 S = some (r, S9)) : Ctr l y_M_receive prog_6_method_9_code 2 none rm_M_receive D (tyT cI cJ cZ cL) (wdC cI cJ cZ cL a) [.ref (a 3), .ref (a (100 + j1))] S (vV r, S9) := by
  refine Ctr.of (lv0 := [(0, .ref (a 3)), (1, .ref (a (100 + j1)))]) (vv := vV) (by decide) rfl (wdC_fst cI cJ cZ cL a) (Nat.le_of_ble_eq_true rfl) rfl (fun p e s m args below meth c A C => ?_) r S9 h
  unfold f_M_receive
  refine j_aload_n C 0 rfl rfl d_M_receive_0 ?_
  refine gC_M_on C u_189 d_M_receive_1 ?_
  refine j_if_ne (tgt := 8) C d_M_receive_4 (by decide) (fun h21 => ?_) (fun h21 => ?_)
  · exact j_vret C rfl rfl d_M_receive_7
  · refine j_aload_n C 1 rfl rfl d_M_receive_8 ?_
    refine j_bnd (fun r22 S23 e24 => ?_)
    refine j_callVi (As := []) (rest := []) C (26 + j1) 2 Y_E_isSound u_525 (c_E_isSound g j1 hj1 S e24) rfl rfl ⟨by decide, by decide⟩ rfl (wdC_E hj1) rfl rfl (Nat.le_of_ble_eq_true rfl) d_M_receive_9 ?_
    refine j_if_eq (tgt := 23) C d_M_receive_12 (by decide) (fun h25 => ?_) (fun h25 => ?_)
    · refine j_aload_n C 0 rfl rfl d_M_receive_23 ?_
      refine j_dup C rfl d_M_receive_24 ?_
      refine gC_M_dropped C u_201 d_M_receive_25 ?_
      refine j_iconst (v := 1) C (by decide) d_M_receive_28 ?_
      refine j_iadd C d_M_receive_29 ?_
      refine pC_M_dropped C u_201 d_M_receive_30 ?_
      refine j_ltS (fun S26 => ?_)
      exact j_vret C rfl rfl d_M_receive_33
    · refine j_aload_n C 0 rfl rfl d_M_receive_15 ?_
      refine j_aload_n C 1 rfl rfl d_M_receive_16 ?_
      refine j_bnd (fun r27 S28 e29 => ?_)
      refine j_callVi (As := [.ref (a (100 + j1))]) (rest := []) C 3 4 Y_M_isAwaited u_526 (c_M_isAwaited g j1 hj1 S23 e29) rfl rfl ⟨by decide, by decide⟩ rfl rfl rfl rfl (Nat.le_of_ble_eq_true rfl) d_M_receive_17 ?_
      refine j_if_ne (tgt := 34) C d_M_receive_20 (by decide) (fun h30 => ?_) (fun h30 => ?_)
      · refine j_aload_n C 0 rfl rfl d_M_receive_23 ?_
        refine j_dup C rfl d_M_receive_24 ?_
        refine gC_M_dropped C u_201 d_M_receive_25 ?_
        refine j_iconst (v := 1) C (by decide) d_M_receive_28 ?_
        refine j_iadd C d_M_receive_29 ?_
        refine pC_M_dropped C u_201 d_M_receive_30 ?_
        refine j_ltS (fun S31 => ?_)
        exact j_vret C rfl rfl d_M_receive_33
      · refine j_aload_n C 0 rfl rfl d_M_receive_34 ?_
        refine gC_M_phase C u_192 d_M_receive_35 ?_
        refine j_lti (fun x32 => ?_)
        refine j_if (fun h33 => ?_) (fun h33 => ?_)
        · refine j_look (off := 26) (tgt := 64) C d_M_receive_38 (by decide) (by rw [h33]; rfl) (by decide) ?_
          refine j_aload_n C 0 rfl rfl d_M_receive_64 ?_
          refine j_aload_n C 1 rfl rfl d_M_receive_65 ?_
          refine j_bnd (fun r34 S35 e36 => ?_)
          refine j_callVi (As := []) (rest := [.ref (a 3)]) C (26 + j1) 2 Y_E_code u_532 (c_E_code g j1 hj1 S28 e36) rfl rfl ⟨by decide, by decide⟩ rfl (wdC_E hj1) rfl rfl (Nat.le_of_ble_eq_true rfl) d_M_receive_66 ?_
          refine j_bnd (fun _ S38 e39 => ?_)
          refine j_callVv (As := [.int r34]) (rest := []) C 3 4 Y_M_endPinCheck u_536 (c_M_endPinCheck g S35 r34 e39) rfl rfl ⟨by decide, by decide⟩ rfl rfl rfl rfl (Nat.le_of_ble_eq_true rfl) d_M_receive_69 ?_
          refine j_goto (tgt := 119) C d_M_receive_72 (by decide) ?_
          exact j_vret C rfl rfl d_M_receive_119
        refine j_if (fun h40 => ?_) (fun h40 => ?_)
        · refine j_look (off := 37) (tgt := 75) C d_M_receive_38 (by decide) (by rw [h40]; rfl) (by decide) ?_
          refine j_aload_n C 1 rfl rfl d_M_receive_75 ?_
          refine j_bnd (fun r41 S42 e43 => ?_)
          refine j_callVi (As := []) (rest := []) C (26 + j1) 2 Y_E_code u_532 (c_E_code g j1 hj1 S28 e43) rfl rfl ⟨by decide, by decide⟩ rfl (wdC_E hj1) rfl rfl (Nat.le_of_ble_eq_true rfl) d_M_receive_76 ?_
          refine j_if_ne (tgt := 89) C d_M_receive_79 (by decide) (fun h44 => ?_) (fun h44 => ?_)
          · refine j_aload_n C 0 rfl rfl d_M_receive_82 ?_
            refine j_bnd (fun _ S46 e47 => ?_)
            refine j_callVv (As := []) (rest := []) C 3 4 Y_M_payOut u_540 (c_M_payOut g S42 e47) rfl rfl ⟨by decide, by decide⟩ rfl rfl rfl rfl (Nat.le_of_ble_eq_true rfl) d_M_receive_83 ?_
            refine j_goto (tgt := 119) C d_M_receive_86 (by decide) ?_
            exact j_vret C rfl rfl d_M_receive_119
          · refine j_aload_n C 0 rfl rfl d_M_receive_89 ?_
            refine j_bipush (v := 6) C (by decide) d_M_receive_90 ?_
            refine j_bnd (fun r48 S49 e50 => ?_)
            refine j_callVi (As := [.int (6 : Int32)]) (rest := []) C 3 4 Y_M_write u_391 (c_M_write g S42 (6 : Int32) e50) rfl rfl ⟨by decide, by decide⟩ rfl rfl rfl rfl (Nat.le_of_ble_eq_true rfl) d_M_receive_92 ?_
            refine j_if_eq (tgt := 119) C d_M_receive_95 (by decide) (fun h51 => ?_) (fun h51 => ?_)
            · exact j_vret C rfl rfl d_M_receive_119
            · refine j_aload_n C 0 rfl rfl d_M_receive_98 ?_
              refine j_iconst (v := 3) C (by decide) d_M_receive_99 ?_
              refine pC_M_phase C u_192 d_M_receive_100 ?_
              refine j_ltS (fun S52 => ?_)
              refine j_goto (tgt := 119) C d_M_receive_103 (by decide) ?_
              exact j_vret C rfl rfl d_M_receive_119
        refine j_look (off := 68) (tgt := 106) C d_M_receive_38 (by decide) (by have gh33 : x32.toInt ≠ 2 := fun z => h33 (Int32.toInt_inj.mp (z.trans (by decide))); have gh40 : x32.toInt ≠ 4 := fun z => h40 (Int32.toInt_inj.mp (z.trans (by decide))); simp [Op.lookupswitch.offset, gh33, gh40, gh33.symm, gh40.symm]) (by decide) ?_
        refine j_aload_n C 0 rfl rfl d_M_receive_106 ?_
        refine j_iconst (v := 5) C (by decide) d_M_receive_107 ?_
        refine j_bnd (fun r53 S54 e55 => ?_)
        refine j_callVi (As := [.int (5 : Int32)]) (rest := []) C 3 4 Y_M_write u_391 (c_M_write g S28 (5 : Int32) e55) rfl rfl ⟨by decide, by decide⟩ rfl rfl rfl rfl (Nat.le_of_ble_eq_true rfl) d_M_receive_108 ?_
        refine j_if_eq (tgt := 119) C d_M_receive_111 (by decide) (fun h56 => ?_) (fun h56 => ?_)
        · exact j_vret C rfl rfl d_M_receive_119
        · refine j_aload_n C 0 rfl rfl d_M_receive_114 ?_
          refine j_iconst (v := 0) C (by decide) d_M_receive_115 ?_
          refine pC_M_phase C u_192 d_M_receive_116 ?_
          refine j_ltS (fun S57 => ?_)
          exact j_vret C rfl rfl d_M_receive_119
def f_E_cardNumber (g : Nat) (j0 : Nat) (S : Mem) : Option (Int32 × Mem) := some (S.2.2.2.2 j0 ((5 : Int32).toNatClampNeg), S)
set_option maxRecDepth 100000 in
set_option maxHeartbeats 4000000 in
theorem c_E_cardNumber {l : Launch} {D : va_G} {cI cJ cZ cL : ClassId} {a : Nat → Nat} (g : Nat) (j0 : Nat) (hj0 : j0 < 25) (S : Mem) {r : Int32} {S9 : Mem} (h : f_E_cardNumber g j0 S = some (r, S9)) : Ctr l y_E_cardNumber prog_4_method_6_code 1 (some .int) rm_E_cardNumber D (tyT cI cJ cZ cL) (wdC cI cJ cZ cL a) [.ref (a (100 + j0))] S (vI r, S9) := by
  refine Ctr.of (lv0 := [(0, .ref (a (100 + j0)))]) (vv := vI) (by decide) rfl (wdC_fst cI cJ cZ cL a) (Nat.le_of_ble_eq_true rfl) rfl (fun p e s m args below meth c A C => ?_) r S9 h
  unfold f_E_cardNumber
  refine j_aload_n C 0 rfl rfl d_E_cardNumber_0 ?_
  refine gC_E_bytes C hj0 u_33 d_E_cardNumber_1 ?_
  refine j_iconst (v := 5) C (by decide) d_E_cardNumber_4 ?_
  refine lC_bytes C hj0 (by decide) d_E_cardNumber_5 ?_
  exact j_iret C rfl rfl d_E_cardNumber_6
def f_E_value (g : Nat) (j0 : Nat) (S : Mem) : Option (Int64 × Mem) := bnd (f_E_readNumber g j0 S (6 : Int32)) (fun r21 S22 => some (r21, S22))
set_option maxRecDepth 100000 in
set_option maxHeartbeats 4000000 in
theorem c_E_value {l : Launch} {D : va_G} {cI cJ cZ cL : ClassId} {a : Nat → Nat} (g : Nat) (j0 : Nat) (hj0 : j0 < 25) (S : Mem) {r : Int64} {S9 : Mem} (h : f_E_value g j0 S = some (r, S9)) : Ctr l y_E_value prog_4_method_7_code 1 (some .long) rm_E_value D (tyT cI cJ cZ cL) (wdC cI cJ cZ cL a) [.ref (a (100 + j0))] S (vL r, S9) := by
  refine Ctr.of (lv0 := [(0, .ref (a (100 + j0)))]) (vv := vL) (by decide) rfl (wdC_fst cI cJ cZ cL a) (Nat.le_of_ble_eq_true rfl) rfl (fun p e s m args below meth c A C => ?_) r S9 h
  unfold f_E_value
  refine j_aload_n C 0 rfl rfl d_E_value_0 ?_
  refine j_bipush (v := 6) C (by decide) d_E_value_1 ?_
  refine j_bnd (fun r21 S22 e23 => ?_)
  refine j_callVl (As := [.int (6 : Int32)]) (rest := []) C (26 + j0) 2 Y_E_readNumber u_485 (c_E_readNumber g j0 hj0 S (6 : Int32) e23) rfl rfl ⟨by decide, by decide⟩ rfl (wdC_E hj0) rfl rfl (Nat.le_of_ble_eq_true rfl) d_E_value_3 ?_
  exact j_lret C rfl rfl d_E_value_6
def f_H_isUsable (g : Nat) (j0 : Nat) (S : Mem) : Option (Int32 × Mem) := bnd (f_E_trace g j0 S) (fun r21 S22 => bnd (f_A_isWithin g S22 r21 (1 : Int64) (2000 : Int64)) (fun r24 S25 => if r24 = 0 then (some ((0 : Int32), S25)) else (bnd (f_E_cardNumber g j0 S25) (fun r28 S29 => bnd (f_A_isCard g S29 r28) (fun r31 S32 => if r31 = 0 then (some ((0 : Int32), S32)) else (bnd (f_E_kind g j0 S32) (fun r35 S36 => if r35 = (1 : Int32) then (bnd (f_E_value g j0 S36) (fun r39 S40 => bnd (f_A_isPin g S40 r39) (fun r42 S43 => grd (r42 = 0 ∨ r42 = 1) (some (r42, S43))))) else (if r35 = (2 : Int32) then (bnd (f_E_value g j0 S36) (fun r47 S48 => bnd (f_A_isAmount g S48 r47) (fun r50 S51 => grd (r50 = 0 ∨ r50 = 1) (some (r50, S51))))) else (if r35 = (3 : Int32) then (some ((1 : Int32), S36)) else (some ((0 : Int32), S36)))))))))))
set_option maxRecDepth 100000 in
set_option maxHeartbeats 4000000 in
theorem c_H_isUsable {l : Launch} {D : va_G} {cI cJ cZ cL : ClassId} {a : Nat → Nat} (g : Nat) (j0 : Nat) (hj0 : j0 < 25) (S : Mem) {r : Int32} {S9 : Mem} (h : f_H_isUsable g j0 S = some (r, S9)) : Ctr l y_H_isUsable prog_2_method_8_code 1 (some .boolean) rm_H_isUsable D (tyT cI cJ cZ cL) (wdC cI cJ cZ cL a) [.ref (a (100 + j0))] S (vI r, S9) := by
  refine Ctr.of (lv0 := [(0, .ref (a (100 + j0)))]) (vv := vI) (by decide) rfl (wdC_fst cI cJ cZ cL a) (Nat.le_of_ble_eq_true rfl) rfl (fun p e s m args below meth c A C => ?_) r S9 h
  unfold f_H_isUsable
  refine j_aload_n C 0 rfl rfl d_H_isUsable_0 ?_
  refine j_bnd (fun r21 S22 e23 => ?_)
  refine j_callVl (As := []) (rest := []) C (26 + j0) 2 Y_E_trace u_481 (c_E_trace g j0 hj0 S e23) rfl rfl ⟨by decide, by decide⟩ rfl (wdC_E hj0) rfl rfl (Nat.le_of_ble_eq_true rfl) d_H_isUsable_1 ?_
  refine j_lconst (v := 1) C rfl d_H_isUsable_4 ?_
  refine j_ldc2 (v := 2000) C u_490 d_H_isUsable_5 ?_
  refine j_bnd (fun r24 S25 e26 => ?_)
  refine j_callSNi (As := [.long r21, .long (1 : Int64), .long (2000 : Int64)]) (rest := []) C Y_A_isWithin n_265 (c_A_isWithin g S22 r21 (1 : Int64) (2000 : Int64) e26) rfl rfl ⟨by decide, by decide⟩ rfl rfl (Nat.le_of_ble_eq_true rfl) d_H_isUsable_8 ?_
  refine j_if_eq (tgt := 24) C d_H_isUsable_11 (by decide) (fun h27 => ?_) (fun h27 => ?_)
  · refine j_iconst (v := 0) C (by decide) d_H_isUsable_24 ?_
    exact j_zret C (Or.inl rfl) rfl rfl d_H_isUsable_25
  · refine j_aload_n C 0 rfl rfl d_H_isUsable_14 ?_
    refine j_bnd (fun r28 S29 e30 => ?_)
    refine j_callVi (As := []) (rest := []) C (26 + j0) 2 Y_E_cardNumber u_491 (c_E_cardNumber g j0 hj0 S25 e30) rfl rfl ⟨by decide, by decide⟩ rfl (wdC_E hj0) rfl rfl (Nat.le_of_ble_eq_true rfl) d_H_isUsable_15 ?_
    refine j_bnd (fun r31 S32 e33 => ?_)
    refine j_callSNi (As := [.int r28]) (rest := []) C Y_A_isCard n_277 (c_A_isCard g S29 r28 e33) rfl rfl ⟨by decide, by decide⟩ rfl rfl (Nat.le_of_ble_eq_true rfl) d_H_isUsable_18 ?_
    refine j_if_ne (tgt := 26) C d_H_isUsable_21 (by decide) (fun h34 => ?_) (fun h34 => ?_)
    · refine j_iconst (v := 0) C (by decide) d_H_isUsable_24 ?_
      exact j_zret C (Or.inl rfl) rfl rfl d_H_isUsable_25
    · refine j_aload_n C 0 rfl rfl d_H_isUsable_26 ?_
      refine j_bnd (fun r35 S36 e37 => ?_)
      refine j_callVi (As := []) (rest := []) C (26 + j0) 2 Y_E_kind u_495 (c_E_kind g j0 hj0 S32 e37) rfl rfl ⟨by decide, by decide⟩ rfl (wdC_E hj0) rfl rfl (Nat.le_of_ble_eq_true rfl) d_H_isUsable_27 ?_
      refine j_if (fun h38 => ?_) (fun h38 => ?_)
      · refine j_tabIn (off := 26) (tgt := 56) C d_H_isUsable_30 (by rw [h38]; decide) (by rw [h38]; decide) (by rw [h38]; rfl) (by decide) ?_
        refine j_aload_n C 0 rfl rfl d_H_isUsable_56 ?_
        refine j_bnd (fun r39 S40 e41 => ?_)
        refine j_callVl (As := []) (rest := []) C (26 + j0) 2 Y_E_value u_499 (c_E_value g j0 hj0 S36 e41) rfl rfl ⟨by decide, by decide⟩ rfl (wdC_E hj0) rfl rfl (Nat.le_of_ble_eq_true rfl) d_H_isUsable_57 ?_
        refine j_bnd (fun r42 S43 e44 => ?_)
        refine j_callSNi (As := [.long r39]) (rest := []) C Y_A_isPin n_282 (c_A_isPin g S40 r39 e44) rfl rfl ⟨by decide, by decide⟩ rfl rfl (Nat.le_of_ble_eq_true rfl) d_H_isUsable_60 ?_
        refine j_grd (fun h45 => ?_)
        exact j_zret C h45 rfl rfl d_H_isUsable_63
      refine j_if (fun h46 => ?_) (fun h46 => ?_)
      · refine j_tabIn (off := 34) (tgt := 64) C d_H_isUsable_30 (by rw [h46]; decide) (by rw [h46]; decide) (by rw [h46]; rfl) (by decide) ?_
        refine j_aload_n C 0 rfl rfl d_H_isUsable_64 ?_
        refine j_bnd (fun r47 S48 e49 => ?_)
        refine j_callVl (As := []) (rest := []) C (26 + j0) 2 Y_E_value u_499 (c_E_value g j0 hj0 S36 e49) rfl rfl ⟨by decide, by decide⟩ rfl (wdC_E hj0) rfl rfl (Nat.le_of_ble_eq_true rfl) d_H_isUsable_65 ?_
        refine j_bnd (fun r50 S51 e52 => ?_)
        refine j_callSNi (As := [.long r47]) (rest := []) C Y_A_isAmount n_503 (c_A_isAmount g S48 r47 e52) rfl rfl ⟨by decide, by decide⟩ rfl rfl (Nat.le_of_ble_eq_true rfl) d_H_isUsable_68 ?_
        refine j_grd (fun h53 => ?_)
        exact j_zret C h53 rfl rfl d_H_isUsable_71
      refine j_if (fun h54 => ?_) (fun h54 => ?_)
      · refine j_tabIn (off := 42) (tgt := 72) C d_H_isUsable_30 (by rw [h54]; decide) (by rw [h54]; decide) (by rw [h54]; rfl) (by decide) ?_
        refine j_iconst (v := 1) C (by decide) d_H_isUsable_72 ?_
        exact j_zret C (Or.inr rfl) rfl rfl d_H_isUsable_73
      refine j_tabOut (tgt := 74) C d_H_isUsable_30 (by have gh38 : r35.toInt ≠ 1 := fun z => h38 (Int32.toInt_inj.mp (z.trans (by decide))); have gh46 : r35.toInt ≠ 2 := fun z => h46 (Int32.toInt_inj.mp (z.trans (by decide))); have gh54 : r35.toInt ≠ 3 := fun z => h54 (Int32.toInt_inj.mp (z.trans (by decide))); omega) (by decide) ?_
      refine j_iconst (v := 0) C (by decide) d_H_isUsable_74 ?_
      exact j_zret C (Or.inl rfl) rfl rfl d_H_isUsable_75
def f_H_tryPin (g : Nat) (S : Mem) (x1 : Int32) (x2 : Int64) : Option (Int32 × Mem) := grd (¬ (x1 < 0 ∨ 16 ≤ x1.toNatClampNeg)) (if (S.1 2 x1.toNatClampNeg) = (-1 : Int32) then (some ((1 : Int32), S)) else (grd (¬ (x1 < 0 ∨ 16 ≤ x1.toNatClampNeg)) (if (S.1 4 x1.toNatClampNeg) < (3 : Int32) then (grd (¬ (x1 < 0 ∨ 16 ≤ x1.toNatClampNeg)) (if (lg_cmp ((S.1 3 x1.toNatClampNeg).toInt64) x2) = 0 then (grd (¬ (x1 < 0 ∨ 16 ≤ x1.toNatClampNeg)) (lt (sI S 4 x1.toNatClampNeg (0 : Int32)) (fun S28 => some ((0 : Int32), S28)))) else (grd (¬ (x1 < 0 ∨ 16 ≤ x1.toNatClampNeg)) (grd (¬ (x1 < 0 ∨ 16 ≤ x1.toNatClampNeg)) (lt (sI S 4 x1.toNatClampNeg ((S.1 4 x1.toNatClampNeg) + (1 : Int32))) (fun S31 => grd (¬ (x1 < 0 ∨ 16 ≤ x1.toNatClampNeg)) (if (S31.1 4 x1.toNatClampNeg) < (3 : Int32) then (some ((1 : Int32), S31)) else (some ((2 : Int32), S31))))))))) else (some ((2 : Int32), S)))))
set_option maxRecDepth 100000 in
set_option maxHeartbeats 4000000 in
theorem c_H_tryPin {l : Launch} {D : va_G} {cI cJ cZ cL : ClassId} {a : Nat → Nat} (g : Nat) (S : Mem) (x1 : Int32) (x2 : Int64) {r : Int32} {S9 : Mem} (h : f_H_tryPin g S x1 x2 = some (r, S9)) : Ctr l y_H_tryPin prog_2_method_10_code 4 (some .int) rm_H_tryPin D (tyT cI cJ cZ cL) (wdC cI cJ cZ cL a) [.ref (a 2), .int x1, .long x2] S (vI r, S9) := by
  refine Ctr.of (lv0 := [(0, .ref (a 2)), (1, .int x1), (2, .long x2)]) (vv := vI) (by decide) rfl (wdC_fst cI cJ cZ cL a) (Nat.le_of_ble_eq_true rfl) rfl (fun p e s m args below meth c A C => ?_) r S9 h
  unfold f_H_tryPin
  refine j_aload_n C 0 rfl rfl d_H_tryPin_0 ?_
  refine gC_H_accountOfCard C u_67 d_H_tryPin_1 ?_
  refine j_iload_n C 1 rfl rfl d_H_tryPin_4 ?_
  refine j_grd (fun h21 => ?_)
  refine lC_H_accountOfCard C h21 d_H_tryPin_5 ?_
  refine j_iconst (v := -1) C (by decide) d_H_tryPin_6 ?_
  refine j_icmp_ne (tgt := 12) C d_H_tryPin_7 (by decide) (fun h22 => ?_) (fun h22 => ?_)
  · refine j_iconst (v := 1) C (by decide) d_H_tryPin_10 ?_
    exact j_iret C rfl rfl d_H_tryPin_11
  · refine j_aload_n C 0 rfl rfl d_H_tryPin_12 ?_
    refine gC_H_triesOfCard C u_69 d_H_tryPin_13 ?_
    refine j_iload_n C 1 rfl rfl d_H_tryPin_16 ?_
    refine j_grd (fun h23 => ?_)
    refine lC_H_triesOfCard C h23 d_H_tryPin_17 ?_
    refine j_iconst (v := 3) C (by decide) d_H_tryPin_18 ?_
    refine j_icmp_lt (tgt := 24) C d_H_tryPin_19 (by decide) (fun h24 => ?_) (fun h24 => ?_)
    · refine j_aload_n C 0 rfl rfl d_H_tryPin_24 ?_
      refine gC_H_pinOfCard C u_68 d_H_tryPin_25 ?_
      refine j_iload_n C 1 rfl rfl d_H_tryPin_28 ?_
      refine j_grd (fun h25 => ?_)
      refine lC_H_pinOfCard C h25 d_H_tryPin_29 ?_
      refine j_i2l C d_H_tryPin_30 ?_
      refine j_lload_n C 2 rfl rfl d_H_tryPin_31 ?_
      refine j_lcmp C d_H_tryPin_32 ?_
      refine j_if_ne (tgt := 45) C d_H_tryPin_33 (by decide) (fun h26 => ?_) (fun h26 => ?_)
      · refine j_aload_n C 0 rfl rfl d_H_tryPin_36 ?_
        refine gC_H_triesOfCard C u_69 d_H_tryPin_37 ?_
        refine j_iload_n C 1 rfl rfl d_H_tryPin_40 ?_
        refine j_iconst (v := 0) C (by decide) d_H_tryPin_41 ?_
        refine j_grd (fun h27 => ?_)
        refine sC_H_triesOfCard C h27 d_H_tryPin_42 ?_
        refine j_ltS (fun S28 => ?_)
        refine j_iconst (v := 0) C (by decide) d_H_tryPin_43 ?_
        exact j_iret C rfl rfl d_H_tryPin_44
      · refine j_aload_n C 0 rfl rfl d_H_tryPin_45 ?_
        refine gC_H_triesOfCard C u_69 d_H_tryPin_46 ?_
        refine j_iload_n C 1 rfl rfl d_H_tryPin_49 ?_
        refine j_dup2 C rfl rfl d_H_tryPin_50 ?_
        refine j_grd (fun h29 => ?_)
        refine lC_H_triesOfCard C h29 d_H_tryPin_51 ?_
        refine j_iconst (v := 1) C (by decide) d_H_tryPin_52 ?_
        refine j_iadd C d_H_tryPin_53 ?_
        refine j_grd (fun h30 => ?_)
        refine sC_H_triesOfCard C h30 d_H_tryPin_54 ?_
        refine j_ltS (fun S31 => ?_)
        refine j_aload_n C 0 rfl rfl d_H_tryPin_55 ?_
        refine gC_H_triesOfCard C u_69 d_H_tryPin_56 ?_
        refine j_iload_n C 1 rfl rfl d_H_tryPin_59 ?_
        refine j_grd (fun h32 => ?_)
        refine lC_H_triesOfCard C h32 d_H_tryPin_60 ?_
        refine j_iconst (v := 3) C (by decide) d_H_tryPin_61 ?_
        refine j_icmp_lt (tgt := 69) C d_H_tryPin_62 (by decide) (fun h33 => ?_) (fun h33 => ?_)
        · refine j_iconst (v := 1) C (by decide) d_H_tryPin_69 ?_
          exact j_iret C rfl rfl d_H_tryPin_70
        · refine j_iconst (v := 2) C (by decide) d_H_tryPin_65 ?_
          refine j_goto (tgt := 70) C d_H_tryPin_66 (by decide) ?_
          exact j_iret C rfl rfl d_H_tryPin_70
    · refine j_iconst (v := 2) C (by decide) d_H_tryPin_22 ?_
      exact j_iret C rfl rfl d_H_tryPin_23
def f_H_takeOff (g : Nat) (S : Mem) (x1 : Int32) (x2 : Int32) (x3 : Int32) : Option (Unit × Mem) := grd (¬ (x2 < 0 ∨ 16 ≤ x2.toNatClampNeg)) (lt (S.1 2 x2.toNatClampNeg) (fun x22 => bnd (f_H_isAccount g S x22) (fun r23 S24 => if r23 = 0 then (grd (¬ (x1 < 0 ∨ 2001 ≤ x1.toNatClampNeg)) (lt (sI S24 6 x1.toNatClampNeg (1 : Int32)) (fun S28 => some ((), S28)))) else (grd (¬ (x22 < 0 ∨ 8 ≤ x22.toNatClampNeg)) (if 0 ≤ (lg_cmp (S24.2.1 0 x22.toNatClampNeg) x3.toInt64) then (grd (¬ (x22 < 0 ∨ 8 ≤ x22.toNatClampNeg)) (grd (¬ (x22 < 0 ∨ 8 ≤ x22.toNatClampNeg)) (lt (sL S24 0 x22.toNatClampNeg ((S24.2.1 0 x22.toNatClampNeg) - x3.toInt64)) (fun S33 => lt (sL S33 1 0 ((S33.2.1 1 0) + x3.toInt64)) (fun S34 => grd (¬ (x1 < 0 ∨ 2001 ≤ x1.toNatClampNeg)) (lt (sI S34 6 x1.toNatClampNeg (2 : Int32)) (fun S36 => grd (¬ (x1 < 0 ∨ 2001 ≤ x1.toNatClampNeg)) (lt (sI S36 7 x1.toNatClampNeg x3) (fun S38 => grd (¬ (x1 < 0 ∨ 2001 ≤ x1.toNatClampNeg)) (lt (sI S38 8 x1.toNatClampNeg x22) (fun S40 => some ((), S40)))))))))))) else (grd (¬ (x1 < 0 ∨ 2001 ≤ x1.toNatClampNeg)) (lt (sI S24 6 x1.toNatClampNeg (1 : Int32)) (fun S42 => some ((), S42)))))))))
set_option maxRecDepth 100000 in
set_option maxHeartbeats 4000000 in
theorem c_H_takeOff {l : Launch} {D : va_G} {cI cJ cZ cL : ClassId} {a : Nat → Nat} (g : Nat) (S : Mem) (x1 : Int32) (x2 : Int32) (x3 : Int32) {r : Unit} {S9 : Mem} (h : f_H_takeOff g S x1 x2 x3 = some (r, S9)) : Ctr l y_H_takeOff prog_2_method_11_code 5 none rm_H_takeOff D (tyT cI cJ cZ cL) (wdC cI cJ cZ cL a) [.ref (a 2), .int x1, .int x2, .int x3] S (vV r, S9) := by
  refine Ctr.of (lv0 := [(0, .ref (a 2)), (1, .int x1), (2, .int x2), (3, .int x3)]) (vv := vV) (by decide) rfl (wdC_fst cI cJ cZ cL a) (Nat.le_of_ble_eq_true rfl) rfl (fun p e s m args below meth c A C => ?_) r S9 h
  unfold f_H_takeOff
  refine j_aload_n C 0 rfl rfl d_H_takeOff_0 ?_
  refine gC_H_accountOfCard C u_67 d_H_takeOff_1 ?_
  refine j_iload_n C 2 rfl rfl d_H_takeOff_4 ?_
  refine j_grd (fun h21 => ?_)
  refine lC_H_accountOfCard C h21 d_H_takeOff_5 ?_
  refine j_lti (fun x22 => ?_)
  refine j_istore (i := 4) (lv2 := [(4, .int x22), (0, .ref (a 2)), (1, .int x1), (2, .int x2), (3, .int x3)]) C (by decide) rfl d_H_takeOff_6 ?_
  refine j_iload C 0 rfl d_H_takeOff_8 ?_
  refine j_bnd (fun r23 S24 e25 => ?_)
  refine j_callSi (As := [.int x22]) (rest := []) C Y_H_isAccount u_261 (c_H_isAccount g S x22 e25) rfl rfl ⟨by decide, by decide⟩ rfl rfl (Nat.le_of_ble_eq_true rfl) d_H_takeOff_10 ?_
  refine j_if_eq (tgt := 29) C d_H_takeOff_13 (by decide) (fun h26 => ?_) (fun h26 => ?_)
  · refine j_aload_n C 1 rfl rfl d_H_takeOff_29 ?_
    refine gC_H_debits C u_71 d_H_takeOff_30 ?_
    refine j_iload_n C 2 rfl rfl d_H_takeOff_33 ?_
    refine j_iconst (v := 1) C (by decide) d_H_takeOff_34 ?_
    refine j_grd (fun h27 => ?_)
    refine sC_H_debits C h27 d_H_takeOff_35 ?_
    refine j_ltS (fun S28 => ?_)
    exact j_vret C rfl rfl d_H_takeOff_36
  · refine j_aload_n C 1 rfl rfl d_H_takeOff_16 ?_
    refine gC_H_balances C u_66 d_H_takeOff_17 ?_
    refine j_iload C 0 rfl d_H_takeOff_20 ?_
    refine j_grd (fun h29 => ?_)
    refine lC_H_balances C h29 d_H_takeOff_22 ?_
    refine j_iload_n C 4 rfl rfl d_H_takeOff_23 ?_
    refine j_i2l C d_H_takeOff_24 ?_
    refine j_lcmp C d_H_takeOff_25 ?_
    refine j_if_ge (tgt := 37) C d_H_takeOff_26 (by decide) (fun h30 => ?_) (fun h30 => ?_)
    · refine j_aload_n C 1 rfl rfl d_H_takeOff_37 ?_
      refine gC_H_balances C u_66 d_H_takeOff_38 ?_
      refine j_iload C 0 rfl d_H_takeOff_41 ?_
      refine j_dup2 C rfl rfl d_H_takeOff_43 ?_
      refine j_grd (fun h31 => ?_)
      refine lC_H_balances C h31 d_H_takeOff_44 ?_
      refine j_iload_n C 4 rfl rfl d_H_takeOff_45 ?_
      refine j_i2l C d_H_takeOff_46 ?_
      refine j_lsub C d_H_takeOff_47 ?_
      refine j_grd (fun h32 => ?_)
      refine sC_H_balances C h32 d_H_takeOff_48 ?_
      refine j_ltS (fun S33 => ?_)
      refine j_aload_n C 1 rfl rfl d_H_takeOff_49 ?_
      refine j_dup C rfl d_H_takeOff_50 ?_
      refine gC_H_takenOff C u_74 d_H_takeOff_51 ?_
      refine j_iload_n C 4 rfl rfl d_H_takeOff_54 ?_
      refine j_i2l C d_H_takeOff_55 ?_
      refine j_ladd C d_H_takeOff_56 ?_
      refine pC_H_takenOff C u_74 d_H_takeOff_57 ?_
      refine j_ltS (fun S34 => ?_)
      refine j_aload_n C 1 rfl rfl d_H_takeOff_60 ?_
      refine gC_H_debits C u_71 d_H_takeOff_61 ?_
      refine j_iload_n C 2 rfl rfl d_H_takeOff_64 ?_
      refine j_iconst (v := 2) C (by decide) d_H_takeOff_65 ?_
      refine j_grd (fun h35 => ?_)
      refine sC_H_debits C h35 d_H_takeOff_66 ?_
      refine j_ltS (fun S36 => ?_)
      refine j_aload_n C 1 rfl rfl d_H_takeOff_67 ?_
      refine gC_H_debitAmounts C u_72 d_H_takeOff_68 ?_
      refine j_iload_n C 2 rfl rfl d_H_takeOff_71 ?_
      refine j_iload_n C 4 rfl rfl d_H_takeOff_72 ?_
      refine j_grd (fun h37 => ?_)
      refine sC_H_debitAmounts C h37 d_H_takeOff_73 ?_
      refine j_ltS (fun S38 => ?_)
      refine j_aload_n C 1 rfl rfl d_H_takeOff_74 ?_
      refine gC_H_debitAccounts C u_73 d_H_takeOff_75 ?_
      refine j_iload_n C 2 rfl rfl d_H_takeOff_78 ?_
      refine j_iload C 0 rfl d_H_takeOff_79 ?_
      refine j_grd (fun h39 => ?_)
      refine sC_H_debitAccounts C h39 d_H_takeOff_81 ?_
      refine j_ltS (fun S40 => ?_)
      exact j_vret C rfl rfl d_H_takeOff_82
    · refine j_aload_n C 1 rfl rfl d_H_takeOff_29 ?_
      refine gC_H_debits C u_71 d_H_takeOff_30 ?_
      refine j_iload_n C 2 rfl rfl d_H_takeOff_33 ?_
      refine j_iconst (v := 1) C (by decide) d_H_takeOff_34 ?_
      refine j_grd (fun h41 => ?_)
      refine sC_H_debits C h41 d_H_takeOff_35 ?_
      refine j_ltS (fun S42 => ?_)
      exact j_vret C rfl rfl d_H_takeOff_36
def f_H_giveBack (g : Nat) (S : Mem) (x1 : Int32) : Option (Unit × Mem) := grd (¬ (x1 < 0 ∨ 2001 ≤ x1.toNatClampNeg)) (lt (S.1 8 x1.toNatClampNeg) (fun x22 => bnd (f_H_isAccount g S x22) (fun r23 S24 => if r23 = 0 then (some ((), S24)) else (grd (¬ (x22 < 0 ∨ 8 ≤ x22.toNatClampNeg)) (grd (¬ (x1 < 0 ∨ 2001 ≤ x1.toNatClampNeg)) (grd (¬ (x22 < 0 ∨ 8 ≤ x22.toNatClampNeg)) (lt (sL S24 0 x22.toNatClampNeg ((S24.2.1 0 x22.toNatClampNeg) + ((S24.1 7 x1.toNatClampNeg).toInt64))) (fun S30 => grd (¬ (x1 < 0 ∨ 2001 ≤ x1.toNatClampNeg)) (lt (sL S30 1 0 ((S30.2.1 1 0) - ((S30.1 7 x1.toNatClampNeg).toInt64))) (fun S32 => some ((), S32)))))))))))
set_option maxRecDepth 100000 in
set_option maxHeartbeats 4000000 in
theorem c_H_giveBack {l : Launch} {D : va_G} {cI cJ cZ cL : ClassId} {a : Nat → Nat} (g : Nat) (S : Mem) (x1 : Int32) {r : Unit} {S9 : Mem} (h : f_H_giveBack g S x1 = some (r, S9)) : Ctr l y_H_giveBack prog_2_method_12_code 3 none rm_H_giveBack D (tyT cI cJ cZ cL) (wdC cI cJ cZ cL a) [.ref (a 2), .int x1] S (vV r, S9) := by
  refine Ctr.of (lv0 := [(0, .ref (a 2)), (1, .int x1)]) (vv := vV) (by decide) rfl (wdC_fst cI cJ cZ cL a) (Nat.le_of_ble_eq_true rfl) rfl (fun p e s m args below meth c A C => ?_) r S9 h
  unfold f_H_giveBack
  refine j_aload_n C 0 rfl rfl d_H_giveBack_0 ?_
  refine gC_H_debitAccounts C u_73 d_H_giveBack_1 ?_
  refine j_iload_n C 1 rfl rfl d_H_giveBack_4 ?_
  refine j_grd (fun h21 => ?_)
  refine lC_H_debitAccounts C h21 d_H_giveBack_5 ?_
  refine j_lti (fun x22 => ?_)
  refine j_istore_n (i := 2) (lv2 := [(2, .int x22), (0, .ref (a 2)), (1, .int x1)]) C rfl (by decide) rfl d_H_giveBack_6 ?_
  refine j_iload_n C 0 rfl rfl d_H_giveBack_7 ?_
  refine j_bnd (fun r23 S24 e25 => ?_)
  refine j_callSi (As := [.int x22]) (rest := []) C Y_H_isAccount u_261 (c_H_isAccount g S x22 e25) rfl rfl ⟨by decide, by decide⟩ rfl rfl (Nat.le_of_ble_eq_true rfl) d_H_giveBack_8 ?_
  refine j_if_eq (tgt := 46) C d_H_giveBack_11 (by decide) (fun h26 => ?_) (fun h26 => ?_)
  · exact j_vret C rfl rfl d_H_giveBack_46
  · refine j_aload_n C 1 rfl rfl d_H_giveBack_14 ?_
    refine gC_H_balances C u_66 d_H_giveBack_15 ?_
    refine j_iload_n C 0 rfl rfl d_H_giveBack_18 ?_
    refine j_dup2 C rfl rfl d_H_giveBack_19 ?_
    refine j_grd (fun h27 => ?_)
    refine lC_H_balances C h27 d_H_giveBack_20 ?_
    refine j_aload_n C 1 rfl rfl d_H_giveBack_21 ?_
    refine gC_H_debitAmounts C u_72 d_H_giveBack_22 ?_
    refine j_iload_n C 2 rfl rfl d_H_giveBack_25 ?_
    refine j_grd (fun h28 => ?_)
    refine lC_H_debitAmounts C h28 d_H_giveBack_26 ?_
    refine j_i2l C d_H_giveBack_27 ?_
    refine j_ladd C d_H_giveBack_28 ?_
    refine j_grd (fun h29 => ?_)
    refine sC_H_balances C h29 d_H_giveBack_29 ?_
    refine j_ltS (fun S30 => ?_)
    refine j_aload_n C 1 rfl rfl d_H_giveBack_30 ?_
    refine j_dup C rfl d_H_giveBack_31 ?_
    refine gC_H_takenOff C u_74 d_H_giveBack_32 ?_
    refine j_aload_n C 1 rfl rfl d_H_giveBack_35 ?_
    refine gC_H_debitAmounts C u_72 d_H_giveBack_36 ?_
    refine j_iload_n C 2 rfl rfl d_H_giveBack_39 ?_
    refine j_grd (fun h31 => ?_)
    refine lC_H_debitAmounts C h31 d_H_giveBack_40 ?_
    refine j_i2l C d_H_giveBack_41 ?_
    refine j_lsub C d_H_giveBack_42 ?_
    refine pC_H_takenOff C u_74 d_H_giveBack_43 ?_
    refine j_ltS (fun S32 => ?_)
    exact j_vret C rfl rfl d_H_giveBack_46
def f_H_decide (g : Nat) (S : Mem) (x1 : Int32) (x2 : Int32) (x3 : Int32) (x4 : Int64) : Option (Int32 × Mem) := bnd (f_A_isWithin g S x2.toInt64 (1 : Int64) (2000 : Int64)) (fun r21 S22 => if r21 = 0 then (some ((1 : Int32), S22)) else (bnd (f_A_isCard g S22 x3) (fun r25 S26 => if r25 = 0 then (some ((1 : Int32), S26)) else (if x1 = (1 : Int32) then (grd (¬ (x2 < 0 ∨ 2001 ≤ x2.toNatClampNeg)) (if (S26.1 5 x2.toNatClampNeg) = (-1 : Int32) then (bnd (f_H_tryPin g S26 x3 x4) (fun r32 S33 => grd (¬ (x2 < 0 ∨ 2001 ≤ x2.toNatClampNeg)) (lt (sI S33 5 x2.toNatClampNeg r32) (fun S36 => grd (¬ (x2 < 0 ∨ 2001 ≤ x2.toNatClampNeg)) (some (S36.1 5 x2.toNatClampNeg, S36)))))) else (grd (¬ (x2 < 0 ∨ 2001 ≤ x2.toNatClampNeg)) (some (S26.1 5 x2.toNatClampNeg, S26))))) else (if x1 = (2 : Int32) then (grd (¬ (x2 < 0 ∨ 2001 ≤ x2.toNatClampNeg)) (if (S26.1 6 x2.toNatClampNeg) = 0 then (bnd (f_H_takeOff g S26 x2 x3 x4.toInt32) (fun _ S43 => grd (¬ (x2 < 0 ∨ 2001 ≤ x2.toNatClampNeg)) (if (S43.1 6 x2.toNatClampNeg) = (2 : Int32) then (some ((0 : Int32), S43)) else (some ((1 : Int32), S43))))) else (grd (¬ (x2 < 0 ∨ 2001 ≤ x2.toNatClampNeg)) (if (S26.1 6 x2.toNatClampNeg) = (2 : Int32) then (some ((0 : Int32), S26)) else (some ((1 : Int32), S26)))))) else (grd (¬ (x2 < 0 ∨ 2001 ≤ x2.toNatClampNeg)) (if (S26.1 6 x2.toNatClampNeg) = (2 : Int32) then (bnd (f_H_giveBack g S26 x2) (fun _ S52 => grd (¬ (x2 < 0 ∨ 2001 ≤ x2.toNatClampNeg)) (lt (sI S52 6 x2.toNatClampNeg (3 : Int32)) (fun S55 => some ((0 : Int32), S55))))) else (grd (¬ (x2 < 0 ∨ 2001 ≤ x2.toNatClampNeg)) (lt (sI S26 6 x2.toNatClampNeg (3 : Int32)) (fun S57 => some ((0 : Int32), S57)))))))))))
set_option maxRecDepth 100000 in
set_option maxHeartbeats 4000000 in
theorem c_H_decide {l : Launch} {D : va_G} {cI cJ cZ cL : ClassId} {a : Nat → Nat} (g : Nat) (S : Mem) (x1 : Int32) (x2 : Int32) (x3 : Int32) (x4 : Int64) {r : Int32} {S9 : Mem} (h : f_H_decide g S x1 x2 x3 x4 = some (r, S9)) : Ctr l y_H_decide prog_2_method_9_code 6 (some .int) rm_H_decide D (tyT cI cJ cZ cL) (wdC cI cJ cZ cL a) [.ref (a 2), .int x1, .int x2, .int x3, .long x4] S (vI r, S9) := by
  refine Ctr.of (lv0 := [(0, .ref (a 2)), (1, .int x1), (2, .int x2), (3, .int x3), (4, .long x4)]) (vv := vI) (by decide) rfl (wdC_fst cI cJ cZ cL a) (Nat.le_of_ble_eq_true rfl) rfl (fun p e s m args below meth c A C => ?_) r S9 h
  unfold f_H_decide
  refine j_iload_n C 2 rfl rfl d_H_decide_0 ?_
  refine j_i2l C d_H_decide_1 ?_
  refine j_lconst (v := 1) C rfl d_H_decide_2 ?_
  refine j_ldc2 (v := 2000) C u_490 d_H_decide_3 ?_
  refine j_bnd (fun r21 S22 e23 => ?_)
  refine j_callSNi (As := [.long x2.toInt64, .long (1 : Int64), .long (2000 : Int64)]) (rest := []) C Y_A_isWithin n_265 (c_A_isWithin g S x2.toInt64 (1 : Int64) (2000 : Int64) e23) rfl rfl ⟨by decide, by decide⟩ rfl rfl (Nat.le_of_ble_eq_true rfl) d_H_decide_6 ?_
  refine j_if_eq (tgt := 19) C d_H_decide_9 (by decide) (fun h24 => ?_) (fun h24 => ?_)
  · refine j_iconst (v := 1) C (by decide) d_H_decide_19 ?_
    exact j_iret C rfl rfl d_H_decide_20
  · refine j_iload_n C 3 rfl rfl d_H_decide_12 ?_
    refine j_bnd (fun r25 S26 e27 => ?_)
    refine j_callSNi (As := [.int x3]) (rest := []) C Y_A_isCard n_277 (c_A_isCard g S22 x3 e27) rfl rfl ⟨by decide, by decide⟩ rfl rfl (Nat.le_of_ble_eq_true rfl) d_H_decide_13 ?_
    refine j_if_ne (tgt := 21) C d_H_decide_16 (by decide) (fun h28 => ?_) (fun h28 => ?_)
    · refine j_iconst (v := 1) C (by decide) d_H_decide_19 ?_
      exact j_iret C rfl rfl d_H_decide_20
    · refine j_iload_n C 1 rfl rfl d_H_decide_21 ?_
      refine j_if (fun h29 => ?_) (fun h29 => ?_)
      · refine j_look (off := 26) (tgt := 48) C d_H_decide_22 (by decide) (by rw [h29]; rfl) (by decide) ?_
        refine j_aload_n C 0 rfl rfl d_H_decide_48 ?_
        refine gC_H_pinCodes C u_70 d_H_decide_49 ?_
        refine j_iload_n C 2 rfl rfl d_H_decide_52 ?_
        refine j_grd (fun h30 => ?_)
        refine lC_H_pinCodes C h30 d_H_decide_53 ?_
        refine j_iconst (v := -1) C (by decide) d_H_decide_54 ?_
        refine j_icmp_ne (tgt := 71) C d_H_decide_55 (by decide) (fun h31 => ?_) (fun h31 => ?_)
        · refine j_aload_n C 0 rfl rfl d_H_decide_58 ?_
          refine gC_H_pinCodes C u_70 d_H_decide_59 ?_
          refine j_iload_n C 2 rfl rfl d_H_decide_62 ?_
          refine j_aload_n C 0 rfl rfl d_H_decide_63 ?_
          refine j_iload_n C 3 rfl rfl d_H_decide_64 ?_
          refine j_lload C 4 rfl d_H_decide_65 ?_
          refine j_bnd (fun r32 S33 e34 => ?_)
          refine j_callVi (As := [.int x3, .long x4]) (rest := [.int x2, .ref (a 11)]) C 2 0 Y_H_tryPin u_508 (c_H_tryPin g S26 x3 x4 e34) rfl rfl ⟨by decide, by decide⟩ rfl rfl rfl rfl (Nat.le_of_ble_eq_true rfl) d_H_decide_67 ?_
          refine j_grd (fun h35 => ?_)
          refine sC_H_pinCodes C h35 d_H_decide_70 ?_
          refine j_ltS (fun S36 => ?_)
          refine j_aload_n C 0 rfl rfl d_H_decide_71 ?_
          refine gC_H_pinCodes C u_70 d_H_decide_72 ?_
          refine j_iload_n C 2 rfl rfl d_H_decide_75 ?_
          refine j_grd (fun h37 => ?_)
          refine lC_H_pinCodes C h37 d_H_decide_76 ?_
          exact j_iret C rfl rfl d_H_decide_77
        · refine j_aload_n C 0 rfl rfl d_H_decide_71 ?_
          refine gC_H_pinCodes C u_70 d_H_decide_72 ?_
          refine j_iload_n C 2 rfl rfl d_H_decide_75 ?_
          refine j_grd (fun h38 => ?_)
          refine lC_H_pinCodes C h38 d_H_decide_76 ?_
          exact j_iret C rfl rfl d_H_decide_77
      refine j_if (fun h39 => ?_) (fun h39 => ?_)
      · refine j_look (off := 56) (tgt := 78) C d_H_decide_22 (by decide) (by rw [h39]; rfl) (by decide) ?_
        refine j_aload_n C 0 rfl rfl d_H_decide_78 ?_
        refine gC_H_debits C u_71 d_H_decide_79 ?_
        refine j_iload_n C 2 rfl rfl d_H_decide_82 ?_
        refine j_grd (fun h40 => ?_)
        refine lC_H_debits C h40 d_H_decide_83 ?_
        refine j_if_ne (tgt := 96) C d_H_decide_84 (by decide) (fun h41 => ?_) (fun h41 => ?_)
        · refine j_aload_n C 0 rfl rfl d_H_decide_87 ?_
          refine j_iload_n C 2 rfl rfl d_H_decide_88 ?_
          refine j_iload_n C 3 rfl rfl d_H_decide_89 ?_
          refine j_lload C 4 rfl d_H_decide_90 ?_
          refine j_l2i C d_H_decide_92 ?_
          refine j_bnd (fun _ S43 e44 => ?_)
          refine j_callVv (As := [.int x2, .int x3, .int x4.toInt32]) (rest := []) C 2 0 Y_H_takeOff u_512 (c_H_takeOff g S26 x2 x3 x4.toInt32 e44) rfl rfl ⟨by decide, by decide⟩ rfl rfl rfl rfl (Nat.le_of_ble_eq_true rfl) d_H_decide_93 ?_
          refine j_aload_n C 0 rfl rfl d_H_decide_96 ?_
          refine gC_H_debits C u_71 d_H_decide_97 ?_
          refine j_iload_n C 2 rfl rfl d_H_decide_100 ?_
          refine j_grd (fun h45 => ?_)
          refine lC_H_debits C h45 d_H_decide_101 ?_
          refine j_iconst (v := 2) C (by decide) d_H_decide_102 ?_
          refine j_icmp_ne (tgt := 110) C d_H_decide_103 (by decide) (fun h46 => ?_) (fun h46 => ?_)
          · refine j_iconst (v := 0) C (by decide) d_H_decide_106 ?_
            refine j_goto (tgt := 111) C d_H_decide_107 (by decide) ?_
            exact j_iret C rfl rfl d_H_decide_111
          · refine j_iconst (v := 1) C (by decide) d_H_decide_110 ?_
            exact j_iret C rfl rfl d_H_decide_111
        · refine j_aload_n C 0 rfl rfl d_H_decide_96 ?_
          refine gC_H_debits C u_71 d_H_decide_97 ?_
          refine j_iload_n C 2 rfl rfl d_H_decide_100 ?_
          refine j_grd (fun h47 => ?_)
          refine lC_H_debits C h47 d_H_decide_101 ?_
          refine j_iconst (v := 2) C (by decide) d_H_decide_102 ?_
          refine j_icmp_ne (tgt := 110) C d_H_decide_103 (by decide) (fun h48 => ?_) (fun h48 => ?_)
          · refine j_iconst (v := 0) C (by decide) d_H_decide_106 ?_
            refine j_goto (tgt := 111) C d_H_decide_107 (by decide) ?_
            exact j_iret C rfl rfl d_H_decide_111
          · refine j_iconst (v := 1) C (by decide) d_H_decide_110 ?_
            exact j_iret C rfl rfl d_H_decide_111
      refine j_look (off := 90) (tgt := 112) C d_H_decide_22 (by decide) (by have gh29 : x1.toInt ≠ 1 := fun z => h29 (Int32.toInt_inj.mp (z.trans (by decide))); have gh39 : x1.toInt ≠ 2 := fun z => h39 (Int32.toInt_inj.mp (z.trans (by decide))); simp [Op.lookupswitch.offset, gh29, gh39, gh29.symm, gh39.symm]) (by decide) ?_
      refine j_aload_n C 0 rfl rfl d_H_decide_112 ?_
      refine gC_H_debits C u_71 d_H_decide_113 ?_
      refine j_iload_n C 2 rfl rfl d_H_decide_116 ?_
      refine j_grd (fun h49 => ?_)
      refine lC_H_debits C h49 d_H_decide_117 ?_
      refine j_iconst (v := 2) C (by decide) d_H_decide_118 ?_
      refine j_icmp_ne (tgt := 127) C d_H_decide_119 (by decide) (fun h50 => ?_) (fun h50 => ?_)
      · refine j_aload_n C 0 rfl rfl d_H_decide_122 ?_
        refine j_iload_n C 2 rfl rfl d_H_decide_123 ?_
        refine j_bnd (fun _ S52 e53 => ?_)
        refine j_callVv (As := [.int x2]) (rest := []) C 2 0 Y_H_giveBack u_516 (c_H_giveBack g S26 x2 e53) rfl rfl ⟨by decide, by decide⟩ rfl rfl rfl rfl (Nat.le_of_ble_eq_true rfl) d_H_decide_124 ?_
        refine j_aload_n C 0 rfl rfl d_H_decide_127 ?_
        refine gC_H_debits C u_71 d_H_decide_128 ?_
        refine j_iload_n C 2 rfl rfl d_H_decide_131 ?_
        refine j_iconst (v := 3) C (by decide) d_H_decide_132 ?_
        refine j_grd (fun h54 => ?_)
        refine sC_H_debits C h54 d_H_decide_133 ?_
        refine j_ltS (fun S55 => ?_)
        refine j_iconst (v := 0) C (by decide) d_H_decide_134 ?_
        exact j_iret C rfl rfl d_H_decide_135
      · refine j_aload_n C 0 rfl rfl d_H_decide_127 ?_
        refine gC_H_debits C u_71 d_H_decide_128 ?_
        refine j_iload_n C 2 rfl rfl d_H_decide_131 ?_
        refine j_iconst (v := 3) C (by decide) d_H_decide_132 ?_
        refine j_grd (fun h56 => ?_)
        refine sC_H_debits C h56 d_H_decide_133 ?_
        refine j_ltS (fun S57 => ?_)
        refine j_iconst (v := 0) C (by decide) d_H_decide_134 ?_
        exact j_iret C rfl rfl d_H_decide_135
