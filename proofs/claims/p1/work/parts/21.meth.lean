def f_M_send (g : Nat) (S : Mem) (x1 : Int32) (x2 : Int32) : Option (Int32 × Mem) := bnd (f_M_mayStep g S) (fun r21 S22 => if r21 = 0 then (some ((0 : Int32), S22)) else (bnd (f_N_post g S22 (1 : Int32) x1 (S22.1 19 0) (S22.1 20 0) x2.toInt64 (0 : Int32)) (fun _ S26 => some ((1 : Int32), S26))))
set_option maxRecDepth 100000 in
set_option maxHeartbeats 4000000 in
theorem c_M_send {l : Launch} {D : va_G} {cI cJ cZ cL : ClassId} {a : Nat → Nat} (g : Nat) (S : Mem) (x1 : Int32) (x2 : Int32) {r : Int32} {S9 : Mem} (h : f_M_send g S x1 x2 = some (r, S9)) : Ctr l y_M_send prog_6_method_23_code 3 (some .boolean) rm_M_send D (tyT cI cJ cZ cL) (wdC cI cJ cZ cL a) [.ref (a 3), .int x1, .int x2] S (vI r, S9) := by
  refine Ctr.of (lv0 := [(0, .ref (a 3)), (1, .int x1), (2, .int x2)]) (vv := vI) (by decide) rfl (wdC_fst cI cJ cZ cL a) (Nat.le_of_ble_eq_true rfl) rfl (fun p e s m args below meth c A C => ?_) r S9 h
  unfold f_M_send
  refine j_aload_n C 0 rfl rfl d_M_send_0 ?_
  refine j_bnd (fun r21 S22 e23 => ?_)
  refine j_callVi (As := []) (rest := []) C 3 4 Y_M_mayStep u_330 (c_M_mayStep g S e23) rfl rfl ⟨by decide, by decide⟩ rfl rfl rfl rfl (Nat.le_of_ble_eq_true rfl) d_M_send_1 ?_
  refine j_if_ne (tgt := 9) C d_M_send_4 (by decide) (fun h24 => ?_) (fun h24 => ?_)
  · refine j_iconst (v := 0) C (by decide) d_M_send_7 ?_
    exact j_zret C (Or.inl rfl) rfl rfl d_M_send_8
  · refine j_aload_n C 0 rfl rfl d_M_send_9 ?_
    refine gC_M_line C u_183 d_M_send_10 ?_
    refine j_iconst (v := 1) C (by decide) d_M_send_13 ?_
    refine j_iload_n C 1 rfl rfl d_M_send_14 ?_
    refine j_aload_n C 0 rfl rfl d_M_send_15 ?_
    refine gC_M_traceAtHand C u_203 d_M_send_16 ?_
    refine j_aload_n C 0 rfl rfl d_M_send_19 ?_
    refine gC_M_cardAtHand C u_204 d_M_send_20 ?_
    refine j_iload_n C 2 rfl rfl d_M_send_23 ?_
    refine j_i2l C d_M_send_24 ?_
    refine j_iconst (v := 0) C (by decide) d_M_send_25 ?_
    refine j_bnd (fun _ S26 e27 => ?_)
    refine j_callVv (As := [.int (1 : Int32), .int x1, .int (S22.1 19 0), .int (S22.1 20 0), .long x2.toInt64, .int (0 : Int32)]) (rest := []) C 1 3 Y_N_post u_334 (c_N_post g S22 (1 : Int32) x1 (S22.1 19 0) (S22.1 20 0) x2.toInt64 (0 : Int32) e27) rfl rfl ⟨by decide, by decide⟩ rfl rfl rfl rfl (Nat.le_of_ble_eq_true rfl) d_M_send_26 ?_
    refine j_iconst (v := 1) C (by decide) d_M_send_29 ?_
    exact j_zret C (Or.inr rfl) rfl rfl d_M_send_30
def f_M_beginPinCheck (g : Nat) (S : Mem) (x1 : Int32) : Option (Int32 × Mem) := if (S.1 11 0) = 0 then (some ((0 : Int32), S)) else (if (S.1 13 0) = (1 : Int32) then (bnd (f_A_isPin g S x1.toInt64) (fun r23 S24 => if r23 = 0 then (some ((0 : Int32), S24)) else (if (S24.1 15 0) ≤ (2000 : Int32) then (bnd (f_M_takeTrace g S24) (fun _ S29 => bnd (f_M_send g S29 (1 : Int32) x1) (fun r31 S32 => if r31 = 0 then (some ((1 : Int32), S32)) else (lt (sI S32 13 0 (2 : Int32)) (fun S35 => some ((1 : Int32), S35)))))) else (some ((0 : Int32), S24))))) else (some ((0 : Int32), S)))
set_option maxRecDepth 100000 in
set_option maxHeartbeats 4000000 in
theorem c_M_beginPinCheck {l : Launch} {D : va_G} {cI cJ cZ cL : ClassId} {a : Nat → Nat} (g : Nat) (S : Mem) (x1 : Int32) {r : Int32} {S9 : Mem} (h : f_M_beginPinCheck g S x1 = some (r, S9)) : Ctr l y_M_beginPinCheck prog_6_method_6_code 2 (some .boolean) rm_M_beginPinCheck D (tyT cI cJ cZ cL) (wdC cI cJ cZ cL a) [.ref (a 3), .int x1] S (vI r, S9) := by
  refine Ctr.of (lv0 := [(0, .ref (a 3)), (1, .int x1)]) (vv := vI) (by decide) rfl (wdC_fst cI cJ cZ cL a) (Nat.le_of_ble_eq_true rfl) rfl (fun p e s m args below meth c A C => ?_) r S9 h
  unfold f_M_beginPinCheck
  refine j_aload_n C 0 rfl rfl d_M_beginPinCheck_0 ?_
  refine gC_M_on C u_189 d_M_beginPinCheck_1 ?_
  refine j_if_eq (tgt := 33) C d_M_beginPinCheck_4 (by decide) (fun h21 => ?_) (fun h21 => ?_)
  · refine j_iconst (v := 0) C (by decide) d_M_beginPinCheck_33 ?_
    exact j_zret C (Or.inl rfl) rfl rfl d_M_beginPinCheck_34
  · refine j_aload_n C 0 rfl rfl d_M_beginPinCheck_7 ?_
    refine gC_M_phase C u_192 d_M_beginPinCheck_8 ?_
    refine j_iconst (v := 1) C (by decide) d_M_beginPinCheck_11 ?_
    refine j_icmp_ne (tgt := 33) C d_M_beginPinCheck_12 (by decide) (fun h22 => ?_) (fun h22 => ?_)
    · refine j_iload_n C 1 rfl rfl d_M_beginPinCheck_15 ?_
      refine j_i2l C d_M_beginPinCheck_16 ?_
      refine j_bnd (fun r23 S24 e25 => ?_)
      refine j_callSNi (As := [.long x1.toInt64]) (rest := []) C Y_A_isPin n_321 (c_A_isPin g S x1.toInt64 e25) rfl rfl ⟨by decide, by decide⟩ rfl rfl (Nat.le_of_ble_eq_true rfl) d_M_beginPinCheck_17 ?_
      refine j_if_eq (tgt := 33) C d_M_beginPinCheck_20 (by decide) (fun h26 => ?_) (fun h26 => ?_)
      · refine j_iconst (v := 0) C (by decide) d_M_beginPinCheck_33 ?_
        exact j_zret C (Or.inl rfl) rfl rfl d_M_beginPinCheck_34
      · refine j_aload_n C 0 rfl rfl d_M_beginPinCheck_23 ?_
        refine gC_M_nextTrace C u_196 d_M_beginPinCheck_24 ?_
        refine j_sipush (v := 2000) C (by decide) d_M_beginPinCheck_27 ?_
        refine j_icmp_le (tgt := 35) C d_M_beginPinCheck_30 (by decide) (fun h27 => ?_) (fun h27 => ?_)
        · refine j_aload_n C 0 rfl rfl d_M_beginPinCheck_35 ?_
          refine j_bnd (fun _ S29 e30 => ?_)
          refine j_callVv (As := []) (rest := []) C 3 4 Y_M_takeTrace u_322 (c_M_takeTrace g S24 e30) rfl rfl ⟨by decide, by decide⟩ rfl rfl rfl rfl (Nat.le_of_ble_eq_true rfl) d_M_beginPinCheck_36 ?_
          refine j_aload_n C 0 rfl rfl d_M_beginPinCheck_39 ?_
          refine j_iconst (v := 1) C (by decide) d_M_beginPinCheck_40 ?_
          refine j_iload_n C 1 rfl rfl d_M_beginPinCheck_41 ?_
          refine j_bnd (fun r31 S32 e33 => ?_)
          refine j_callVi (As := [.int (1 : Int32), .int x1]) (rest := []) C 3 4 Y_M_send u_326 (c_M_send g S29 (1 : Int32) x1 e33) rfl rfl ⟨by decide, by decide⟩ rfl rfl rfl rfl (Nat.le_of_ble_eq_true rfl) d_M_beginPinCheck_42 ?_
          refine j_if_eq (tgt := 53) C d_M_beginPinCheck_45 (by decide) (fun h34 => ?_) (fun h34 => ?_)
          · refine j_iconst (v := 1) C (by decide) d_M_beginPinCheck_53 ?_
            exact j_zret C (Or.inr rfl) rfl rfl d_M_beginPinCheck_54
          · refine j_aload_n C 0 rfl rfl d_M_beginPinCheck_48 ?_
            refine j_iconst (v := 2) C (by decide) d_M_beginPinCheck_49 ?_
            refine pC_M_phase C u_192 d_M_beginPinCheck_50 ?_
            refine j_ltS (fun S35 => ?_)
            refine j_iconst (v := 1) C (by decide) d_M_beginPinCheck_53 ?_
            exact j_zret C (Or.inr rfl) rfl rfl d_M_beginPinCheck_54
        · refine j_iconst (v := 0) C (by decide) d_M_beginPinCheck_33 ?_
          exact j_zret C (Or.inl rfl) rfl rfl d_M_beginPinCheck_34
    · refine j_iconst (v := 0) C (by decide) d_M_beginPinCheck_33 ?_
      exact j_zret C (Or.inl rfl) rfl rfl d_M_beginPinCheck_34
def f_A_pin (g : Nat) (S : Mem) (x1 : Int32) : Option (Int32 × Mem) := bnd (f_M_beginPinCheck g S x1) (fun r21 S22 => grd (r21 = 0 ∨ r21 = 1) (some (r21, S22)))
set_option maxRecDepth 100000 in
set_option maxHeartbeats 4000000 in
theorem c_A_pin {l : Launch} {D : va_G} {cI cJ cZ cL : ClassId} {a : Nat → Nat} (g : Nat) (S : Mem) (x1 : Int32) {r : Int32} {S9 : Mem} (h : f_A_pin g S x1 = some (r, S9)) : Ctr l y_A_pin prog_1_method_6_code 2 (some .boolean) rm_A_pin D (tyT cI cJ cZ cL) (wdC cI cJ cZ cL a) [.ref (a 0), .int x1] S (vI r, S9) := by
  refine Ctr.of (lv0 := [(0, .ref (a 0)), (1, .int x1)]) (vv := vI) (by decide) rfl (wdC_fst cI cJ cZ cL a) (Nat.le_of_ble_eq_true rfl) rfl (fun p e s m args below meth c A C => ?_) r S9 h
  unfold f_A_pin
  refine j_aload_n C 0 rfl rfl d_A_pin_0 ?_
  refine gC_A_machine C u_242 d_A_pin_1 ?_
  refine j_iload_n C 1 rfl rfl d_A_pin_4 ?_
  refine j_bnd (fun r21 S22 e23 => ?_)
  refine j_callVi (As := [.int x1]) (rest := []) C 3 4 Y_M_beginPinCheck u_317 (c_M_beginPinCheck g S x1 e23) rfl rfl ⟨by decide, by decide⟩ rfl rfl rfl rfl (Nat.le_of_ble_eq_true rfl) d_A_pin_5 ?_
  refine j_grd (fun h24 => ?_)
  exact j_zret C h24 rfl rfl d_A_pin_8
def f_A_isAmount (g : Nat) (S : Mem) (x0 : Int64) : Option (Int32 × Mem) := bnd (f_A_isWithin g S x0 (1 : Int64) (40000 : Int64)) (fun r21 S22 => grd (r21 = 0 ∨ r21 = 1) (some (r21, S22)))
set_option maxRecDepth 100000 in
set_option maxHeartbeats 4000000 in
theorem c_A_isAmount {l : Launch} {D : va_G} {cI cJ cZ cL : ClassId} {a : Nat → Nat} (g : Nat) (S : Mem) (x0 : Int64) {r : Int32} {S9 : Mem} (h : f_A_isAmount g S x0 = some (r, S9)) : Ctr l y_A_isAmount prog_1_method_29_code 2 (some .boolean) rm_A_isAmount D (tyT cI cJ cZ cL) (wdC cI cJ cZ cL a) [.long x0] S (vI r, S9) := by
  refine Ctr.of (lv0 := [(0, .long x0)]) (vv := vI) (by decide) rfl (wdC_fst cI cJ cZ cL a) (Nat.le_of_ble_eq_true rfl) rfl (fun p e s m args below meth c A C => ?_) r S9 h
  unfold f_A_isAmount
  refine j_lload_n C 0 rfl rfl d_A_isAmount_0 ?_
  refine j_lconst (v := 1) C rfl d_A_isAmount_1 ?_
  refine j_ldc2 (v := 40000) C u_370 d_A_isAmount_2 ?_
  refine j_bnd (fun r21 S22 e23 => ?_)
  refine j_callSi (As := [.long x0, .long (1 : Int64), .long (40000 : Int64)]) (rest := []) C Y_A_isWithin u_281 (c_A_isWithin g S x0 (1 : Int64) (40000 : Int64) e23) rfl rfl ⟨by decide, by decide⟩ rfl rfl (Nat.le_of_ble_eq_true rfl) d_A_isAmount_5 ?_
  refine j_grd (fun h24 => ?_)
  exact j_zret C h24 rfl rfl d_A_isAmount_8
def f_O_findLargest_7 (g : Nat) : Nat → Mem → Int32 → Option (Mem × (Unit))
  | 0, _, _ => none
  | n + 1, S, x1 => if (4 : Int32) ≤ x1 then (some (S, ())) else (grd (¬ (x1 < 0 ∨ 4 ≤ x1.toNatClampNeg)) (lt (sI S 31 0 (if (S.1 31 0) < (S.1 22 x1.toNatClampNeg) then (S.1 22 x1.toNatClampNeg) else (S.1 31 0))) (fun S24 => lt (x1 + (1 : Int32)) (fun x25 => f_O_findLargest_7 g n S24 x25))))
set_option maxRecDepth 100000 in
set_option maxHeartbeats 4000000 in
theorem lp_O_findLargest_7 {l : Launch} {D : va_G} {cI cJ cZ cL : ClassId} {a : Nat → Nat} {p : Program} {e : Env} {s : State} {m : MethodId} {args : Array Value} {below : List Frame} {meth : Method} {c : Code} {A : Nat → Prop} (C : Cx p s m args meth c "AutoTeller$Notes" prog_7_method_7_code 2 none D (tyT cI cJ cZ cL) (wdC cI cJ cZ cL a) A) (g : Nat) {K : (Mem × (Unit)) → Option (Unit × Mem)} (hx : ∀ (S : Mem) (y : Unit), Tj p l e rm_O_findLargest s m args below meth c D (wdC cI cJ cZ cL a) A 2 vV K (some (S, y)) S 35 [] []) : ∀ (n : Nat) (S : Mem) (x1 : Int32), Tj p l e rm_O_findLargest s m args below meth c D (wdC cI cJ cZ cL a) A 2 vV K (f_O_findLargest_7 g n S x1) S 7 [(0, .ref (a 4)), (1, .int x1)] [] := by
  intro n
  induction n with
  | zero =>
    intro S x1
    exact j_none
  | succ n ih =>
    intro S x1
    rw [f_O_findLargest_7]
    refine j_iload_n C 1 rfl rfl d_O_findLargest_7 ?_
    refine j_iconst (v := 4) C (by decide) d_O_findLargest_8 ?_
    refine j_icmp_ge (tgt := 35) C d_O_findLargest_9 (by decide) (fun h22 => ?_) (fun h22 => ?_)
    · refine j_sub [] rfl ?_
      exact hx S ()
    · refine j_aload_n C 0 rfl rfl d_O_findLargest_12 ?_
      refine j_aload_n C 0 rfl rfl d_O_findLargest_13 ?_
      refine gC_O_largest C u_135 d_O_findLargest_14 ?_
      refine j_aload_n C 0 rfl rfl d_O_findLargest_17 ?_
      refine gC_O_denominations C u_123 d_O_findLargest_18 ?_
      refine j_iload_n C 1 rfl rfl d_O_findLargest_21 ?_
      refine j_grd (fun h23 => ?_)
      refine lC_O_denominations C h23 d_O_findLargest_22 ?_
      refine j_max C u_380 u_381 u_10 u_382 (by decide) (Nat.le_of_ble_eq_true rfl) d_O_findLargest_23 ?_
      refine pC_O_largest C u_135 d_O_findLargest_26 ?_
      refine j_ltS (fun S24 => ?_)
      refine j_iincN (n2 := 1) (lv2 := fun x25 => [(1, .int x25), (0, .ref (a 4))]) C 1 rfl (by decide) (by decide) (fun _ => rfl) d_O_findLargest_29 (fun x25 => ?_)
      refine j_goto (tgt := 7) C d_O_findLargest_32 (by decide) ?_
      refine j_sub [1, 0] rfl ?_
      exact ih S24 x25
def f_O_findLargest (g : Nat) (S : Mem) : Option (Unit × Mem) := lt (sI S 31 0 (0 : Int32)) (fun S21 => seqM (f_O_findLargest_7 g g S21 (0 : Int32)) (fun S26 y27 => some ((), S26)))
set_option maxRecDepth 100000 in
set_option maxHeartbeats 4000000 in
theorem c_O_findLargest {l : Launch} {D : va_G} {cI cJ cZ cL : ClassId} {a : Nat → Nat} (g : Nat) (S : Mem) {r : Unit} {S9 : Mem} (h : f_O_findLargest g S = some (r, S9)) : Ctr l y_O_findLargest prog_7_method_7_code 2 none rm_O_findLargest D (tyT cI cJ cZ cL) (wdC cI cJ cZ cL a) [.ref (a 4)] S (vV r, S9) := by
  refine Ctr.of (lv0 := [(0, .ref (a 4))]) (vv := vV) (by decide) rfl (wdC_fst cI cJ cZ cL a) (Nat.le_of_ble_eq_true rfl) rfl (fun p e s m args below meth c A C => ?_) r S9 h
  unfold f_O_findLargest
  refine j_aload_n C 0 rfl rfl d_O_findLargest_0 ?_
  refine j_iconst (v := 0) C (by decide) d_O_findLargest_1 ?_
  refine pC_O_largest C u_135 d_O_findLargest_2 ?_
  refine j_ltS (fun S21 => ?_)
  refine j_iconst (v := 0) C (by decide) d_O_findLargest_5 ?_
  refine j_istore_n (i := 1) (lv2 := [(1, .int (0 : Int32)), (0, .ref (a 4))]) C rfl (by decide) rfl d_O_findLargest_6 ?_
  refine j_sub [1, 0] rfl ?_
  refine j_seqM ?_
  refine lp_O_findLargest_7 C g  (fun S26 y27 => ?_) g S21 (0 : Int32)
  refine j_outM ?_
  exact j_vret C rfl rfl d_O_findLargest_35
def f_O_mostOf (g : Nat) (S : Mem) (x1 : Int32) (x2 : Int32) (x3 : Int32) : Option (Int32 × Mem) := if x1 < 0 then (some ((-1 : Int32), S)) else (if (4 : Int32) ≤ x1 then (some ((-1 : Int32), S)) else (if x3 < 0 then (some ((-1 : Int32), S)) else (if x2 ≤ (x3 * (S.1 31 0)) then (grd (¬ (x1 < 0 ∨ 4 ≤ x1.toNatClampNeg)) (lt (S.1 22 x1.toNatClampNeg) (fun x26 => if (1 : Int32) ≤ x26 then (grd (¬ x26 = 0) (lt (x2 / x26) (fun x29 => grd (¬ (x1 < 0 ∨ 4 ≤ x1.toNatClampNeg)) (if x3 ≤ (S.1 23 x1.toNatClampNeg) then (if x3 ≤ x29 then (some (x3, S)) else (some (x29, S))) else (grd (¬ (x1 < 0 ∨ 4 ≤ x1.toNatClampNeg)) (lt (S.1 23 x1.toNatClampNeg) (fun x34 => if x34 ≤ x29 then (some (x34, S)) else (some (x29, S))))))))) else (grd (¬ (x1 < 0 ∨ 4 ≤ x1.toNatClampNeg)) (if x3 ≤ (S.1 23 x1.toNatClampNeg) then (if x3 ≤ (0 : Int32) then (some (x3, S)) else (some ((0 : Int32), S))) else (grd (¬ (x1 < 0 ∨ 4 ≤ x1.toNatClampNeg)) (lt (S.1 23 x1.toNatClampNeg) (fun x40 => if x40 ≤ (0 : Int32) then (some (x40, S)) else (some ((0 : Int32), S)))))))))) else (some ((-1 : Int32), S)))))
set_option maxRecDepth 100000 in
set_option maxHeartbeats 4000000 in
theorem c_O_mostOf {l : Launch} {D : va_G} {cI cJ cZ cL : ClassId} {a : Nat → Nat} (g : Nat) (S : Mem) (x1 : Int32) (x2 : Int32) (x3 : Int32) {r : Int32} {S9 : Mem} (h : f_O_mostOf g S x1 x2 x3 = some (r, S9)) : Ctr l y_O_mostOf prog_7_method_8_code 7 (some .int) rm_O_mostOf D (tyT cI cJ cZ cL) (wdC cI cJ cZ cL a) [.ref (a 4), .int x1, .int x2, .int x3] S (vI r, S9) := by
  refine Ctr.of (lv0 := [(0, .ref (a 4)), (1, .int x1), (2, .int x2), (3, .int x3)]) (vv := vI) (by decide) rfl (wdC_fst cI cJ cZ cL a) (Nat.le_of_ble_eq_true rfl) rfl (fun p e s m args below meth c A C => ?_) r S9 h
  unfold f_O_mostOf
  refine j_iload_n C 1 rfl rfl d_O_mostOf_0 ?_
  refine j_if_lt (tgt := 23) C d_O_mostOf_1 (by decide) (fun h21 => ?_) (fun h21 => ?_)
  · refine j_iconst (v := -1) C (by decide) d_O_mostOf_23 ?_
    exact j_iret C rfl rfl d_O_mostOf_24
  · refine j_iload_n C 1 rfl rfl d_O_mostOf_4 ?_
    refine j_iconst (v := 4) C (by decide) d_O_mostOf_5 ?_
    refine j_icmp_ge (tgt := 23) C d_O_mostOf_6 (by decide) (fun h22 => ?_) (fun h22 => ?_)
    · refine j_iconst (v := -1) C (by decide) d_O_mostOf_23 ?_
      exact j_iret C rfl rfl d_O_mostOf_24
    · refine j_iload_n C 3 rfl rfl d_O_mostOf_9 ?_
      refine j_if_lt (tgt := 23) C d_O_mostOf_10 (by decide) (fun h23 => ?_) (fun h23 => ?_)
      · refine j_iconst (v := -1) C (by decide) d_O_mostOf_23 ?_
        exact j_iret C rfl rfl d_O_mostOf_24
      · refine j_iload_n C 2 rfl rfl d_O_mostOf_13 ?_
        refine j_iload_n C 3 rfl rfl d_O_mostOf_14 ?_
        refine j_aload_n C 0 rfl rfl d_O_mostOf_15 ?_
        refine gC_O_largest C u_135 d_O_mostOf_16 ?_
        refine j_imul C d_O_mostOf_19 ?_
        refine j_icmp_le (tgt := 25) C d_O_mostOf_20 (by decide) (fun h24 => ?_) (fun h24 => ?_)
        · refine j_aload_n C 0 rfl rfl d_O_mostOf_25 ?_
          refine gC_O_denominations C u_123 d_O_mostOf_26 ?_
          refine j_iload_n C 1 rfl rfl d_O_mostOf_29 ?_
          refine j_grd (fun h25 => ?_)
          refine lC_O_denominations C h25 d_O_mostOf_30 ?_
          refine j_lti (fun x26 => ?_)
          refine j_istore (i := 4) (lv2 := [(4, .int x26), (0, .ref (a 4)), (1, .int x1), (2, .int x2), (3, .int x3)]) C (by decide) rfl d_O_mostOf_31 ?_
          refine j_iload C 0 rfl d_O_mostOf_33 ?_
          refine j_iconst (v := 1) C (by decide) d_O_mostOf_35 ?_
          refine j_icmp_ge (tgt := 43) C d_O_mostOf_36 (by decide) (fun h27 => ?_) (fun h27 => ?_)
          · refine j_iload_n C 3 rfl rfl d_O_mostOf_43 ?_
            refine j_iload C 0 rfl d_O_mostOf_44 ?_
            refine j_grd (fun h28 => ?_)
            refine j_idiv C h28 d_O_mostOf_46 ?_
            refine j_lti (fun x29 => ?_)
            refine j_istore (i := 5) (lv2 := [(5, .int x29), (4, .int x26), (0, .ref (a 4)), (1, .int x1), (2, .int x2), (3, .int x3)]) C (by decide) rfl d_O_mostOf_47 ?_
            refine j_aload_n C 2 rfl rfl d_O_mostOf_49 ?_
            refine gC_O_inCassette C u_124 d_O_mostOf_50 ?_
            refine j_iload_n C 3 rfl rfl d_O_mostOf_53 ?_
            refine j_grd (fun h30 => ?_)
            refine lC_O_inCassette C h30 d_O_mostOf_54 ?_
            refine j_iload_n C 5 rfl rfl d_O_mostOf_55 ?_
            refine j_icmp_ge (tgt := 68) C d_O_mostOf_56 (by decide) (fun h31 => ?_) (fun h31 => ?_)
            · refine j_iload_n C 5 rfl rfl d_O_mostOf_68 ?_
              refine j_istore (i := 6) (lv2 := [(6, .int x3), (5, .int x29), (4, .int x26), (0, .ref (a 4)), (1, .int x1), (2, .int x2), (3, .int x3)]) C (by decide) rfl d_O_mostOf_69 ?_
              refine j_iload C 1 rfl d_O_mostOf_71 ?_
              refine j_iload C 0 rfl d_O_mostOf_73 ?_
              refine j_icmp_ge (tgt := 83) C d_O_mostOf_75 (by decide) (fun h32 => ?_) (fun h32 => ?_)
              · refine j_iload C 0 rfl d_O_mostOf_83 ?_
                exact j_iret C rfl rfl d_O_mostOf_85
              · refine j_iload C 1 rfl d_O_mostOf_78 ?_
                refine j_goto (tgt := 85) C d_O_mostOf_80 (by decide) ?_
                exact j_iret C rfl rfl d_O_mostOf_85
            · refine j_aload_n C 2 rfl rfl d_O_mostOf_59 ?_
              refine gC_O_inCassette C u_124 d_O_mostOf_60 ?_
              refine j_iload_n C 3 rfl rfl d_O_mostOf_63 ?_
              refine j_grd (fun h33 => ?_)
              refine lC_O_inCassette C h33 d_O_mostOf_64 ?_
              refine j_goto (tgt := 69) C d_O_mostOf_65 (by decide) ?_
              refine j_lti (fun x34 => ?_)
              refine j_istore (i := 6) (lv2 := [(6, .int x34), (5, .int x29), (4, .int x26), (0, .ref (a 4)), (1, .int x1), (2, .int x2), (3, .int x3)]) C (by decide) rfl d_O_mostOf_69 ?_
              refine j_iload C 1 rfl d_O_mostOf_71 ?_
              refine j_iload C 0 rfl d_O_mostOf_73 ?_
              refine j_icmp_ge (tgt := 83) C d_O_mostOf_75 (by decide) (fun h35 => ?_) (fun h35 => ?_)
              · refine j_iload C 0 rfl d_O_mostOf_83 ?_
                exact j_iret C rfl rfl d_O_mostOf_85
              · refine j_iload C 1 rfl d_O_mostOf_78 ?_
                refine j_goto (tgt := 85) C d_O_mostOf_80 (by decide) ?_
                exact j_iret C rfl rfl d_O_mostOf_85
          · refine j_iconst (v := 0) C (by decide) d_O_mostOf_39 ?_
            refine j_goto (tgt := 47) C d_O_mostOf_40 (by decide) ?_
            refine j_istore (i := 5) (lv2 := [(5, .int (0 : Int32)), (4, .int x26), (0, .ref (a 4)), (1, .int x1), (2, .int x2), (3, .int x3)]) C (by decide) rfl d_O_mostOf_47 ?_
            refine j_aload_n C 2 rfl rfl d_O_mostOf_49 ?_
            refine gC_O_inCassette C u_124 d_O_mostOf_50 ?_
            refine j_iload_n C 3 rfl rfl d_O_mostOf_53 ?_
            refine j_grd (fun h36 => ?_)
            refine lC_O_inCassette C h36 d_O_mostOf_54 ?_
            refine j_iload_n C 5 rfl rfl d_O_mostOf_55 ?_
            refine j_icmp_ge (tgt := 68) C d_O_mostOf_56 (by decide) (fun h37 => ?_) (fun h37 => ?_)
            · refine j_iload_n C 5 rfl rfl d_O_mostOf_68 ?_
              refine j_istore (i := 6) (lv2 := [(6, .int x3), (5, .int (0 : Int32)), (4, .int x26), (0, .ref (a 4)), (1, .int x1), (2, .int x2), (3, .int x3)]) C (by decide) rfl d_O_mostOf_69 ?_
              refine j_iload C 1 rfl d_O_mostOf_71 ?_
              refine j_iload C 0 rfl d_O_mostOf_73 ?_
              refine j_icmp_ge (tgt := 83) C d_O_mostOf_75 (by decide) (fun h38 => ?_) (fun h38 => ?_)
              · refine j_iload C 0 rfl d_O_mostOf_83 ?_
                exact j_iret C rfl rfl d_O_mostOf_85
              · refine j_iload C 1 rfl d_O_mostOf_78 ?_
                refine j_goto (tgt := 85) C d_O_mostOf_80 (by decide) ?_
                exact j_iret C rfl rfl d_O_mostOf_85
            · refine j_aload_n C 2 rfl rfl d_O_mostOf_59 ?_
              refine gC_O_inCassette C u_124 d_O_mostOf_60 ?_
              refine j_iload_n C 3 rfl rfl d_O_mostOf_63 ?_
              refine j_grd (fun h39 => ?_)
              refine lC_O_inCassette C h39 d_O_mostOf_64 ?_
              refine j_goto (tgt := 69) C d_O_mostOf_65 (by decide) ?_
              refine j_lti (fun x40 => ?_)
              refine j_istore (i := 6) (lv2 := [(6, .int x40), (5, .int (0 : Int32)), (4, .int x26), (0, .ref (a 4)), (1, .int x1), (2, .int x2), (3, .int x3)]) C (by decide) rfl d_O_mostOf_69 ?_
              refine j_iload C 1 rfl d_O_mostOf_71 ?_
              refine j_iload C 0 rfl d_O_mostOf_73 ?_
              refine j_icmp_ge (tgt := 83) C d_O_mostOf_75 (by decide) (fun h41 => ?_) (fun h41 => ?_)
              · refine j_iload C 0 rfl d_O_mostOf_83 ?_
                exact j_iret C rfl rfl d_O_mostOf_85
              · refine j_iload C 1 rfl d_O_mostOf_78 ?_
                refine j_goto (tgt := 85) C d_O_mostOf_80 (by decide) ?_
                exact j_iret C rfl rfl d_O_mostOf_85
        · refine j_iconst (v := -1) C (by decide) d_O_mostOf_23 ?_
          exact j_iret C rfl rfl d_O_mostOf_24
def f_O_mixRest_26 (g : Nat) : Nat → Mem → Int32 → Int32 → Int32 → Int32 → Int32 → Option (Mem × (Unit))
  | 0, _, _, _, _, _, _ => none
  | n + 1, S, x1, x2, x3, x4, x5 => if x5 < 0 then (some (S, ())) else (lt (x3 - (x5 * (S.1 22 ((2 : Int32).toNatClampNeg)))) (fun x26 => if (1 : Int32) ≤ x4 then (grd (¬ x4 = 0) (lt (x26 / x4) (fun x29 => lt (((x1 + x2) + x5) + x29) (fun x30 => if (x29 * x4) = x26 then (if (S.1 23 ((3 : Int32).toNatClampNeg)) < x29 then (lt (x5 + (-1 : Int32)) (fun x33 => f_O_mixRest_26 g n S x1 x2 x3 x4 x33)) else (if (S.1 30 0) ≤ x30 then (lt (x5 + (-1 : Int32)) (fun x35 => f_O_mixRest_26 g n S x1 x2 x3 x4 x35)) else (lt (sI S 30 0 x30) (fun S36 => lt (sI S36 29 ((0 : Int32).toNatClampNeg) x1) (fun S37 => lt (sI S37 29 ((1 : Int32).toNatClampNeg) x2) (fun S38 => lt (sI S38 29 ((2 : Int32).toNatClampNeg) x5) (fun S39 => lt (sI S39 29 ((3 : Int32).toNatClampNeg) x29) (fun S40 => lt (x5 + (-1 : Int32)) (fun x41 => f_O_mixRest_26 g n S40 x1 x2 x3 x4 x41))))))))) else (lt (x5 + (-1 : Int32)) (fun x42 => f_O_mixRest_26 g n S x1 x2 x3 x4 x42)))))) else (lt (((x1 + x2) + x5) + (0 : Int32)) (fun x43 => if ((0 : Int32) * x4) = x26 then (if (S.1 23 ((3 : Int32).toNatClampNeg)) < (0 : Int32) then (lt (x5 + (-1 : Int32)) (fun x46 => f_O_mixRest_26 g n S x1 x2 x3 x4 x46)) else (if (S.1 30 0) ≤ x43 then (lt (x5 + (-1 : Int32)) (fun x48 => f_O_mixRest_26 g n S x1 x2 x3 x4 x48)) else (lt (sI S 30 0 x43) (fun S49 => lt (sI S49 29 ((0 : Int32).toNatClampNeg) x1) (fun S50 => lt (sI S50 29 ((1 : Int32).toNatClampNeg) x2) (fun S51 => lt (sI S51 29 ((2 : Int32).toNatClampNeg) x5) (fun S52 => lt (sI S52 29 ((3 : Int32).toNatClampNeg) (0 : Int32)) (fun S53 => lt (x5 + (-1 : Int32)) (fun x54 => f_O_mixRest_26 g n S53 x1 x2 x3 x4 x54))))))))) else (lt (x5 + (-1 : Int32)) (fun x55 => f_O_mixRest_26 g n S x1 x2 x3 x4 x55))))))
set_option maxRecDepth 100000 in
set_option maxHeartbeats 4000000 in
theorem lp_O_mixRest_26 {l : Launch} {D : va_G} {cI cJ cZ cL : ClassId} {a : Nat → Nat} {p : Program} {e : Env} {s : State} {m : MethodId} {args : Array Value} {below : List Frame} {meth : Method} {c : Code} {A : Nat → Prop} (C : Cx p s m args meth c "AutoTeller$Notes" prog_7_method_6_code 9 none D (tyT cI cJ cZ cL) (wdC cI cJ cZ cL a) A) (g : Nat) {K : (Mem × (Unit)) → Option (Unit × Mem)} (hx : ∀ (S : Mem) (y : Unit), Tj p l e rm_O_mixRest s m args below meth c D (wdC cI cJ cZ cL a) A 9 vV K (some (S, y)) S 144 [] []) : ∀ (n : Nat) (S : Mem) (x1 : Int32) (x2 : Int32) (x3 : Int32) (x4 : Int32) (x5 : Int32), Tj p l e rm_O_mixRest s m args below meth c D (wdC cI cJ cZ cL a) A 9 vV K (f_O_mixRest_26 g n S x1 x2 x3 x4 x5) S 26 [(0, .ref (a 4)), (1, .int x1), (2, .int x2), (3, .int x3), (4, .int x4), (5, .int x5)] [] := by
  intro n
  induction n with
  | zero =>
    intro S x1 x2 x3 x4 x5
    exact j_none
  | succ n ih =>
    intro S x1 x2 x3 x4 x5
    rw [f_O_mixRest_26]
    refine j_iload C 5 rfl d_O_mixRest_26 ?_
    refine j_if_lt (tgt := 144) C d_O_mixRest_28 (by decide) (fun h25 => ?_) (fun h25 => ?_)
    · refine j_sub [] rfl ?_
      exact hx S ()
    · refine j_iload_n C 3 rfl rfl d_O_mixRest_31 ?_
      refine j_iload C 5 rfl d_O_mixRest_32 ?_
      refine j_aload_n C 0 rfl rfl d_O_mixRest_34 ?_
      refine gC_O_denominations C u_123 d_O_mixRest_35 ?_
      refine j_iconst (v := 2) C (by decide) d_O_mixRest_38 ?_
      refine lC_O_denominations C (by decide) d_O_mixRest_39 ?_
      refine j_imul C d_O_mixRest_40 ?_
      refine j_isub C d_O_mixRest_41 ?_
      refine j_lti (fun x26 => ?_)
      refine j_istore (i := 6) (lv2 := [(6, .int x26), (0, .ref (a 4)), (1, .int x1), (2, .int x2), (3, .int x3), (4, .int x4), (5, .int x5)]) C (by decide) rfl d_O_mixRest_42 ?_
      refine j_iload C 5 rfl d_O_mixRest_44 ?_
      refine j_iconst (v := 1) C (by decide) d_O_mixRest_46 ?_
      refine j_icmp_ge (tgt := 54) C d_O_mixRest_47 (by decide) (fun h27 => ?_) (fun h27 => ?_)
      · refine j_iload C 0 rfl d_O_mixRest_54 ?_
        refine j_iload C 5 rfl d_O_mixRest_56 ?_
        refine j_grd (fun h28 => ?_)
        refine j_idiv C h28 d_O_mixRest_58 ?_
        refine j_lti (fun x29 => ?_)
        refine j_istore (i := 7) (lv2 := [(7, .int x29), (6, .int x26), (0, .ref (a 4)), (1, .int x1), (2, .int x2), (3, .int x3), (4, .int x4), (5, .int x5)]) C (by decide) rfl d_O_mixRest_59 ?_
        refine j_iload_n C 3 rfl rfl d_O_mixRest_61 ?_
        refine j_iload_n C 4 rfl rfl d_O_mixRest_62 ?_
        refine j_iadd C d_O_mixRest_63 ?_
        refine j_iload C 7 rfl d_O_mixRest_64 ?_
        refine j_iadd C d_O_mixRest_66 ?_
        refine j_iload C 0 rfl d_O_mixRest_67 ?_
        refine j_iadd C d_O_mixRest_69 ?_
        refine j_lti (fun x30 => ?_)
        refine j_istore (i := 8) (lv2 := [(8, .int x30), (7, .int x29), (6, .int x26), (0, .ref (a 4)), (1, .int x1), (2, .int x2), (3, .int x3), (4, .int x4), (5, .int x5)]) C (by decide) rfl d_O_mixRest_70 ?_
        refine j_iload C 1 rfl d_O_mixRest_72 ?_
        refine j_iload C 7 rfl d_O_mixRest_74 ?_
        refine j_imul C d_O_mixRest_76 ?_
        refine j_iload C 2 rfl d_O_mixRest_77 ?_
        refine j_icmp_ne (tgt := 138) C d_O_mixRest_79 (by decide) (fun h31 => ?_) (fun h31 => ?_)
        · refine j_iload C 1 rfl d_O_mixRest_82 ?_
          refine j_aload_n C 3 rfl rfl d_O_mixRest_84 ?_
          refine gC_O_inCassette C u_124 d_O_mixRest_85 ?_
          refine j_iconst (v := 3) C (by decide) d_O_mixRest_88 ?_
          refine lC_O_inCassette C (by decide) d_O_mixRest_89 ?_
          refine j_icmp_gt (tgt := 138) C d_O_mixRest_90 (by decide) (fun h32 => ?_) (fun h32 => ?_)
          · refine j_iincN (n2 := -1) (lv2 := fun x33 => [(5, .int x33), (8, .int x30), (7, .int x29), (6, .int x26), (0, .ref (a 4)), (1, .int x1), (2, .int x2), (3, .int x3), (4, .int x4)]) C 8 rfl (by decide) (by decide) (fun _ => rfl) d_O_mixRest_138 (fun x33 => ?_)
            refine j_goto (tgt := 26) C d_O_mixRest_141 (by decide) ?_
            refine j_sub [4, 5, 6, 7, 8, 0] rfl ?_
            exact ih S x1 x2 x3 x4 x33
          · refine j_iload C 0 rfl d_O_mixRest_93 ?_
            refine j_aload_n C 3 rfl rfl d_O_mixRest_95 ?_
            refine gC_O_fewest C u_134 d_O_mixRest_96 ?_
            refine j_icmp_ge (tgt := 138) C d_O_mixRest_99 (by decide) (fun h34 => ?_) (fun h34 => ?_)
            · refine j_iincN (n2 := -1) (lv2 := fun x35 => [(5, .int x35), (8, .int x30), (7, .int x29), (6, .int x26), (0, .ref (a 4)), (1, .int x1), (2, .int x2), (3, .int x3), (4, .int x4)]) C 8 rfl (by decide) (by decide) (fun _ => rfl) d_O_mixRest_138 (fun x35 => ?_)
              refine j_goto (tgt := 26) C d_O_mixRest_141 (by decide) ?_
              refine j_sub [4, 5, 6, 7, 8, 0] rfl ?_
              exact ih S x1 x2 x3 x4 x35
            · refine j_aload_n C 3 rfl rfl d_O_mixRest_102 ?_
              refine j_iload C 0 rfl d_O_mixRest_103 ?_
              refine pC_O_fewest C u_134 d_O_mixRest_105 ?_
              refine j_ltS (fun S36 => ?_)
              refine j_aload_n C 3 rfl rfl d_O_mixRest_108 ?_
              refine gC_O_mixed C u_132 d_O_mixRest_109 ?_
              refine j_iconst (v := 0) C (by decide) d_O_mixRest_112 ?_
              refine j_iload_n C 4 rfl rfl d_O_mixRest_113 ?_
              refine sC_O_mixed C (by decide) d_O_mixRest_114 ?_
              refine j_ltS (fun S37 => ?_)
              refine j_aload_n C 3 rfl rfl d_O_mixRest_115 ?_
              refine gC_O_mixed C u_132 d_O_mixRest_116 ?_
              refine j_iconst (v := 1) C (by decide) d_O_mixRest_119 ?_
              refine j_iload_n C 5 rfl rfl d_O_mixRest_120 ?_
              refine sC_O_mixed C (by decide) d_O_mixRest_121 ?_
              refine j_ltS (fun S38 => ?_)
              refine j_aload_n C 3 rfl rfl d_O_mixRest_122 ?_
              refine gC_O_mixed C u_132 d_O_mixRest_123 ?_
              refine j_iconst (v := 2) C (by decide) d_O_mixRest_126 ?_
              refine j_iload C 8 rfl d_O_mixRest_127 ?_
              refine sC_O_mixed C (by decide) d_O_mixRest_129 ?_
              refine j_ltS (fun S39 => ?_)
              refine j_aload_n C 3 rfl rfl d_O_mixRest_130 ?_
              refine gC_O_mixed C u_132 d_O_mixRest_131 ?_
              refine j_iconst (v := 3) C (by decide) d_O_mixRest_134 ?_
              refine j_iload C 1 rfl d_O_mixRest_135 ?_
              refine sC_O_mixed C (by decide) d_O_mixRest_137 ?_
              refine j_ltS (fun S40 => ?_)
              refine j_iincN (n2 := -1) (lv2 := fun x41 => [(5, .int x41), (8, .int x30), (7, .int x29), (6, .int x26), (0, .ref (a 4)), (1, .int x1), (2, .int x2), (3, .int x3), (4, .int x4)]) C 8 rfl (by decide) (by decide) (fun _ => rfl) d_O_mixRest_138 (fun x41 => ?_)
              refine j_goto (tgt := 26) C d_O_mixRest_141 (by decide) ?_
              refine j_sub [4, 5, 6, 7, 8, 0] rfl ?_
              exact ih S40 x1 x2 x3 x4 x41
        · refine j_iincN (n2 := -1) (lv2 := fun x42 => [(5, .int x42), (8, .int x30), (7, .int x29), (6, .int x26), (0, .ref (a 4)), (1, .int x1), (2, .int x2), (3, .int x3), (4, .int x4)]) C 8 rfl (by decide) (by decide) (fun _ => rfl) d_O_mixRest_138 (fun x42 => ?_)
          refine j_goto (tgt := 26) C d_O_mixRest_141 (by decide) ?_
          refine j_sub [4, 5, 6, 7, 8, 0] rfl ?_
          exact ih S x1 x2 x3 x4 x42
      · refine j_iconst (v := 0) C (by decide) d_O_mixRest_50 ?_
        refine j_goto (tgt := 59) C d_O_mixRest_51 (by decide) ?_
        refine j_istore (i := 7) (lv2 := [(7, .int (0 : Int32)), (6, .int x26), (0, .ref (a 4)), (1, .int x1), (2, .int x2), (3, .int x3), (4, .int x4), (5, .int x5)]) C (by decide) rfl d_O_mixRest_59 ?_
        refine j_iload_n C 3 rfl rfl d_O_mixRest_61 ?_
        refine j_iload_n C 4 rfl rfl d_O_mixRest_62 ?_
        refine j_iadd C d_O_mixRest_63 ?_
        refine j_iload C 7 rfl d_O_mixRest_64 ?_
        refine j_iadd C d_O_mixRest_66 ?_
        refine j_iload C 0 rfl d_O_mixRest_67 ?_
        refine j_iadd C d_O_mixRest_69 ?_
        refine j_lti (fun x43 => ?_)
        refine j_istore (i := 8) (lv2 := [(8, .int x43), (7, .int (0 : Int32)), (6, .int x26), (0, .ref (a 4)), (1, .int x1), (2, .int x2), (3, .int x3), (4, .int x4), (5, .int x5)]) C (by decide) rfl d_O_mixRest_70 ?_
        refine j_iload C 1 rfl d_O_mixRest_72 ?_
        refine j_iload C 7 rfl d_O_mixRest_74 ?_
        refine j_imul C d_O_mixRest_76 ?_
        refine j_iload C 2 rfl d_O_mixRest_77 ?_
        refine j_icmp_ne (tgt := 138) C d_O_mixRest_79 (by decide) (fun h44 => ?_) (fun h44 => ?_)
        · refine j_iload C 1 rfl d_O_mixRest_82 ?_
          refine j_aload_n C 3 rfl rfl d_O_mixRest_84 ?_
          refine gC_O_inCassette C u_124 d_O_mixRest_85 ?_
          refine j_iconst (v := 3) C (by decide) d_O_mixRest_88 ?_
          refine lC_O_inCassette C (by decide) d_O_mixRest_89 ?_
          refine j_icmp_gt (tgt := 138) C d_O_mixRest_90 (by decide) (fun h45 => ?_) (fun h45 => ?_)
          · refine j_iincN (n2 := -1) (lv2 := fun x46 => [(5, .int x46), (8, .int x43), (7, .int (0 : Int32)), (6, .int x26), (0, .ref (a 4)), (1, .int x1), (2, .int x2), (3, .int x3), (4, .int x4)]) C 8 rfl (by decide) (by decide) (fun _ => rfl) d_O_mixRest_138 (fun x46 => ?_)
            refine j_goto (tgt := 26) C d_O_mixRest_141 (by decide) ?_
            refine j_sub [4, 5, 6, 7, 8, 0] rfl ?_
            exact ih S x1 x2 x3 x4 x46
          · refine j_iload C 0 rfl d_O_mixRest_93 ?_
            refine j_aload_n C 3 rfl rfl d_O_mixRest_95 ?_
            refine gC_O_fewest C u_134 d_O_mixRest_96 ?_
            refine j_icmp_ge (tgt := 138) C d_O_mixRest_99 (by decide) (fun h47 => ?_) (fun h47 => ?_)
            · refine j_iincN (n2 := -1) (lv2 := fun x48 => [(5, .int x48), (8, .int x43), (7, .int (0 : Int32)), (6, .int x26), (0, .ref (a 4)), (1, .int x1), (2, .int x2), (3, .int x3), (4, .int x4)]) C 8 rfl (by decide) (by decide) (fun _ => rfl) d_O_mixRest_138 (fun x48 => ?_)
              refine j_goto (tgt := 26) C d_O_mixRest_141 (by decide) ?_
              refine j_sub [4, 5, 6, 7, 8, 0] rfl ?_
              exact ih S x1 x2 x3 x4 x48
            · refine j_aload_n C 3 rfl rfl d_O_mixRest_102 ?_
              refine j_iload C 0 rfl d_O_mixRest_103 ?_
              refine pC_O_fewest C u_134 d_O_mixRest_105 ?_
              refine j_ltS (fun S49 => ?_)
              refine j_aload_n C 3 rfl rfl d_O_mixRest_108 ?_
              refine gC_O_mixed C u_132 d_O_mixRest_109 ?_
              refine j_iconst (v := 0) C (by decide) d_O_mixRest_112 ?_
              refine j_iload_n C 4 rfl rfl d_O_mixRest_113 ?_
              refine sC_O_mixed C (by decide) d_O_mixRest_114 ?_
              refine j_ltS (fun S50 => ?_)
              refine j_aload_n C 3 rfl rfl d_O_mixRest_115 ?_
              refine gC_O_mixed C u_132 d_O_mixRest_116 ?_
              refine j_iconst (v := 1) C (by decide) d_O_mixRest_119 ?_
              refine j_iload_n C 5 rfl rfl d_O_mixRest_120 ?_
              refine sC_O_mixed C (by decide) d_O_mixRest_121 ?_
              refine j_ltS (fun S51 => ?_)
              refine j_aload_n C 3 rfl rfl d_O_mixRest_122 ?_
              refine gC_O_mixed C u_132 d_O_mixRest_123 ?_
              refine j_iconst (v := 2) C (by decide) d_O_mixRest_126 ?_
              refine j_iload C 8 rfl d_O_mixRest_127 ?_
              refine sC_O_mixed C (by decide) d_O_mixRest_129 ?_
              refine j_ltS (fun S52 => ?_)
              refine j_aload_n C 3 rfl rfl d_O_mixRest_130 ?_
              refine gC_O_mixed C u_132 d_O_mixRest_131 ?_
              refine j_iconst (v := 3) C (by decide) d_O_mixRest_134 ?_
              refine j_iload C 1 rfl d_O_mixRest_135 ?_
              refine sC_O_mixed C (by decide) d_O_mixRest_137 ?_
              refine j_ltS (fun S53 => ?_)
              refine j_iincN (n2 := -1) (lv2 := fun x54 => [(5, .int x54), (8, .int x43), (7, .int (0 : Int32)), (6, .int x26), (0, .ref (a 4)), (1, .int x1), (2, .int x2), (3, .int x3), (4, .int x4)]) C 8 rfl (by decide) (by decide) (fun _ => rfl) d_O_mixRest_138 (fun x54 => ?_)
              refine j_goto (tgt := 26) C d_O_mixRest_141 (by decide) ?_
              refine j_sub [4, 5, 6, 7, 8, 0] rfl ?_
              exact ih S53 x1 x2 x3 x4 x54
        · refine j_iincN (n2 := -1) (lv2 := fun x55 => [(5, .int x55), (8, .int x43), (7, .int (0 : Int32)), (6, .int x26), (0, .ref (a 4)), (1, .int x1), (2, .int x2), (3, .int x3), (4, .int x4)]) C 8 rfl (by decide) (by decide) (fun _ => rfl) d_O_mixRest_138 (fun x55 => ?_)
          refine j_goto (tgt := 26) C d_O_mixRest_141 (by decide) ?_
          refine j_sub [4, 5, 6, 7, 8, 0] rfl ?_
          exact ih S x1 x2 x3 x4 x55
def f_O_mixRest (g : Nat) (S : Mem) (x1 : Int32) (x2 : Int32) (x3 : Int32) : Option (Unit × Mem) := lt (S.1 22 ((3 : Int32).toNatClampNeg)) (fun x21 => bnd (f_O_mostOf g S (2 : Int32) x3 ((((S.1 30 0) - (1 : Int32)) - x1) - x2)) (fun r22 S23 => seqM (f_O_mixRest_26 g g S23 x1 x2 x3 x21 r22) (fun S56 y57 => some ((), S56))))
set_option maxRecDepth 100000 in
set_option maxHeartbeats 4000000 in
theorem c_O_mixRest {l : Launch} {D : va_G} {cI cJ cZ cL : ClassId} {a : Nat → Nat} (g : Nat) (S : Mem) (x1 : Int32) (x2 : Int32) (x3 : Int32) {r : Unit} {S9 : Mem} (h : f_O_mixRest g S x1 x2 x3 = some (r, S9)) : Ctr l y_O_mixRest prog_7_method_6_code 9 none rm_O_mixRest D (tyT cI cJ cZ cL) (wdC cI cJ cZ cL a) [.ref (a 4), .int x1, .int x2, .int x3] S (vV r, S9) := by
  refine Ctr.of (lv0 := [(0, .ref (a 4)), (1, .int x1), (2, .int x2), (3, .int x3)]) (vv := vV) (by decide) rfl (wdC_fst cI cJ cZ cL a) (Nat.le_of_ble_eq_true rfl) rfl (fun p e s m args below meth c A C => ?_) r S9 h
  unfold f_O_mixRest
  refine j_aload_n C 0 rfl rfl d_O_mixRest_0 ?_
  refine gC_O_denominations C u_123 d_O_mixRest_1 ?_
  refine j_iconst (v := 3) C (by decide) d_O_mixRest_4 ?_
  refine lC_O_denominations C (by decide) d_O_mixRest_5 ?_
  refine j_lti (fun x21 => ?_)
  refine j_istore (i := 4) (lv2 := [(4, .int x21), (0, .ref (a 4)), (1, .int x1), (2, .int x2), (3, .int x3)]) C (by decide) rfl d_O_mixRest_6 ?_
  refine j_aload_n C 1 rfl rfl d_O_mixRest_8 ?_
  refine j_iconst (v := 2) C (by decide) d_O_mixRest_9 ?_
  refine j_iload_n C 4 rfl rfl d_O_mixRest_10 ?_
  refine j_aload_n C 1 rfl rfl d_O_mixRest_11 ?_
  refine gC_O_fewest C u_134 d_O_mixRest_12 ?_
  refine j_iconst (v := 1) C (by decide) d_O_mixRest_15 ?_
  refine j_isub C d_O_mixRest_16 ?_
  refine j_iload_n C 2 rfl rfl d_O_mixRest_17 ?_
  refine j_isub C d_O_mixRest_18 ?_
  refine j_iload_n C 3 rfl rfl d_O_mixRest_19 ?_
  refine j_isub C d_O_mixRest_20 ?_
  refine j_bnd (fun r22 S23 e24 => ?_)
  refine j_callVi (As := [.int (2 : Int32), .int x3, .int ((((S.1 30 0) - (1 : Int32)) - x1) - x2)]) (rest := []) C 4 5 Y_O_mostOf u_383 (c_O_mostOf g S (2 : Int32) x3 ((((S.1 30 0) - (1 : Int32)) - x1) - x2) e24) rfl rfl ⟨by decide, by decide⟩ rfl rfl rfl rfl (Nat.le_of_ble_eq_true rfl) d_O_mixRest_21 ?_
  refine j_istore (i := 5) (lv2 := [(5, .int r22), (4, .int x21), (0, .ref (a 4)), (1, .int x1), (2, .int x2), (3, .int x3)]) C (by decide) rfl d_O_mixRest_24 ?_
  refine j_sub [2, 3, 4, 5, 1, 0] rfl ?_
  refine j_seqM ?_
  refine lp_O_mixRest_26 C g  (fun S56 y57 => ?_) g S23 x1 x2 x3 x21 r22
  refine j_outM ?_
  exact j_vret C rfl rfl d_O_mixRest_144
def f_O_findMix_64 (g : Nat) : Nat → Mem → Int32 → Int32 → Int32 → Int32 → Option (Mem × (Int32 × Int32))
  | 0, _, _, _, _, _ => none
  | n + 1, S, x1, x2, x3, x5 => if x5 < 0 then (some (S, (x1, x2))) else (bnd (f_O_mixRest g S x2 x5 (x3 - (x5 * (S.1 22 ((1 : Int32).toNatClampNeg))))) (fun _ S40 => lt (x5 + (-1 : Int32)) (fun x42 => f_O_findMix_64 g n S40 x1 x2 x3 x42)))
set_option maxRecDepth 100000 in
set_option maxHeartbeats 4000000 in
theorem lp_O_findMix_64 {l : Launch} {D : va_G} {cI cJ cZ cL : ClassId} {a : Nat → Nat} {p : Program} {e : Env} {s : State} {m : MethodId} {args : Array Value} {below : List Frame} {meth : Method} {c : Code} {A : Nat → Prop} (C : Cx p s m args meth c "AutoTeller$Notes" prog_7_method_5_code 6 (some .boolean) D (tyT cI cJ cZ cL) (wdC cI cJ cZ cL a) A) (g : Nat) {K : (Mem × (Int32 × Int32)) → Option (Int32 × Mem)} (hx : ∀ (S : Mem) (y : Int32 × Int32), Tj p l e rm_O_findMix s m args below meth c D (wdC cI cJ cZ cL a) A 6 vI K (some (S, y)) S 93 [(0, .ref (a 4)), (1, .int y.1), (2, .int y.2)] []) : ∀ (n : Nat) (S : Mem) (x1 : Int32) (x2 : Int32) (x3 : Int32) (x5 : Int32), Tj p l e rm_O_findMix s m args below meth c D (wdC cI cJ cZ cL a) A 6 vI K (f_O_findMix_64 g n S x1 x2 x3 x5) S 64 [(0, .ref (a 4)), (1, .int x1), (2, .int x2), (3, .int x3), (5, .int x5)] [] := by
  intro n
  induction n with
  | zero =>
    intro S x1 x2 x3 x5
    exact j_none
  | succ n ih =>
    intro S x1 x2 x3 x5
    rw [f_O_findMix_64]
    refine j_iload C 4 rfl d_O_findMix_64 ?_
    refine j_if_lt (tgt := 93) C d_O_findMix_66 (by decide) (fun h38 => ?_) (fun h38 => ?_)
    · refine j_sub [0, 1, 2] rfl ?_
      exact hx S (x1, x2)
    · refine j_aload_n C 0 rfl rfl d_O_findMix_69 ?_
      refine j_iload_n C 2 rfl rfl d_O_findMix_70 ?_
      refine j_iload C 4 rfl d_O_findMix_71 ?_
      refine j_iload_n C 3 rfl rfl d_O_findMix_73 ?_
      refine j_iload C 4 rfl d_O_findMix_74 ?_
      refine j_aload_n C 0 rfl rfl d_O_findMix_76 ?_
      refine gC_O_denominations C u_123 d_O_findMix_77 ?_
      refine j_iconst (v := 1) C (by decide) d_O_findMix_80 ?_
      refine lC_O_denominations C (by decide) d_O_findMix_81 ?_
      refine j_imul C d_O_findMix_82 ?_
      refine j_isub C d_O_findMix_83 ?_
      refine j_bnd (fun _ S40 e41 => ?_)
      refine j_callVv (As := [.int x2, .int x5, .int (x3 - (x5 * (S.1 22 ((1 : Int32).toNatClampNeg))))]) (rest := []) C 4 5 Y_O_mixRest u_387 (c_O_mixRest g S x2 x5 (x3 - (x5 * (S.1 22 ((1 : Int32).toNatClampNeg)))) e41) rfl rfl ⟨by decide, by decide⟩ rfl rfl rfl rfl (Nat.le_of_ble_eq_true rfl) d_O_findMix_84 ?_
      refine j_iincN (n2 := -1) (lv2 := fun x42 => [(5, .int x42), (0, .ref (a 4)), (1, .int x1), (2, .int x2), (3, .int x3)]) C 4 rfl (by decide) (by decide) (fun _ => rfl) d_O_findMix_87 (fun x42 => ?_)
      refine j_goto (tgt := 64) C d_O_findMix_90 (by decide) ?_
      refine j_sub [1, 2, 3, 4, 0] rfl ?_
      exact ih S40 x1 x2 x3 x42
def f_O_findMix_29 (g : Nat) : Nat → Mem → Int32 → Int32 → Option (Mem × (Unit))
  | 0, _, _, _ => none
  | n + 1, S, x1, x2 => if x2 < 0 then (some (S, ())) else (lt (x1 - (x2 * (S.1 22 ((0 : Int32).toNatClampNeg)))) (fun x33 => lt (((S.1 30 0) - (1 : Int32)) - x2) (fun x34 => bnd (f_O_mostOf g S (1 : Int32) x33 x34) (fun r35 S36 => seqM (f_O_findMix_64 g g S36 x1 x2 x33 r35) (fun S43 y44 => lt (y44.2 + (-1 : Int32)) (fun x45 => f_O_findMix_29 g n S43 y44.1 x45))))))
set_option maxRecDepth 100000 in
set_option maxHeartbeats 4000000 in
theorem lp_O_findMix_29 {l : Launch} {D : va_G} {cI cJ cZ cL : ClassId} {a : Nat → Nat} {p : Program} {e : Env} {s : State} {m : MethodId} {args : Array Value} {below : List Frame} {meth : Method} {c : Code} {A : Nat → Prop} (C : Cx p s m args meth c "AutoTeller$Notes" prog_7_method_5_code 6 (some .boolean) D (tyT cI cJ cZ cL) (wdC cI cJ cZ cL a) A) (g : Nat) {K : (Mem × (Unit)) → Option (Int32 × Mem)} (hx : ∀ (S : Mem) (y : Unit), Tj p l e rm_O_findMix s m args below meth c D (wdC cI cJ cZ cL a) A 6 vI K (some (S, y)) S 99 [(0, .ref (a 4))] []) : ∀ (n : Nat) (S : Mem) (x1 : Int32) (x2 : Int32), Tj p l e rm_O_findMix s m args below meth c D (wdC cI cJ cZ cL a) A 6 vI K (f_O_findMix_29 g n S x1 x2) S 29 [(0, .ref (a 4)), (1, .int x1), (2, .int x2)] [] := by
  intro n
  induction n with
  | zero =>
    intro S x1 x2
    exact j_none
  | succ n ih =>
    intro S x1 x2
    rw [f_O_findMix_29]
    refine j_iload_n C 2 rfl rfl d_O_findMix_29 ?_
    refine j_if_lt (tgt := 99) C d_O_findMix_30 (by decide) (fun h32 => ?_) (fun h32 => ?_)
    · refine j_sub [0] rfl ?_
      exact hx S ()
    · refine j_iload_n C 1 rfl rfl d_O_findMix_33 ?_
      refine j_iload_n C 2 rfl rfl d_O_findMix_34 ?_
      refine j_aload_n C 0 rfl rfl d_O_findMix_35 ?_
      refine gC_O_denominations C u_123 d_O_findMix_36 ?_
      refine j_iconst (v := 0) C (by decide) d_O_findMix_39 ?_
      refine lC_O_denominations C (by decide) d_O_findMix_40 ?_
      refine j_imul C d_O_findMix_41 ?_
      refine j_isub C d_O_findMix_42 ?_
      refine j_lti (fun x33 => ?_)
      refine j_istore_n (i := 3) (lv2 := [(3, .int x33), (0, .ref (a 4)), (1, .int x1), (2, .int x2)]) C rfl (by decide) rfl d_O_findMix_43 ?_
      refine j_aload_n C 1 rfl rfl d_O_findMix_44 ?_
      refine gC_O_fewest C u_134 d_O_findMix_45 ?_
      refine j_iconst (v := 1) C (by decide) d_O_findMix_48 ?_
      refine j_isub C d_O_findMix_49 ?_
      refine j_iload_n C 3 rfl rfl d_O_findMix_50 ?_
      refine j_isub C d_O_findMix_51 ?_
      refine j_lti (fun x34 => ?_)
      refine j_istore (i := 4) (lv2 := [(4, .int x34), (3, .int x33), (0, .ref (a 4)), (1, .int x1), (2, .int x2)]) C (by decide) rfl d_O_findMix_52 ?_
      refine j_aload_n C 2 rfl rfl d_O_findMix_54 ?_
      refine j_iconst (v := 1) C (by decide) d_O_findMix_55 ?_
      refine j_iload_n C 1 rfl rfl d_O_findMix_56 ?_
      refine j_iload C 0 rfl d_O_findMix_57 ?_
      refine j_bnd (fun r35 S36 e37 => ?_)
      refine j_callVi (As := [.int (1 : Int32), .int x33, .int x34]) (rest := []) C 4 5 Y_O_mostOf u_383 (c_O_mostOf g S (1 : Int32) x33 x34 e37) rfl rfl ⟨by decide, by decide⟩ rfl rfl rfl rfl (Nat.le_of_ble_eq_true rfl) d_O_findMix_59 ?_
      refine j_istore (i := 5) (lv2 := [(5, .int r35), (4, .int x34), (3, .int x33), (0, .ref (a 4)), (1, .int x1), (2, .int x2)]) C (by decide) rfl d_O_findMix_62 ?_
      refine j_sub [3, 4, 5, 2, 0] rfl ?_
      refine j_seqM ?_
      refine lp_O_findMix_64 C g  (fun S43 y44 => ?_) g S36 x1 x2 x33 r35
      refine j_outM ?_
      refine j_iincN (n2 := -1) (lv2 := fun x45 => [(2, .int x45), (0, .ref (a 4)), (1, .int y44.1)]) C 2 rfl (by decide) (by decide) (fun _ => rfl) d_O_findMix_93 (fun x45 => ?_)
      refine j_goto (tgt := 29) C d_O_findMix_96 (by decide) ?_
      refine j_sub [1, 2, 0] rfl ?_
      exact ih S43 y44.1 x45
def f_O_findMix (g : Nat) (S : Mem) (x1 : Int32) : Option (Int32 × Mem) := lt (sI S 30 0 (41 : Int32)) (fun S21 => bnd (f_A_isAmount g S21 x1.toInt64) (fun r22 S23 => if r22 = 0 then (some ((0 : Int32), S23)) else (bnd (f_O_findLargest g S23) (fun _ S27 => bnd (f_O_mostOf g S27 (0 : Int32) x1 (40 : Int32)) (fun r29 S30 => seqM (f_O_findMix_29 g g S30 x1 r29) (fun S46 y47 => if (40 : Int32) < (S46.1 30 0) then (some ((0 : Int32), S46)) else (some ((1 : Int32), S46))))))))
set_option maxRecDepth 100000 in
set_option maxHeartbeats 4000000 in
theorem c_O_findMix {l : Launch} {D : va_G} {cI cJ cZ cL : ClassId} {a : Nat → Nat} (g : Nat) (S : Mem) (x1 : Int32) {r : Int32} {S9 : Mem} (h : f_O_findMix g S x1 = some (r, S9)) : Ctr l y_O_findMix prog_7_method_5_code 6 (some .boolean) rm_O_findMix D (tyT cI cJ cZ cL) (wdC cI cJ cZ cL a) [.ref (a 4), .int x1] S (vI r, S9) := by
  refine Ctr.of (lv0 := [(0, .ref (a 4)), (1, .int x1)]) (vv := vI) (by decide) rfl (wdC_fst cI cJ cZ cL a) (Nat.le_of_ble_eq_true rfl) rfl (fun p e s m args below meth c A C => ?_) r S9 h
  unfold f_O_findMix
  refine j_aload_n C 0 rfl rfl d_O_findMix_0 ?_
  refine j_bipush (v := 41) C (by decide) d_O_findMix_1 ?_
  refine pC_O_fewest C u_134 d_O_findMix_3 ?_
  refine j_ltS (fun S21 => ?_)
  refine j_iload_n C 1 rfl rfl d_O_findMix_6 ?_
  refine j_i2l C d_O_findMix_7 ?_
  refine j_bnd (fun r22 S23 e24 => ?_)
  refine j_callSNi (As := [.long x1.toInt64]) (rest := []) C Y_A_isAmount n_375 (c_A_isAmount g S21 x1.toInt64 e24) rfl rfl ⟨by decide, by decide⟩ rfl rfl (Nat.le_of_ble_eq_true rfl) d_O_findMix_8 ?_
  refine j_if_ne (tgt := 16) C d_O_findMix_11 (by decide) (fun h25 => ?_) (fun h25 => ?_)
  · refine j_iconst (v := 0) C (by decide) d_O_findMix_14 ?_
    exact j_zret C (Or.inl rfl) rfl rfl d_O_findMix_15
  · refine j_aload_n C 0 rfl rfl d_O_findMix_16 ?_
    refine j_bnd (fun _ S27 e28 => ?_)
    refine j_callVv (As := []) (rest := []) C 4 5 Y_O_findLargest u_376 (c_O_findLargest g S23 e28) rfl rfl ⟨by decide, by decide⟩ rfl rfl rfl rfl (Nat.le_of_ble_eq_true rfl) d_O_findMix_17 ?_
    refine j_aload_n C 0 rfl rfl d_O_findMix_20 ?_
    refine j_iconst (v := 0) C (by decide) d_O_findMix_21 ?_
    refine j_iload_n C 1 rfl rfl d_O_findMix_22 ?_
    refine j_bipush (v := 40) C (by decide) d_O_findMix_23 ?_
    refine j_bnd (fun r29 S30 e31 => ?_)
    refine j_callVi (As := [.int (0 : Int32), .int x1, .int (40 : Int32)]) (rest := []) C 4 5 Y_O_mostOf u_383 (c_O_mostOf g S27 (0 : Int32) x1 (40 : Int32) e31) rfl rfl ⟨by decide, by decide⟩ rfl rfl rfl rfl (Nat.le_of_ble_eq_true rfl) d_O_findMix_25 ?_
    refine j_istore_n (i := 2) (lv2 := [(2, .int r29), (0, .ref (a 4)), (1, .int x1)]) C rfl (by decide) rfl d_O_findMix_28 ?_
    refine j_sub [1, 2, 0] rfl ?_
    refine j_seqM ?_
    refine lp_O_findMix_29 C g  (fun S46 y47 => ?_) g S30 x1 r29
    refine j_outM ?_
    refine j_aload_n C 0 rfl rfl d_O_findMix_99 ?_
    refine gC_O_fewest C u_134 d_O_findMix_100 ?_
    refine j_bipush (v := 40) C (by decide) d_O_findMix_103 ?_
    refine j_icmp_gt (tgt := 112) C d_O_findMix_105 (by decide) (fun h48 => ?_) (fun h48 => ?_)
    · refine j_iconst (v := 0) C (by decide) d_O_findMix_112 ?_
      exact j_zret C (Or.inl rfl) rfl rfl d_O_findMix_113
    · refine j_iconst (v := 1) C (by decide) d_O_findMix_108 ?_
      refine j_goto (tgt := 113) C d_O_findMix_109 (by decide) ?_
      exact j_zret C (Or.inr rfl) rfl rfl d_O_findMix_113
def f_J_isFull (g : Nat) (S : Mem) : Option (Int32 × Mem) := if (S.1 36 0) < (300 : Int32) then (some ((0 : Int32), S)) else (some ((1 : Int32), S))
set_option maxRecDepth 100000 in
set_option maxHeartbeats 4000000 in
theorem c_J_isFull {l : Launch} {D : va_G} {cI cJ cZ cL : ClassId} {a : Nat → Nat} (g : Nat) (S : Mem) {r : Int32} {S9 : Mem} (h : f_J_isFull g S = some (r, S9)) : Ctr l y_J_isFull prog_3_method_2_code 1 (some .boolean) rm_J_isFull D (tyT cI cJ cZ cL) (wdC cI cJ cZ cL a) [.ref (a 5)] S (vI r, S9) := by
  refine Ctr.of (lv0 := [(0, .ref (a 5))]) (vv := vI) (by decide) rfl (wdC_fst cI cJ cZ cL a) (Nat.le_of_ble_eq_true rfl) rfl (fun p e s m args below meth c A C => ?_) r S9 h
  unfold f_J_isFull
  refine j_aload_n C 0 rfl rfl d_J_isFull_0 ?_
  refine gC_J_size C u_169 d_J_isFull_1 ?_
  refine j_sipush (v := 300) C (by decide) d_J_isFull_4 ?_
  refine j_icmp_lt (tgt := 14) C d_J_isFull_7 (by decide) (fun h21 => ?_) (fun h21 => ?_)
  · refine j_iconst (v := 0) C (by decide) d_J_isFull_14 ?_
    exact j_zret C (Or.inl rfl) rfl rfl d_J_isFull_15
  · refine j_iconst (v := 1) C (by decide) d_J_isFull_10 ?_
    refine j_goto (tgt := 15) C d_J_isFull_11 (by decide) ?_
    exact j_zret C (Or.inr rfl) rfl rfl d_J_isFull_15
def f_J_add (g : Nat) (S : Mem) (x1 : Int32) (x2 : Int32) (x3 : Int32) (x4 : Int32) : Option (Unit × Mem) := bnd (f_J_isFull g S) (fun r21 S22 => if r21 = 0 then (grd (¬ ((S22.1 36 0) < 0 ∨ 300 ≤ (S22.1 36 0).toNatClampNeg)) (lt (sI S22 32 ((S22.1 36 0).toNatClampNeg) x1) (fun S26 => grd (¬ ((S26.1 36 0) < 0 ∨ 300 ≤ (S26.1 36 0).toNatClampNeg)) (lt (sI S26 33 ((S26.1 36 0).toNatClampNeg) x2) (fun S28 => grd (¬ ((S28.1 36 0) < 0 ∨ 300 ≤ (S28.1 36 0).toNatClampNeg)) (lt (sI S28 34 ((S28.1 36 0).toNatClampNeg) x3) (fun S30 => grd (¬ ((S30.1 36 0) < 0 ∨ 300 ≤ (S30.1 36 0).toNatClampNeg)) (lt (sI S30 35 ((S30.1 36 0).toNatClampNeg) x4) (fun S32 => lt (sI S32 36 0 ((S32.1 36 0) + (1 : Int32))) (fun S33 => some ((), S33))))))))))) else (some ((), S22)))
set_option maxRecDepth 100000 in
set_option maxHeartbeats 4000000 in
theorem c_J_add {l : Launch} {D : va_G} {cI cJ cZ cL : ClassId} {a : Nat → Nat} (g : Nat) (S : Mem) (x1 : Int32) (x2 : Int32) (x3 : Int32) (x4 : Int32) {r : Unit} {S9 : Mem} (h : f_J_add g S x1 x2 x3 x4 = some (r, S9)) : Ctr l y_J_add prog_3_method_3_code 5 none rm_J_add D (tyT cI cJ cZ cL) (wdC cI cJ cZ cL a) [.ref (a 5), .int x1, .int x2, .int x3, .int x4] S (vV r, S9) := by
  refine Ctr.of (lv0 := [(0, .ref (a 5)), (1, .int x1), (2, .int x2), (3, .int x3), (4, .int x4)]) (vv := vV) (by decide) rfl (wdC_fst cI cJ cZ cL a) (Nat.le_of_ble_eq_true rfl) rfl (fun p e s m args below meth c A C => ?_) r S9 h
  unfold f_J_add
  refine j_aload_n C 0 rfl rfl d_J_add_0 ?_
  refine j_bnd (fun r21 S22 e23 => ?_)
  refine j_callVi (As := []) (rest := []) C 5 1 Y_J_isFull u_403 (c_J_isFull g S e23) rfl rfl ⟨by decide, by decide⟩ rfl rfl rfl rfl (Nat.le_of_ble_eq_true rfl) d_J_add_1 ?_
  refine j_if_eq (tgt := 8) C d_J_add_4 (by decide) (fun h24 => ?_) (fun h24 => ?_)
  · refine j_aload_n C 0 rfl rfl d_J_add_8 ?_
    refine gC_J_kinds C u_165 d_J_add_9 ?_
    refine j_aload_n C 0 rfl rfl d_J_add_12 ?_
    refine gC_J_size C u_169 d_J_add_13 ?_
    refine j_iload_n C 1 rfl rfl d_J_add_16 ?_
    refine j_grd (fun h25 => ?_)
    refine sC_J_kinds C h25 d_J_add_17 ?_
    refine j_ltS (fun S26 => ?_)
    refine j_aload_n C 0 rfl rfl d_J_add_18 ?_
    refine gC_J_traces C u_166 d_J_add_19 ?_
    refine j_aload_n C 0 rfl rfl d_J_add_22 ?_
    refine gC_J_size C u_169 d_J_add_23 ?_
    refine j_iload_n C 2 rfl rfl d_J_add_26 ?_
    refine j_grd (fun h27 => ?_)
    refine sC_J_traces C h27 d_J_add_27 ?_
    refine j_ltS (fun S28 => ?_)
    refine j_aload_n C 0 rfl rfl d_J_add_28 ?_
    refine gC_J_amounts C u_167 d_J_add_29 ?_
    refine j_aload_n C 0 rfl rfl d_J_add_32 ?_
    refine gC_J_size C u_169 d_J_add_33 ?_
    refine j_iload_n C 3 rfl rfl d_J_add_36 ?_
    refine j_grd (fun h29 => ?_)
    refine sC_J_amounts C h29 d_J_add_37 ?_
    refine j_ltS (fun S30 => ?_)
    refine j_aload_n C 0 rfl rfl d_J_add_38 ?_
    refine gC_J_cards C u_168 d_J_add_39 ?_
    refine j_aload_n C 0 rfl rfl d_J_add_42 ?_
    refine gC_J_size C u_169 d_J_add_43 ?_
    refine j_iload C 4 rfl d_J_add_46 ?_
    refine j_grd (fun h31 => ?_)
    refine sC_J_cards C h31 d_J_add_48 ?_
    refine j_ltS (fun S32 => ?_)
    refine j_aload_n C 0 rfl rfl d_J_add_49 ?_
    refine j_dup C rfl d_J_add_50 ?_
    refine gC_J_size C u_169 d_J_add_51 ?_
    refine j_iconst (v := 1) C (by decide) d_J_add_54 ?_
    refine j_iadd C d_J_add_55 ?_
    refine pC_J_size C u_169 d_J_add_56 ?_
    refine j_ltS (fun S33 => ?_)
    exact j_vret C rfl rfl d_J_add_59
  · exact j_vret C rfl rfl d_J_add_7
def f_M_write (g : Nat) (S : Mem) (x1 : Int32) : Option (Int32 × Mem) := bnd (f_J_isFull g S) (fun r21 S22 => if r21 = 0 then (bnd (f_M_mayStep g S22) (fun r25 S26 => if r25 = 0 then (some ((0 : Int32), S26)) else (bnd (f_J_add g S26 x1 (S26.1 19 0) (S26.1 21 0) (S26.1 20 0)) (fun _ S30 => some ((1 : Int32), S30))))) else (some ((1 : Int32), S22)))
set_option maxRecDepth 100000 in
set_option maxHeartbeats 4000000 in
theorem c_M_write {l : Launch} {D : va_G} {cI cJ cZ cL : ClassId} {a : Nat → Nat} (g : Nat) (S : Mem) (x1 : Int32) {r : Int32} {S9 : Mem} (h : f_M_write g S x1 = some (r, S9)) : Ctr l y_M_write prog_6_method_22_code 2 (some .boolean) rm_M_write D (tyT cI cJ cZ cL) (wdC cI cJ cZ cL a) [.ref (a 3), .int x1] S (vI r, S9) := by
  refine Ctr.of (lv0 := [(0, .ref (a 3)), (1, .int x1)]) (vv := vI) (by decide) rfl (wdC_fst cI cJ cZ cL a) (Nat.le_of_ble_eq_true rfl) rfl (fun p e s m args below meth c A C => ?_) r S9 h
  unfold f_M_write
  refine j_aload_n C 0 rfl rfl d_M_write_0 ?_
  refine gC_M_journal C u_186 d_M_write_1 ?_
  refine j_bnd (fun r21 S22 e23 => ?_)
  refine j_callVi (As := []) (rest := []) C 5 1 Y_J_isFull u_395 (c_J_isFull g S e23) rfl rfl ⟨by decide, by decide⟩ rfl rfl rfl rfl (Nat.le_of_ble_eq_true rfl) d_M_write_4 ?_
  refine j_if_eq (tgt := 12) C d_M_write_7 (by decide) (fun h24 => ?_) (fun h24 => ?_)
  · refine j_aload_n C 0 rfl rfl d_M_write_12 ?_
    refine j_bnd (fun r25 S26 e27 => ?_)
    refine j_callVi (As := []) (rest := []) C 3 4 Y_M_mayStep u_330 (c_M_mayStep g S22 e27) rfl rfl ⟨by decide, by decide⟩ rfl rfl rfl rfl (Nat.le_of_ble_eq_true rfl) d_M_write_13 ?_
    refine j_if_ne (tgt := 21) C d_M_write_16 (by decide) (fun h28 => ?_) (fun h28 => ?_)
    · refine j_iconst (v := 0) C (by decide) d_M_write_19 ?_
      exact j_zret C (Or.inl rfl) rfl rfl d_M_write_20
    · refine j_aload_n C 0 rfl rfl d_M_write_21 ?_
      refine gC_M_journal C u_186 d_M_write_22 ?_
      refine j_iload_n C 1 rfl rfl d_M_write_25 ?_
      refine j_aload_n C 0 rfl rfl d_M_write_26 ?_
      refine gC_M_traceAtHand C u_203 d_M_write_27 ?_
      refine j_aload_n C 0 rfl rfl d_M_write_30 ?_
      refine gC_M_amountAtHand C u_205 d_M_write_31 ?_
      refine j_aload_n C 0 rfl rfl d_M_write_34 ?_
      refine gC_M_cardAtHand C u_204 d_M_write_35 ?_
      refine j_bnd (fun _ S30 e31 => ?_)
      refine j_callVv (As := [.int x1, .int (S26.1 19 0), .int (S26.1 21 0), .int (S26.1 20 0)]) (rest := []) C 5 1 Y_J_add u_399 (c_J_add g S26 x1 (S26.1 19 0) (S26.1 21 0) (S26.1 20 0) e31) rfl rfl ⟨by decide, by decide⟩ rfl rfl rfl rfl (Nat.le_of_ble_eq_true rfl) d_M_write_38 ?_
      refine j_iconst (v := 1) C (by decide) d_M_write_41 ?_
      exact j_zret C (Or.inr rfl) rfl rfl d_M_write_42
  · refine j_iconst (v := 1) C (by decide) d_M_write_10 ?_
    exact j_zret C (Or.inr rfl) rfl rfl d_M_write_11
