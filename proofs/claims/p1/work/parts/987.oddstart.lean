/-! the law from its entry, at an odd start -/
set_option maxHeartbeats 8000000 in
set_option maxRecDepth 100000 in
theorem odd_walk {p : Program} {e : Env} {s : State} {m : MethodId} {below : List Frame} {meth : Method} {c : Code} (l : Launch) {b L : Nat} {xs : Nat → Int32} (C0 : lw_At p s m meth c b L xs) (hO : ∀ (t : Nat) (cell : Cell), (Term.static "AutoTeller" "FIRST_DENOMINATIONS" "[I").eval #[Value.ref b] s none [] s = some (.ref t) → s.heap[t]? = some cell → cell.vm.isStatics = false ∧ s.vm.findClass "Odd" = some cell.cls) (hOW : ∀ w ∈ od_ws, ∀ a, w.before a s = true) (g : Nat) {F16 F2001 S1 : Mem} {S9 : Mem × Mem} (hF16 : f_F_fill_a16F16 g (sM (fun _ => 0)) (-1) = some ((), F16)) (hF2001 : f_F_fill_a2001F2001 g (sM (fun _ => 0)) (-1) = some ((), F2001)) (hS1 : f_R_init g S0r = some ((), S1)) (hp : f_L_law g L xs (S0cz (F16.1 0) (F2001.1 0), S1) = some (0, S9)) : W p l e room_1 s m #[Value.ref b] below meth c s.heap [] 0 0 (lw_Z0 below #[Value.ref b] s) (entryFrame m ([Value.ref b] : List Value).toArray 4) := by
  obtain ⟨hx, hb, hr, hml, hown, hts0, hX, hbl, hlocks, hgv⟩ := id C0
  have hts : ∀ q ∈ wU, q.before #[Value.ref b] s = true := fun q h => hts0 q (List.mem_filter.mp h).1
  have htT : ∀ q ∈ tables_1, q.before #[Value.ref b] s = true := fun q h => hts0 q (List.mem_append_right _ h)
  have hN : ∀ q ∈ wN, va_Nw q s := by
    intro q hq
    have h1 := htT q (List.mem_filter.mp hq).1
    have h2 := (List.mem_filter.mp hq).2
    cases q <;> first | exact va_Nw.of rfl h1 | (simp [isNest] at h2; done)
  obtain ⟨c0, iS0, hKn0⟩ := u_known (C := "AutoTeller$Host") (T := T_H) (N := 11) (n := 11) hts in_H (hts _ u_57)
  obtain ⟨c1, iS1, hKn1⟩ := u_known (C := "AutoTeller$Journal") (T := T_J) (N := 5) (n := 5) hts in_J (hts _ u_160)
  obtain ⟨c2, iS2, hKn2⟩ := u_known (C := "AutoTeller$Letter") (T := T_E) (N := 2) (n := 2) hts in_E (hts _ u_28)
  obtain ⟨c3, iS3, hKn3⟩ := u_known (C := "AutoTeller$Line") (T := T_N) (N := 3) (n := 3) hts in_N (hts _ u_21)
  obtain ⟨c4, iS4, hKn4⟩ := u_known (C := "AutoTeller$Machine") (T := T_M) (N := 15) (n := 15) hts in_M (hts _ u_103)
  obtain ⟨c5, iS5, hKn5⟩ := u_known (C := "AutoTeller$Notes") (T := T_O) (N := 11) (n := 11) hts in_O (hts _ u_109)
  obtain ⟨c6, iS6, hKn6⟩ := u_known (C := "AutoTeller") (T := T_A) (N := 4) (n := 4) hts in_A (hts _ u_13)
  obtain ⟨c7, iS7, hKn7⟩ := u_known (C := "AutoTellerModel") (T := T_R) (N := 36) (n := 36) hts in_R (hts _ u_680)
  obtain ⟨dC, dI, hKc⟩ : ∃ (dC : Nat → ClassId) (dI : Nat → Nat → Nat), ∀ (k : Nat) (q : vw_C), vwCl[k]? = some q → u_Kn s q.1 q.2.1 q.2.2 (dC k) (dI k) := by
    refine ⟨fun k => if k = 0 then c0 else if k = 1 then c1 else if k = 2 then c2 else if k = 3 then c3 else if k = 4 then c4 else if k = 5 then c5 else if k = 6 then c6 else c7, fun k => if k = 0 then iS0 else if k = 1 then iS1 else if k = 2 then iS2 else if k = 3 then iS3 else if k = 4 then iS4 else if k = 5 then iS5 else if k = 6 then iS6 else iS7, ?_⟩
    intro k q hq
    match k, hq with
    | 0, hq => cases hq; exact hKn0
    | 1, hq => cases hq; exact hKn1
    | 2, hq => cases hq; exact hKn2
    | 3, hq => cases hq; exact hKn3
    | 4, hq => cases hq; exact hKn4
    | 5, hq => cases hq; exact hKn5
    | 6, hq => cases hq; exact hKn6
    | 7, hq => cases hq; exact hKn7
    | k + 8, hq => simp [vwCl] at hq
  obtain ⟨cI, kI, compI, hcI, hkI, hkdI⟩ := Cond.arrayClass_spec (hts _ u_43)
  obtain ⟨cJ, kJ, compJ, hcJ, hkJ, hkdJ⟩ := Cond.arrayClass_spec (hts _ u_101)
  obtain ⟨cZ, kZ, compZ, hcZ, hkZ, hkdZ⟩ := Cond.arrayClass_spec (hts _ u_237)
  have hov : (Cond.arrayOver (.object "AutoTeller$Letter")).before #[Value.ref b] s = true := htT _ (List.mem_of_getElem? (i := 27) (by decide +kernel))
  obtain ⟨compL, cL, kL, hcoL, -, hkL, hkdL, hcL⟩ := Cond.arrayOver_spec hov
  have hK : va_K (dC, dI) vwCl (tyT cI cJ cZ cL) s := by
    refine ⟨hKc, fun k q hk => ?_⟩
    match k, hk with
    | 0, hk => cases hk; exact ⟨fun n z => ⟨fun k h => (by cases h), kI, hkI, compI, hkdI⟩, hcI⟩
    | 1, hk => cases hk; exact ⟨fun n z => ⟨fun k h => (by cases h), kJ, hkJ, compJ, hkdJ⟩, hcJ⟩
    | 2, hk => cases hk; exact ⟨fun n z => ⟨fun k h => (by cases h), kZ, hkZ, compZ, hkdZ⟩, hcZ⟩
    | 3, hk => cases hk; exact ⟨fun n z => ⟨fun k h => (by cases h), kL, hkL, compL, hkdL⟩, kL, compL, hkL, hkdL, hcoL, hcL⟩
    | k + 4, hk => simp [tyT] at hk
  have hAo : ∀ a : Nat, a < s.heap.size → ¬ (fun q : Nat => s.heap.size ≤ q) a := fun a h => Nat.not_le.mpr h
  have hflat := flat_of_before _ hgv
  obtain ⟨t, ht, cell, k1, ⟨k2, -⟩, k3, k4, -, k5, k6⟩ := va_Tof (args := #[Value.ref b]) (s := s) (tm := Term.static "AutoTeller" "FIRST_DENOMINATIONS" "[I") (ty := .int) (N := 4) (f := fun j => .int (dn0 j)) (A := fun q : Nat => s.heap.size ≤ q) (by decide) (hflat _ (by decide +kernel)) (va_eqt (hflat _ (by decide +kernel))) (fun j hj => by rcases (show j = 0 ∨ j = 1 ∨ j = 2 ∨ j = 3 by omega) with rfl | rfl | rfl | rfl <;> exact va_eqt (hflat _ (by decide +kernel))) hAo
  obtain ⟨o1, o2⟩ := hO t cell ht k1
  have hST : STz t cI (fun q : Nat => s.heap.size ≤ q) s := ⟨hov, va_Nw.of rfl (htT _ (List.mem_of_getElem? (i := 121) (by decide +kernel))), va_Zref (htT _ (List.mem_of_getElem? (i := 115) (by decide +kernel))) (hts _ u_1) ht hAo, k6, cell, k1, o1, trivial, o2, hcI, hOW⟩
  have htl : t < s.heap.size := (Array.getElem?_eq_some_iff.mp k1).1
  have C : Cx p s m #[Value.ref b] meth c "AutoTellerLaw" code 4 ret (dC, dI) (tyT cI cJ cZ cL) wNil (fun q : Nat => s.heap.size ≤ q) := ⟨hx, hb, hml, hown, hts, hN, hK, wNil_D, fun _ h => h, hr, hlocks⟩
  have hP0 : va_P (dC, dI) vwCl [] s.heap := fun k q h => by simp at h
  have hD0 : va_D (fun q : Nat => s.heap.size ≤ q) [] := ⟨fun i j p q h => by simp at h, fun k q h => by simp at h⟩
  have hl := lv_entry ([.ref b]) (n := 4) (Nat.le_of_ble_eq_true rfl)
  rw [lg_entry_eq]
  suffices hG : Gj p l e room_1 s m #[Value.ref b] below meth c (dC, dI) (fun q : Nat => s.heap.size ≤ q) 4 0 0 (lw_Z0 below #[Value.ref b] s) [] 0 [(0, .ref b)] [] from hG s.heap [] _ hP0 hD0 va_S.rf hl
  refine i_new (ci := 6) (fs := [.null, .null, .null, .null]) (ws2 := fun q1 => [(q1, .inr (6, [.null, .null, .null, .null]))]) C in_A tk_A u_12 u_13 u_1 rfl (fun j hj => by rcases (show j = 0 ∨ j = 1 ∨ j = 2 ∨ j = 3 by omega) with rfl | rfl | rfl | rfl <;> rfl) (Nat.le_of_ble_eq_true rfl) (Nat.le_of_ble_eq_true rfl) (fun _ => rfl) d_L_law_0 (fun q1 => ?_)
  refine i_dup C rfl d_L_law_3 ?_
  refine i_ctor (w1 := []) (wc := [(q1, .inr (6, [.null, .null, .null, .null]))]) (ws2 := fun b1 => wdC cI cJ cZ cL (aC q1 b1) (S0cz (F16.1 0) (F2001.1 0))) (As := []) (rest := [.ref q1]) C (hST.ok htl) Y_A_init u_14 (n_A_initz g hF16 hF2001 q1) rfl rfl ⟨by decide, by decide⟩ ⟨(Nat.le_of_ble_eq_true rfl), (Nat.le_of_ble_eq_true rfl)⟩ rfl (fun _ => rfl) rfl rfl (Nat.le_of_ble_eq_true rfl) d_L_law_4 (fun b1 => ?_)
  refine i_astore_n (i := 1) (lv2 := [(1, .ref q1), (0, .ref b)]) C rfl (by decide) rfl d_L_law_7 ?_
  refine i_new (ci := 7) (fs := [.null, .null, .null, .null, .null, .null, .null, .null, .null, .long 0, .null, .null, .null, .null, .null, .long 0, .long 0, .long 0, .null, .null, .int 0, .int 0, .int 0, .int 0, .int 0, .int 0, .int 0, .int 0, .int 0, .int 0, .null, .int 0, .int 0, .int 0, .null, .null]) (ws2 := fun q2 => wdC cI cJ cZ cL (aC q1 b1) (S0cz (F16.1 0) (F2001.1 0)) ++ [(q2, .inr (7, [.null, .null, .null, .null, .null, .null, .null, .null, .null, .long 0, .null, .null, .null, .null, .null, .long 0, .long 0, .long 0, .null, .null, .int 0, .int 0, .int 0, .int 0, .int 0, .int 0, .int 0, .int 0, .int 0, .int 0, .null, .int 0, .int 0, .int 0, .null, .null]))]) C in_R tk_R u_679 u_680 u_9 rfl (fun j hj => by rcases (show j = 0 ∨ j = 1 ∨ j = 2 ∨ j = 3 ∨ j = 4 ∨ j = 5 ∨ j = 6 ∨ j = 7 ∨ j = 8 ∨ j = 9 ∨ j = 10 ∨ j = 11 ∨ j = 12 ∨ j = 13 ∨ j = 14 ∨ j = 15 ∨ j = 16 ∨ j = 17 ∨ j = 18 ∨ j = 19 ∨ j = 20 ∨ j = 21 ∨ j = 22 ∨ j = 23 ∨ j = 24 ∨ j = 25 ∨ j = 26 ∨ j = 27 ∨ j = 28 ∨ j = 29 ∨ j = 30 ∨ j = 31 ∨ j = 32 ∨ j = 33 ∨ j = 34 ∨ j = 35 by omega) with rfl | rfl | rfl | rfl | rfl | rfl | rfl | rfl | rfl | rfl | rfl | rfl | rfl | rfl | rfl | rfl | rfl | rfl | rfl | rfl | rfl | rfl | rfl | rfl | rfl | rfl | rfl | rfl | rfl | rfl | rfl | rfl | rfl | rfl | rfl | rfl <;> rfl) (Nat.le_of_ble_eq_true rfl) (Nat.le_of_ble_eq_true rfl) (fun _ => rfl) d_L_law_8 (fun q2 => ?_)
  refine i_dup C rfl d_L_law_11 ?_
  refine i_ctor (w1 := wdC cI cJ cZ cL (aC q1 b1) (S0cz (F16.1 0) (F2001.1 0))) (wc := [(q2, .inr (7, [.null, .null, .null, .null, .null, .null, .null, .null, .null, .long 0, .null, .null, .null, .null, .null, .long 0, .long 0, .long 0, .null, .null, .int 0, .int 0, .int 0, .int 0, .int 0, .int 0, .int 0, .int 0, .int 0, .int 0, .null, .int 0, .int 0, .int 0, .null, .null]))]) (ws2 := fun b2 => wdC cI cJ cZ cL (aC q1 b1) (S0cz (F16.1 0) (F2001.1 0)) ++ wdR cI cJ cZ cL (aR q2 b2) S1) (As := []) (rest := [.ref q2]) C X0_ok Y_R_init u_681 (n_R_init g hS1 q2) rfl rfl ⟨by decide, by decide⟩ ⟨(Nat.le_of_ble_eq_true rfl), (Nat.le_of_ble_eq_true rfl)⟩ rfl (fun _ => rfl) rfl rfl (Nat.le_of_ble_eq_true rfl) d_L_law_12 (fun b2 => ?_)
  refine i_astore_n (i := 2) (lv2 := [(2, .ref q2), (1, .ref q1), (0, .ref b)]) C rfl (by decide) rfl d_L_law_15 ?_
  refine i_widen (k := 600000) (n := 7302250) (Nat.le_of_ble_eq_true rfl) (Nat.le_of_ble_eq_true rfl) ?_
  exact i_toT2 (wn := w2 (wdC cI cJ cZ cL (aC q1 b1)) (wdR cI cJ cZ cL (aR q2 b2))) (QQ := fun (_ : Unit) (_ : Mem × Mem) => lw_Z0 below #[Value.ref b] s) C (fun S S' => by simp only [w2, List.map_append]; rw [wdC_fst cI cJ cZ cL _ S.1 S'.1, wdR_fst cI cJ cZ cL _ S.2 S'.2]) (r := ()) (S1 := S9) (S := (S0cz (F16.1 0) (F2001.1 0), S1)) (K := KL0) (by rw [hp]; rfl) rfl (fun C2 => law_run0 (a := aC q1 b1) (a2 := aR q2 b2) C2 hX hbl (Nat.not_le.mpr hbl) g _)

