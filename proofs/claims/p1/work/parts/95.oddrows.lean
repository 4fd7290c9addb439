/-! the odd clone: it answers a fresh row of zeros -/
theorem d_od_0 : decode od_bytes 0 = .ok (.iconst 4, 1) := by decide +kernel
theorem d_od_1 : decode od_bytes 1 = .ok (.newarray .int, 2) := by decide +kernel
theorem d_od_3 : decode od_bytes 3 = .ok (.areturn, 1) := by decide +kernel
def od_ret : Option FieldType := some (.object "java/lang/Object")
def rm_od : Room := { frames := 0, cells := 1, slots := 4, locals := 0 }
def od_e (cI : ClassId) : va_E := .inl (cI, 4, .inl (fun _ => 0))
def QR (D : va_G) (A : Nat → Prop) (e0 : va_E) : Array Value → State → Outcome → State → Prop := fun _ st oc t => (∃ q : Nat, oc = .returned (some (.ref q)) ∧ va_P D vwCl [(q, e0)] t.heap ∧ va_D A [(q, e0)]) ∧ va_F A st t
theorem c_od {l : Launch} {D : va_G} {cI cJ cZ cL : ClassId} (t sz : Nat) : Met l od_y (.code od_y od_bytes 1 od_ret :: wU) rm_od (va_Pc [.ref t] (fun U => U.heap.size = sz ∧ va_K D vwCl (tyT cI cJ cZ cL) U ∧ (∀ q ∈ wN, va_Nw q U))) (QR D (fun q => sz ≤ q) (od_e cI)) 1 4 (fun q => sz ≤ q) := by
  refine Met.ofW (cc := od_bytes) (maxL := 1) (ret := od_ret) (by decide) rfl ?_
  intro p e s m args below meth c s₁ B hml hv
  obtain ⟨rfl, hsz, hK, hN⟩ := hv
  subst hsz
  have hts := atoms_spec (ws := .code od_y od_bytes 1 od_ret :: wU) B.pre
  have C : Cx p s m ([Value.ref t] : List Value).toArray meth c "Odd" od_bytes 1 od_ret D (tyT cI cJ cZ cL) wNil (fun q => s.heap.size ≤ q) := ⟨B.exec, B.bytes, hml, findClass_of_methodNamed B.named, fun q hq => hts q (List.mem_cons_of_mem _ hq), hN, hK, wNil_D, fun q hq => hq, B.returns, B.notSynchronized⟩
  have hl := lv_entry ([.ref t]) (n := 1) (Nat.le_of_ble_eq_true rfl)
  have hP0 : va_P D vwCl [] s.heap := fun k q h => by simp at h
  have hD0 : va_D (fun q : Nat => s.heap.size ≤ q) [] := ⟨fun i j p q h => by simp at h, fun k q h => by simp at h⟩
  rw [lg_entry_eq]
  suffices hG : Gj p l e rm_od s m ([Value.ref t] : List Value).toArray below meth c D (fun q => s.heap.size ≤ q) 1 0 0 (MQ below (QR D (fun q => s.heap.size ≤ q) (od_e cI)) ([Value.ref t] : List Value).toArray s 1 4 (fun q => s.heap.size ≤ q)) [] 0 [(0, .ref t)] [] from hG s.heap [] _ hP0 hD0 va_S.rf hl
  refine i_iconst (v := 4) C (by decide) d_od_0 ?_
  refine i_newa (atype := .int) (ty := .int) (cA := cI) (N := 4) (a0 := (4, .inl (fun _ => 0))) (ws2 := fun q => [(q, od_e cI)]) C 0 rfl u_43 rfl (fun _ => rfl) (by decide) (by decide) (by decide) (Nat.le_of_ble_eq_true rfl) (Nat.le_of_ble_eq_true rfl) (fun _ => rfl) d_od_1 (fun q1 => ?_)
  intro H locs ls hP hD hS hlv
  have hlk := C.hk
  exact W.aret C.hx C.hb C.hr (Or.inl ⟨_, rfl⟩) (Or.inr ⟨_, rfl⟩) (fun t ht hW => ⟨⟨q1, rfl, by rw [ht]; exact hP, hD⟩, hS.F ht⟩) hS.2.2 d_od_3
/-- what is known of the static row at the odd start -/
def STz (t : Nat) (cI : ClassId) (B : Nat → Prop) (U : State) : Prop := va_AO "AutoTeller$Letter" U ∧ va_Nw (.castable "[I" "java/lang/Cloneable") U ∧ va_Z "AutoTeller" "FIRST_DENOMINATIONS" "[I" (.ref t) B U U.heap ∧ ¬ B t ∧ ∃ cell : Cell, U.heap[t]? = some cell ∧ cell.vm.isStatics = false ∧ True ∧ U.vm.findClass "Odd" = some cell.cls ∧ U.vm.findClass "[I" = some cI ∧ (∀ w ∈ od_ws, ∀ a, w.before a U = true)
theorem od_good : ∀ w ∈ od_ws, (w.onTables && w.keeps) = true ∨ ∃ ty, w = .arrayClass ty := by
  have h : od_ws.all goodWord = true := by decide +kernel
  exact fun w hw => good_of_word (List.all_eq_true.mp h w hw)
theorem STz.blind {t : Nat} {cI : ClassId} (B : Nat → Prop) (U : State) (g : JFrame) (mk : MethodId) (a : Array Value) (h : STz t cI B U) : STz t cI B (U.calling g mk a) := by
  obtain ⟨h1, h2, h3, h4, cell, k1, k2, k3, k4, k5, k6⟩ := h
  refine ⟨h1.moved (U := U.calling g mk a) (Vm.Alike.refl U.vm), va_Nw.same rfl (show U.vm = (U.calling g mk a).vm from rfl) h2, h3.moved (U := U.calling g mk a) (Vm.Alike.refl U.vm), h4, cell, k1, k2, k3, k4, k5, fun w hw a' => ?_⟩
  exact word_at (s := U) (U := U.calling g mk a) (State.WarmedH.refl U) (od_good w hw) (k6 w hw #[])
theorem STz.ok {s : State} {A : Nat → Prop} {t : Nat} {cI : ClassId} (h : STz t cI A s) (ht : t < s.heap.size) : Xok s A (STz t cI) := by
  refine ⟨STz.blind, fun H locs B U hS hB hU hW => ?_⟩
  obtain ⟨h1, h2, h3, h4, cell, k1, k2, k3, k4, k5, k6⟩ := h
  refine ⟨h1.moved hW.alike, h2.warmC hW, ?_, fun z => h4 (hB _ z), cell, ?_, k2, k3, ?_, ?_, fun w hw a' => word_at hW (od_good w hw) (k6 w hw #[])⟩
  · rw [hU]
    exact ((h3.narrow hB).moved hW.alike |> fun z => (h3.kept (fun a ha hn => hS.2.1 a ha hn)).narrow hB |>.moved hW.alike)
  · rw [hU, hS.2.1 t ht h4]
    exact k1
  · rw [hW.alike.findClass]
    exact k4
  · rw [hW.alike.findClass]
    exact k5
section OD
variable {μ : Type} {p : Program} {l : Launch} {e : Env} {R : Room} {s : State} {m : MethodId} {args : Array Value} {below : List Frame} {meth : Method} {c : Code}
variable {own : String} {cc : ByteArray} {nL : Nat} {rt : Option FieldType} {D : va_G} {w : μ → va_W} {A : Nat → Prop}
variable {ce sl : Nat} {Q : State → Prop} {ws : va_W} {pc : Nat} {lv : List (Nat × Value)} {rest st : List Value}
theorem i_getsz {tys : List (ClassId × FieldType)} (C : Cx p s m args meth c own cc nL rt D tys w A) {t index : Nat} {cI : ClassId} {host : String} (hT : STz t cI A s) (hl : Cond.fieldLinkNest own index "AutoTeller" "FIRST_DENOMINATIONS" "[I" host ∈ wN) (d : decode cc pc = .ok (.getstatic index, 3)) (h : Gj p l e R s m args below meth c D A nL ce sl Q ws (pc + 3) lv (.ref t :: rest)) : Gj p l e R s m args below meth c D A nL ce sl Q ws pc lv rest := fun H locs ls hP hD hS hlv =>
  va_getsN C.hx C.hb hT.2.2.1 hS C.hown (va_Nw.use rfl (C.hN _ hl)) (fun _ hx => hx) d (h H locs ls hP hD hS hlv)
theorem i_odd {cI cJ cZ cL : ClassId} (C : Cx p s m args meth c own cc nL rt D (tyT cI cJ cZ cL) w A) {t index : Nat} {ws2 : Nat → va_W} (hT : STz t cI A s) (htl : t < s.heap.size) (hlink : Cond.methodLink own index ⟨"[I", "clone", "()Ljava/lang/Object;"⟩ ∈ wU) (hsame : Cond.sameMethod "[I" "java/lang/Object" "clone" "()Ljava/lang/Object;" ∈ wU) (hnat : Cond.native ⟨"java/lang/Object", "clone", "()Ljava/lang/Object;"⟩ ∈ wU) (hinst : Cond.instanceMethod ⟨"java/lang/Object", "clone", "()Ljava/lang/Object;"⟩ ∈ wU) (hR : rm_od.frames + 1 ≤ R.frames ∧ 8 + (1 + 11) + rm_od.locals ≤ R.locals) (hf : ce + 1 ≤ R.cells ∧ sl + 4 ≤ R.slots) (hW : (rest.map fun v => v.category).sum ≤ 8) (hw2 : ∀ q, ws ++ [(q, od_e cI)] = ws2 q) (d : decode cc pc = .ok (.invokevirtual index, 3))
    (h : ∀ q : Nat, Gj p l e R s m args below meth c D A nL (ce + 1) (sl + 4) Q (ws2 q) (pc + 3) lv (.ref q :: rest)) : Gj p l e R s m args below meth c D A nL ce sl Q ws pc lv (.ref t :: rest) := by
  intro H locs ls hP hD hS hlv T hT0 X
  obtain ⟨h1, h2, h3, h4, cell, k1, k2, k3, k4, k5, k6⟩ := hT
  have hcellH : H[t]? = some cell := by rw [hS.2.1 t htl h4]; exact k1
  have hTs : ∀ q ∈ od_ws ++ wU, q.before args s = true := fun q hq => by
    rcases List.mem_append.mp hq with h | h
    · exact k6 q h args
    · exact C.hts q h
  have hdecl : va_Decl s ⟨"java/lang/Object", "clone", "()Ljava/lang/Object;"⟩ := by
    obtain ⟨r0, r, a1, a2, a3, -⟩ := Cond.instanceMethod_spec (C.hts _ hinst)
    obtain ⟨r1, r', b1, b2, -, -, -, b3⟩ := Cond.native_spec (C.hts _ hnat)
    cases a1.symm.trans b1
    cases a2.symm.trans b2
    exact ⟨r0, r, a1, a2, a3, b3⟩
  have hc0 : Cond.code od_y od_bytes 1 od_ret ∈ od_ws := by
    show _ ∈ [_, _, _, _]
    simp [od_ws, od_ret]
  have cw : va_CU R s args own "Odd" "java/lang/Object" index ⟨"[I", "clone", "()Ljava/lang/Object;"⟩ od_y od_bytes 1 od_ret (.code od_y od_bytes 1 od_ret :: wU) rm_od 1 4 0 := by
    refine ⟨⟨rfl, rfl, hR.1, hR.2, fun q hq a' U hW => ?_, List.mem_cons_self⟩, k6 _ hc0 args, k6 _ (by simp [od_ws]; rfl) args, by decide, fun sig hs => ?_, C.hts _ hlink, C.hts _ hsame, hdecl, k6 _ (by simp [od_ws, od_x]) args, k6 _ (by simp [od_ws]) args⟩
    · rcases List.mem_cons.mp hq with rfl | hq
      · exact word_at hW (od_good _ hc0) (k6 _ hc0 args)
      · exact word_at hW (wU_good q hq).2 (C.hts q hq)
    · have e2 : (parseMethodDescriptor "()Ljava/lang/Object;").map (fun d => d.parameters.length) = some 0 := by decide +kernel
      rw [show parseMethodDescriptor "()Ljava/lang/Object;" = some sig from hs] at e2
      exact (Option.some.inj e2).symm
  have hp : PreV s H "Odd" t (va_Pc [.ref t] (fun U => U.heap.size = H.size ∧ va_K D vwCl (tyT cI cJ cZ cL) U ∧ (∀ q ∈ wN, va_Nw q U))) [] := by
    refine ⟨fun a U g mk q => ?_, ⟨cell, hcellH, k2, k4⟩, fun U hU hW => ⟨rfl, by rw [hU], va_K.moved hW.alike C.hK, wN_warm hW C.hN⟩⟩
    obtain ⟨q0, q1, qK, qN⟩ := q
    exact ⟨q0, q1, va_K.moved (u := U) (U := U.calling g mk a) (Vm.Alike.refl U.vm) qK, wN_same (s := U) (U := U.calling g mk a) rfl qN⟩
  have hr := va_runU (locs := locs) (below := below) (e := e) (meth := meth) (g := F0 m pc ls (.ref t :: rest)) (rest := rest) (n := 0) (Ts := od_ws ++ wU) (As := []) ⟨C.hx, C.hb, C.hml, C.hown, hTs⟩ (c_od (l := l) t H.size) cw hp rfl rfl hlv.1 rfl (lv_room hW) d hf
  obtain ⟨v, st₀, t2, T', L, e0, X', hL, e1, e2, ⟨⟨q, hv, hP1, hD1⟩, hz, hk⟩, stp⟩ := hr T hT0 X
  have hv' : v = some (.ref q) := Outcome.returned.inj hv
  rw [e0] at hz hk
  have hsub : ∀ y : Nat, H.size ≤ y → A y := fun y hy => C.hA y (Nat.le_trans hS.1 hy)
  have hS' : va_S A s.heap T'.heap (locs ++ L) := by
    refine ⟨Nat.le_trans hS.1 (by rw [e1]; exact hz), fun y h1 h2 => ?_, fun y hy => ?_⟩
    · have hy : y < H.size := Nat.lt_of_lt_of_le h1 hS.1
      rw [e1, hk y hy (Nat.not_le.mpr hy)]
      exact hS.2.1 y h1 h2
    · rcases List.mem_append.mp hy with h | h
      · exact hS.2.2 y h
      · exact hsub _ (hL y h)
  have hout : ∀ (k : Nat) (y : Nat × va_E), ws[k]? = some y → y.1 < H.size := fun k y hy => (hP k y hy).lt
  have hPl' : va_P D vwCl ws T'.heap := fun k y hy => (hP k y hy).kept (by
    rw [e1]
    exact hk y.1 (hout k y hy) (Nat.not_le.mpr (hout k y hy)))
  obtain ⟨t3, a1, b1⟩ := h q T'.heap (locs ++ L) ls (by rw [← hw2]; exact va_P.app hPl' (by rw [e1]; exact hP1)) (by rw [← hw2]; exact va_D.app hD (hD1.weaken (fun _ y _ hy => hsub y.1 hy)) (fun i j x y hx hy hxy => Nat.not_le.mpr (hout i x hx) (by rw [hxy]; exact hD1.2 j y hy))) hS' hlv T' rfl X'
  exact ⟨t3, stp t3 (by rw [hv']; exact a1), b1⟩
end OD
