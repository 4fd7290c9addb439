/-! THE CLAIM OUT OF ONE WALK OF THE LAW'S BODY. Your part is whole_start (and what it stands on); all else here is the same for every law, but numbers. -/
def R_law : String := "AutoTellerLaw"
def lw_P (b : Addr) (xs : List Int32) (args : Array Value) (s : State) : Prop := args = #[.ref b] ∧ s.IntsAt b xs ∧ xs.length ≤ 4 ∧ (Jvm.Cond.and given_1 narrow_1).before args s = true
def lw_Q (_ : Array Value) (s : State) (o : Outcome) (t : State) : Prop := o = .returned (some (.int 1)) ∧ Framed s o t [] 600000 7302250
def lw_Z (below : List Frame) (a : Array Value) (s : State) : State → Prop := fun t => ∃ o, t.status = .running ∧ Ended t below o ∧ lw_Q a s o t
/-- the law's own end, with 1 on the stack, nothing written that was there before, its room as the claim has it -/
theorem lw_ret {p : Program} {l : Launch} {e : Env} {s : State} {m : MethodId} {below : List Frame} {meth : Method} {c : Code} {b : Nat} (hx : p.tables.exec = Jvm.exec) (hb : c.code = code) (hr : meth.sig.returnType = ret) (hlocks : meth.locks = false) {pc : Nat} {H : Heap} {ls : Array Slot} (hdg : decode code pc = .ok (.ireturn, 1)) : W p l e room_1 s m #[Value.ref b] below meth c H [] 600000 7302250 (lw_Z below #[Value.ref b] s) (F0 m pc ls [.int 1]) := by
  intro T hT X
  obtain ⟨fs, hret, hrun, hended, hW, hframe⟩ := X.leave (v := some (.int 1)) (hlocks := hlocks) (fun h => by rw [hr] at h; cases h)
  have hmeth' : T.vm.method? m = some meth := X.method'
  refine ⟨T.setFrames fs, ?_, .returned (some (.int 1)), hrun, hended, rfl, ⟨_, rfl⟩, hW, hframe⟩
  jvm_step X.here [X.here.top, hx, hb, hdg, hmeth', hr, ret, narrow_b1]
  (try refine ⟨rfl, ?_⟩); (try refine ⟨rfl, ?_⟩)
  first | (intro acts; rw [hret _ acts rfl rfl rfl]) | rw [hret _ _ rfl rfl rfl]
  exact Steps.refl _
/-- what holds at the law's entry: the machine, the code, the tables' words (any of lw_tbl by 'hts w (by decide +kernel)'), the script of L ints xs at the cell b, what the Statement gives of the start (any of its parts by flat_of_before) -/
def lw_At (p : Program) (s : State) (m : MethodId) (meth : Method) (c : Code) (b L : Nat) (xs : Nat → Int32) : Prop :=
  p.tables.exec = Jvm.exec ∧ c.code = code ∧ meth.sig.returnType = ret ∧ c.maxLocals = 4 ∧ s.vm.findClass R_law = some m.cls ∧ (∀ w ∈ lw_tbl, w.before #[Value.ref b] s = true) ∧ va_X b L xs s s.heap ∧ b < s.heap.size ∧ meth.locks = false ∧ (Jvm.Cond.and given_1 narrow_1).before #[Value.ref b] s = true
/-! the law: two worlds side by side -/
def w2 (wl wr : Mem → va_W) (S : Mem × Mem) : va_W := wl S.1 ++ wr S.2
def KL {μ : Type} (z : Int32 × μ) : Option (Unit × μ) := if z.1 = 1 then some ((), z.2) else none
theorem app_left {w1 w2 : va_W} {D : va_G} {H : Heap} (h : va_P D vwCl (w1 ++ w2) H) : va_P D vwCl w1 H := fun k q hk => h k q (by
  rw [List.getElem?_append_left (List.getElem?_eq_some_iff.mp hk).1]
  exact hk)
theorem app_right {w1 w2 : va_W} {D : va_G} {H : Heap} (h : va_P D vwCl (w1 ++ w2) H) : va_P D vwCl w2 H := fun k q hk => h (w1.length + k) q (by
  rw [List.getElem?_append_right (by omega), Nat.add_sub_cancel_left]
  exact hk)
theorem app_D_left {w1 w2 : va_W} {A : Nat → Prop} (h : va_D A (w1 ++ w2)) : va_D A w1 := by
  have key : ∀ (k : Nat) (q : Nat × va_E), w1[k]? = some q → (w1 ++ w2)[k]? = some q := fun k q hk => by
    rw [List.getElem?_append_left (List.getElem?_eq_some_iff.mp hk).1]
    exact hk
  exact ⟨fun i j p q hi hj hpq => h.1 i j p q (key i p hi) (key j q hj) hpq, fun k q hk => h.2 k q (key k q hk)⟩
theorem app_D_right {w1 w2 : va_W} {A : Nat → Prop} (h : va_D A (w1 ++ w2)) : va_D A w2 := by
  have key : ∀ (k : Nat) (q : Nat × va_E), w2[k]? = some q → (w1 ++ w2)[w1.length + k]? = some q := fun k q hk => by
    rw [List.getElem?_append_right (by omega), Nat.add_sub_cancel_left]
    exact hk
  exact ⟨fun i j p q hi hj hpq => by have := h.1 _ _ p q (key i p hi) (key j q hj) hpq; omega, fun k q hk => h.2 _ q (key k q hk)⟩
theorem app_apart {w1 w2 : va_W} {A : Nat → Prop} (h : va_D A (w1 ++ w2)) {i j : Nat} {p q : Nat × va_E} (hi : w1[i]? = some p) (hj : w2[j]? = some q) : p.1 ≠ q.1 := fun e => by
  have hl := (List.getElem?_eq_some_iff.mp hi).1
  have := h.1 i (w1.length + j) p q (by rw [List.getElem?_append_left hl]; exact hi) (by rw [List.getElem?_append_right (by omega), Nat.add_sub_cancel_left]; exact hj) e
  omega
section LAW
variable {p : Program} {l : Launch} {e : Env} {R : Room} {s : State} {m : MethodId} {args : Array Value} {below : List Frame} {meth : Method} {c : Code}
variable {own : String} {cc : ByteArray} {nL : Nat} {rt : Option FieldType} {D : va_G} {tys : List (ClassId × FieldType)} {wl wr : Mem → va_W} {A : Nat → Prop}
variable {α β γ δ : Type} {ce sl : Nat} {QQ : α → Mem × Mem → State → Prop} {K : β → Option (α × (Mem × Mem))} {prog progA progB : Option β} {S : Mem × Mem} {pc : Nat} {lv : List (Nat × Value)} {rest st : List Value}
theorem j_runL {tgt : Option Value × Mem} {ar : Array Value} {st0 : List Value} (C : Cx p s m args meth c own cc nL rt D tys (w2 wl wr) A) (hr : ∀ (H : Heap) (locs : List Loc) (ls : Array Slot), va_P D vwCl (wl S.1) H → va_S A s.heap H locs → lv_has ls nL lv → va_Run p l e R s m args below meth c H locs ce sl 0 0 (F0 m pc ls st0) rest (Qg D wl (va_A (wl S.1) H.size) tgt ar) (va_A (wl S.1) H.size))
    (h : Tg p l e R s m args below meth c D (w2 wl wr) A nL ce sl QQ K prog (tgt.2, S.2) (pc + 3) lv (tgt.1.toList ++ rest)) : Tg p l e R s m args below meth c D (w2 wl wr) A nL ce sl QQ K prog S pc lv st0 := by
  intro r S1 hb H locs ls hP hD hS hlv T hT X
  have hPl : va_P D vwCl (wl S.1) H := app_left hP
  have hPr : va_P D vwCl (wr S.2) H := app_right hP
  have hsub : ∀ q, va_A (wl S.1) H.size q → A q := fun q hq => by
    rcases hq with ⟨k, e0, hk⟩ | hq
    · exact (app_D_left (C.hD S)).2 k _ hk
    · exact C.hA q (Nat.le_trans hS.1 hq)
  obtain ⟨v, st₀, t, T', L, h0, X', hL, e1, e2, ⟨hv, hP1, hz, hk⟩, stp⟩ := hr H locs ls hPl hS hlv T hT X
  have hv' : v = tgt.1 := Outcome.returned.inj hv
  rw [h0] at hz hk
  have hS' : va_S A s.heap T'.heap (locs ++ L) := by
    refine ⟨Nat.le_trans hS.1 (by rw [e1]; exact hz), fun q h1 h2 => ?_, fun q hq => ?_⟩
    · rw [e1, hk q (Nat.lt_of_lt_of_le h1 hS.1) (fun z => h2 (hsub q z))]
      exact hS.2.1 q h1 h2
    · rcases List.mem_append.mp hq with h | h
      · exact hS.2.2 q h
      · exact hsub _ (hL q h)
  have hPr' : va_P D vwCl (wr S.2) T'.heap := fun k q hq => (hPr k q hq).kept (by
    have hlt := (hPr k q hq).lt
    rw [e1]
    refine hk q.1 hlt (fun z => ?_)
    rcases z with ⟨k2, e0, hk2⟩ | z
    · exact app_apart (C.hD S) hk2 hq rfl
    · omega)
  obtain ⟨t2, a1, b1⟩ := h r S1 hb T'.heap (locs ++ L) ls (va_P.app (by rw [e1]; exact hP1) hPr') (C.hD _) hS' hlv T' rfl X'
  exact ⟨t2, stp t2 (by rw [hv']; exact a1), b1⟩
theorem j_runR {tgt : Option Value × Mem} {ar : Array Value} {st0 : List Value} (C : Cx p s m args meth c own cc nL rt D tys (w2 wl wr) A) (hr : ∀ (H : Heap) (locs : List Loc) (ls : Array Slot), va_P D vwCl (wr S.2) H → va_S A s.heap H locs → lv_has ls nL lv → va_Run p l e R s m args below meth c H locs ce sl 0 0 (F0 m pc ls st0) rest (Qg D wr (va_A (wr S.2) H.size) tgt ar) (va_A (wr S.2) H.size))
    (h : Tg p l e R s m args below meth c D (w2 wl wr) A nL ce sl QQ K prog (S.1, tgt.2) (pc + 3) lv (tgt.1.toList ++ rest)) : Tg p l e R s m args below meth c D (w2 wl wr) A nL ce sl QQ K prog S pc lv st0 := by
  intro r S1 hb H locs ls hP hD hS hlv T hT X
  have hPl : va_P D vwCl (wl S.1) H := app_left hP
  have hPr : va_P D vwCl (wr S.2) H := app_right hP
  have hsub : ∀ q, va_A (wr S.2) H.size q → A q := fun q hq => by
    rcases hq with ⟨k, e0, hk⟩ | hq
    · exact (app_D_right (C.hD S)).2 k _ hk
    · exact C.hA q (Nat.le_trans hS.1 hq)
  obtain ⟨v, st₀, t, T', L, h0, X', hL, e1, e2, ⟨hv, hP1, hz, hk⟩, stp⟩ := hr H locs ls hPr hS hlv T hT X
  have hv' : v = tgt.1 := Outcome.returned.inj hv
  rw [h0] at hz hk
  have hS' : va_S A s.heap T'.heap (locs ++ L) := by
    refine ⟨Nat.le_trans hS.1 (by rw [e1]; exact hz), fun q h1 h2 => ?_, fun q hq => ?_⟩
    · rw [e1, hk q (Nat.lt_of_lt_of_le h1 hS.1) (fun z => h2 (hsub q z))]
      exact hS.2.1 q h1 h2
    · rcases List.mem_append.mp hq with h | h
      · exact hS.2.2 q h
      · exact hsub _ (hL q h)
  have hPl' : va_P D vwCl (wl S.1) T'.heap := fun k q hq => (hPl k q hq).kept (by
    have hlt := (hPl k q hq).lt
    rw [e1]
    refine hk q.1 hlt (fun z => ?_)
    rcases z with ⟨k2, e0, hk2⟩ | z
    · exact app_apart (C.hD S) hq hk2 rfl
    · omega)
  obtain ⟨t2, a1, b1⟩ := h r S1 hb T'.heap (locs ++ L) ls (va_P.app hPl' (by rw [e1]; exact hP1)) (C.hD _) hS' hlv T' rfl X'
  exact ⟨t2, stp t2 (by rw [hv']; exact a1), b1⟩
theorem c_preL (C : Cx p s m args meth c own cc nL rt D tys (w2 wl wr) A) {H : Heap} (hP : va_P D vwCl (wl S.1) H) {av : List Value} : ∀ U : State, U.heap = H → s.WarmedH U.vm → va_Pc av (fun U => U.heap.size = H.size ∧ va_P D vwCl (wl S.1) U.heap ∧ va_K D vwCl tys U ∧ (∀ q ∈ wN, va_Nw q U) ∧ va_D (fun _ => True) (wl S.1)) av.toArray U := fun U hU hW => ⟨rfl, by rw [hU], by rw [hU]; exact hP, va_K.moved hW.alike C.hK, wN_warm hW C.hN, (app_D_left (C.hD S)).weaken (fun _ _ _ _ => trivial)⟩
theorem c_preR (C : Cx p s m args meth c own cc nL rt D tys (w2 wl wr) A) {H : Heap} (hP : va_P D vwCl (wr S.2) H) {av : List Value} : ∀ U : State, U.heap = H → s.WarmedH U.vm → va_Pc av (fun U => U.heap.size = H.size ∧ va_P D vwCl (wr S.2) U.heap ∧ va_K D vwCl tys U ∧ (∀ q ∈ wN, va_Nw q U) ∧ va_D (fun _ => True) (wr S.2)) av.toArray U := fun U hU hW => ⟨rfl, by rw [hU], by rw [hU]; exact hP, va_K.moved hW.alike C.hK, wN_warm hW C.hN, (app_D_right (C.hD S)).weaken (fun _ _ _ _ => trivial)⟩
theorem j_callLi (C : Cx p s m args meth c own cc nL rt D tys (w2 wl wr) A) {y : MethodName} {bytes : ByteArray} {maxL n index b : Nat} {ry : Option FieldType} {rm : Room} {As : List Value} {rr : Int32} {S2 : Mem} {fs : List Value} {N : Nat} {T : u_T} (q0 ci : Nat) (Y : Yv y bytes maxL ry n) (hl : Cond.methodLink own index y ∈ wU) (hM : Ctr l y bytes maxL ry rm D tys wl (.ref b :: As) S.1 (vI rr, S2)) (hrc : rm.cells = 0) (hrs : rm.slots = 0) (hR : rm.frames + 1 ≤ R.frames ∧ 8 + (maxL + 11) + rm.locals ≤ R.locals) (hc : vwCl[ci]? = some (y.cls, T, N)) (he : (wl S.1)[q0]? = some (b, .inr (ci, fs))) (hn : As.length = n) (hst : st = As.reverse ++ .ref b :: rest) (hW : (rest.map fun v => v.category).sum ≤ 8) (d : decode cc pc = .ok (.invokevirtual index, 3)) (hcs : ce ≤ R.cells ∧ sl ≤ R.slots)
    (h : Tg p l e R s m args below meth c D (w2 wl wr) A nL ce sl QQ K prog (S2, S.2) (pc + 3) lv (.int rr :: rest)) : Tg p l e R s m args below meth c D (w2 wl wr) A nL ce sl QQ K prog S pc lv st := by
  obtain ⟨y1, y2, y3, y4, y5⟩ := Y
  refine j_runL (tgt := (vI rr, S2)) (ar := (.ref b :: As).toArray) C (fun H locs ls hP hS hlv => ?_) h
  exact va_runV (C := y.cls) (n := n) ⟨C.hx, C.hb, C.hml, C.hown, C.hts⟩ (hM H.size) (cwV n C.hts (goodIn_cons hl wU_good (goodIn_cons y1 wU_good (goodIn_cons y2 wU_good (goodIn_cons y3 wU_good (goodIn_cons y4 wU_good wU_good))))) rfl hrc hrs ⟨rfl, y5⟩ hR) ⟨c_blind, va_recv C.hK hP hc he, c_preL C hP⟩ rfl hn hlv.1 hst (lv_room hW) d hcs
theorem j_callLl (C : Cx p s m args meth c own cc nL rt D tys (w2 wl wr) A) {y : MethodName} {bytes : ByteArray} {maxL n index b : Nat} {ry : Option FieldType} {rm : Room} {As : List Value} {rr : Int64} {S2 : Mem} {fs : List Value} {N : Nat} {T : u_T} (q0 ci : Nat) (Y : Yv y bytes maxL ry n) (hl : Cond.methodLink own index y ∈ wU) (hM : Ctr l y bytes maxL ry rm D tys wl (.ref b :: As) S.1 (vL rr, S2)) (hrc : rm.cells = 0) (hrs : rm.slots = 0) (hR : rm.frames + 1 ≤ R.frames ∧ 8 + (maxL + 11) + rm.locals ≤ R.locals) (hc : vwCl[ci]? = some (y.cls, T, N)) (he : (wl S.1)[q0]? = some (b, .inr (ci, fs))) (hn : As.length = n) (hst : st = As.reverse ++ .ref b :: rest) (hW : (rest.map fun v => v.category).sum ≤ 8) (d : decode cc pc = .ok (.invokevirtual index, 3)) (hcs : ce ≤ R.cells ∧ sl ≤ R.slots)
    (h : Tg p l e R s m args below meth c D (w2 wl wr) A nL ce sl QQ K prog (S2, S.2) (pc + 3) lv (.long rr :: rest)) : Tg p l e R s m args below meth c D (w2 wl wr) A nL ce sl QQ K prog S pc lv st := by
  obtain ⟨y1, y2, y3, y4, y5⟩ := Y
  refine j_runL (tgt := (vL rr, S2)) (ar := (.ref b :: As).toArray) C (fun H locs ls hP hS hlv => ?_) h
  exact va_runV (C := y.cls) (n := n) ⟨C.hx, C.hb, C.hml, C.hown, C.hts⟩ (hM H.size) (cwV n C.hts (goodIn_cons hl wU_good (goodIn_cons y1 wU_good (goodIn_cons y2 wU_good (goodIn_cons y3 wU_good (goodIn_cons y4 wU_good wU_good))))) rfl hrc hrs ⟨rfl, y5⟩ hR) ⟨c_blind, va_recv C.hK hP hc he, c_preL C hP⟩ rfl hn hlv.1 hst (lv_room hW) d hcs
theorem j_callRi (C : Cx p s m args meth c own cc nL rt D tys (w2 wl wr) A) {y : MethodName} {bytes : ByteArray} {maxL n index b : Nat} {ry : Option FieldType} {rm : Room} {As : List Value} {rr : Int32} {S2 : Mem} {fs : List Value} {N : Nat} {T : u_T} (q0 ci : Nat) (Y : Yv y bytes maxL ry n) (hl : Cond.methodLink own index y ∈ wU) (hM : Ctr l y bytes maxL ry rm D tys wr (.ref b :: As) S.2 (vI rr, S2)) (hrc : rm.cells = 0) (hrs : rm.slots = 0) (hR : rm.frames + 1 ≤ R.frames ∧ 8 + (maxL + 11) + rm.locals ≤ R.locals) (hc : vwCl[ci]? = some (y.cls, T, N)) (he : (wr S.2)[q0]? = some (b, .inr (ci, fs))) (hn : As.length = n) (hst : st = As.reverse ++ .ref b :: rest) (hW : (rest.map fun v => v.category).sum ≤ 8) (d : decode cc pc = .ok (.invokevirtual index, 3)) (hcs : ce ≤ R.cells ∧ sl ≤ R.slots)
    (h : Tg p l e R s m args below meth c D (w2 wl wr) A nL ce sl QQ K prog (S.1, S2) (pc + 3) lv (.int rr :: rest)) : Tg p l e R s m args below meth c D (w2 wl wr) A nL ce sl QQ K prog S pc lv st := by
  obtain ⟨y1, y2, y3, y4, y5⟩ := Y
  refine j_runR (tgt := (vI rr, S2)) (ar := (.ref b :: As).toArray) C (fun H locs ls hP hS hlv => ?_) h
  exact va_runV (C := y.cls) (n := n) ⟨C.hx, C.hb, C.hml, C.hown, C.hts⟩ (hM H.size) (cwV n C.hts (goodIn_cons hl wU_good (goodIn_cons y1 wU_good (goodIn_cons y2 wU_good (goodIn_cons y3 wU_good (goodIn_cons y4 wU_good wU_good))))) rfl hrc hrs ⟨rfl, y5⟩ hR) ⟨c_blind, va_recv C.hK hP hc he, c_preR C hP⟩ rfl hn hlv.1 hst (lv_room hW) d hcs
theorem j_callRl (C : Cx p s m args meth c own cc nL rt D tys (w2 wl wr) A) {y : MethodName} {bytes : ByteArray} {maxL n index b : Nat} {ry : Option FieldType} {rm : Room} {As : List Value} {rr : Int64} {S2 : Mem} {fs : List Value} {N : Nat} {T : u_T} (q0 ci : Nat) (Y : Yv y bytes maxL ry n) (hl : Cond.methodLink own index y ∈ wU) (hM : Ctr l y bytes maxL ry rm D tys wr (.ref b :: As) S.2 (vL rr, S2)) (hrc : rm.cells = 0) (hrs : rm.slots = 0) (hR : rm.frames + 1 ≤ R.frames ∧ 8 + (maxL + 11) + rm.locals ≤ R.locals) (hc : vwCl[ci]? = some (y.cls, T, N)) (he : (wr S.2)[q0]? = some (b, .inr (ci, fs))) (hn : As.length = n) (hst : st = As.reverse ++ .ref b :: rest) (hW : (rest.map fun v => v.category).sum ≤ 8) (d : decode cc pc = .ok (.invokevirtual index, 3)) (hcs : ce ≤ R.cells ∧ sl ≤ R.slots)
    (h : Tg p l e R s m args below meth c D (w2 wl wr) A nL ce sl QQ K prog (S.1, S2) (pc + 3) lv (.long rr :: rest)) : Tg p l e R s m args below meth c D (w2 wl wr) A nL ce sl QQ K prog S pc lv st := by
  obtain ⟨y1, y2, y3, y4, y5⟩ := Y
  refine j_runR (tgt := (vL rr, S2)) (ar := (.ref b :: As).toArray) C (fun H locs ls hP hS hlv => ?_) h
  exact va_runV (C := y.cls) (n := n) ⟨C.hx, C.hb, C.hml, C.hown, C.hts⟩ (hM H.size) (cwV n C.hts (goodIn_cons hl wU_good (goodIn_cons y1 wU_good (goodIn_cons y2 wU_good (goodIn_cons y3 wU_good (goodIn_cons y4 wU_good wU_good))))) rfl hrc hrs ⟨rfl, y5⟩ hR) ⟨c_blind, va_recv C.hK hP hc he, c_preR C hP⟩ rfl hn hlv.1 hst (lv_room hW) d hcs
theorem j_slen (C : Cx p s m args meth c own cc nL rt D tys (w2 wl wr) A) {b L : Nat} {xs : Nat → Int32} (hX : va_X b L xs s s.heap) (hbl : b < s.heap.size) (hbA : ¬ A b) (d : decode cc pc = .ok (.arraylength, 1)) (h : Tg p l e R s m args below meth c D (w2 wl wr) A nL ce sl QQ K prog S (pc + 1) lv (.int (Int32.ofNat L) :: rest)) : Tg p l e R s m args below meth c D (w2 wl wr) A nL ce sl QQ K prog S pc lv (.ref b :: rest) := fun r S1 hb H locs ls hP hD hS hlv => va_slen C.hx C.hb hX hbl hbA hS d (h r S1 hb H locs ls hP hD hS hlv)
theorem j_sld (C : Cx p s m args meth c own cc nL rt D tys (w2 wl wr) A) {b L : Nat} {xs : Nat → Int32} (hX : va_X b L xs s s.heap) (hbl : b < s.heap.size) (hbA : ¬ A b) {i : Int32} (hin : ¬ (i < 0 ∨ L ≤ i.toNatClampNeg)) (d : decode cc pc = .ok (.iaload, 1)) (h : Tg p l e R s m args below meth c D (w2 wl wr) A nL ce sl QQ K prog S (pc + 1) lv (.int (xs i.toNatClampNeg) :: rest)) : Tg p l e R s m args below meth c D (w2 wl wr) A nL ce sl QQ K prog S pc lv (.int i :: .ref b :: rest) := fun r S1 hb H locs ls hP hD hS hlv => va_sld C.hx C.hb hX hbl hbA hS hin d (h r S1 hb H locs ls hP hD hS hlv)
theorem j_kn {b : β} (hk : K b = none) : Tg p l e R s m args below meth c D (w2 wl wr) A nL ce sl QQ K (some b) S pc lv st := fun r S1 hb => by
  have : K b = some (r, S1) := hb
  rw [hk] at this
  cases this
end LAW
/-- the law's return of 1 -/
theorem j_lawret {p : Program} {l : Launch} {e : Env} {s : State} {m : MethodId} {below : List Frame} {meth : Method} {c : Code} {b : Nat} {D : va_G} {tys : List (ClassId × FieldType)} {wl wr : Mem → va_W} {β : Type} {K : β → Option (Unit × (Mem × Mem))} {S : Mem × Mem} {z : β} {pc : Nat} {lv : List (Nat × Value)} (C : Cx p s m #[Value.ref b] meth c "AutoTellerLaw" code 4 ret D tys (w2 wl wr) (fun q => s.heap.size ≤ q)) (d : decode code pc = .ok (.ireturn, 1)) : Tg p l e room_1 s m #[Value.ref b] below meth c D (w2 wl wr) (fun q => s.heap.size ≤ q) 4 600000 7302250 (fun _ _ => lw_Z below #[Value.ref b] s) K (some z) S pc lv [.int 1] := fun r S1 hb H locs ls hP hD hS hlv =>
  va_forget hS.2.2 (lw_ret C.hx C.hb C.hr C.hk d)
theorem j_bnd2 {μ : Type} {p : Program} {l : Launch} {e : Env} {R : Room} {s : State} {m : MethodId} {args : Array Value} {below : List Frame} {meth : Method} {c : Code} {D : va_G} {w : μ → va_W} {A : Nat → Prop} {nL ce sl : Nat} {α β γ ν : Type} {QQ : α → μ → State → Prop} {K : β → Option (α × μ)} {S : μ} {pc : Nat} {lv : List (Nat × Value)} {st : List Value} {g : Option (γ × ν)} {F : γ → ν → Option β} (h : ∀ (r : γ) (S' : ν), g = some (r, S') → Tg p l e R s m args below meth c D w A nL ce sl QQ K (F r S') S pc lv st) : Tg p l e R s m args below meth c D w A nL ce sl QQ K (bnd g F) S pc lv st := by
  intro r S1 hb
  cases hg : g with
  | none => rw [hg] at hb; cases hb
  | some z => exact h z.1 z.2 hg r S1 (by rw [hg] at hb; exact hb)
