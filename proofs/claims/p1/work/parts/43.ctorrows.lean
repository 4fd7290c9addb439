/-! constructors: worlds that grow -/
def QN (D : va_G) (A : Nat → Prop) (post : (Nat → Nat) → va_W) : Array Value → State → Outcome → State → Prop := fun _ st oc t => oc = .returned none ∧ (∃ b : Nat → Nat, va_P D vwCl (post b) t.heap ∧ va_D A (post b)) ∧ va_F A st t
/-- a constructor's contract: from the world ws to a world 'post b', b the addresses of what was made -/
def Cn (l : Launch) (y : MethodName) (cc : ByteArray) (nL : Nat) (rm : Room) (D : va_G) (tys : List (ClassId × FieldType)) (X : (Nat → Prop) → State → Prop) (av : List Value) (ws : va_W) (post : (Nat → Nat) → va_W) (mc ms : Nat) : Prop :=
  ∀ sz : Nat, Met l y (.code y cc nL none :: wU) rm (va_Pc av (fun U => U.heap.size = sz ∧ va_P D vwCl ws U.heap ∧ va_K D vwCl tys U ∧ (∀ q ∈ wN, va_Nw q U) ∧ va_D (fun _ => True) ws ∧ X (va_A ws sz) U)) (QN D (va_A ws sz) post) mc ms (va_A ws sz)
def X0 : (Nat → Prop) → State → Prop := fun _ _ => True
def wNil : Unit → va_W := fun _ => []
theorem wNil_D {A : Nat → Prop} (S : Unit) : va_D A (wNil S) := ⟨fun i j p q h => by simp [wNil] at h, fun k q h => by simp [wNil] at h⟩
section CT
variable {μ : Type} {p : Program} {l : Launch} {e : Env} {R : Room} {s : State} {m : MethodId} {args : Array Value} {below : List Frame} {meth : Method} {c : Code}
variable {own : String} {cc : ByteArray} {nL : Nat} {rt : Option FieldType} {D : va_G} {tys : List (ClassId × FieldType)} {w : μ → va_W} {A : Nat → Prop}
variable {ce sl : Nat} {Q : State → Prop} {ws : va_W} {pc : Nat} {lv : List (Nat × Value)} {rest st : List Value}
theorem i_sub {ws2 : va_W} (is : List Nat) (h1 : is.filterMap (fun i => ws[i]?) = ws2) (h2 : va_nd is = true) (h3 : is.map (fun i => ws[i]?) = ws2.map some) (h : Gj p l e R s m args below meth c D A nL ce sl Q ws2 pc lv st) : Gj p l e R s m args below meth c D A nL ce sl Q ws pc lv st := fun H locs ls hP hD hS hlv => h H locs ls (hP.sub is h1) (hD.sub is h2 h3) hS hlv
/-- other contents, alike as far as the cells show -/
theorem i_alike {ws2 : va_W} (hf : ws.map Prod.fst = ws2.map Prod.fst) (hp : ∀ H, va_P D vwCl ws H → va_P D vwCl ws2 H) (h : Gj p l e R s m args below meth c D A nL ce sl Q ws2 pc lv st) : Gj p l e R s m args below meth c D A nL ce sl Q ws pc lv st := fun H locs ls hP hD hS hlv => h H locs ls (hp H hP) (w_D (w := fun b : Bool => if b then ws else ws2) (fun x y => by cases x <;> cases y <;> simp [hf]) (S := true) (by simpa using hD) false |> fun z => by simpa using z) hS hlv
theorem i_new (C : Cx p s m args meth c own cc nL rt D tys w A) {Cn0 : String} {T : u_T} {ty0 : Nat → FieldType} {N ci index : Nat} {fs : List Value} {ws2 : Nat → va_W} (hin : ∀ q ∈ u_ws Cn0 T N, q ∈ wU) (hty : ∀ k, k < N → parseFieldDescriptor (T k).2.2.1 = some (ty0 k)) (hl : Cond.classLink own index Cn0 ∈ wU) (hi : Cond.instantiable Cn0 N ∈ wU) (hini : Cond.initialized Cn0 ∈ wU) (hc : vwCl[ci]? = some (Cn0, T, N)) (hfs : ∀ j, j < N → defaultValue (ty0 j) = vp_V fs j) (hcells : ce + 1 ≤ R.cells) (hslots : sl + N ≤ R.slots) (hw2 : ∀ q, ws ++ [(q, .inr (ci, fs))] = ws2 q) (d : decode cc pc = .ok (.new index, 3))
    (h : ∀ q : Nat, Gj p l e R s m args below meth c D A nL (ce + 1) (sl + N) Q (ws2 q) (pc + 3) lv (.ref q :: rest)) : Gj p l e R s m args below meth c D A nL ce sl Q ws pc lv rest := fun H locs ls hP hD hS hlv =>
  va_new (ci := ci) (fs := fs) C.hx C.hb C.hts hin ty0 hty C.hown (C.hts _ hl) (C.hts _ hi) (C.hts _ hini) C.hK hP hD hS C.hA hc hfs hcells hslots d (fun q H1 hP1 hD1 hS1 => h q H1 locs ls (by rw [← hw2]; exact hP1) (by rw [← hw2]; exact hD1) hS1 hlv)
theorem va_RA_eq {U : State} {c1 c2 : ClassId} {ty : FieldType} (h1 : va_RA U c1 ty) (h2 : va_RA U c2 ty) : c1 = c2 := by
  cases ty with
  | object C0 =>
    obtain ⟨_, _, -, -, -, e1⟩ := h1
    obtain ⟨_, _, -, -, -, e2⟩ := h2
    exact Option.some.inj (e1.symm.trans e2)
  | _ => exact Option.some.inj (Eq.trans (Eq.symm h1) h2)
theorem i_newa (C : Cx p s m args meth c own cc nL rt D tys w A) {atype : ArrayType} {ty : FieldType} {cA : ClassId} {n : Int32} {N : Nat} {a0 : vp_A} {ws2 : Nat → va_W} (t0 : Nat) (ht : tys[t0]? = some (cA, ty)) (harr : Cond.arrayClass (newarray.typeOf atype) ∈ wU) (hty : newarray.typeOf atype = ty) (ha : ∀ cA : ClassId, vp_cell cA a0 = arrV cA N (fun _ => defaultValue ty)) (hn : ¬ n < 0) (hN : n.toNatClampNeg = N) (hbytes : N * componentBytes ty ≤ 536870912) (hcells : ce + 1 ≤ R.cells) (hslots : sl + N ≤ R.slots) (hw2 : ∀ q, ws ++ [(q, .inl (cA, a0))] = ws2 q) (d : decode cc pc = .ok (.newarray atype, 2))
    (h : ∀ q : Nat, Gj p l e R s m args below meth c D A nL (ce + 1) (sl + N) Q (ws2 q) (pc + 2) lv (.ref q :: rest)) : Gj p l e R s m args below meth c D A nL ce sl Q ws pc lv (.int n :: rest) := fun H locs ls hP hD hS hlv =>
  va_newa C.hx C.hb (C.hts _ harr) hty C.hK hP hD hS C.hA ha hn hN hbytes hcells hslots d (fun q cB H1 hK1 hP1 hD1 hS1 => by
    have e1 : cB = cA := va_RA_eq ((hK1.2 tys.length (cB, ty) (by simp)).2) ((C.hK.2 t0 _ ht).2)
    subst e1
    exact h q H1 locs ls (by rw [← hw2]; exact hP1) (by rw [← hw2]; exact hD1) hS1 hlv)
theorem i_newq (C : Cx p s m args meth c own cc nL rt D tys w A) {Cn0 : String} {cA : ClassId} {n : Int32} {N index : Nat} {ws2 : Nat → va_W} (t0 : Nat) (ht : tys[t0]? = some (cA, .object Cn0)) (hl : Cond.classLink own index Cn0 ∈ wU) (hov : va_AO Cn0 s) (hn : ¬ n < 0) (hN : n.toNatClampNeg = N) (hbytes : N * 4 ≤ 536870912) (hcells : ce + 1 ≤ R.cells) (hslots : sl + N ≤ R.slots) (hw2 : ∀ q, ws ++ [(q, .inl (cA, N, .inr (.inr (.inr (.inr (fun _ => none))))))] = ws2 q) (d : decode cc pc = .ok (.anewarray index, 3))
    (h : ∀ q : Nat, Gj p l e R s m args below meth c D A nL (ce + 1) (sl + N) Q (ws2 q) (pc + 3) lv (.ref q :: rest)) : Gj p l e R s m args below meth c D A nL ce sl Q ws pc lv (.int n :: rest) := fun H locs ls hP hD hS hlv =>
  va_newq C.hx C.hb C.hown (C.hts _ hl) hov C.hK hP hD hS C.hA hn hN hbytes hcells hslots d (fun q cB H1 hK1 hP1 hD1 hS1 => by
    have e1 : cB = cA := va_RA_eq ((hK1.2 tys.length (cB, .object Cn0) (by simp)).2) ((C.hK.2 t0 _ ht).2)
    subst e1
    exact h q H1 locs ls (by rw [← hw2]; exact hP1) (by rw [← hw2]; exact hD1) hS1 hlv)
theorem i_put (C : Cx p s m args meth c own cc nL rt D tys w A) {Cn0 ref : String} {T : u_T} {ty0 : Nat → FieldType} {N ci index a : Nat} {fs : List Value} {v : Value} {ty : FieldType} {ws2 : va_W} (q0 k : Nat) (hin : ∀ q ∈ u_ws Cn0 T N, q ∈ wU) (hty : ∀ k, k < N → parseFieldDescriptor (T k).2.2.1 = some (ty0 k)) (hnm : ∀ a, a < N → ∀ b, b < N → a ≠ b → (T a).2.1 ≠ (T b).2.1) (hc : vwCl[ci]? = some (Cn0, T, N)) (he : ws[q0]? = some (a, .inr (ci, fs))) (hfs : k < fs.length) (hset : ws.set q0 (a, .inr (ci, fs.set k v)) = ws2) (hk : k < N) (hrf : (T k).1 = ref) (hfin : (T k).2.2.2 = false) (hd : parseFieldDescriptor (T k).2.2.1 = some ty) (hn : narrow ty v = v) (hfit : fits ty v = true) (hl : Cond.fieldLink own index ref (T k).2.1 (T k).2.2.1 ∈ wU) (d : decode cc pc = .ok (.putfield index, 3))
    (h : Gj p l e R s m args below meth c D A nL ce sl Q ws2 (pc + 3) lv rest) : Gj p l e R s m args below meth c D A nL ce sl Q ws pc lv (v :: .ref a :: rest) := fun H locs ls hP hD hS hlv =>
  va_put (ref := ref) C.hx C.hb C.hts hin ty0 hty hnm C.hown C.hK hP hD hS q0 he hc k hk (C.hts _ hl) (fun z hz => by rw [← hrf]; exact hz) hfin hd hn hfit hfs d (fun H1 locs1 hP1 hD1 hS1 => h H1 locs1 ls (by rw [← hset]; exact hP1) (by rw [← hset]; exact hD1) hS1 hlv)
theorem i_putF (C : Cx p s m args meth c own cc nL rt D tys w A) (hi : meth.name = "<init>") {Cn0 : String} {T : u_T} {ty0 : Nat → FieldType} {N ci index a : Nat} {fs : List Value} {v : Value} {ty : FieldType} {ws2 : va_W} (q0 k : Nat) (hin : ∀ q ∈ u_ws Cn0 T N, q ∈ wU) (hty : ∀ k, k < N → parseFieldDescriptor (T k).2.2.1 = some (ty0 k)) (hnm : ∀ a, a < N → ∀ b, b < N → a ≠ b → (T a).2.1 ≠ (T b).2.1) (hc : vwCl[ci]? = some (Cn0, T, N)) (he : ws[q0]? = some (a, .inr (ci, fs))) (hfs : k < fs.length) (hset : ws.set q0 (a, .inr (ci, fs.set k v)) = ws2) (hk : k < N) (hrf : (T k).1 = own) (hfin : (T k).2.2.2 = true) (hd : parseFieldDescriptor (T k).2.2.1 = some ty) (hn : narrow ty v = v) (hfit : fits ty v = true) (hl : Cond.fieldLink own index own (T k).2.1 (T k).2.2.1 ∈ wU) (d : decode cc pc = .ok (.putfield index, 3))
    (h : Gj p l e R s m args below meth c D A nL ce sl Q ws2 (pc + 3) lv rest) : Gj p l e R s m args below meth c D A nL ce sl Q ws pc lv (v :: .ref a :: rest) := fun H locs ls hP hD hS hlv =>
  va_putF (ref := own) C.hx C.hb C.hts hin ty0 hty hnm C.hown C.hK hP hD hS q0 he hc k hk (C.hts _ hl) (fun z hz => by rw [← hrf]; exact hz) hfin hi hrf hd hn hfit hfs d (fun H1 locs1 hP1 hD1 hS1 => h H1 locs1 ls (by rw [← hset]; exact hP1) (by rw [← hset]; exact hD1) hS1 hlv)
theorem i_get (C : Cx p s m args meth c own cc nL rt D tys w A) {Cn0 ref : String} {T : u_T} {N ci index a : Nat} {fs : List Value} {v : Value} (q0 k : Nat) (hin : ∀ q ∈ u_ws Cn0 T N, q ∈ wU) (hc : vwCl[ci]? = some (Cn0, T, N)) (he : ws[q0]? = some (a, .inr (ci, fs))) (hv : fs[k]? = some v) (hk : k < N) (hrf : (T k).1 = ref) (hl : Cond.fieldLink own index ref (T k).2.1 (T k).2.2.1 ∈ wU) (d : decode cc pc = .ok (.getfield index, 3))
    (h : Gj p l e R s m args below meth c D A nL ce sl Q ws (pc + 3) lv (v :: rest)) : Gj p l e R s m args below meth c D A nL ce sl Q ws pc lv (.ref a :: rest) := fun H locs ls hP hD hS hlv =>
  va_get (ref := ref) C.hx C.hb C.hts hin C.hown C.hK hP q0 he hc k hk (C.hts _ hl) (fun z hz => by rw [← hrf]; exact hz) hv d (h H locs ls hP hD hS hlv)
theorem i_aast (C : Cx p s m args meth c own cc nL rt D tys w A) (q0 t0 qk ci : Nat) {cA : ClassId} {r0 : vw_C} {n a b : Nat} {vs : List Value} {f : Nat → Option Nat} {i : Int32} {ws2 : va_W} (ht : tys[t0]? = some (cA, .object r0.1)) (ha : ws[q0]? = some (a, .inl (cA, n, .inr (.inr (.inr (.inr f)))))) (hb0 : ws[qk]? = some (b, .inr (ci, vs))) (hc : vwCl[ci]? = some r0) (hset : ws.set q0 (a, .inl (cA, n, .inr (.inr (.inr (.inr (va_up f i.toNatClampNeg (some b))))))) = ws2) (hin : ¬ (i < 0 ∨ n ≤ i.toNatClampNeg)) (d : decode cc pc = .ok (.aastore, 1))
    (h : Gj p l e R s m args below meth c D A nL ce sl Q ws2 (pc + 1) lv rest) : Gj p l e R s m args below meth c D A nL ce sl Q ws pc lv (.ref b :: .int i :: .ref a :: rest) := fun H locs ls hP hD hS hlv =>
  va_astq C.hx C.hb C.hK hP hD hS q0 t0 qk ci ha ht hb0 hc hin d (fun H1 locs1 hP1 hD1 hS1 => h H1 locs1 ls (by rw [← hset]; exact hP1) (by rw [← hset]; exact hD1) hS1 hlv)
theorem i_obj (C : Cx p s m args meth c own cc nL rt D tys w A) {idx a : Nat} (h1 : Cond.methodLink own idx objectInit ∈ wU) (h2 : Cond.instanceMethod objectInit ∈ wU) (h3 : Cond.code objectInit ⟨#[0xb1]⟩ 1 none ∈ wU) (hf : 1 ≤ R.frames) (hlo : (rest.map fun v => v.category).sum + 12 ≤ R.locals) (d : decode cc pc = .ok (.invokespecial idx, 3))
    (h : Gj p l e R s m args below meth c D A nL ce sl Q ws (pc + 3) lv rest) : Gj p l e R s m args below meth c D A nL ce sl Q ws pc lv (.ref a :: rest) := fun H locs ls hP hD hS hlv =>
  W.objInit C.hx C.hb C.hown (C.hts _ h1) (C.hts _ h2) (C.hts _ h3) rfl (by rw [C.hml]; exact hlv.1) rfl d hf (by show 2 * 0 + _ + 12 ≤ _; omega) (h H locs ls hP hD hS hlv)
/-- a callee whose world is the last cells -/
theorem i_run {w1 wc : va_W} {post : (Nat → Nat) → va_W} {mc ms : Nat} {ar : Array Value} {st0 : List Value} (C : Cx p s m args meth c own cc nL rt D tys w A) (hr : ∀ (H : Heap) (locs : List Loc) (ls : Array Slot), va_P D vwCl wc H → va_D A wc → va_S A s.heap H locs → lv_has ls nL lv → va_Run p l e R s m args below meth c H locs ce sl mc ms (F0 m pc ls st0) rest (QN D (va_A wc H.size) post ar) (va_A wc H.size))
    (h : ∀ b : Nat → Nat, Gj p l e R s m args below meth c D A nL (ce + mc) (sl + ms) Q (w1 ++ post b) (pc + 3) lv rest) : Gj p l e R s m args below meth c D A nL ce sl Q (w1 ++ wc) pc lv st0 := by
  intro H locs ls hP hD hS hlv T hT X
  have hPl : va_P D vwCl w1 H := app_left hP
  have hPr : va_P D vwCl wc H := app_right hP
  have hsub : ∀ q, va_A wc H.size q → A q := fun q hq => by
    rcases hq with ⟨k, e0, hk⟩ | hq
    · exact (app_D_right hD).2 k _ hk
    · exact C.hA q (Nat.le_trans hS.1 hq)
  obtain ⟨v, st₀, t, T', L, h0, X', hL, e1, e2, ⟨hv, ⟨b, hP1, hD1⟩, hz, hk⟩, stp⟩ := hr H locs ls hPr (app_D_right hD) hS hlv T hT X
  have hv' : v = none := Outcome.returned.inj hv
  rw [h0] at hz hk
  have hS' : va_S A s.heap T'.heap (locs ++ L) := by
    refine ⟨Nat.le_trans hS.1 (by rw [e1]; exact hz), fun q h1 h2 => ?_, fun q hq => ?_⟩
    · rw [e1, hk q (Nat.lt_of_lt_of_le h1 hS.1) (fun z => h2 (hsub q z))]
      exact hS.2.1 q h1 h2
    · rcases List.mem_append.mp hq with h | h
      · exact hS.2.2 q h
      · exact hsub _ (hL q h)
  have hout : ∀ (k : Nat) (q : Nat × va_E), w1[k]? = some q → q.1 < H.size ∧ ¬ va_A wc H.size q.1 := fun k q hq => by
    have hlt := (hPl k q hq).lt
    refine ⟨hlt, fun z => ?_⟩
    rcases z with ⟨k2, e0, hk2⟩ | z
    · exact app_apart hD hq hk2 rfl
    · omega
  have hPl' : va_P D vwCl w1 T'.heap := fun k q hq => (hPl k q hq).kept (by
    rw [e1]
    exact hk q.1 (hout k q hq).1 (hout k q hq).2)
  obtain ⟨t2, a1, b1⟩ := h b T'.heap (locs ++ L) ls (va_P.app hPl' (by rw [e1]; exact hP1)) (va_D.app (app_D_left hD) (hD1.weaken (fun _ q _ hq => hsub q.1 hq)) (fun i j x y hx hy hxy => (hout i x hx).2 (by rw [hxy]; exact hD1.2 j y hy))) hS' hlv T' rfl X'
  exact ⟨t2, stp t2 (by rw [hv']; exact a1), b1⟩
def Yi (y : MethodName) (bytes : ByteArray) (maxL n : Nat) : Prop := Cond.instanceMethod y ∈ wU ∧ Cond.initialized y.cls ∈ wU ∧ Cond.code y bytes maxL none ∈ wU ∧ y.name = "<init>" ∧ y.cls ≠ "java/lang/invoke/MethodHandle" ∧ y.cls ≠ "java/lang/invoke/VarHandle" ∧ (parseMethodDescriptor y.desc).map (fun d => d.parameters.length) = some n
theorem n_blind {av : List Value} {sz : Nat} {X : (Nat → Prop) → State → Prop} (hX : ∀ (B : Nat → Prop) (U : State) (g : JFrame) (mk : MethodId) (a : Array Value), X B U → X B (U.calling g mk a)) : FrameBlind (va_Pc av (fun U => U.heap.size = sz ∧ va_P D vwCl ws U.heap ∧ va_K D vwCl tys U ∧ (∀ q ∈ wN, va_Nw q U) ∧ va_D (fun _ => True) ws ∧ X (va_A ws sz) U)) := fun a U g mk q => by
  obtain ⟨q0, q1, qP, qK, qN, qD, qX⟩ := q
  exact ⟨q0, q1, qP, va_K.moved (u := U) (U := U.calling g mk a) (Vm.Alike.refl U.vm) qK, wN_same (s := U) (U := U.calling g mk a) rfl qN, qD, hX _ U g mk a qX⟩
/-- what a constructor asks of the start beside its world, at a call -/
def Xok (s : State) (A : Nat → Prop) (X : (Nat → Prop) → State → Prop) : Prop := (∀ (B : Nat → Prop) (U : State) (g : JFrame) (mk : MethodId) (a : Array Value), X B U → X B (U.calling g mk a)) ∧ ∀ (H : Heap) (locs : List Loc) (B : Nat → Prop) (U : State), va_S A s.heap H locs → (∀ q, B q → A q) → U.heap = H → s.WarmedH U.vm → X B U
theorem X0_ok : Xok s A X0 := ⟨fun _ _ _ _ _ _ => trivial, fun _ _ _ _ _ _ _ _ => trivial⟩
theorem i_ctor (C : Cx p s m args meth c own cc nL rt D tys w A) {X : (Nat → Prop) → State → Prop} {w1 wc ws0 : va_W} {post : (Nat → Nat) → va_W} {ws2 : (Nat → Nat) → va_W} {mc ms : Nat} {y : MethodName} {bytes : ByteArray} {maxL n index b0 : Nat} {rm : Room} {As : List Value} (hXo : Xok s A X) (Y : Yi y bytes maxL n) (hl : Cond.methodLink own index y ∈ wU) (hM : Cn l y bytes maxL rm D tys X (.ref b0 :: As) wc post mc ms) (hrc : rm.cells = mc) (hrs : rm.slots = ms) (hR : rm.frames + 1 ≤ R.frames ∧ 8 + (maxL + 11) + rm.locals ≤ R.locals) (hf : ce + mc ≤ R.cells ∧ sl + ms ≤ R.slots) (hws : ws0 = w1 ++ wc) (hw2 : ∀ b, w1 ++ post b = ws2 b) (hn : As.length = n) (hst : st = As.reverse ++ .ref b0 :: rest) (hW : (rest.map fun v => v.category).sum ≤ 8) (d : decode cc pc = .ok (.invokespecial index, 3))
    (h : ∀ b : Nat → Nat, Gj p l e R s m args below meth c D A nL (ce + mc) (sl + ms) Q (ws2 b) (pc + 3) lv rest) : Gj p l e R s m args below meth c D A nL ce sl Q ws0 pc lv st := by
  obtain ⟨y1, y3, y4, y0, y5⟩ := Y
  subst hws
  refine i_run (ar := (.ref b0 :: As).toArray) C (fun H locs ls hP hD hS hlv => ?_) (fun b => by rw [hw2]; exact h b)
  have hsub : ∀ q, va_A wc H.size q → A q := fun q hq => by
    rcases hq with ⟨k, e0, hk⟩ | hq
    · exact hD.2 k _ hk
    · exact C.hA q (Nat.le_trans hS.1 hq)
  exact va_runI (n := n) ⟨C.hx, C.hb, C.hml, C.hown, C.hts⟩ (hM H.size) ⟨callB_of n C.hts (goodIn_cons y4 wU_good wU_good) rfl hrc hrs (C.hts _ y3) (C.hts _ hl) y5 hR, y0, C.hts _ y1⟩ ⟨n_blind hXo.1, fun U hU hW => ⟨rfl, by rw [hU], by rw [hU]; exact hP, va_K.moved hW.alike C.hK, wN_warm hW C.hN, hD.weaken (fun _ _ _ _ => trivial), hXo.2 H locs _ U hS hsub hU hW⟩⟩ rfl hn hlv.1 hst (lv_room hW) d hf
theorem i_ctorN (C : Cx p s m args meth c own cc nL rt D tys w A) {X : (Nat → Prop) → State → Prop} {host : String} {w1 wc ws0 : va_W} {post : (Nat → Nat) → va_W} {ws2 : (Nat → Nat) → va_W} {mc ms : Nat} {y : MethodName} {bytes : ByteArray} {maxL n index b0 : Nat} {rm : Room} {As : List Value} (hXo : Xok s A X) (Y : Yi y bytes maxL n) (hl : Cond.methodLinkNest own index y host ∈ wN) (hM : Cn l y bytes maxL rm D tys X (.ref b0 :: As) wc post mc ms) (hrc : rm.cells = mc) (hrs : rm.slots = ms) (hR : rm.frames + 1 ≤ R.frames ∧ 8 + (maxL + 11) + rm.locals ≤ R.locals) (hf : ce + mc ≤ R.cells ∧ sl + ms ≤ R.slots) (hws : ws0 = w1 ++ wc) (hw2 : ∀ b, w1 ++ post b = ws2 b) (hn : As.length = n) (hst : st = As.reverse ++ .ref b0 :: rest) (hW : (rest.map fun v => v.category).sum ≤ 8) (d : decode cc pc = .ok (.invokespecial index, 3))
    (h : ∀ b : Nat → Nat, Gj p l e R s m args below meth c D A nL (ce + mc) (sl + ms) Q (ws2 b) (pc + 3) lv rest) : Gj p l e R s m args below meth c D A nL ce sl Q ws0 pc lv st := by
  obtain ⟨y1, y3, y4, y0, y5⟩ := Y
  subst hws
  refine i_run (ar := (.ref b0 :: As).toArray) C (fun H locs ls hP hD hS hlv => ?_) (fun b => by rw [hw2]; exact h b)
  have hsub : ∀ q, va_A wc H.size q → A q := fun q hq => by
    rcases hq with ⟨k, e0, hk⟩ | hq
    · exact hD.2 k _ hk
    · exact C.hA q (Nat.le_trans hS.1 hq)
  exact va_runIN (n := n) ⟨C.hx, C.hb, C.hml, C.hown, C.hts⟩ (hM H.size) ⟨va_cnB n C.hts (goodIn_cons y4 wU_good wU_good) rfl hrc hrs (C.hN _ hl) (C.hts _ y3) y5 hR, y0, C.hts _ y1⟩ ⟨n_blind hXo.1, fun U hU hW => ⟨rfl, by rw [hU], by rw [hU]; exact hP, va_K.moved hW.alike C.hK, wN_warm hW C.hN, hD.weaken (fun _ _ _ _ => trivial), hXo.2 H locs _ U hS hsub hU hW⟩⟩ rfl hn hlv.1 hst (lv_room hW) d hf
theorem i_vret (C : Cx p s m args meth c own cc nL none D tys w A) {post : (Nat → Nat) → va_W} (b : Nat → Nat) (hp : ws = post b) (d : decode cc pc = .ok (.return_, 1)) : Gj p l e R s m args below meth c D A nL ce sl (MQ below (QN D A post) args s ce sl A) ws pc lv [] := by
  intro H locs ls hP hD hS hlv
  subst hp
  have hlk := C.hk
  exact W.vret C.hx C.hb C.hr (fun t ht hW => ⟨rfl, ⟨b, by rw [ht]; exact hP, hD⟩, hS.F ht⟩) hS.2.2 d
theorem Cn.of {y : MethodName} {X : (Nat → Prop) → State → Prop} {av : List Value} {lv0 : List (Nat × Value)} {rm : Room} {post : (Nat → Nat) → va_W} {mc ms : Nat} (hy : plainName y.cls = true) (hlen : (lg_sl av).length ≤ nL) (hl0 : lv_args 0 av = lv0) (hnm : y.name = "<init>")
    (body : ∀ (p : Program) (e : Env) (s : State) (m : MethodId) (args : Array Value) (below : List Frame) (meth : Method) (c : Code) (A : Nat → Prop), Cx p s m args meth c y.cls cc nL none D tys wNil A → meth.name = "<init>" → X A s → Gj p l e rm s m args below meth c D A nL 0 0 (MQ below (QN D A post) args s mc ms A) ws 0 lv0 []) : Cn l y cc nL rm D tys X av ws post mc ms := by
  intro sz
  refine Met.ofW (cc := cc) (maxL := nL) (ret := none) hy rfl ?_
  intro p e s m args below meth c s₁ B hml hv
  obtain ⟨rfl, hsz, hP, hK, hN, hD0, hX⟩ := hv
  subst hsz
  have hts := atoms_spec (ws := .code y cc nL none :: wU) B.pre
  have hD := hD0.self (sz := s.heap.size)
  have C : Cx p s m av.toArray meth c y.cls cc nL none D tys wNil (va_A ws s.heap.size) := ⟨B.exec, B.bytes, hml, findClass_of_methodNamed B.named, fun q hq => hts q (List.mem_cons_of_mem _ hq), hN, hK, wNil_D, fun q hq => Or.inr hq, B.returns, B.notSynchronized⟩
  have hl := lv_entry av (n := nL) hlen
  rw [lg_entry_eq]
  exact body p e s m av.toArray below meth c _ C ((name_of_methodNamed B.named B.method).1.trans hnm) hX s.heap [] _ hP hD va_S.rf (by rw [← hl0]; exact hl)
end CT
section CT2
variable {μ : Type} {p : Program} {l : Launch} {e : Env} {R : Room} {s : State} {m : MethodId} {args : Array Value} {below : List Frame} {meth : Method} {c : Code}
variable {own : String} {cc : ByteArray} {nL : Nat} {rt : Option FieldType} {D : va_G} {tys : List (ClassId × FieldType)} {w : μ → va_W} {A : Nat → Prop}
variable {ce sl : Nat} {Q : State → Prop} {ws : va_W} {pc : Nat} {lv : List (Nat × Value)} {rest st : List Value}
/-- a static method without an answer, its world the last cells -/
theorem i_callS (C : Cx p s m args meth c own cc nL rt D tys w A) {wf : Mem → va_W} {S S2 : Mem} {w1 ws0 ws2 : va_W} {y : MethodName} {bytes : ByteArray} {maxL n index : Nat} {rm : Room} {As : List Value} (Y : Ys y bytes maxL none n) (hl : Cond.methodLink own index y ∈ wU) (hM : Ctr l y bytes maxL none rm D tys wf As S (vV (), S2)) (hwf : ∀ S S' : Mem, (wf S).map Prod.fst = (wf S').map Prod.fst) (hrc : rm.cells = 0) (hrs : rm.slots = 0) (hR : rm.frames + 1 ≤ R.frames ∧ 8 + (maxL + 11) + rm.locals ≤ R.locals) (hf : ce ≤ R.cells ∧ sl ≤ R.slots) (hws : ws0 = w1 ++ wf S) (hw2 : w1 ++ wf S2 = ws2) (hn : As.length = n) (hst : st = As.reverse ++ rest) (hW : (rest.map fun v => v.category).sum ≤ 8) (d : decode cc pc = .ok (.invokestatic index, 3))
    (h : Gj p l e R s m args below meth c D A nL ce sl Q ws2 (pc + 3) lv rest) : Gj p l e R s m args below meth c D A nL ce sl Q ws0 pc lv st := by
  obtain ⟨y1, y3, y4, y5⟩ := Y
  subst hws
  refine i_run (post := fun _ => wf S2) (mc := 0) (ms := 0) (ar := As.toArray) C (fun H locs ls hP hD hS hlv => ?_) (fun b => by rw [hw2]; exact h)
  have hr := va_runS (locs := locs) (below := below) (e := e) (meth := meth) (g := F0 m pc ls st) (rest := rest) (n := n) ⟨C.hx, C.hb, C.hml, C.hown, C.hts⟩ (hM H.size) ⟨callB_of n C.hts (goodIn_cons y4 wU_good wU_good) rfl hrc hrs (C.hts _ y3) (C.hts _ hl) y5 hR, C.hts _ y1⟩ ⟨c_blind, fun U hU hW => ⟨rfl, by rw [hU], by rw [hU]; exact hP, va_K.moved hW.alike C.hK, wN_warm hW C.hN, hD.weaken (fun _ _ _ _ => trivial)⟩⟩ rfl hn hlv.1 hst (lv_room hW) d hf
  intro T hT X
  obtain ⟨v, st₀, t, T', L, h0, X', hL, e1, e2, ⟨hv, hP1, hz, hk⟩, stp⟩ := hr T hT X
  exact ⟨v, st₀, t, T', L, h0, X', hL, e1, e2, ⟨hv, ⟨fun _ => 0, hP1, w_D hwf (hD.self (sz := H.size)) S2⟩, hz, hk⟩, stp⟩
/-- what the static row of first denominations is: HELD AS A PREMISE: that its cell's class is the one found as "[I" (see REPORT.md) -/
def ST (t : Nat) (cI : ClassId) (B : Nat → Prop) (U : State) : Prop := va_AO "AutoTeller$Letter" U ∧ va_Nw (.castable "[I" "java/lang/Cloneable") U ∧ va_Z "AutoTeller" "FIRST_DENOMINATIONS" "[I" (.ref t) B U U.heap ∧ ¬ B t ∧ ∃ cell : Cell, U.heap[t]? = some cell ∧ (∀ k, cell.vm ≠ .statics k) ∧ cell.vm ≠ .unknown ∧ cell.cls = cI ∧ U.vm.findClass "[I" = some cI ∧ cell.slots = #[.int 10, .int 20, .int 50, .int 100]
def dn0 : Nat → Int32 := fun j => if j = 0 then 10 else if j = 1 then 20 else if j = 2 then 50 else 100
theorem ST.narrow {t : Nat} {cI : ClassId} {B B2 : Nat → Prop} {U : State} (h : ST t cI B U) (hB : ∀ q, B2 q → B q) : ST t cI B2 U := ⟨h.1, h.2.1, h.2.2.1.narrow hB, fun z => h.2.2.2.1 (hB _ z), h.2.2.2.2⟩
theorem ST.blind {t : Nat} {cI : ClassId} (B : Nat → Prop) (U : State) (g : JFrame) (mk : MethodId) (a : Array Value) (h : ST t cI B U) : ST t cI B (U.calling g mk a) := ⟨h.1.moved (U := U.calling g mk a) (Vm.Alike.refl U.vm), va_Nw.same rfl (show U.vm = (U.calling g mk a).vm from rfl) h.2.1, h.2.2.1.moved (U := U.calling g mk a) (Vm.Alike.refl U.vm), h.2.2.2.1, h.2.2.2.2⟩
theorem ST.ok {t : Nat} {cI : ClassId} (h : ST t cI A s) (ht : t < s.heap.size) : Xok s A (ST t cI) := by
  refine ⟨ST.blind, fun H locs B U hS hB hU hW => ?_⟩
  obtain ⟨h1, h2, h3, h4, cell, k1, k2, k3, k4, k5, k6⟩ := h
  refine ⟨h1.moved hW.alike, h2.warmC hW, ?_, fun z => h4 (hB _ z), cell, ?_, k2, k3, k4, ?_, k6⟩
  · rw [hU]
    exact ((h3.narrow hB).moved hW.alike |> fun z => (h3.kept (fun a ha hn => hS.2.1 a ha hn)).narrow hB |>.moved hW.alike)
  · rw [hU, hS.2.1 t ht h4]
    exact k1
  · rw [hW.alike.findClass]
    exact k5
theorem i_gets (C : Cx p s m args meth c own cc nL rt D tys w A) {t index : Nat} {cI : ClassId} {host : String} (hT : ST t cI A s) (hl : Cond.fieldLinkNest own index "AutoTeller" "FIRST_DENOMINATIONS" "[I" host ∈ wN) (d : decode cc pc = .ok (.getstatic index, 3)) (h : Gj p l e R s m args below meth c D A nL ce sl Q ws (pc + 3) lv (.ref t :: rest)) : Gj p l e R s m args below meth c D A nL ce sl Q ws pc lv rest := fun H locs ls hP hD hS hlv =>
  va_getsN C.hx C.hb hT.2.2.1 hS C.hown (va_Nw.use rfl (C.hN _ hl)) (fun _ hx => hx) d (h H locs ls hP hD hS hlv)
theorem i_clone (C : Cx p s m args meth c own cc nL rt D tys w A) {t t0 index : Nat} {cI : ClassId} {ws2 : Nat → va_W} (hT : ST t cI A s) (htl : t < s.heap.size) (ht : tys[t0]? = some (cI, .int)) (hlink : Cond.methodLink own index ⟨"[I", "clone", "()Ljava/lang/Object;"⟩ ∈ wU) (hsame : Cond.sameMethod "[I" "java/lang/Object" "clone" "()Ljava/lang/Object;" ∈ wU) (hnat : Cond.native ⟨"java/lang/Object", "clone", "()Ljava/lang/Object;"⟩ ∈ wU) (hinst : Cond.instanceMethod ⟨"java/lang/Object", "clone", "()Ljava/lang/Object;"⟩ ∈ wU) (hsel : Cond.selects "[I" ⟨"[I", "clone", "()Ljava/lang/Object;"⟩ ⟨"java/lang/Object", "clone", "()Ljava/lang/Object;"⟩ ∈ wU) (hframes : 1 ≤ R.frames) (hlocals : (rest.map fun v => v.category).sum + 14 ≤ R.locals) (hcells : ce + 1 ≤ R.cells) (hslots : sl + 4 ≤ R.slots) (hw2 : ∀ q, ws ++ [(q, .inl (cI, 4, .inl dn0))] = ws2 q) (d : decode cc pc = .ok (.invokevirtual index, 3))
    (h : ∀ q : Nat, Gj p l e R s m args below meth c D A nL (ce + 1) (sl + 4) Q (ws2 q) (pc + 3) lv (.ref q :: rest)) : Gj p l e R s m args below meth c D A nL ce sl Q ws pc lv (.ref t :: rest) := by
  intro H locs ls hP hD hS hlv T hT0 X
  obtain ⟨h1, h2, h3, h4, cell, k1, k2, k3, k4, k5, k6⟩ := hT
  obtain ⟨c0, t0', f1, f2, f3⟩ := Cond.castable_spec (va_Nw.use (A := args) rfl h2)
  cases k5.symm.trans f1
  have hcellT : T.heap[t]? = some cell := by rw [hT0, hS.2.1 t htl h4]; exact k1
  obtain ⟨-, kA, hkA, comp, hkind⟩ := State.isArrayOf_alike X.warmed.alike ((C.hK.2 t0 _ ht).1 0 (fun _ => .null))
  obtain ⟨-, kS, hkS, compS, hkindS⟩ := (C.hK.2 t0 _ ht).1 0 (fun _ => .null)
  subst k4
  have hsz : cell.slots.size = 4 := by rw [k6]; rfl
  have hcellE : ({ cls := cell.cls, slots := cell.slots } : Cell) = vp_cell cell.cls (4, .inl dn0) := by rw [k6]; rfl
  obtain ⟨vm', X', stp⟩ := X.cloneArray C.hx C.hown (C.hts _ hlink) (C.hts _ hsame) (C.hts _ hnat) (C.hts _ hinst) (C.hts _ hsel) (a := t) (cell := cell) hcellT k2 k3 k5 f2 f3
    (fun i v hv => by
      have hk' : T.vm.classes[cell.cls]? = some kA := hkA
      have hfit : fits .int v = true := by
        rw [k6] at hv
        have hi : i < 4 := (Array.getElem?_eq_some_iff.mp hv).1
        rcases (show i = 0 ∨ i = 1 ∨ i = 2 ∨ i = 3 by omega) with rfl | rfl | rfl | rfl <;> (cases hv; rfl)
      simpa [State.fitsSlot, State.slotType?, hk', hkind] using hfit)
    (g := F0 m pc ls (.ref t :: rest)) rfl (by rw [C.hml]; exact hlv.1) rfl (by rw [C.hb]; exact d) hframes (by show 2 * 0 + _ + 14 ≤ _; omega) hcells (by rw [hsz]; exact hslots) (hloader := Vm.clonesLoader_of_array hkS hkindS)
  rw [hcellE, hsz] at X'
  generalize hH1 : H.push (vp_cell cell.cls (4, .inl dn0)) = H1
  have z1 : H1.size = H.size + 1 := by rw [← hH1, Array.size_push]
  have e1 : H1[H.size]? = some (vp_cell cell.cls (4, .inl dn0)) := by rw [← hH1, Array.getElem?_push_size]
  have o1 : ∀ q : Nat, q < H.size → H1[q]? = H[q]? := fun q hq => by rw [← hH1, Array.getElem?_push, if_neg (Nat.ne_of_lt hq)]
  have hk : ∀ (k : Nat) (y : Nat × va_E), ws[k]? = some y → H1[y.1]? = H[y.1]? := fun k y hy => o1 y.1 ((hP k y hy).lt)
  have hP1 : va_P D vwCl (ws2 H.size) H1 := by
    rw [← hw2]
    exact (hP.kept hk).app (fun k y hy => by
      have hz : k < 1 := (List.getElem?_eq_some_iff.mp hy).1
      rw [show k = 0 by omega] at hy
      cases hy
      exact e1)
  have hD1 : va_D A (ws2 H.size) := by
    rw [← hw2]
    exact hD.push hP rfl (C.hA _ hS.1)
  obtain ⟨tt, b1, b2⟩ := h H.size H1 locs ls hP1 hD1 ⟨Nat.le_trans hS.1 (by omega), fun y h1 h2 => (o1 y (Nat.lt_of_lt_of_le h1 hS.1)).trans (hS.2.1 y h1 h2), hS.2.2⟩ hlv ((T.setVm vm').pushCell (vp_cell cell.cls (4, .inl dn0))) (by rw [← hH1, ← hT0]; rfl) X'
  refine ⟨tt, stp tt ?_, b2⟩
  rw [hcellE, hT0]
  exact b1
theorem i_castA (C : Cx p s m args meth c own cc nL rt D tys w A) {index a : Nat} {cI : ClassId} {z : vp_A} (q0 : Nat) (ha : ws[q0]? = some (a, .inl (cI, z))) (hn : s.vm.findClass "[I" = some cI) (hl : Cond.classLink own index "[I" ∈ wU) (d : decode cc pc = .ok (.checkcast index, 3)) (h : Gj p l e R s m args below meth c D A nL ce sl Q ws (pc + 3) lv (.ref a :: rest)) : Gj p l e R s m args below meth c D A nL ce sl Q ws pc lv (.ref a :: rest) := fun H locs ls hP hD hS hlv =>
  va_castA C.hx C.hb C.hown (C.hts _ hl) hP q0 ha hn d (h H locs ls hP hD hS hlv)
end CT2
