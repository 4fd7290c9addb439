/-! The machine's steps as a judgement over a pure program: Tj says that from this place the method ends, and ends as the pure program says. -/
abbrev Mem : Type := (Nat → Nat → Int32) × (Nat → Nat → Int64) × (Nat → Nat) × (Nat → Int32) × (Nat → Nat → Int32)
def sI (S : Mem) (f j : Nat) (v : Int32) : Mem := (fun g => if g = f then upd (S.1 f) j v else S.1 g, S.2)
def sL (S : Mem) (f j : Nat) (v : Int64) : Mem := (S.1, fun g => if g = f then vp_updL (S.2.1 f) j v else S.2.1 g, S.2.2)
def sG (S : Mem) (j v : Nat) : Mem := (S.1, S.2.1, va_up S.2.2.1 j v, S.2.2.2)
def sF (S : Mem) (j : Nat) (v : Int32) : Mem := (S.1, S.2.1, S.2.2.1, upd S.2.2.2.1 j v, S.2.2.2.2)
def sB (S : Mem) (j k : Nat) (v : Int32) : Mem := (S.1, S.2.1, S.2.2.1, S.2.2.2.1, va_up S.2.2.2.2 j (upd (S.2.2.2.2 j) k v))
def lt {γ : Type} {δ : Type} (e : γ) (k : γ → δ) : δ := k e
def grd {β : Type} (P : Prop) [Decidable P] (q : Option β) : Option β := if P then q else none
def vI (r : Int32) : Option Value := some (.int r)
def vL (r : Int64) : Option Value := some (.long r)
def vV (_ : Unit) : Option Value := none
/-- words that stay, and words of nest mates -/
def wU : List Cond := lw_tbl.filter goodWord
def isNest : Cond → Bool
  | .fieldLinkNest .. => true
  | .methodLinkNest .. => true
  | _ => false
def wN : List Cond := tables_1.filter isNest
theorem mU {q : Cond} (i : Nat) (h : tables_1[i]? = some q) (g : goodWord q = true) : q ∈ wU := List.mem_filter.mpr ⟨List.mem_append_right _ (List.mem_of_getElem? h), g⟩
theorem mUs {q : MethodName} (i : Nat) (h : (lw_privs[i]?).map (fun z => z.1) = some q) (g : goodWord (.selects q.cls q q) = true) : Cond.selects q.cls q q ∈ wU := by
  refine List.mem_filter.mpr ⟨List.mem_append_left _ ?_, g⟩
  cases hz : lw_privs[i]? with
  | none => rw [hz] at h; cases h
  | some z =>
    rw [hz] at h
    cases h
    exact List.mem_map.mpr ⟨z, List.mem_of_getElem? hz, rfl⟩
theorem mN {q : Cond} (i : Nat) (h : tables_1[i]? = some q) (g : isNest q = true) : q ∈ wN := List.mem_filter.mpr ⟨List.mem_of_getElem? h, g⟩
theorem wU_good : GoodIn wU wU := fun q h => ⟨h, good_of_word (List.mem_filter.mp h).2⟩
theorem goodIn_cons {big ws : List Cond} {q : Cond} (hq : q ∈ big) (hg : GoodIn big big) (h : GoodIn big ws) : GoodIn big (q :: ws) := fun z hz => by
  rcases List.mem_cons.mp hz with rfl | hz
  · exact hg _ hq
  · exact h _ hz
theorem wN_warm {s U : State} (hW : s.WarmedH U.vm) (h : ∀ q ∈ wN, va_Nw q s) : ∀ q ∈ wN, va_Nw q U := by
  intro q hq
  have h1 := h q hq
  have h2 := (List.mem_filter.mp hq).2
  cases q <;> first | exact va_Nw.warmF hW h1 | exact va_Nw.warmM hW h1 | (simp [isNest] at h2; done)
theorem wN_same {s U : State} (hW : s.vm = U.vm) (h : ∀ q ∈ wN, va_Nw q s) : ∀ q ∈ wN, va_Nw q U := by
  intro q hq
  have h1 := h q hq
  have h2 := (List.mem_filter.mp hq).2
  cases q <;> first | exact va_Nw.same rfl hW h1 | (simp [isNest] at h2; done)
/-- a method's end: its answer, and the world behind it -/
def Qg {μ : Type} (D : va_G) (w : μ → va_W) (A : Nat → Prop) (tgt : Option Value × μ) : Array Value → State → Outcome → State → Prop := fun _ st oc t => oc = .returned tgt.1 ∧ va_P D vwCl (w tgt.2) t.heap ∧ va_F A st t
/-- a method's contract, for one start and one end -/
def Ctr {μ : Type} (l : Launch) (y : MethodName) (cc : ByteArray) (nL : Nat) (rt : Option FieldType) (rm : Room) (D : va_G) (tys : List (ClassId × FieldType)) (w : μ → va_W) (av : List Value) (S : μ) (tgt : Option Value × μ) : Prop :=
  ∀ sz : Nat, Met l y (.code y cc nL rt :: wU) rm (va_Pc av (fun U => U.heap.size = sz ∧ va_P D vwCl (w S) U.heap ∧ va_K D vwCl tys U ∧ (∀ q ∈ wN, va_Nw q U) ∧ va_D (fun _ => True) (w S))) (Qg D w (va_A (w S) sz) tgt) 0 0 (va_A (w S) sz)
/-- what holds all through a method's body -/
def Cx {μ : Type} (p : Program) (s : State) (m : MethodId) (args : Array Value) (meth : Method) (c : Code) (own : String) (cc : ByteArray) (nL : Nat) (rt : Option FieldType) (D : va_G) (tys : List (ClassId × FieldType)) (w : μ → va_W) (A : Nat → Prop) : Prop :=
  p.tables.exec = Jvm.exec ∧ c.code = cc ∧ c.maxLocals = nL ∧ s.vm.findClass own = some m.cls ∧ (∀ q ∈ wU, q.before args s = true) ∧ (∀ q ∈ wN, va_Nw q s) ∧ va_K D vwCl tys s ∧ (∀ S, va_D A (w S)) ∧ (∀ q, s.heap.size ≤ q → A q) ∧ meth.sig.returnType = rt ∧ meth.locks = false
/-- from this place, in the world ws, the method comes to Q -/
def Gj (p : Program) (l : Launch) (e : Env) (R : Room) (s : State) (m : MethodId) (args : Array Value) (below : List Frame) (meth : Method) (c : Code) (D : va_G) (A : Nat → Prop) (nL ce sl : Nat) (Q : State → Prop) (ws : va_W) (pc : Nat) (lv : List (Nat × Value)) (st : List Value) : Prop :=
  ∀ (H : Heap) (locs : List Loc) (ls : Array Slot), va_P D vwCl ws H → va_D A ws → va_S A s.heap H locs → lv_has ls nL lv → W p l e R s m args below meth c H locs ce sl Q (F0 m pc ls st)
/-- the same, where a pure program says what comes out -/
def Tg {μ : Type} (p : Program) (l : Launch) (e : Env) (R : Room) (s : State) (m : MethodId) (args : Array Value) (below : List Frame) (meth : Method) (c : Code) (D : va_G) (w : μ → va_W) (A : Nat → Prop) (nL ce sl : Nat) {α β : Type} (QQ : α → μ → State → Prop) (K : β → Option (α × μ)) (prog : Option β) (S : μ) (pc : Nat) (lv : List (Nat × Value)) (st : List Value) : Prop :=
  ∀ (r : α) (S1 : μ), prog.bind K = some (r, S1) → Gj p l e R s m args below meth c D A nL ce sl (QQ r S1) (w S) pc lv st
abbrev Tj {μ : Type} (p : Program) (l : Launch) (e : Env) (R : Room) (s : State) (m : MethodId) (args : Array Value) (below : List Frame) (meth : Method) (c : Code) (D : va_G) (w : μ → va_W) (A : Nat → Prop) (nL : Nat) {α β : Type} (vv : α → Option Value) (K : β → Option (α × μ)) (prog : Option β) (S : μ) (pc : Nat) (lv : List (Nat × Value)) (st : List Value) : Prop :=
  Tg p l e R s m args below meth c D w A nL 0 0 (fun r S1 => MQ below (Qg D w A (vv r, S1)) args s 0 0 A) K prog S pc lv st
theorem w_D {μ : Type} {w : μ → va_W} {A : Nat → Prop} (hw : ∀ S S' : μ, (w S).map Prod.fst = (w S').map Prod.fst) {S : μ} (h : va_D A (w S)) (S' : μ) : va_D A (w S') := by
  have key : ∀ (k : Nat) (q : Nat × va_E), (w S')[k]? = some q → ∃ q', (w S)[k]? = some q' ∧ q'.1 = q.1 := by
    intro k q hk
    have h1 : ((w S').map Prod.fst)[k]? = some q.1 := by rw [List.getElem?_map, hk]; rfl
    rw [hw S' S, List.getElem?_map] at h1
    cases hz : (w S)[k]? with
    | none => rw [hz] at h1; cases h1
    | some z => rw [hz] at h1; exact ⟨z, rfl, Option.some.inj h1⟩
  refine ⟨fun i j p q hi hj hpq => ?_, fun k q hk => ?_⟩
  · obtain ⟨a1, b1, c1⟩ := key i p hi
    obtain ⟨a2, b2, c2⟩ := key j q hj
    exact h.1 i j a1 a2 b1 b2 (by rw [c1, c2, hpq])
  · obtain ⟨a1, b1, c1⟩ := key k q hk
    rw [← c1]
    exact h.2 k a1 b1
section GO
variable {p : Program} {l : Launch} {e : Env} {R : Room} {s : State} {m : MethodId} {args : Array Value} {below : List Frame} {meth : Method} {c : Code}
variable {μ : Type} {own : String} {cc : ByteArray} {nL : Nat} {rt : Option FieldType} {D : va_G} {tys : List (ClassId × FieldType)} {w : μ → va_W} {A : Nat → Prop}
variable {α β γ δ : Type} {vv : α → Option Value} {ce sl : Nat} {QQ : α → μ → State → Prop} {K : β → Option (α × μ)} {prog progA progB : Option β} {S : μ} {pc : Nat} {lv : List (Nat × Value)} {rest st : List Value}
theorem Cx.hx (C : Cx p s m args meth c own cc nL rt D tys w A) : p.tables.exec = Jvm.exec := C.1
theorem Cx.hb (C : Cx p s m args meth c own cc nL rt D tys w A) : c.code = cc := C.2.1
theorem Cx.hml (C : Cx p s m args meth c own cc nL rt D tys w A) : c.maxLocals = nL := C.2.2.1
theorem Cx.hown (C : Cx p s m args meth c own cc nL rt D tys w A) : s.vm.findClass own = some m.cls := C.2.2.2.1
theorem Cx.hts (C : Cx p s m args meth c own cc nL rt D tys w A) : ∀ q ∈ wU, q.before args s = true := C.2.2.2.2.1
theorem Cx.hN (C : Cx p s m args meth c own cc nL rt D tys w A) : ∀ q ∈ wN, va_Nw q s := C.2.2.2.2.2.1
theorem Cx.hK (C : Cx p s m args meth c own cc nL rt D tys w A) : va_K D vwCl tys s := C.2.2.2.2.2.2.1
theorem Cx.hD (C : Cx p s m args meth c own cc nL rt D tys w A) : ∀ S, va_D A (w S) := C.2.2.2.2.2.2.2.1
theorem Cx.hA (C : Cx p s m args meth c own cc nL rt D tys w A) : ∀ q, s.heap.size ≤ q → A q := C.2.2.2.2.2.2.2.2.1
theorem Cx.hr (C : Cx p s m args meth c own cc nL rt D tys w A) : meth.sig.returnType = rt := C.2.2.2.2.2.2.2.2.2.1
theorem Cx.hk (C : Cx p s m args meth c own cc nL rt D tys w A) : meth.locks = false := C.2.2.2.2.2.2.2.2.2.2
-- the program's own steps
theorem j_lt {e0 : γ} {k : γ → Option β} {f : γ → Value} (h : ∀ x : γ, Tg p l e R s m args below meth c D w A nL ce sl QQ K (k x) S pc lv (f x :: rest)) : Tg p l e R s m args below meth c D w A nL ce sl QQ K (lt e0 k) S pc lv (f e0 :: rest) := h e0
theorem j_lti {e0 : Int32} {k : Int32 → Option β} (h : ∀ x : Int32, Tg p l e R s m args below meth c D w A nL ce sl QQ K (k x) S pc lv (.int x :: rest)) : Tg p l e R s m args below meth c D w A nL ce sl QQ K (lt e0 k) S pc lv (.int e0 :: rest) := h e0
theorem j_ltl {e0 : Int64} {k : Int64 → Option β} (h : ∀ x : Int64, Tg p l e R s m args below meth c D w A nL ce sl QQ K (k x) S pc lv (.long x :: rest)) : Tg p l e R s m args below meth c D w A nL ce sl QQ K (lt e0 k) S pc lv (.long e0 :: rest) := h e0
theorem j_ltS {S0 : μ} {k : μ → Option β} (h : ∀ x : μ, Tg p l e R s m args below meth c D w A nL ce sl QQ K (k x) x pc lv st) : Tg p l e R s m args below meth c D w A nL ce sl QQ K (lt S0 k) S0 pc lv st := h S0
theorem j_grd {P : Prop} {iP : Decidable P} (h : P → Tg p l e R s m args below meth c D w A nL ce sl QQ K prog S pc lv st) : Tg p l e R s m args below meth c D w A nL ce sl QQ K (@grd β P iP prog) S pc lv st := by
  intro r S1 hb
  by_cases hP : P
  · exact h hP r S1 (by rw [grd, if_pos hP] at hb; exact hb)
  · rw [grd, if_neg hP] at hb
    cases hb
theorem j_if {P : Prop} {iP : Decidable P} (ht : P → Tg p l e R s m args below meth c D w A nL ce sl QQ K progA S pc lv st) (hf : ¬ P → Tg p l e R s m args below meth c D w A nL ce sl QQ K progB S pc lv st) : Tg p l e R s m args below meth c D w A nL ce sl QQ K (@ite _ P iP progA progB) S pc lv st := by
  intro r S1 hb
  by_cases hP : P
  · exact ht hP r S1 (by rw [if_pos hP] at hb; exact hb)
  · exact hf hP r S1 (by rw [if_neg hP] at hb; exact hb)
theorem j_sub {lv' : List (Nat × Value)} (ks : List Nat) (hl : lv_pick lv ks = lv') (h : Tg p l e R s m args below meth c D w A nL ce sl QQ K prog S pc lv' st) : Tg p l e R s m args below meth c D w A nL ce sl QQ K prog S pc lv st := fun r S1 hb H locs ls hP hD hS hv => h r S1 hb H locs ls hP hD hS (lv_sub hv ks hl)
/-- a piece, and what follows it -/
theorem j_seq {β' : Type} {q : Option β'} {F : β' → Option β} (h : Tg p l e R s m args below meth c D w A nL ce sl QQ (fun z => (F z).bind K) q S pc lv st) : Tg p l e R s m args below meth c D w A nL ce sl QQ K (q.bind F) S pc lv st := by
  intro r S1 hb
  exact h r S1 (by rw [Option.bind_assoc] at hb; exact hb)
theorem j_out {β' : Type} {z : β'} {F : β' → Option β} (h : Tg p l e R s m args below meth c D w A nL ce sl QQ K (F z) S pc lv st) : Tg p l e R s m args below meth c D w A nL ce sl QQ (fun z => (F z).bind K) (some z) S pc lv st := fun r S1 hb => h r S1 hb
theorem j_iret (C : Cx p s m args meth c own cc nL (some .int) D tys w A) {b : β} {r : α} {v : Int32} (hk : K b = some (r, S)) (hv : vv r = some (.int v)) (d : decode cc pc = .ok (.ireturn, 1)) : Tj p l e R s m args below meth c D w A nL vv K (some b) S pc lv [.int v] := by
  intro r' S1 hb H locs ls hP hD hS hl
  have h1 : some (r, S) = some (r', S1) := hk.symm.trans hb
  cases h1
  have hlk := C.hk
  exact W.iret C.hx C.hb C.hr (fun t ht hW => ⟨by rw [hv], by rw [ht]; exact hP, hS.F ht⟩) hS.2.2 d
theorem j_zret (C : Cx p s m args meth c own cc nL (some .boolean) D tys w A) {b : β} {r : α} {v : Int32} (hz : v = 0 ∨ v = 1) (hk : K b = some (r, S)) (hv : vv r = some (.int v)) (d : decode cc pc = .ok (.ireturn, 1)) : Tj p l e R s m args below meth c D w A nL vv K (some b) S pc lv [.int v] := by
  intro r' S1 hb H locs ls hP hD hS hl
  have h1 : some (r, S) = some (r', S1) := hk.symm.trans hb
  cases h1
  have hlk := C.hk
  exact W.zret (ty := .boolean) C.hx C.hb C.hr (by rcases hz with rfl | rfl <;> rfl) (fun t ht hW => ⟨by rw [hv], by rw [ht]; exact hP, hS.F ht⟩) hS.2.2 d
theorem j_lret (C : Cx p s m args meth c own cc nL (some .long) D tys w A) {b : β} {r : α} {v : Int64} (hk : K b = some (r, S)) (hv : vv r = some (.long v)) (d : decode cc pc = .ok (.lreturn, 1)) : Tj p l e R s m args below meth c D w A nL vv K (some b) S pc lv [.long v] := by
  intro r' S1 hb H locs ls hP hD hS hl
  have h1 : some (r, S) = some (r', S1) := hk.symm.trans hb
  cases h1
  have hlk := C.hk
  exact W.lret C.hx C.hb C.hr (fun t ht hW => ⟨by rw [hv], by rw [ht]; exact hP, hS.F ht⟩) hS.2.2 d
theorem j_vret (C : Cx p s m args meth c own cc nL none D tys w A) {b : β} {r : α} (hk : K b = some (r, S)) (hv : vv r = none) (d : decode cc pc = .ok (.return_, 1)) : Tj p l e R s m args below meth c D w A nL vv K (some b) S pc lv [] := by
  intro r' S1 hb H locs ls hP hD hS hl
  have h1 : some (r, S) = some (r', S1) := hk.symm.trans hb
  cases h1
  have hlk := C.hk
  exact W.vret C.hx C.hb C.hr (fun t ht hW => ⟨by rw [hv], by rw [ht]; exact hP, hS.F ht⟩) hS.2.2 d
-- fields
theorem j_get (C : Cx p s m args meth c own cc nL rt D tys w A) {Cn ref : String} {T : u_T} {N ci index a : Nat} {fs : List Value} {v : Value} (q0 k : Nat) (hin : ∀ q ∈ u_ws Cn T N, q ∈ wU) (hc : vwCl[ci]? = some (Cn, T, N)) (he : (w S)[q0]? = some (a, .inr (ci, fs))) (hv : fs[k]? = some v) (hk : k < N) (hrf : (T k).1 = ref) (hl : Cond.fieldLink own index ref (T k).2.1 (T k).2.2.1 ∈ wU) (d : decode cc pc = .ok (.getfield index, 3))
    (h : Tg p l e R s m args below meth c D w A nL ce sl QQ K prog S (pc + 3) lv (v :: rest)) : Tg p l e R s m args below meth c D w A nL ce sl QQ K prog S pc lv (.ref a :: rest) := fun r S1 hb H locs ls hP hD hS hlv =>
  va_get (ref := ref) C.hx C.hb C.hts hin C.hown C.hK hP q0 he hc k hk (C.hts _ hl) (fun z hz => by rw [← hrf]; exact hz) hv d (h r S1 hb H locs ls hP hD hS hlv)
theorem j_getN (C : Cx p s m args meth c own cc nL rt D tys w A) {Cn ref host : String} {T : u_T} {N ci index a : Nat} {fs : List Value} {v : Value} (q0 k : Nat) (hin : ∀ q ∈ u_ws Cn T N, q ∈ wU) (hc : vwCl[ci]? = some (Cn, T, N)) (he : (w S)[q0]? = some (a, .inr (ci, fs))) (hv : fs[k]? = some v) (hk : k < N) (hrf : (T k).1 = ref) (hl : Cond.fieldLinkNest own index ref (T k).2.1 (T k).2.2.1 host ∈ wN) (d : decode cc pc = .ok (.getfield index, 3))
    (h : Tg p l e R s m args below meth c D w A nL ce sl QQ K prog S (pc + 3) lv (v :: rest)) : Tg p l e R s m args below meth c D w A nL ce sl QQ K prog S pc lv (.ref a :: rest) := fun r S1 hb H locs ls hP hD hS hlv =>
  va_getN (ref := ref) C.hx C.hb C.hts hin C.hown C.hK hP q0 he hc k hk (va_Nw.use rfl (C.hN _ hl)) (fun z hz => by rw [← hrf]; exact hz) hv d (h r S1 hb H locs ls hP hD hS hlv)
theorem j_put (C : Cx p s m args meth c own cc nL rt D tys w A) {Cn ref : String} {T : u_T} {ty0 : Nat → FieldType} {N ci index a : Nat} {fs : List Value} {v : Value} {S2 : μ} {ty : FieldType} (q0 k : Nat) (hin : ∀ q ∈ u_ws Cn T N, q ∈ wU) (hty : ∀ k, k < N → parseFieldDescriptor (T k).2.2.1 = some (ty0 k)) (hnm : ∀ a, a < N → ∀ b, b < N → a ≠ b → (T a).2.1 ≠ (T b).2.1) (hc : vwCl[ci]? = some (Cn, T, N)) (he : (w S)[q0]? = some (a, .inr (ci, fs))) (hfs : k < fs.length) (hset : (w S).set q0 (a, .inr (ci, fs.set k v)) = w S2) (hk : k < N) (hrf : (T k).1 = ref) (hfin : (T k).2.2.2 = false) (hd : parseFieldDescriptor (T k).2.2.1 = some ty) (hn : narrow ty v = v) (hfit : fits ty v = true) (hl : Cond.fieldLink own index ref (T k).2.1 (T k).2.2.1 ∈ wU) (d : decode cc pc = .ok (.putfield index, 3))
    (h : Tg p l e R s m args below meth c D w A nL ce sl QQ K prog S2 (pc + 3) lv rest) : Tg p l e R s m args below meth c D w A nL ce sl QQ K prog S pc lv (v :: .ref a :: rest) := fun r S1 hb H locs ls hP hD hS hlv =>
  va_put (ref := ref) C.hx C.hb C.hts hin ty0 hty hnm C.hown C.hK hP (C.hD S) hS q0 he hc k hk (C.hts _ hl) (fun z hz => by rw [← hrf]; exact hz) hfin hd hn hfit hfs d (fun H1 locs1 hP1 _ hS1 => h r S1 hb H1 locs1 ls (by rw [hset] at hP1; exact hP1) (C.hD _) hS1 hlv)
theorem j_putN (C : Cx p s m args meth c own cc nL rt D tys w A) {Cn ref host : String} {T : u_T} {ty0 : Nat → FieldType} {N ci index a : Nat} {fs : List Value} {v : Value} {S2 : μ} {ty : FieldType} (q0 k : Nat) (hin : ∀ q ∈ u_ws Cn T N, q ∈ wU) (hty : ∀ k, k < N → parseFieldDescriptor (T k).2.2.1 = some (ty0 k)) (hnm : ∀ a, a < N → ∀ b, b < N → a ≠ b → (T a).2.1 ≠ (T b).2.1) (hc : vwCl[ci]? = some (Cn, T, N)) (he : (w S)[q0]? = some (a, .inr (ci, fs))) (hfs : k < fs.length) (hset : (w S).set q0 (a, .inr (ci, fs.set k v)) = w S2) (hk : k < N) (hrf : (T k).1 = ref) (hfin : (T k).2.2.2 = false) (hd : parseFieldDescriptor (T k).2.2.1 = some ty) (hn : narrow ty v = v) (hfit : fits ty v = true) (hl : Cond.fieldLinkNest own index ref (T k).2.1 (T k).2.2.1 host ∈ wN) (d : decode cc pc = .ok (.putfield index, 3))
    (h : Tg p l e R s m args below meth c D w A nL ce sl QQ K prog S2 (pc + 3) lv rest) : Tg p l e R s m args below meth c D w A nL ce sl QQ K prog S pc lv (v :: .ref a :: rest) := fun r S1 hb H locs ls hP hD hS hlv =>
  va_putN (ref := ref) C.hx C.hb C.hts hin ty0 hty hnm C.hown C.hK hP (C.hD S) hS q0 he hc k hk (va_Nw.use rfl (C.hN _ hl)) (fun z hz => by rw [← hrf]; exact hz) hfin hd hn hfit hfs d (fun H1 locs1 hP1 _ hS1 => h r S1 hb H1 locs1 ls (by rw [hset] at hP1; exact hP1) (C.hD _) hS1 hlv)
-- arrays
theorem j_iald (C : Cx p s m args meth c own cc nL rt D tys w A) (q0 t0 : Nat) {cA : ClassId} {n a : Nat} {f : Nat → Int32} {i : Int32} (ht : tys[t0]? = some (cA, .int)) (ha : (w S)[q0]? = some (a, .inl (cA, n, .inl f))) (hin : ¬ (i < 0 ∨ n ≤ i.toNatClampNeg)) (d : decode cc pc = .ok (.iaload, 1))
    (h : Tg p l e R s m args below meth c D w A nL ce sl QQ K prog S (pc + 1) lv (.int (f i.toNatClampNeg) :: rest)) : Tg p l e R s m args below meth c D w A nL ce sl QQ K prog S pc lv (.int i :: .ref a :: rest) := fun r S1 hb H locs ls hP hD hS hlv =>
  va_iald C.hx C.hb C.hK hP q0 t0 ha ht hin d (h r S1 hb H locs ls hP hD hS hlv)
theorem j_zald (C : Cx p s m args meth c own cc nL rt D tys w A) (q0 t0 : Nat) {cA : ClassId} {n a : Nat} {f : Nat → Int32} {i : Int32} (ht : tys[t0]? = some (cA, .boolean)) (ha : (w S)[q0]? = some (a, .inl (cA, n, .inl f))) (hin : ¬ (i < 0 ∨ n ≤ i.toNatClampNeg)) (d : decode cc pc = .ok (.baload, 1))
    (h : Tg p l e R s m args below meth c D w A nL ce sl QQ K prog S (pc + 1) lv (.int (f i.toNatClampNeg) :: rest)) : Tg p l e R s m args below meth c D w A nL ce sl QQ K prog S pc lv (.int i :: .ref a :: rest) := fun r S1 hb H locs ls hP hD hS hlv =>
  va_zald C.hx C.hb C.hK hP q0 t0 ha ht hin d (h r S1 hb H locs ls hP hD hS hlv)
theorem j_lald (C : Cx p s m args meth c own cc nL rt D tys w A) (q0 t0 : Nat) {cA : ClassId} {n a : Nat} {f : Nat → Int64} {i : Int32} (ht : tys[t0]? = some (cA, .long)) (ha : (w S)[q0]? = some (a, .inl (cA, n, .inr (.inl f)))) (hin : ¬ (i < 0 ∨ n ≤ i.toNatClampNeg)) (d : decode cc pc = .ok (.laload, 1))
    (h : Tg p l e R s m args below meth c D w A nL ce sl QQ K prog S (pc + 1) lv (.long (f i.toNatClampNeg) :: rest)) : Tg p l e R s m args below meth c D w A nL ce sl QQ K prog S pc lv (.int i :: .ref a :: rest) := fun r S1 hb H locs ls hP hD hS hlv =>
  va_lald C.hx C.hb C.hK hP q0 t0 ha ht hin d (h r S1 hb H locs ls hP hD hS hlv)
theorem j_iast (C : Cx p s m args meth c own cc nL rt D tys w A) (q0 t0 : Nat) {cA : ClassId} {n a : Nat} {f : Nat → Int32} {i v : Int32} {S2 : μ} (ht : tys[t0]? = some (cA, .int)) (ha : (w S)[q0]? = some (a, .inl (cA, n, .inl f))) (hset : (w S).set q0 (a, .inl (cA, n, .inl (upd f i.toNatClampNeg v))) = w S2) (hin : ¬ (i < 0 ∨ n ≤ i.toNatClampNeg)) (d : decode cc pc = .ok (.iastore, 1))
    (h : Tg p l e R s m args below meth c D w A nL ce sl QQ K prog S2 (pc + 1) lv rest) : Tg p l e R s m args below meth c D w A nL ce sl QQ K prog S pc lv (.int v :: .int i :: .ref a :: rest) := fun r S1 hb H locs ls hP hD hS hlv =>
  va_iast C.hx C.hb C.hK hP (C.hD S) hS q0 t0 ha ht hin d (fun H1 locs1 hP1 _ hS1 => h r S1 hb H1 locs1 ls (by rw [← hset]; exact hP1) (C.hD _) hS1 hlv)
theorem j_zast (C : Cx p s m args meth c own cc nL rt D tys w A) (q0 t0 : Nat) {cA : ClassId} {n a : Nat} {f : Nat → Int32} {i v : Int32} {S2 : μ} (hz : v = 0 ∨ v = 1) (ht : tys[t0]? = some (cA, .boolean)) (ha : (w S)[q0]? = some (a, .inl (cA, n, .inl f))) (hset : (w S).set q0 (a, .inl (cA, n, .inl (upd f i.toNatClampNeg v))) = w S2) (hin : ¬ (i < 0 ∨ n ≤ i.toNatClampNeg)) (d : decode cc pc = .ok (.bastore, 1))
    (h : Tg p l e R s m args below meth c D w A nL ce sl QQ K prog S2 (pc + 1) lv rest) : Tg p l e R s m args below meth c D w A nL ce sl QQ K prog S pc lv (.int v :: .int i :: .ref a :: rest) := fun r S1 hb H locs ls hP hD hS hlv =>
  va_zast C.hx C.hb C.hK hP (C.hD S) hS q0 t0 ha ht hin d (fun H1 locs1 hP1 _ hS1 => h r S1 hb H1 locs1 ls (by rw [← hset]; rw [show vp_nar .boolean v = v by rcases hz with rfl | rfl <;> rfl] at hP1; exact hP1) (C.hD _) hS1 hlv)
theorem j_last (C : Cx p s m args meth c own cc nL rt D tys w A) (q0 t0 : Nat) {cA : ClassId} {n a : Nat} {f : Nat → Int64} {i : Int32} {v : Int64} {S2 : μ} (ht : tys[t0]? = some (cA, .long)) (ha : (w S)[q0]? = some (a, .inl (cA, n, .inr (.inl f)))) (hset : (w S).set q0 (a, .inl (cA, n, .inr (.inl (vp_updL f i.toNatClampNeg v)))) = w S2) (hin : ¬ (i < 0 ∨ n ≤ i.toNatClampNeg)) (d : decode cc pc = .ok (.lastore, 1))
    (h : Tg p l e R s m args below meth c D w A nL ce sl QQ K prog S2 (pc + 1) lv rest) : Tg p l e R s m args below meth c D w A nL ce sl QQ K prog S pc lv (.long v :: .int i :: .ref a :: rest) := fun r S1 hb H locs ls hP hD hS hlv =>
  va_last C.hx C.hb C.hK hP (C.hD S) hS q0 t0 ha ht hin d (fun H1 locs1 hP1 _ hS1 => h r S1 hb H1 locs1 ls (by rw [← hset]; exact hP1) (C.hD _) hS1 hlv)
theorem j_alen (C : Cx p s m args meth c own cc nL rt D tys w A) (q0 t0 : Nat) {cA : ClassId} {a : Nat} {z : vp_A} {ty : FieldType} {v : Int32} (ht : tys[t0]? = some (cA, ty)) (ha : (w S)[q0]? = some (a, .inl (cA, z))) (hv : Int32.ofNat z.1 = v) (d : decode cc pc = .ok (.arraylength, 1))
    (h : Tg p l e R s m args below meth c D w A nL ce sl QQ K prog S (pc + 1) lv (.int v :: rest)) : Tg p l e R s m args below meth c D w A nL ce sl QQ K prog S pc lv (.ref a :: rest) := fun r S1 hb H locs ls hP hD hS hlv =>
  va_alen C.hx C.hb C.hK hP q0 t0 ha ht hv d (h r S1 hb H locs ls hP hD hS hlv)
theorem j_aald (C : Cx p s m args meth c own cc nL rt D tys w A) (q0 t0 : Nat) {cA : ClassId} {Cn : String} {n a b : Nat} {f : Nat → Option Nat} {i : Int32} (ht : tys[t0]? = some (cA, .object Cn)) (ha : (w S)[q0]? = some (a, .inl (cA, n, .inr (.inr (.inr (.inr f)))))) (hin : ¬ (i < 0 ∨ n ≤ i.toNatClampNeg)) (hf : f i.toNatClampNeg = some b) (d : decode cc pc = .ok (.aaload, 1))
    (h : Tg p l e R s m args below meth c D w A nL ce sl QQ K prog S (pc + 1) lv (.ref b :: rest)) : Tg p l e R s m args below meth c D w A nL ce sl QQ K prog S pc lv (.int i :: .ref a :: rest) := fun r S1 hb H locs ls hP hD hS hlv =>
  va_aldq C.hx C.hb C.hK hP q0 t0 ha ht hin d (by rw [hf]; exact h r S1 hb H locs ls hP hD hS hlv)
theorem j_aast (C : Cx p s m args meth c own cc nL rt D tys w A) (q0 t0 qk ci : Nat) {cA : ClassId} {r0 : vw_C} {n a b : Nat} {vs : List Value} {f : Nat → Option Nat} {i : Int32} {S2 : μ} (ht : tys[t0]? = some (cA, .object r0.1)) (ha : (w S)[q0]? = some (a, .inl (cA, n, .inr (.inr (.inr (.inr f)))))) (hb0 : (w S)[qk]? = some (b, .inr (ci, vs))) (hc : vwCl[ci]? = some r0) (hset : (w S).set q0 (a, .inl (cA, n, .inr (.inr (.inr (.inr (va_up f i.toNatClampNeg (some b))))))) = w S2) (hin : ¬ (i < 0 ∨ n ≤ i.toNatClampNeg)) (d : decode cc pc = .ok (.aastore, 1))
    (h : Tg p l e R s m args below meth c D w A nL ce sl QQ K prog S2 (pc + 1) lv rest) : Tg p l e R s m args below meth c D w A nL ce sl QQ K prog S pc lv (.ref b :: .int i :: .ref a :: rest) := fun r S1 hb H locs ls hP hD hS hlv =>
  va_astq C.hx C.hb C.hK hP (C.hD S) hS q0 t0 qk ci ha ht hb0 hc hin d (fun H1 locs1 hP1 _ hS1 => h r S1 hb H1 locs1 ls (by rw [← hset]; exact hP1) (C.hD _) hS1 hlv)
-- calls
theorem j_run {tgt : Option Value × μ} {ar : Array Value} {st0 : List Value} (C : Cx p s m args meth c own cc nL rt D tys w A) (hr : ∀ (H : Heap) (locs : List Loc) (ls : Array Slot), va_P D vwCl (w S) H → va_S A s.heap H locs → lv_has ls nL lv → va_Run p l e R s m args below meth c H locs ce sl 0 0 (F0 m pc ls st0) rest (Qg D w (va_A (w S) H.size) tgt ar) (va_A (w S) H.size))
    (h : Tg p l e R s m args below meth c D w A nL ce sl QQ K prog tgt.2 (pc + 3) lv (tgt.1.toList ++ rest)) : Tg p l e R s m args below meth c D w A nL ce sl QQ K prog S pc lv st0 := by
  intro r S1 hb H locs ls hP hD hS hlv T hT X
  have hsub : ∀ q, va_A (w S) H.size q → A q := fun q hq => by
    rcases hq with ⟨k, e0, hk⟩ | hq
    · exact (C.hD S).2 k _ hk
    · exact C.hA q (Nat.le_trans hS.1 hq)
  obtain ⟨v, st₀, t, T', L, h0, X', hL, e1, e2, ⟨hv, hP1, hz, hk⟩, stp⟩ := hr H locs ls hP hS hlv T hT X
  have hv' : v = tgt.1 := Outcome.returned.inj hv
  rw [h0] at hz hk
  have hS' : va_S A s.heap T'.heap (locs ++ L) := by
    refine ⟨Nat.le_trans hS.1 (by rw [e1]; exact hz), fun q h1 h2 => ?_, fun q hq => ?_⟩
    · rw [e1, hk q (Nat.lt_of_lt_of_le h1 hS.1) (fun z => h2 (hsub q z))]
      exact hS.2.1 q h1 h2
    · rcases List.mem_append.mp hq with h | h
      · exact hS.2.2 q h
      · exact hsub _ (hL q h)
  obtain ⟨t2, a1, b1⟩ := h r S1 hb T'.heap (locs ++ L) ls (by rw [e1]; exact hP1) (C.hD _) hS' hlv T' rfl X'
  exact ⟨t2, stp t2 (by rw [hv']; exact a1), b1⟩
def Yv (y : MethodName) (bytes : ByteArray) (maxL : Nat) (ry : Option FieldType) (n : Nat) : Prop := Cond.instanceMethod y ∈ wU ∧ Cond.selects y.cls y y ∈ wU ∧ Cond.initialized y.cls ∈ wU ∧ Cond.code y bytes maxL ry ∈ wU ∧ y.cls ≠ "java/lang/invoke/MethodHandle" ∧ y.cls ≠ "java/lang/invoke/VarHandle" ∧ (parseMethodDescriptor y.desc).map (fun d => d.parameters.length) = some n
def Ys (y : MethodName) (bytes : ByteArray) (maxL : Nat) (ry : Option FieldType) (n : Nat) : Prop := Cond.static y ∈ wU ∧ Cond.initialized y.cls ∈ wU ∧ Cond.code y bytes maxL ry ∈ wU ∧ y.cls ≠ "java/lang/invoke/MethodHandle" ∧ y.cls ≠ "java/lang/invoke/VarHandle" ∧ (parseMethodDescriptor y.desc).map (fun d => d.parameters.length) = some n
theorem c_blind {av : List Value} {sz : Nat} : FrameBlind (va_Pc av (fun U => U.heap.size = sz ∧ va_P D vwCl (w S) U.heap ∧ va_K D vwCl tys U ∧ (∀ q ∈ wN, va_Nw q U) ∧ va_D (fun _ => True) (w S))) := fun a U g mk q => by
  obtain ⟨q0, q1, qP, qK, qN, qD⟩ := q
  exact ⟨q0, q1, qP, va_K.moved (u := U) (U := U.calling g mk a) (Vm.Alike.refl U.vm) qK, wN_same (s := U) (U := U.calling g mk a) rfl qN, qD⟩
theorem c_pre (C : Cx p s m args meth c own cc nL rt D tys w A) {H : Heap} (hP : va_P D vwCl (w S) H) {av : List Value} : ∀ U : State, U.heap = H → s.WarmedH U.vm → va_Pc av (fun U => U.heap.size = H.size ∧ va_P D vwCl (w S) U.heap ∧ va_K D vwCl tys U ∧ (∀ q ∈ wN, va_Nw q U) ∧ va_D (fun _ => True) (w S)) av.toArray U := fun U hU hW => ⟨rfl, by rw [hU], by rw [hU]; exact hP, va_K.moved hW.alike C.hK, wN_warm hW C.hN, (C.hD S).weaken (fun _ _ _ _ => trivial)⟩
theorem j_callV (C : Cx p s m args meth c own cc nL rt D tys w A) {y : MethodName} {bytes : ByteArray} {maxL n index b : Nat} {ry : Option FieldType} {rm : Room} {As : List Value} {tgt : Option Value × μ} {fs : List Value} {N : Nat} {T : u_T} (q0 ci : Nat) (Y : Yv y bytes maxL ry n) (hl : Cond.methodLink own index y ∈ wU) (hM : Ctr l y bytes maxL ry rm D tys w (.ref b :: As) S tgt) (hrc : rm.cells = 0) (hrs : rm.slots = 0) (hR : rm.frames + 1 ≤ R.frames ∧ 8 + (maxL + 11) + rm.locals ≤ R.locals) (hc : vwCl[ci]? = some (y.cls, T, N)) (he : (w S)[q0]? = some (b, .inr (ci, fs))) (hn : As.length = n) (hst : st = As.reverse ++ .ref b :: rest) (hW : (rest.map fun v => v.category).sum ≤ 8) (d : decode cc pc = .ok (.invokevirtual index, 3))
    (h : Tg p l e R s m args below meth c D w A nL ce sl QQ K prog tgt.2 (pc + 3) lv (tgt.1.toList ++ rest)) (hcs : ce ≤ R.cells ∧ sl ≤ R.slots := by exact ⟨Nat.zero_le _, Nat.zero_le _⟩) : Tg p l e R s m args below meth c D w A nL ce sl QQ K prog S pc lv st := by
  obtain ⟨y1, y2, y3, y4, y5⟩ := Y
  refine j_run (ar := (.ref b :: As).toArray) C (fun H locs ls hP hS hlv => ?_) h
  exact va_runV (C := y.cls) (n := n) ⟨C.hx, C.hb, C.hml, C.hown, C.hts⟩ (hM H.size) (cwV n C.hts (goodIn_cons hl wU_good (goodIn_cons y1 wU_good (goodIn_cons y2 wU_good (goodIn_cons y3 wU_good (goodIn_cons y4 wU_good wU_good))))) rfl hrc hrs ⟨rfl, y5⟩ hR) ⟨c_blind, va_recv C.hK hP hc he, c_pre C hP⟩ rfl hn hlv.1 hst (lv_room hW) d hcs
theorem j_callVN (C : Cx p s m args meth c own cc nL rt D tys w A) {y : MethodName} {host : String} {bytes : ByteArray} {maxL n index b : Nat} {ry : Option FieldType} {rm : Room} {As : List Value} {tgt : Option Value × μ} {fs : List Value} {N : Nat} {T : u_T} (q0 ci : Nat) (Y : Yv y bytes maxL ry n) (hl : Cond.methodLinkNest own index y host ∈ wN) (hM : Ctr l y bytes maxL ry rm D tys w (.ref b :: As) S tgt) (hrc : rm.cells = 0) (hrs : rm.slots = 0) (hR : rm.frames + 1 ≤ R.frames ∧ 8 + (maxL + 11) + rm.locals ≤ R.locals) (hc : vwCl[ci]? = some (y.cls, T, N)) (he : (w S)[q0]? = some (b, .inr (ci, fs))) (hn : As.length = n) (hst : st = As.reverse ++ .ref b :: rest) (hW : (rest.map fun v => v.category).sum ≤ 8) (d : decode cc pc = .ok (.invokevirtual index, 3))
    (h : Tg p l e R s m args below meth c D w A nL ce sl QQ K prog tgt.2 (pc + 3) lv (tgt.1.toList ++ rest)) (hcs : ce ≤ R.cells ∧ sl ≤ R.slots := by exact ⟨Nat.zero_le _, Nat.zero_le _⟩) : Tg p l e R s m args below meth c D w A nL ce sl QQ K prog S pc lv st := by
  obtain ⟨y1, y2, y3, y4, y5⟩ := Y
  refine j_run (ar := (.ref b :: As).toArray) C (fun H locs ls hP hS hlv => ?_) h
  exact va_runVN (C := y.cls) (n := n) ⟨C.hx, C.hb, C.hml, C.hown, C.hts⟩ (hM H.size) ⟨va_cnB n C.hts (goodIn_cons y4 wU_good wU_good) rfl hrc hrs (C.hN _ hl) (C.hts _ y3) y5 hR, C.hts _ y1, C.hts _ y2⟩ ⟨c_blind, va_recv C.hK hP hc he, c_pre C hP⟩ rfl hn hlv.1 hst (lv_room hW) d hcs
theorem j_callS (C : Cx p s m args meth c own cc nL rt D tys w A) {y : MethodName} {bytes : ByteArray} {maxL n index : Nat} {ry : Option FieldType} {rm : Room} {As : List Value} {tgt : Option Value × μ} (Y : Ys y bytes maxL ry n) (hl : Cond.methodLink own index y ∈ wU) (hM : Ctr l y bytes maxL ry rm D tys w As S tgt) (hrc : rm.cells = 0) (hrs : rm.slots = 0) (hR : rm.frames + 1 ≤ R.frames ∧ 8 + (maxL + 11) + rm.locals ≤ R.locals) (hn : As.length = n) (hst : st = As.reverse ++ rest) (hW : (rest.map fun v => v.category).sum ≤ 8) (d : decode cc pc = .ok (.invokestatic index, 3))
    (h : Tg p l e R s m args below meth c D w A nL ce sl QQ K prog tgt.2 (pc + 3) lv (tgt.1.toList ++ rest)) (hcs : ce ≤ R.cells ∧ sl ≤ R.slots := by exact ⟨Nat.zero_le _, Nat.zero_le _⟩) : Tg p l e R s m args below meth c D w A nL ce sl QQ K prog S pc lv st := by
  obtain ⟨y1, y3, y4, y5⟩ := Y
  refine j_run (ar := As.toArray) C (fun H locs ls hP hS hlv => ?_) h
  exact va_runS (n := n) ⟨C.hx, C.hb, C.hml, C.hown, C.hts⟩ (hM H.size) ⟨callB_of n C.hts (goodIn_cons y4 wU_good wU_good) rfl hrc hrs (C.hts _ y3) (C.hts _ hl) y5 hR, C.hts _ y1⟩ ⟨c_blind, c_pre C hP⟩ rfl hn hlv.1 hst (lv_room hW) d hcs
theorem j_callSN (C : Cx p s m args meth c own cc nL rt D tys w A) {y : MethodName} {host : String} {bytes : ByteArray} {maxL n index : Nat} {ry : Option FieldType} {rm : Room} {As : List Value} {tgt : Option Value × μ} (Y : Ys y bytes maxL ry n) (hl : Cond.methodLinkNest own index y host ∈ wN) (hM : Ctr l y bytes maxL ry rm D tys w As S tgt) (hrc : rm.cells = 0) (hrs : rm.slots = 0) (hR : rm.frames + 1 ≤ R.frames ∧ 8 + (maxL + 11) + rm.locals ≤ R.locals) (hn : As.length = n) (hst : st = As.reverse ++ rest) (hW : (rest.map fun v => v.category).sum ≤ 8) (d : decode cc pc = .ok (.invokestatic index, 3))
    (h : Tg p l e R s m args below meth c D w A nL ce sl QQ K prog tgt.2 (pc + 3) lv (tgt.1.toList ++ rest)) (hcs : ce ≤ R.cells ∧ sl ≤ R.slots := by exact ⟨Nat.zero_le _, Nat.zero_le _⟩) : Tg p l e R s m args below meth c D w A nL ce sl QQ K prog S pc lv st := by
  obtain ⟨y1, y3, y4, y5⟩ := Y
  refine j_run (ar := As.toArray) C (fun H locs ls hP hS hlv => ?_) h
  exact va_runSN (n := n) ⟨C.hx, C.hb, C.hml, C.hown, C.hts⟩ (hM H.size) ⟨va_cnB n C.hts (goodIn_cons y4 wU_good wU_good) rfl hrc hrs (C.hN _ hl) (C.hts _ y3) y5 hR, C.hts _ y1, trivial⟩ ⟨c_blind, c_pre C hP⟩ rfl hn hlv.1 hst (lv_room hW) d hcs
/-- a call's answer out of the callee's pure program -/
theorem j_bind {γ : Type} {g : Option (γ × μ)} {F : γ × μ → Option β} (h : ∀ (r : γ) (S' : μ), g = some (r, S') → Tg p l e R s m args below meth c D w A nL ce sl QQ K (F (r, S')) S pc lv st) : Tg p l e R s m args below meth c D w A nL ce sl QQ K (g.bind F) S pc lv st := by
  intro r S1 hb
  cases hg : g with
  | none => rw [hg] at hb; cases hb
  | some z => exact h z.1 z.2 hg r S1 (by rw [hg] at hb; exact hb)
theorem j_callVi (C : Cx p s m args meth c own cc nL rt D tys w A) {y : MethodName} {bytes : ByteArray} {maxL n index b : Nat} {ry : Option FieldType} {rm : Room} {As : List Value} {rr : Int32} {S2 : μ} {fs : List Value} {N : Nat} {T : u_T} (q0 ci : Nat) (Y : Yv y bytes maxL ry n) (hl : Cond.methodLink own index y ∈ wU) (hM : Ctr l y bytes maxL ry rm D tys w (.ref b :: As) S (vI rr, S2)) (hrc : rm.cells = 0) (hrs : rm.slots = 0) (hR : rm.frames + 1 ≤ R.frames ∧ 8 + (maxL + 11) + rm.locals ≤ R.locals) (hc : vwCl[ci]? = some (y.cls, T, N)) (he : (w S)[q0]? = some (b, .inr (ci, fs))) (hn : As.length = n) (hst : st = As.reverse ++ .ref b :: rest) (hW : (rest.map fun v => v.category).sum ≤ 8) (d : decode cc pc = .ok (.invokevirtual index, 3))
    (h : Tg p l e R s m args below meth c D w A nL ce sl QQ K prog S2 (pc + 3) lv (.int rr :: rest)) (hcs : ce ≤ R.cells ∧ sl ≤ R.slots := by exact ⟨Nat.zero_le _, Nat.zero_le _⟩) : Tg p l e R s m args below meth c D w A nL ce sl QQ K prog S pc lv st := j_callV C q0 ci Y hl hM hrc hrs hR hc he hn hst hW d h hcs
theorem j_callVl (C : Cx p s m args meth c own cc nL rt D tys w A) {y : MethodName} {bytes : ByteArray} {maxL n index b : Nat} {ry : Option FieldType} {rm : Room} {As : List Value} {rr : Int64} {S2 : μ} {fs : List Value} {N : Nat} {T : u_T} (q0 ci : Nat) (Y : Yv y bytes maxL ry n) (hl : Cond.methodLink own index y ∈ wU) (hM : Ctr l y bytes maxL ry rm D tys w (.ref b :: As) S (vL rr, S2)) (hrc : rm.cells = 0) (hrs : rm.slots = 0) (hR : rm.frames + 1 ≤ R.frames ∧ 8 + (maxL + 11) + rm.locals ≤ R.locals) (hc : vwCl[ci]? = some (y.cls, T, N)) (he : (w S)[q0]? = some (b, .inr (ci, fs))) (hn : As.length = n) (hst : st = As.reverse ++ .ref b :: rest) (hW : (rest.map fun v => v.category).sum ≤ 8) (d : decode cc pc = .ok (.invokevirtual index, 3))
    (h : Tg p l e R s m args below meth c D w A nL ce sl QQ K prog S2 (pc + 3) lv (.long rr :: rest)) (hcs : ce ≤ R.cells ∧ sl ≤ R.slots := by exact ⟨Nat.zero_le _, Nat.zero_le _⟩) : Tg p l e R s m args below meth c D w A nL ce sl QQ K prog S pc lv st := j_callV C q0 ci Y hl hM hrc hrs hR hc he hn hst hW d h hcs
theorem j_callVv (C : Cx p s m args meth c own cc nL rt D tys w A) {y : MethodName} {bytes : ByteArray} {maxL n index b : Nat} {ry : Option FieldType} {rm : Room} {As : List Value} {rr : Unit} {S2 : μ} {fs : List Value} {N : Nat} {T : u_T} (q0 ci : Nat) (Y : Yv y bytes maxL ry n) (hl : Cond.methodLink own index y ∈ wU) (hM : Ctr l y bytes maxL ry rm D tys w (.ref b :: As) S (vV rr, S2)) (hrc : rm.cells = 0) (hrs : rm.slots = 0) (hR : rm.frames + 1 ≤ R.frames ∧ 8 + (maxL + 11) + rm.locals ≤ R.locals) (hc : vwCl[ci]? = some (y.cls, T, N)) (he : (w S)[q0]? = some (b, .inr (ci, fs))) (hn : As.length = n) (hst : st = As.reverse ++ .ref b :: rest) (hW : (rest.map fun v => v.category).sum ≤ 8) (d : decode cc pc = .ok (.invokevirtual index, 3))
    (h : Tg p l e R s m args below meth c D w A nL ce sl QQ K prog S2 (pc + 3) lv (rest)) (hcs : ce ≤ R.cells ∧ sl ≤ R.slots := by exact ⟨Nat.zero_le _, Nat.zero_le _⟩) : Tg p l e R s m args below meth c D w A nL ce sl QQ K prog S pc lv st := j_callV C q0 ci Y hl hM hrc hrs hR hc he hn hst hW d h hcs
theorem j_callVNi (C : Cx p s m args meth c own cc nL rt D tys w A) {y : MethodName} {host : String} {bytes : ByteArray} {maxL n index b : Nat} {ry : Option FieldType} {rm : Room} {As : List Value} {rr : Int32} {S2 : μ} {fs : List Value} {N : Nat} {T : u_T} (q0 ci : Nat) (Y : Yv y bytes maxL ry n) (hl : Cond.methodLinkNest own index y host ∈ wN) (hM : Ctr l y bytes maxL ry rm D tys w (.ref b :: As) S (vI rr, S2)) (hrc : rm.cells = 0) (hrs : rm.slots = 0) (hR : rm.frames + 1 ≤ R.frames ∧ 8 + (maxL + 11) + rm.locals ≤ R.locals) (hc : vwCl[ci]? = some (y.cls, T, N)) (he : (w S)[q0]? = some (b, .inr (ci, fs))) (hn : As.length = n) (hst : st = As.reverse ++ .ref b :: rest) (hW : (rest.map fun v => v.category).sum ≤ 8) (d : decode cc pc = .ok (.invokevirtual index, 3))
    (h : Tg p l e R s m args below meth c D w A nL ce sl QQ K prog S2 (pc + 3) lv (.int rr :: rest)) (hcs : ce ≤ R.cells ∧ sl ≤ R.slots := by exact ⟨Nat.zero_le _, Nat.zero_le _⟩) : Tg p l e R s m args below meth c D w A nL ce sl QQ K prog S pc lv st := j_callVN C q0 ci Y hl hM hrc hrs hR hc he hn hst hW d h hcs
theorem j_callVNl (C : Cx p s m args meth c own cc nL rt D tys w A) {y : MethodName} {host : String} {bytes : ByteArray} {maxL n index b : Nat} {ry : Option FieldType} {rm : Room} {As : List Value} {rr : Int64} {S2 : μ} {fs : List Value} {N : Nat} {T : u_T} (q0 ci : Nat) (Y : Yv y bytes maxL ry n) (hl : Cond.methodLinkNest own index y host ∈ wN) (hM : Ctr l y bytes maxL ry rm D tys w (.ref b :: As) S (vL rr, S2)) (hrc : rm.cells = 0) (hrs : rm.slots = 0) (hR : rm.frames + 1 ≤ R.frames ∧ 8 + (maxL + 11) + rm.locals ≤ R.locals) (hc : vwCl[ci]? = some (y.cls, T, N)) (he : (w S)[q0]? = some (b, .inr (ci, fs))) (hn : As.length = n) (hst : st = As.reverse ++ .ref b :: rest) (hW : (rest.map fun v => v.category).sum ≤ 8) (d : decode cc pc = .ok (.invokevirtual index, 3))
    (h : Tg p l e R s m args below meth c D w A nL ce sl QQ K prog S2 (pc + 3) lv (.long rr :: rest)) (hcs : ce ≤ R.cells ∧ sl ≤ R.slots := by exact ⟨Nat.zero_le _, Nat.zero_le _⟩) : Tg p l e R s m args below meth c D w A nL ce sl QQ K prog S pc lv st := j_callVN C q0 ci Y hl hM hrc hrs hR hc he hn hst hW d h hcs
theorem j_callVNv (C : Cx p s m args meth c own cc nL rt D tys w A) {y : MethodName} {host : String} {bytes : ByteArray} {maxL n index b : Nat} {ry : Option FieldType} {rm : Room} {As : List Value} {rr : Unit} {S2 : μ} {fs : List Value} {N : Nat} {T : u_T} (q0 ci : Nat) (Y : Yv y bytes maxL ry n) (hl : Cond.methodLinkNest own index y host ∈ wN) (hM : Ctr l y bytes maxL ry rm D tys w (.ref b :: As) S (vV rr, S2)) (hrc : rm.cells = 0) (hrs : rm.slots = 0) (hR : rm.frames + 1 ≤ R.frames ∧ 8 + (maxL + 11) + rm.locals ≤ R.locals) (hc : vwCl[ci]? = some (y.cls, T, N)) (he : (w S)[q0]? = some (b, .inr (ci, fs))) (hn : As.length = n) (hst : st = As.reverse ++ .ref b :: rest) (hW : (rest.map fun v => v.category).sum ≤ 8) (d : decode cc pc = .ok (.invokevirtual index, 3))
    (h : Tg p l e R s m args below meth c D w A nL ce sl QQ K prog S2 (pc + 3) lv (rest)) (hcs : ce ≤ R.cells ∧ sl ≤ R.slots := by exact ⟨Nat.zero_le _, Nat.zero_le _⟩) : Tg p l e R s m args below meth c D w A nL ce sl QQ K prog S pc lv st := j_callVN C q0 ci Y hl hM hrc hrs hR hc he hn hst hW d h hcs
theorem j_callSi (C : Cx p s m args meth c own cc nL rt D tys w A) {y : MethodName} {bytes : ByteArray} {maxL n index : Nat} {ry : Option FieldType} {rm : Room} {As : List Value} {rr : Int32} {S2 : μ} (Y : Ys y bytes maxL ry n) (hl : Cond.methodLink own index y ∈ wU) (hM : Ctr l y bytes maxL ry rm D tys w As S (vI rr, S2)) (hrc : rm.cells = 0) (hrs : rm.slots = 0) (hR : rm.frames + 1 ≤ R.frames ∧ 8 + (maxL + 11) + rm.locals ≤ R.locals) (hn : As.length = n) (hst : st = As.reverse ++ rest) (hW : (rest.map fun v => v.category).sum ≤ 8) (d : decode cc pc = .ok (.invokestatic index, 3))
    (h : Tg p l e R s m args below meth c D w A nL ce sl QQ K prog S2 (pc + 3) lv (.int rr :: rest)) (hcs : ce ≤ R.cells ∧ sl ≤ R.slots := by exact ⟨Nat.zero_le _, Nat.zero_le _⟩) : Tg p l e R s m args below meth c D w A nL ce sl QQ K prog S pc lv st := j_callS C Y hl hM hrc hrs hR hn hst hW d h hcs
theorem j_callSl (C : Cx p s m args meth c own cc nL rt D tys w A) {y : MethodName} {bytes : ByteArray} {maxL n index : Nat} {ry : Option FieldType} {rm : Room} {As : List Value} {rr : Int64} {S2 : μ} (Y : Ys y bytes maxL ry n) (hl : Cond.methodLink own index y ∈ wU) (hM : Ctr l y bytes maxL ry rm D tys w As S (vL rr, S2)) (hrc : rm.cells = 0) (hrs : rm.slots = 0) (hR : rm.frames + 1 ≤ R.frames ∧ 8 + (maxL + 11) + rm.locals ≤ R.locals) (hn : As.length = n) (hst : st = As.reverse ++ rest) (hW : (rest.map fun v => v.category).sum ≤ 8) (d : decode cc pc = .ok (.invokestatic index, 3))
    (h : Tg p l e R s m args below meth c D w A nL ce sl QQ K prog S2 (pc + 3) lv (.long rr :: rest)) (hcs : ce ≤ R.cells ∧ sl ≤ R.slots := by exact ⟨Nat.zero_le _, Nat.zero_le _⟩) : Tg p l e R s m args below meth c D w A nL ce sl QQ K prog S pc lv st := j_callS C Y hl hM hrc hrs hR hn hst hW d h hcs
theorem j_callSv (C : Cx p s m args meth c own cc nL rt D tys w A) {y : MethodName} {bytes : ByteArray} {maxL n index : Nat} {ry : Option FieldType} {rm : Room} {As : List Value} {rr : Unit} {S2 : μ} (Y : Ys y bytes maxL ry n) (hl : Cond.methodLink own index y ∈ wU) (hM : Ctr l y bytes maxL ry rm D tys w As S (vV rr, S2)) (hrc : rm.cells = 0) (hrs : rm.slots = 0) (hR : rm.frames + 1 ≤ R.frames ∧ 8 + (maxL + 11) + rm.locals ≤ R.locals) (hn : As.length = n) (hst : st = As.reverse ++ rest) (hW : (rest.map fun v => v.category).sum ≤ 8) (d : decode cc pc = .ok (.invokestatic index, 3))
    (h : Tg p l e R s m args below meth c D w A nL ce sl QQ K prog S2 (pc + 3) lv (rest)) (hcs : ce ≤ R.cells ∧ sl ≤ R.slots := by exact ⟨Nat.zero_le _, Nat.zero_le _⟩) : Tg p l e R s m args below meth c D w A nL ce sl QQ K prog S pc lv st := j_callS C Y hl hM hrc hrs hR hn hst hW d h hcs
theorem j_callSNi (C : Cx p s m args meth c own cc nL rt D tys w A) {y : MethodName} {host : String} {bytes : ByteArray} {maxL n index : Nat} {ry : Option FieldType} {rm : Room} {As : List Value} {rr : Int32} {S2 : μ} (Y : Ys y bytes maxL ry n) (hl : Cond.methodLinkNest own index y host ∈ wN) (hM : Ctr l y bytes maxL ry rm D tys w As S (vI rr, S2)) (hrc : rm.cells = 0) (hrs : rm.slots = 0) (hR : rm.frames + 1 ≤ R.frames ∧ 8 + (maxL + 11) + rm.locals ≤ R.locals) (hn : As.length = n) (hst : st = As.reverse ++ rest) (hW : (rest.map fun v => v.category).sum ≤ 8) (d : decode cc pc = .ok (.invokestatic index, 3))
    (h : Tg p l e R s m args below meth c D w A nL ce sl QQ K prog S2 (pc + 3) lv (.int rr :: rest)) (hcs : ce ≤ R.cells ∧ sl ≤ R.slots := by exact ⟨Nat.zero_le _, Nat.zero_le _⟩) : Tg p l e R s m args below meth c D w A nL ce sl QQ K prog S pc lv st := j_callSN C Y hl hM hrc hrs hR hn hst hW d h hcs
theorem j_callSNl (C : Cx p s m args meth c own cc nL rt D tys w A) {y : MethodName} {host : String} {bytes : ByteArray} {maxL n index : Nat} {ry : Option FieldType} {rm : Room} {As : List Value} {rr : Int64} {S2 : μ} (Y : Ys y bytes maxL ry n) (hl : Cond.methodLinkNest own index y host ∈ wN) (hM : Ctr l y bytes maxL ry rm D tys w As S (vL rr, S2)) (hrc : rm.cells = 0) (hrs : rm.slots = 0) (hR : rm.frames + 1 ≤ R.frames ∧ 8 + (maxL + 11) + rm.locals ≤ R.locals) (hn : As.length = n) (hst : st = As.reverse ++ rest) (hW : (rest.map fun v => v.category).sum ≤ 8) (d : decode cc pc = .ok (.invokestatic index, 3))
    (h : Tg p l e R s m args below meth c D w A nL ce sl QQ K prog S2 (pc + 3) lv (.long rr :: rest)) (hcs : ce ≤ R.cells ∧ sl ≤ R.slots := by exact ⟨Nat.zero_le _, Nat.zero_le _⟩) : Tg p l e R s m args below meth c D w A nL ce sl QQ K prog S pc lv st := j_callSN C Y hl hM hrc hrs hR hn hst hW d h hcs
theorem j_callSNv (C : Cx p s m args meth c own cc nL rt D tys w A) {y : MethodName} {host : String} {bytes : ByteArray} {maxL n index : Nat} {ry : Option FieldType} {rm : Room} {As : List Value} {rr : Unit} {S2 : μ} (Y : Ys y bytes maxL ry n) (hl : Cond.methodLinkNest own index y host ∈ wN) (hM : Ctr l y bytes maxL ry rm D tys w As S (vV rr, S2)) (hrc : rm.cells = 0) (hrs : rm.slots = 0) (hR : rm.frames + 1 ≤ R.frames ∧ 8 + (maxL + 11) + rm.locals ≤ R.locals) (hn : As.length = n) (hst : st = As.reverse ++ rest) (hW : (rest.map fun v => v.category).sum ≤ 8) (d : decode cc pc = .ok (.invokestatic index, 3))
    (h : Tg p l e R s m args below meth c D w A nL ce sl QQ K prog S2 (pc + 3) lv (rest)) (hcs : ce ≤ R.cells ∧ sl ≤ R.slots := by exact ⟨Nat.zero_le _, Nat.zero_le _⟩) : Tg p l e R s m args below meth c D w A nL ce sl QQ K prog S pc lv st := j_callSN C Y hl hM hrc hrs hR hn hst hW d h hcs
/-- a loop, and what follows it -/
def seqM {μ γ β : Type} (o : Option (μ × γ)) (F : μ → γ → Option β) : Option β := o.bind (fun z => F z.1 z.2)
def rsel {ρ μ γ β : Type} (E : ρ → Option β) (F : μ → γ → Option β) (z : ρ ⊕ (μ × γ)) : Option β := match z with
  | .inl t => E t
  | .inr q => F q.1 q.2
def seqR {ρ μ γ β : Type} (o : Option (ρ ⊕ (μ × γ))) (E : ρ → Option β) (F : μ → γ → Option β) : Option β := o.bind (rsel E F)
def kM {μ α β γ : Type} (F : μ → γ → Option β) (K : β → Option (α × μ)) : μ × γ → Option (α × μ) := fun z => (F z.1 z.2).bind K
def kR {ρ μ α β γ : Type} (E : ρ → Option β) (F : μ → γ → Option β) (K : β → Option (α × μ)) : ρ ⊕ (μ × γ) → Option (α × μ) := fun z => (rsel E F z).bind K
theorem j_seqM {o : Option (μ × γ)} {F : μ → γ → Option β} (h : Tg p l e R s m args below meth c D w A nL ce sl QQ (kM F K) o S pc lv st) : Tg p l e R s m args below meth c D w A nL ce sl QQ K (seqM o F) S pc lv st := j_seq h
theorem j_outM {F : μ → γ → Option β} {S' : μ} {y : γ} {S0 : μ} (h : Tg p l e R s m args below meth c D w A nL ce sl QQ K (F S' y) S0 pc lv st) : Tg p l e R s m args below meth c D w A nL ce sl QQ (kM F K) (some (S', y)) S0 pc lv st := fun r S1 hb => h r S1 hb
theorem j_seqR {ρ : Type} {o : Option (ρ ⊕ (μ × γ))} {E : ρ → Option β} {F : μ → γ → Option β} (h : Tg p l e R s m args below meth c D w A nL ce sl QQ (kR E F K) o S pc lv st) : Tg p l e R s m args below meth c D w A nL ce sl QQ K (seqR o E F) S pc lv st := j_seq h
theorem j_outR {ρ : Type} {E : ρ → Option β} {F : μ → γ → Option β} {S' : μ} {y : γ} {S0 : μ} (h : Tg p l e R s m args below meth c D w A nL ce sl QQ K (F S' y) S0 pc lv st) : Tg p l e R s m args below meth c D w A nL ce sl QQ (kR E F K) (some (.inr (S', y))) S0 pc lv st := fun r S1 hb => h r S1 hb
theorem j_none : Tg p l e R s m args below meth c D w A nL ce sl QQ K none S pc lv st := fun r S1 hb => by cases hb
theorem Ctr.of {y : MethodName} {av : List Value} {lv0 : List (Nat × Value)} {rm : Room} {prog : Option (α × μ)} (hy : plainName y.cls = true) (hrc : rm.cells = 0) (hw : ∀ S S' : μ, (w S).map Prod.fst = (w S').map Prod.fst) (hlen : (lg_sl av).length ≤ nL) (hl0 : lv_args 0 av = lv0)
    (body : ∀ (p : Program) (e : Env) (s : State) (m : MethodId) (args : Array Value) (below : List Frame) (meth : Method) (c : Code) (A : Nat → Prop), Cx p s m args meth c y.cls cc nL rt D tys w A → Tj p l e rm s m args below meth c D w A nL vv some prog S 0 lv0 []) (r : α) (S1 : μ) (hp : prog = some (r, S1)) : Ctr l y cc nL rt rm D tys w av S (vv r, S1) := by
  intro sz
  refine Met.ofW (cc := cc) (maxL := nL) (ret := rt) hy rfl ?_
  intro p e s m args below meth c s₁ B hml hv
  obtain ⟨rfl, hsz, hP, hK, hN, hD0⟩ := hv
  subst hsz
  have hts := atoms_spec (ws := .code y cc nL rt :: wU) B.pre
  have hD := hD0.self (sz := s.heap.size)
  have C : Cx p s m av.toArray meth c y.cls cc nL rt D tys w (va_A (w S) s.heap.size) := ⟨B.exec, B.bytes, hml, findClass_of_methodNamed B.named, fun q hq => hts q (List.mem_cons_of_mem _ hq), hN, hK, fun S' => w_D hw hD S', fun q hq => Or.inr hq, B.returns, B.notSynchronized⟩
  have hl := lv_entry av (n := nL) hlen
  rw [lg_entry_eq]
  exact body p e s m av.toArray below meth c _ C r S1 (by rw [hp]; rfl) s.heap [] _ hP (w_D hw hD S) va_S.rf (by rw [← hl0]; exact hl)
end GO
