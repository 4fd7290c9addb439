/-! more rows: named answers, counters -/
def bnd {μ γ β : Type} (o : Option (γ × μ)) (F : γ → μ → Option β) : Option β := o.bind (fun z => F z.1 z.2)
def sK (S : Mem) (j : Nat) (f : Nat → Int32) : Mem := (S.1, S.2.1, S.2.2.1, S.2.2.2.1, va_up S.2.2.2.2 j f)
section GO3
variable {p : Program} {l : Launch} {e : Env} {R : Room} {s : State} {m : MethodId} {args : Array Value} {below : List Frame} {meth : Method} {c : Code}
variable {μ : Type} {own : String} {cc : ByteArray} {nL : Nat} {rt : Option FieldType} {D : va_G} {tys : List (ClassId × FieldType)} {w : μ → va_W} {A : Nat → Prop}
variable {α β γ δ : Type} {vv : α → Option Value} {ce sl : Nat} {QQ : α → μ → State → Prop} {K : β → Option (α × μ)} {prog progA progB : Option β} {S : μ} {pc : Nat} {lv : List (Nat × Value)} {rest st : List Value}
theorem j_bnd {g : Option (γ × μ)} {F : γ → μ → Option β} (h : ∀ (r : γ) (S' : μ), g = some (r, S') → Tg p l e R s m args below meth c D w A nL ce sl QQ K (F r S') S pc lv st) : Tg p l e R s m args below meth c D w A nL ce sl QQ K (bnd g F) S pc lv st := j_bind h
theorem j_iincN (C : Cx p s m args meth c own cc nL rt D tys w A) {i : Nat} {n : Int} {x n2 : Int32} {lv2 : Int32 → List (Nat × Value)} {k : Int32 → Option β} (q : Nat) (hq : lv[q]? = some (i, .int x)) (hv : Int32.ofInt n = n2) (hn : i < nL) (hl : ∀ v, (i, Value.int v) :: lv.filter (fun q => !(q.1 == i) && !(q.1 + 1 == i && q.2.category == 2)) = lv2 v) (d : decode cc pc = .ok (.iinc i n, 3))
    (h : ∀ v : Int32, Tg p l e R s m args below meth c D w A nL ce sl QQ K (k v) S (pc + 3) (lv2 v) st) : Tg p l e R s m args below meth c D w A nL ce sl QQ K (lt (x + n2) k) S pc lv st := j_iinc C q hq (by rw [hv]) hn (hl (x + n2)) d (h (x + n2))
end GO3
section GO4
variable {p : Program} {l : Launch} {e : Env} {R : Room} {s : State} {m : MethodId} {args : Array Value} {below : List Frame} {meth : Method} {c : Code}
variable {own : String} {cc : ByteArray} {nL : Nat} {rt : Option FieldType} {D : va_G} {A : Nat → Prop}
variable {α β γ δ : Type} {vv : α → Option Value} {ce sl : Nat} {QQ : α → Mem → State → Prop} {K : β → Option (α × Mem)} {prog progA progB : Option β} {S : Mem} {pc : Nat} {lv : List (Nat × Value)} {rest st : List Value}
variable {cI cJ cZ cL : ClassId} {a : Nat → Nat}
theorem wdC_setK {S : Mem} {j : Nat} {f : Nat → Int32} (hj : j < 25) : (wdC cI cJ cZ cL a S).set (51 + j) (a (200 + j), .inl (cI, 13, .inl f)) = wdC cI cJ cZ cL a (sK S j f) := by
  have hb : (wdCb cI cJ cZ cL a S).length = 26 := rfl
  have he : (wdCe a S).length = 25 := by simp [wdCe]
  unfold wdC
  rw [List.set_append_right _ _ (by omega), hb, List.set_append_right _ _ (by omega), he, show 51 + j - 26 - 25 = j by omega]
  have h1 : (wdCy cI a S).set j (a (200 + j), .inl (cI, 13, .inl f)) = wdCy cI a (sK S j f) := set_map hj (by simp [sK, va_up]) (fun i hi => by simp [sK, va_up, hi])
  rw [h1]
  rfl
theorem kC_copy (C : Cx p s m args meth c own cc nL rt D (tyT cI cJ cZ cL) (wdC cI cJ cZ cL a) A) {index j k : Nat} (hj : j < 25) (hk : k < 25) (hl : Cond.methodLink own index arraycopyName ∈ wU) (h2 : Cond.native arraycopyName ∈ wU) (h3 : Cond.static arraycopyName ∈ wU) (h4 : Cond.initialized "java/lang/System" ∈ wU) (hf : 1 ≤ R.frames) (hlo : (rest.map fun v => v.category).sum + (nativeFrameWords "java/lang/System" "arraycopy" 5 + 11) ≤ R.locals) (d : decode cc pc = .ok (.invokestatic index, 3))
    (h : Tg p l e R s m args below meth c D (wdC cI cJ cZ cL a) A nL ce sl QQ K prog (sK S j (va_cpy (S.2.2.2.2 k) (S.2.2.2.2 j) 0 0 13)) (pc + 3) lv rest) : Tg p l e R s m args below meth c D (wdC cI cJ cZ cL a) A nL ce sl QQ K prog S pc lv (.int 13 :: .int 0 :: .ref (a (200 + j)) :: .int 0 :: .ref (a (200 + k)) :: rest) := fun r S1 hb H locs ls hP hD hS hlv =>
  va_copyi (ty := .int) C.hx C.hb (C.hml.trans hlv.1.symm) C.hown (C.hts _ hl) (C.hts _ h2) (C.hts _ h3) (C.hts _ h4) C.hK hP (C.hD S) hS (51 + k) (51 + j) 0 0 (wdC_Y hk) (wdC_Y hj) rfl rfl rfl (by decide) (by decide) (by decide) (by decide) (by decide) (fun _ _ => rfl) hf hlo d (fun H1 locs1 hP1 _ hS1 => h r S1 hb H1 locs1 ls (by rw [← wdC_setK hj]; exact hP1) (C.hD _) hS1 hlv)
end GO4
