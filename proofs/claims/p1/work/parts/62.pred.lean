/-! pure rows: compares, the class's small questions, a relation's rules -/
theorem lgc_lt (x y : Int64) : lg_cmp x y < 0 ↔ x < y := by
  unfold lg_cmp
  by_cases h1 : x > y
  · rw [if_pos h1]
    refine ⟨fun h => absurd h (by decide), fun h => ?_⟩
    have h1' : y < x := h1
    rw [Int64.lt_iff_toInt_lt] at h h1'
    omega
  · rw [if_neg h1]
    by_cases h2 : x = y
    · rw [if_pos h2]
      refine ⟨fun h => absurd h (by decide), fun h => ?_⟩
      rw [h2, Int64.lt_iff_toInt_lt] at h
      omega
    · rw [if_neg h2]
      refine ⟨fun _ => ?_, fun _ => by decide⟩
      have h1' : ¬ y < x := h1
      rw [Int64.lt_iff_toInt_lt] at h1' ⊢
      have h3 : x.toInt ≠ y.toInt := fun h => h2 (Int64.toInt_inj.mp h)
      omega
theorem lgc_gt (x y : Int64) : 0 < lg_cmp x y ↔ y < x := by
  unfold lg_cmp
  by_cases h1 : x > y
  · rw [if_pos h1]
    exact ⟨fun _ => h1, fun _ => by decide⟩
  · rw [if_neg h1]
    by_cases h2 : x = y
    · rw [if_pos h2]
      refine ⟨fun h => absurd h (by decide), fun h => absurd h h1⟩
    · rw [if_neg h2]
      refine ⟨fun h => absurd h (by decide), fun h => absurd h h1⟩
theorem lgc_eq (x y : Int64) : lg_cmp x y = 0 ↔ x = y := by
  unfold lg_cmp
  by_cases h1 : x > y
  · rw [if_pos h1]
    refine ⟨fun h => absurd h (by decide), fun h => ?_⟩
    have h1' : y < x := h1
    rw [h, Int64.lt_iff_toInt_lt] at h1'
    omega
  · rw [if_neg h1]
    by_cases h2 : x = y
    · rw [if_pos h2]
      exact ⟨fun _ => h2, fun _ => rfl⟩
    · rw [if_neg h2]
      exact ⟨fun h => absurd h (by decide), fun h => absurd h h2⟩
theorem lgc_le (x y : Int64) : lg_cmp x y ≤ 0 ↔ ¬ y < x := by
  rw [← lgc_gt]
  rw [Int32.le_iff_toInt_le, Int32.lt_iff_toInt_lt]
  omega
theorem l64_lt (x : Int32) (n : Int64) (k : Int32) (h : k.toInt = n.toInt) : x.toInt64 < n ↔ x < k := by
  rw [Int64.lt_iff_toInt_lt, Int32.lt_iff_toInt_lt, Int32.toInt_toInt64, h]
theorem l64_gt (x : Int32) (n : Int64) (k : Int32) (h : k.toInt = n.toInt) : n < x.toInt64 ↔ k < x := by
  rw [Int64.lt_iff_toInt_lt, Int32.lt_iff_toInt_lt, Int32.toInt_toInt64, h]
theorem p_isWithin (g : Nat) (S : Mem) (x a b : Int64) : f_A_isWithin g S x a b = some (if x < a then 0 else if b < x then 0 else 1, S) := by
  unfold f_A_isWithin
  simp only [lgc_lt, lgc_gt]
  by_cases h1 : x < a
  · simp only [h1, ↓reduceIte]
  · by_cases h2 : b < x
    · simp only [h1, h2, ↓reduceIte]
    · simp only [h1, h2, ↓reduceIte]
theorem p01 {P : Prop} {iP : Decidable P} {Q : Prop} {iQ : Decidable Q} : ((@ite Int32 P iP 0 (@ite Int32 Q iQ 0 1)) = 0 ∨ (@ite Int32 P iP 0 (@ite Int32 Q iQ 0 1)) = 1) := by
  by_cases h1 : P
  · rw [if_pos h1]; exact Or.inl rfl
  · rw [if_neg h1]
    by_cases h2 : Q
    · rw [if_pos h2]; exact Or.inl rfl
    · rw [if_neg h2]; exact Or.inr rfl
theorem p_isAccount (g : Nat) (S : Mem) (x : Int32) : f_H_isAccount g S x = some (if x < 0 then 0 else if 7 < x then 0 else 1, S) := by
  unfold f_H_isAccount
  rw [p_isWithin, bnd_some, grd_pos p01]
  simp only [l64_lt x 0 0 rfl, l64_gt x 7 7 rfl]
theorem p_isCard (g : Nat) (S : Mem) (x : Int32) : f_A_isCard g S x = some (if x < 0 then 0 else if 15 < x then 0 else 1, S) := by
  unfold f_A_isCard
  rw [p_isWithin, bnd_some, grd_pos p01]
  simp only [l64_lt x 0 0 rfl, l64_gt x 15 15 rfl]
theorem p_isPin (g : Nat) (S : Mem) (x : Int64) : f_A_isPin g S x = some (if x < 0 then 0 else if 9999 < x then 0 else 1, S) := by
  unfold f_A_isPin
  rw [p_isWithin, bnd_some, grd_pos p01]
theorem p_isAmount (g : Nat) (S : Mem) (x : Int64) : f_A_isAmount g S x = some (if x < 1 then 0 else if 40000 < x then 0 else 1, S) := by
  unfold f_A_isAmount
  rw [p_isWithin, bnd_some, grd_pos p01]
theorem p_isCassette (g : Nat) (S : Mem) (x : Int32) : f_O_isCassette g S x = some (if x < 0 then 0 else if 3 < x then 0 else 1, S) := by
  unfold f_O_isCassette
  have h4 : (4 : Int32) ≤ x ↔ 3 < x := by
    rw [Int32.le_iff_toInt_le, Int32.lt_iff_toInt_lt]
    have e4 : (4 : Int32).toInt = 4 := by decide
    have e3 : (3 : Int32).toInt = 3 := by decide
    omega
  by_cases h1 : x < 0
  · simp only [h1, ↓reduceIte]
  · by_cases h2 : 3 < x
    · simp only [h1, h2, h4, ↓reduceIte]
    · simp only [h1, h2, h4, ↓reduceIte]
/-- an index inside its row -/
theorem ix_in {x m : Int32} {n : Nat} (hm : m.toInt + 1 = n) (h1 : ¬ x < 0) (h2 : ¬ m < x) : ¬ (x < 0 ∨ n ≤ x.toNatClampNeg) ∧ x.toNatClampNeg < n := by
  rw [Int32.lt_iff_toInt_lt] at h1 h2
  have e0 : (0 : Int32).toInt = 0 := by decide
  have e1 : x.toNatClampNeg = x.toInt.toNat := rfl
  have h3 : x.toNatClampNeg < n := by rw [e1]; omega
  refine ⟨fun h => ?_, h3⟩
  rcases h with h | h
  · rw [Int32.lt_iff_toInt_lt] at h
    omega
  · omega
/-- two programs that answer alike, and end in related memories -/
def Sim {γ : Type} (R : Mem → Mem → Prop) (o o2 : Option (γ × Mem)) : Prop := ∃ (r : γ) (S S2 : Mem), o = some (r, S) ∧ o2 = some (r, S2) ∧ R S S2
theorem Sim.ret {γ : Type} {R : Mem → Mem → Prop} {r : γ} {S S2 : Mem} (h : R S S2) : Sim R (some (r, S)) (some (r, S2)) := ⟨r, S, S2, rfl, rfl, h⟩
theorem Sim.bnd {γ δ : Type} {R R1 : Mem → Mem → Prop} {o o2 : Option (γ × Mem)} {F F2 : γ → Mem → Option (δ × Mem)} (h : Sim R1 o o2) (k : ∀ (r : γ) (S S2 : Mem), R1 S S2 → Sim R (F r S) (F2 r S2)) : Sim R (bnd o F) (bnd o2 F2) := by
  obtain ⟨r, S, S2, rfl, rfl, h1⟩ := h
  exact k r S S2 h1
theorem Sim.ite {γ : Type} {R : Mem → Mem → Prop} {c d : Prop} {ic : Decidable c} {id : Decidable d} {A B A2 B2 : Option (γ × Mem)} (hc : c ↔ d) (ht : c → Sim R A A2) (hf : ¬ c → Sim R B B2) : Sim R (@ite _ c ic A B) (@ite _ d id A2 B2) := by
  by_cases h : c
  · rw [if_pos h, if_pos (hc.mp h)]; exact ht h
  · rw [if_neg h, if_neg (fun z => h (hc.mpr z))]; exact hf h
theorem Sim.weak {γ : Type} {R R1 : Mem → Mem → Prop} {o o2 : Option (γ × Mem)} (h : Sim R o o2) (k : ∀ S S2, R S S2 → R1 S S2) : Sim R1 o o2 := by
  obtain ⟨r, S, S2, h1, h2, h3⟩ := h
  exact ⟨r, S, S2, h1, h2, k S S2 h3⟩
