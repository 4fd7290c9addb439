/-! the mix: class and reference -/
theorem nI_toNat {x : Int32} (h : 0 ≤ x.toInt) : nI x.toInt.toNat = x := by
  have hl := x.toInt_lt
  apply Int32.toInt_inj.mp
  rw [nI_toInt (by omega)]
  omega
def dS (S : Mem) : Nat → Nat := fun i => (S.1 22 i).toInt.toNat
def nS (S : Mem) : Nat → Nat := fun i => (S.1 23 i).toInt.toNat
theorem RN_DN {c : Nat × Nat} {S T : Mem} (h : RN c S T) : DN (dS S) (nS S) ∧ (∀ i, i < 4 → S.1 22 i = nI (dS S i) ∧ S.1 23 i = nI (nS S i)) ∧ HT T (dS S) (nS S) := by
  have key : ∀ i, i < 4 → (1 ≤ dS S i ∧ dS S i ≤ 1000 ∧ nS S i ≤ 200) ∧ (S.1 22 i = nI (dS S i) ∧ S.1 23 i = nI (nS S i)) ∧ (T.1 8 i = nI (dS S i) ∧ T.1 9 i = nI (nS S i)) := by
    intro i hi
    obtain ⟨a1, a2, a3⟩ := h.1 i hi
    obtain ⟨b1, b2, b3⟩ := h.2.1 i hi
    have e1 : nI (dS S i) = S.1 22 i := nI_toNat (by omega)
    have e2 : nI (nS S i) = S.1 23 i := nI_toNat (by omega)
    refine ⟨?_, ⟨e1.symm, e2.symm⟩, by rw [e1, a1], by rw [e2, b1]⟩
    unfold dS nS
    omega
  exact ⟨fun i hi => (key i hi).1, fun i hi => (key i hi).2.1, fun i hi => (key i hi).2.2⟩
/-- the search's own rows are no part of what is told -/
theorem mx_S {S S9 : Mem} (h1 : ∀ q, q ≠ 29 → q ≠ 30 → q ≠ 31 → S9.1 q = S.1 q) (h2 : S9.2 = S.2) : S9 = (fun q => if q = 29 then S9.1 29 else if q = 30 then S9.1 30 else if q = 31 then S9.1 31 else S.1 q, S.2) := by
  refine Prod.ext (funext fun q => ?_) h2
  show S9.1 q = if q = 29 then S9.1 29 else if q = 30 then S9.1 30 else if q = 31 then S9.1 31 else S.1 q
  by_cases a : q = 29
  · rw [if_pos a, a]
  · rw [if_neg a]
    by_cases b : q = 30
    · rw [if_pos b, b]
    · rw [if_neg b]
      by_cases c : q = 31
      · rw [if_pos c, c]
      · rw [if_neg c]
        exact h1 q a b c
theorem mx_T {T T9 : Mem} (h1 : ∀ q, q ≠ 30 → T9.1 q = T.1 q) (h2 : T9.2 = T.2) : T9 = (fun q => if q = 30 then T9.1 30 else T.1 q, T.2) := by
  refine Prod.ext (funext fun q => ?_) h2
  show T9.1 q = if q = 30 then T9.1 30 else T.1 q
  by_cases a : q = 30
  · rw [if_pos a, a]
  · rw [if_neg a]
    exact h1 q a
theorem Rel.mx {c : Nat × Nat} {S T S9 T9 : Mem} (h : Rel c S T) (h1 : ∀ q, q ≠ 29 → q ≠ 30 → q ≠ 31 → S9.1 q = S.1 q) (h2 : S9.2 = S.2) (h3 : ∀ q, q ≠ 30 → T9.1 q = T.1 q) (h4 : T9.2 = T.2) : Rel c S9 T9 := by
  rw [mx_S h1 h2, mx_T h3 h4]
  exact h
theorem Core.mx {c : Nat × Nat} {S T S9 T9 : Mem} (h : Core c S T) (h1 : ∀ q, q ≠ 29 → q ≠ 30 → q ≠ 31 → S9.1 q = S.1 q) (h2 : S9.2 = S.2) (h3 : ∀ q, q ≠ 30 → T9.1 q = T.1 q) (h4 : T9.2 = T.2) : Core c S9 T9 := by
  rw [mx_S h1 h2, mx_T h3 h4]
  exact h
/-- both find the same mix -/
theorem r_mix {g A : Nat} {c : Nat × Nat} {S T : Mem} (hg : 400 < g) (h : RN c S T) (hA1 : 1 ≤ A) (hA : A ≤ 40000) : ∃ (r : Int32) (S9 T9 : Mem), f_O_findMix g S (nI A) = some (r, S9) ∧ f_R_findMix g T (nI A) = some (r, T9) ∧ ((r = 1 ∧ (rA (dS S) (nS S) A (41, 0, 0, 0, 0)).1 ≤ 40) ∨ (r = 0 ∧ ¬ (rA (dS S) (nS S) A (41, 0, 0, 0, 0)).1 ≤ 40)) ∧ MS S9 (rA (dS S) (nS S) A (41, 0, 0, 0, 0)) ∧ MR T9 (rA (dS S) (nS S) A (41, 0, 0, 0, 0)) ∧ (∀ q, q ≠ 29 → q ≠ 30 → q ≠ 31 → S9.1 q = S.1 q) ∧ S9.2 = S.2 ∧ (∀ q, q ≠ 30 → T9.1 q = T.1 q) ∧ T9.2 = T.2 := by
  obtain ⟨e1, e2, e3⟩ := RN_DN h
  obtain ⟨S9, a1, a2, a3, a4⟩ := p_findMixC hg hA1 hA e1 e2
  obtain ⟨T9, b1, b2, b3, b4⟩ := p_findMixR hg hA e1 e3
  refine ⟨_, S9, T9, a1, b1, ?_, a2, b2, a3, a4, b3, b4⟩
  by_cases h : (rA (dS S) (nS S) A (41, 0, 0, 0, 0)).1 ≤ 40
  · rw [if_pos h]
    exact Or.inl ⟨rfl, h⟩
  · rw [if_neg h]
    exact Or.inr ⟨rfl, h⟩
theorem p_findBad {g : Nat} {S : Mem} {x : Int32} (h : x < 1 ∨ 40000 < x) : f_O_findMix g S x = some (0, sI S 30 0 41) := by
  unfold f_O_findMix
  rw [lt_eq, p_isAmount, bnd_some]
  have h0 : (if x.toInt64 < 1 then (0 : Int32) else if 40000 < x.toInt64 then 0 else 1) = 0 := by
    by_cases h1 : x < 1
    · rw [if_pos ((l64_lt x 1 1 rfl).mpr h1)]
    · rw [if_neg (fun z => h1 ((l64_lt x 1 1 rfl).mp z)), if_pos ((l64_gt x 40000 40000 rfl).mpr (h.resolve_left h1))]
  rw [h0, if_pos rfl]
theorem ex_amt {x : Int32} (h1 : ¬ x < 1) (h2 : ¬ 40000 < x) : ∃ A : Nat, x = nI A ∧ 1 ≤ A ∧ A ≤ 40000 := by
  rw [Int32.lt_iff_toInt_lt] at h1 h2
  have e1 : (1 : Int32).toInt = 1 := by decide
  have e2 : (40000 : Int32).toInt = 40000 := by decide
  refine ⟨x.toInt.toNat, (nI_toNat (by omega)).symm, by omega, by omega⟩
theorem op_mix {g : Nat} {c : Nat × Nat} {S T : Mem} (hg : 400 < g) (h : Rel c S T) (x y : Int32) : Sim (Rel c) (f_A_mix g S x y) (f_R_mix g T x y) := by
  unfold f_A_mix f_O_mixedOf f_R_mix
  rw [p_isCassette, bnd_some]
  by_cases h1 : y < 0
  · rw [if_pos h1, if_pos h1, if_pos rfl, bnd_some]
    exact Sim.ret h
  by_cases h2 : 3 < y
  · rw [if_neg h1, if_neg h1, if_pos h2, if_pos h2, if_pos rfl, bnd_some]
    exact Sim.ret h
  obtain ⟨hi, hk⟩ := ix_in (m := 3) (n := 4) (by decide) h1 h2
  rw [if_neg h1, if_neg h1, if_neg h2, if_neg h2, if_neg d10]
  by_cases h3 : x < 1
  · rw [p_findBad (Or.inl h3), bnd_some, if_pos rfl, if_pos h3, bnd_some]
    exact Sim.ret h
  by_cases h4 : 40000 < x
  · rw [p_findBad (Or.inr h4), bnd_some, if_pos rfl, if_neg h3, if_pos h4, bnd_some]
    exact Sim.ret h
  obtain ⟨A, rfl, hA1, hA⟩ := ex_amt h3 h4
  obtain ⟨r, S9, T9, a1, a2, a3, a4, a5, a6, a7, a8, a9⟩ := r_mix hg h.2.2.1 hA1 hA
  rw [if_neg h3, if_neg h4, a1, a2, bnd_some, bnd_some]
  have hR : Rel c S9 T9 := h.mx a6 a7 a8 a9
  rcases a3 with ⟨rfl, hb⟩ | ⟨rfl, hb⟩
  · rw [if_neg d10, if_neg d10, grd_pos hi, grd_pos hi, bnd_some]
    obtain ⟨x0, x1, x2, x3⟩ := a4.2 hb
    obtain ⟨y0, y1, y2, y3⟩ := a5 hb
    have e : S9.1 29 y.toNatClampNeg = T9.1 30 y.toNatClampNeg := by
      rcases (show y.toNatClampNeg = 0 ∨ y.toNatClampNeg = 1 ∨ y.toNatClampNeg = 2 ∨ y.toNatClampNeg = 3 by omega) with q | q | q | q
      · rw [q, x0, y0]
      · rw [q, x1, y1]
      · rw [q, x2, y2]
      · rw [q, x3, y3]
    rw [e]
    exact Sim.ret hR
  · rw [if_pos rfl, if_pos rfl, bnd_some]
    exact Sim.ret hR
