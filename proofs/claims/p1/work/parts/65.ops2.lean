theorem gT {β : Type} {P : Prop} {iP : Decidable (True ∨ P)} {q : Option β} : @grd β _ iP q = q := grd_pos (Or.inl trivial)
theorem one_of {x y : Int32} (h : PIn 0 1 x y) (h0 : ¬ x = 0) : x = 1 := by
  obtain ⟨-, h1, h2⟩ := h
  have h3 : x.toInt ≠ 0 := fun z => h0 (Int32.toInt_inj.mp (z.trans (by decide)))
  exact Int32.toInt_inj.mp ((show x.toInt = 1 by omega).trans (by decide))
theorem ne12 : ¬ ((1 : Int32) = 2) := by decide
theorem op_insert {g : Nat} {c : Nat × Nat} {S T : Mem} (h : Rel c S T) (x : Int32) : Sim (Rel c) (f_A_insert g S x) (f_R_insert g T x) := by
  obtain ⟨hH, hL, hN, hJ, ⟨m1, m2, m3, m4, m5, m6⟩, i1, i2, i3, i4⟩ := id h
  have eOn : T.1 18 0 = S.1 11 0 := m2.1.symm
  have ePh : T.1 20 0 = S.1 13 0 := m4.1.symm
  unfold f_A_insert f_M_putCardIn f_R_insert
  simp only [eOn, ePh, p_isCard, bnd_some, lt_eq]
  by_cases h1 : x < 0
  · by_cases q1 : S.1 11 0 = 0 <;> by_cases q2 : S.1 13 0 = 0 <;> simp only [h1, q1, q2, ↓reduceIte, bnd_some, g0] <;> exact Sim.ret h
  by_cases h2 : 15 < x
  · by_cases q1 : S.1 11 0 = 0 <;> by_cases q2 : S.1 13 0 = 0 <;> simp only [h1, h2, q1, q2, ↓reduceIte, bnd_some, g0] <;> exact Sim.ret h
  obtain ⟨hi, hk⟩ := ix_in (m := 15) (n := 16) (by decide) h1 h2
  simp only [grd_pos hi]
  have eK : T.1 13 x.toNatClampNeg = S.1 10 x.toNatClampNeg := (m1 _ hk).1.symm
  simp only [eK]
  by_cases q1 : S.1 11 0 = 0
  · by_cases q3 : S.1 10 x.toNatClampNeg = 0 <;> simp only [h1, h2, q1, q3, ↓reduceIte, bnd_some, g0, gT] <;> exact Sim.ret h
  by_cases q2 : S.1 13 0 = 0
  · by_cases q3 : S.1 10 x.toNatClampNeg = 0
    · simp only [h1, h2, q1, q2, q3, ↓reduceIte, bnd_some, g1, e10]
      rw [i32] at h1
      rw [Int32.lt_iff_toInt_lt] at h2
      have e15 : (15 : Int32).toInt = 15 := by decide
      refine Sim.ret ⟨hH, hL, hN, hJ, ⟨m1, m2, m3, ⟨rfl, (show (0 : Int) ≤ (1 : Int32).toInt by decide), (show (1 : Int32).toInt ≤ 5 by decide)⟩, rfl, m6⟩, fun _ _ => ?_, fun _ z => ?_, fun _ z => ?_, i4⟩
      · show 0 ≤ x.toInt ∧ x.toInt ≤ 15
        omega
      · have z' : (1 : Int32) = 2 ∨ (1 : Int32) = 4 ∨ (1 : Int32) = 5 := z
        exact absurd z' (by decide)
      · have z' : (1 : Int32) = 4 := z
        exact absurd z' (by decide)
    · simp only [h1, h2, q1, q2, q3, ↓reduceIte, bnd_some, g0, e10]
      exact Sim.ret h
  · by_cases q3 : S.1 10 x.toNatClampNeg = 0 <;> simp only [h1, h2, q1, q2, q3, ↓reduceIte, bnd_some, g0, gT] <;> exact Sim.ret h
theorem op_load {g : Nat} {c : Nat × Nat} {S T : Mem} (h : Rel c S T) (x y z : Int32) : Sim (Rel c) (f_A_load g S x y z) (f_R_load g T x y z) := by
  obtain ⟨hH, hL, ⟨n1, n2, n3⟩, hJ, hM, i1, i2, i3, i4⟩ := id h
  have eOn : T.1 18 0 = S.1 11 0 := hM.2.1.1.symm
  have ePh : T.1 20 0 = S.1 13 0 := hM.2.2.2.1.1.symm
  unfold f_A_load f_M_fillCassette f_O_fill f_R_load
  simp only [eOn, ePh, p_isCassette, p_isWithin, bnd_some, lt_eq, l64_lt y 1 1 rfl, l64_gt y 1000 1000 rfl, l64_lt z 0 0 rfl, l64_gt z 200 200 rfl]
  by_cases q1 : S.1 11 0 = 0
  · by_cases h1 : x < 0 <;> by_cases h2 : 3 < x <;> by_cases h3 : y < 1 <;> by_cases h4 : 1000 < y <;> by_cases h5 : z < 0 <;> by_cases h6 : 200 < z <;> simp only [q1, h1, h2, h3, h4, h5, h6, ↓reduceIte, bnd_some, g0] <;> exact Sim.ret h
  by_cases q2 : S.1 13 0 = 4
  · by_cases h1 : x < 0 <;> by_cases h2 : 3 < x <;> by_cases h3 : y < 1 <;> by_cases h4 : 1000 < y <;> by_cases h5 : z < 0 <;> by_cases h6 : 200 < z <;> simp only [q1, q2, h1, h2, h3, h4, h5, h6, ↓reduceIte, bnd_some, g0] <;> exact Sim.ret h
  by_cases h1 : x < 0
  · simp only [q1, q2, h1, ↓reduceIte, bnd_some, g0]; exact Sim.ret h
  by_cases h2 : 3 < x
  · simp only [q1, q2, h1, h2, ↓reduceIte, bnd_some, g0]; exact Sim.ret h
  by_cases h3 : y < 1
  · simp only [q1, q2, h1, h2, h3, ↓reduceIte, bnd_some, g0, e10]; exact Sim.ret h
  by_cases h4 : 1000 < y
  · simp only [q1, q2, h1, h2, h3, h4, ↓reduceIte, bnd_some, g0, e10]; exact Sim.ret h
  by_cases h5 : z < 0
  · simp only [q1, q2, h1, h2, h3, h4, h5, ↓reduceIte, bnd_some, g0, e10]; exact Sim.ret h
  by_cases h6 : 200 < z
  · simp only [q1, q2, h1, h2, h3, h4, h5, h6, ↓reduceIte, bnd_some, g0, e10]; exact Sim.ret h
  obtain ⟨hi, hk⟩ := ix_in (m := 3) (n := 4) (by decide) h1 h2
  simp only [grd_pos hi]
  simp only [q1, q2, h1, h2, h3, h4, h5, h6, ↓reduceIte, bnd_some, g1, e10]
  rw [Int32.lt_iff_toInt_lt] at h3 h4 h5 h6
  have e1 : (1 : Int32).toInt = 1 := by decide
  have e2 : (1000 : Int32).toInt = 1000 := by decide
  have e3 : (0 : Int32).toInt = 0 := by decide
  have e4 : (200 : Int32).toInt = 200 := by decide
  exact Sim.ret ⟨hH, hL, ⟨all_upd n1 ⟨rfl, by omega, by omega⟩, all_upd n2 ⟨rfl, by omega, by omega⟩, n3⟩, hJ, hM, i1, i2, fun _ z => absurd z q2, i4⟩
theorem op_eject {g : Nat} {c : Nat × Nat} {S T : Mem} (h : Rel c S T) : Sim (Rel c) (f_A_eject g S) (f_R_eject g T) := by
  obtain ⟨hH, hL, hN, hJ, ⟨m1, m2, m3, m4, m5, m6⟩, i1, i2, i3, i4⟩ := id h
  have eOn : T.1 18 0 = S.1 11 0 := m2.1.symm
  have ePh : T.1 20 0 = S.1 13 0 := m4.1.symm
  have hfin : Rel c (sI (sI S 14 0 (-1)) 13 0 0) (sI (sI T 21 0 (-1)) 20 0 0) := by
    refine ⟨hH, hL, hN, hJ, ⟨m1, m2, m3, ⟨rfl, (show (0 : Int) ≤ (0 : Int32).toInt by decide), (show (0 : Int32).toInt ≤ 5 by decide)⟩, rfl, m6⟩, fun _ z => ?_, fun _ z => ?_, fun _ z => ?_, i4⟩
    · have z' : (0 : Int32) = 1 ∨ (0 : Int32) = 2 ∨ (0 : Int32) = 3 ∨ (0 : Int32) = 4 := z
      exact absurd z' (by decide)
    · have z' : (0 : Int32) = 2 ∨ (0 : Int32) = 4 ∨ (0 : Int32) = 5 := z
      exact absurd z' (by decide)
    · have z' : (0 : Int32) = 4 := z
      exact absurd z' (by decide)
  unfold f_A_eject f_M_giveCardBack f_M_endWithoutCard f_R_eject
  simp only [eOn, ePh, lt_eq]
  by_cases q1 : S.1 11 0 = 0
  · simp only [q1, ↓reduceIte, bnd_some, g0]; exact Sim.ret h
  by_cases q2 : S.1 13 0 = 1
  · simp only [q1, q2, ↓reduceIte, bnd_some, g1]; exact Sim.ret hfin
  by_cases q3 : S.1 13 0 = 3
  · simp only [q1, q3, ↓reduceIte, bnd_some, g1, show ((3 : Int32) = 1) = False by decide]; exact Sim.ret hfin
  simp only [q1, q2, q3, ↓reduceIte, bnd_some, g0]; exact Sim.ret h
theorem op_ofCard {g : Nat} {c : Nat × Nat} {S T : Mem} (h : Rel c S T) (x y : Int32) : Sim (Rel c) (f_A_ofCard g S x y) (f_R_ofCard g T x y) := by
  obtain ⟨⟨b1, b2, b3, b4, b5⟩, hL, hN, hJ, ⟨m1, m2⟩, hI⟩ := id h
  unfold f_A_ofCard f_H_triesOf f_M_keptOf f_H_accountOf f_R_ofCard
  simp only [p_isCard, bnd_some, i_le]
  by_cases h1 : x < 0
  · by_cases y0 : y = 0 <;> by_cases y1 : y = 1 <;> by_cases y2 : y = 2 <;> simp only [h1, y0, y1, y2, ↓reduceIte, bnd_some] <;> exact Sim.ret h
  by_cases h2 : 15 < x
  · by_cases y0 : y = 0 <;> by_cases y1 : y = 1 <;> by_cases y2 : y = 2 <;> simp only [h1, h2, y0, y1, y2, ↓reduceIte, bnd_some, not_true_eq_false] <;> exact Sim.ret h
  obtain ⟨hi, hk⟩ := ix_in (m := 15) (n := 16) (by decide) h1 h2
  simp only [grd_pos hi]
  simp only [h1, h2, ↓reduceIte, bnd_some, e10, not_false_eq_true]
  by_cases y0 : y = 0
  · simp only [y0, ↓reduceIte]; rw [(b4 _ hk).1]; exact Sim.ret h
  by_cases y1 : y = 1
  · simp only [y1, e10, ↓reduceIte]
    rw [(m1 _ hk).1]
    by_cases q3 : T.1 13 x.toNatClampNeg = 0
    · simp only [q3, ↓reduceIte, bnd_some]; exact Sim.ret h
    · simp only [q3, ↓reduceIte, bnd_some]; exact Sim.ret h
  by_cases y2 : y = 2
  · simp only [y2, ↓reduceIte, show ((2 : Int32) = 0) = False by decide, show ((2 : Int32) = 1) = False by decide]; rw [(b2 _ hk).1]; exact Sim.ret h
  simp only [y0, y1, y2, ↓reduceIte]; exact Sim.ret h
