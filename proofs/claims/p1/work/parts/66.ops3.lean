theorem op_count {g : Nat} {c : Nat × Nat} {S T : Mem} (h : Rel c S T) (x : Int32) : Sim (Rel c) (f_A_count g S x) (f_R_count g T x) := by
  obtain ⟨hH, ⟨n, l1, l2, l3, l4, -⟩, hN, ⟨k, j1, j2, j3, -⟩, ⟨m1, m2, m3, m4, m5, m6, m7, m8, m9⟩, hI⟩ := id h
  have eOn : T.1 18 0 = S.1 11 0 := m2.1.symm
  have ePh : T.1 20 0 = S.1 13 0 := m4.1.symm
  unfold f_A_count f_R_count
  simp only [eOn, ePh, ← m5, ← m6.1, ← m7, ← m8, l2, l3, j2, j3, ← l4, ← hH.2.2.2.2.2.2, ← hN.2.2.2.2.2.2.2]
  repeat' first | exact Sim.ret h | refine Sim.ite Iff.rfl (fun _ => ?_) (fun _ => ?_)
theorem ex_nI {x : Int32} {n : Nat} (h0 : ¬ x < 0) (h : x.toInt < n) (hn : n < 2 ^ 31) : ∃ i : Nat, i < n ∧ x = nI i := by
  rw [i32] at h0
  exact vp_in_of (vp_in_iff.mpr ⟨by omega, h⟩) hn
theorem op_record {g : Nat} {c : Nat × Nat} {S T : Mem} (h : Rel c S T) (x y : Int32) : Sim (Rel c) (f_A_record g S x y) (f_R_recordOf g T x y) := by
  obtain ⟨hH, hL, hN, ⟨n, j1, j2, j3, j4, j5⟩, hM, hI⟩ := id h
  unfold f_A_record f_J_tell f_R_recordOf
  have hn1 : (nI n - 1).toInt = (n : Int) - 1 := by
    have h9 : (nI n - nI 1).toInt = (n : Int) - ((1 : Nat) : Int) := pk_sub_toInt (by omega) (by decide)
    rw [show nI n - 1 = nI n - nI 1 from rfl, h9]
    omega
  have hlt : ((nI n - 1).toInt64 < x.toInt64) ↔ nI n ≤ x := by
    rw [Int64.lt_iff_toInt_lt, Int32.le_iff_toInt_le, Int32.toInt_toInt64, Int32.toInt_toInt64, hn1, nI_toInt (by omega)]
    omega
  simp only [p_isWithin, bnd_some, j2, j3, l64_lt x 0 0 rfl, hlt, i_le y 3]
  by_cases h1 : x < 0
  · simp only [h1, ↓reduceIte, bnd_some]; exact Sim.ret h
  by_cases h2 : nI n ≤ x
  · simp only [h1, h2, ↓reduceIte, bnd_some]; exact Sim.ret h
  have h2' : x.toInt < n := by
    rw [Int32.le_iff_toInt_le, nI_toInt (by omega)] at h2
    omega
  obtain ⟨i, hi, rfl⟩ := ex_nI h1 h2' (by omega)
  have hgi : ¬ (nI i < 0 ∨ 300 ≤ (nI i).toNatClampNeg) := nI_in (by omega) (by decide)
  have e5 : (5 : Int32) = nI 5 := by decide
  have key : ∀ k : Nat, k < 4 → (¬ ((nI 5 * nI i + nI k) < 0 ∨ 1500 ≤ (nI 5 * nI i + nI k).toNatClampNeg)) ∧ (nI 5 * nI i + nI k).toNatClampNeg = 5 * i + k := by
    intro k hk
    rw [pk_mul, nI_add]
    exact ⟨nI_in (by omega) (by decide), nI_clamp (by omega)⟩
  have ec : (nI i).toNatClampNeg = i := nI_clamp (by omega)
  have hj := j4 i hi
  by_cases y0 : y = 0
  · obtain ⟨k1, k2⟩ := key 0 (by decide)
    subst y0
    simp only [grd_pos hgi]
    simp only [h1, h2, ↓reduceIte, bnd_some, e10, show ((0 : Int32) < 0) = False by decide, show ((3 : Int32) < 0) = False by decide, not_false_eq_true]
    rw [show (5 : Int32) * nI i + 0 = nI 5 * nI i + nI 0 from rfl, grd_pos k1, k2, ec, hj.1]
    exact Sim.ret h
  by_cases y1 : y = 1
  · obtain ⟨k1, k2⟩ := key 1 (by decide)
    subst y1
    simp only [grd_pos hgi]
    simp only [h1, h2, ↓reduceIte, bnd_some, e10, show ((1 : Int32) < 0) = False by decide, show ((3 : Int32) < 1) = False by decide, not_false_eq_true]
    rw [show (5 : Int32) * nI i + 1 = nI 5 * nI i + nI 1 from rfl, grd_pos k1, k2, ec, hj.2.1]
    exact Sim.ret h
  by_cases y2 : y = 2
  · obtain ⟨k1, k2⟩ := key 2 (by decide)
    subst y2
    simp only [grd_pos hgi]
    simp only [h1, h2, ↓reduceIte, bnd_some, e10, show ((2 : Int32) = 0) = False by decide, show ((2 : Int32) = 1) = False by decide, show ((2 : Int32) < 0) = False by decide, show ((3 : Int32) < 2) = False by decide, not_false_eq_true]
    rw [show (5 : Int32) * nI i + 2 = nI 5 * nI i + nI 2 from rfl, grd_pos k1, k2, ec, hj.2.2.1]
    exact Sim.ret h
  by_cases y3 : y = 3
  · obtain ⟨k1, k2⟩ := key 3 (by decide)
    subst y3
    simp only [grd_pos hgi]
    simp only [h1, h2, ↓reduceIte, bnd_some, e10, show ((3 : Int32) = 0) = False by decide, show ((3 : Int32) = 1) = False by decide, show ((3 : Int32) = 2) = False by decide, show ((3 : Int32) < 0) = False by decide, show ((3 : Int32) < 3) = False by decide, not_false_eq_true]
    rw [show (5 : Int32) * nI i + 3 = nI 5 * nI i + nI 3 from rfl, grd_pos k1, k2, ec, hj.2.2.2]
    exact Sim.ret h
  have hy : y < 0 ∨ 3 < y := by
    have t : ∀ k : Int32, y ≠ k → y.toInt ≠ k.toInt := fun k hk z => hk (Int32.toInt_inj.mp z)
    have t0 := t 0 y0
    have t1 := t 1 y1
    have t2 := t 2 y2
    have t3 := t 3 y3
    rw [Int32.lt_iff_toInt_lt, Int32.lt_iff_toInt_lt]
    have e0 : (0 : Int32).toInt = 0 := by decide
    have e1 : (1 : Int32).toInt = 1 := by decide
    have e2 : (2 : Int32).toInt = 2 := by decide
    have e3 : (3 : Int32).toInt = 3 := by decide
    omega
  simp only [h1, h2, y0, y1, y2, y3, e10, ↓reduceIte, bnd_some]
  by_cases q1 : y < 0
  · simp only [q1, ↓reduceIte]; exact Sim.ret h
  · have q2 := hy.resolve_left q1
    simp only [q1, q2, ↓reduceIte, not_true_eq_false]; exact Sim.ret h
