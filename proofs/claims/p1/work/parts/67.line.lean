/-! the line: reads and pokes -/
theorem p_has (g : Nat) (S : Mem) (x : Int32) : f_N_has g S x = some (if x < 0 then 0 else if S.1 0 0 ≤ x then 0 else 1, S) := by
  unfold f_N_has
  by_cases h1 : x < 0
  · simp only [h1, ↓reduceIte]
  · by_cases h2 : S.1 0 0 ≤ x
    · simp only [h1, h2, ↓reduceIte]
    · simp only [h1, h2, ↓reduceIte]
theorem p_isLetter (g : Nat) (S : Mem) (x : Int32) : f_R_isLetter g S x = some (if x < 0 then 0 else if S.1 26 0 ≤ x then 0 else 1, S) := by
  unfold f_R_isLetter
  by_cases h1 : x < 0
  · simp only [h1, ↓reduceIte]
  · by_cases h2 : S.1 26 0 ≤ x
    · simp only [h1, h2, ↓reduceIte]
    · simp only [h1, h2, ↓reduceIte]
theorem nle_lt {x : Int32} {n : Nat} (hn : n < 2 ^ 31) (h : ¬ nI n ≤ x) : x.toInt < n := by
  rw [Int32.le_iff_toInt_le, nI_toInt hn] at h
  omega
theorem ix14 {i k : Nat} (hi : i < 24) (hk : k < 14) : (¬ ((14 : Int32) * nI i + nI k < 0 ∨ 350 ≤ ((14 : Int32) * nI i + nI k).toNatClampNeg)) ∧ ((14 : Int32) * nI i + nI k).toNatClampNeg = 14 * i + k := by
  rw [show (14 : Int32) = nI 14 from rfl, pk_mul, nI_add]
  exact ⟨nI_in (by omega) (by decide), nI_clamp (by omega)⟩
theorem ngt_lt {y m : Int32} {n : Nat} (hm : m.toInt + 1 = n) (h : ¬ m < y) : y.toInt < n := by
  rw [Int32.lt_iff_toInt_lt] at h
  omega
theorem op_letter {g : Nat} {c : Nat × Nat} {S T : Mem} (h : Rel c S T) (x y : Int32) : Sim (Rel c) (f_A_letter g S x y) (f_R_letter g T x y) := by
  obtain ⟨hH, ⟨n, l1, l2, l3, l4, l5, l6, l7⟩, hN, hJ, hM, hI⟩ := id h
  unfold f_A_letter f_N_byteOf f_R_letter
  simp only [p_has, p_isLetter, p_isWithin, bnd_some, lt_eq, l2, l3, l64_lt y 0 0 rfl, l64_gt y 12 12 rfl]
  by_cases h1 : x < 0
  · simp only [h1, ↓reduceIte, bnd_some]; exact Sim.ret h
  by_cases h2 : nI n ≤ x
  · simp only [h1, h2, ↓reduceIte, bnd_some]; exact Sim.ret h
  obtain ⟨i, hi, rfl⟩ := ex_nI h1 (nle_lt (by omega) h2) (by omega)
  by_cases h3 : y < 0
  · simp only [h1, h2, h3, e10, ↓reduceIte, bnd_some]; exact Sim.ret h
  by_cases h4 : 12 < y
  · simp only [h1, h2, h3, h4, e10, ↓reduceIte, bnd_some]; exact Sim.ret h
  obtain ⟨k, hk, rfl⟩ := ex_nI h3 (ngt_lt (n := 13) (by decide) h4) (by decide)
  obtain ⟨a1, a2⟩ := ix14 (i := i) (k := k) (by omega) (by omega)
  have hgi : ¬ (nI i < 0 ∨ 24 ≤ (nI i).toNatClampNeg) := nI_in (by omega) (by decide)
  have hgk : ¬ (nI k < 0 ∨ 13 ≤ (nI k).toNatClampNeg) := nI_in (by omega) (by decide)
  have ei : (nI i).toNatClampNeg = i := nI_clamp (by omega)
  have ek : (nI k).toNatClampNeg = k := nI_clamp (by omega)
  have hj : S.2.2.1 (nI i).toNatClampNeg < 25 := by rw [ei]; have := l5 i (by omega); omega
  simp only [grd_pos hgi, grd_pos hgk, grd_pos hj, grd_pos a1]
  simp only [h1, h2, h3, h4, e10, ↓reduceIte, bnd_some]
  rw [a2, ei, ek, ((l7 i hi).1 k hk).1]
  exact Sim.ret h
theorem xor255 {x y m : Int32} (h : PIn 0 255 x y) (hm : 0 ≤ m.toInt ∧ m.toInt ≤ 255) : PIn 0 255 (x ^^^ m) (y ^^^ m) := by
  obtain ⟨rfl, h1, h2⟩ := h
  refine ⟨rfl, ?_⟩
  obtain ⟨a, ha, rfl⟩ := vp_in_of (n := 256) (vp_in_iff.mpr ⟨h1, by omega⟩) (by decide)
  obtain ⟨b, hb, rfl⟩ := vp_in_of (n := 256) (vp_in_iff.mpr ⟨hm.1, by omega⟩) (by decide)
  have hx : nI a ^^^ nI b = nI (a ^^^ b) := by
    apply Int32.toBitVec_inj.mp
    apply BitVec.eq_of_toNat_eq
    have hab : a ^^^ b < 2 ^ 8 := Nat.xor_lt_two_pow ha hb
    show ((nI a).toBitVec ^^^ (nI b).toBitVec).toNat = (nI (a ^^^ b)).toBitVec.toNat
    rw [BitVec.toNat_xor, pk_tn (by omega), pk_tn (by omega), pk_tn (by omega)]
  have hab : a ^^^ b < 2 ^ 8 := Nat.xor_lt_two_pow ha hb
  rw [hx, nI_toInt (by omega)]
  omega
theorem op_poke {g : Nat} {c : Nat × Nat} {S T : Mem} (h : Rel c S T) (x y z : Int32) : Sim (Rel c) (f_A_poke g S x y z) (f_R_poke g T x y z) := by
  obtain ⟨hH, ⟨n, l1, l2, l3, l4, l5, l6, l7⟩, hN, hJ, hM, hI⟩ := id h
  unfold f_A_poke f_N_changeByte f_R_poke
  simp only [p_has, p_isLetter, p_isWithin, bnd_some, lt_eq, l2, l3, l64_lt y 0 0 rfl, l64_gt y 12 12 rfl, l64_lt z 1 1 rfl, l64_gt z 255 255 rfl, i_le z 255]
  by_cases h1 : x < 0
  · simp only [h1, ↓reduceIte, bnd_some, g0]; exact Sim.ret h
  by_cases h2 : nI n ≤ x
  · simp only [h1, h2, ↓reduceIte, bnd_some, g0]; exact Sim.ret h
  obtain ⟨i, hi, rfl⟩ := ex_nI h1 (nle_lt (by omega) h2) (by omega)
  by_cases h3 : y < 0
  · simp only [h1, h2, h3, e10, ↓reduceIte, bnd_some, g0]; exact Sim.ret h
  by_cases h4 : 12 < y
  · simp only [h1, h2, h3, h4, e10, ↓reduceIte, bnd_some, g0]; exact Sim.ret h
  by_cases h5 : z < 1
  · simp only [h1, h2, h3, h4, h5, e10, ↓reduceIte, bnd_some, g0]; exact Sim.ret h
  by_cases h6 : 255 < z
  · simp only [h1, h2, h3, h4, h5, h6, e10, ↓reduceIte, bnd_some, g0, not_true_eq_false]; exact Sim.ret h
  obtain ⟨k, hk, rfl⟩ := ex_nI h3 (ngt_lt (n := 13) (by decide) h4) (by decide)
  obtain ⟨a1, a2⟩ := ix14 (i := i) (k := k) (by omega) (by omega)
  have hgi : ¬ (nI i < 0 ∨ 24 ≤ (nI i).toNatClampNeg) := nI_in (by omega) (by decide)
  have hgk : ¬ (nI k < 0 ∨ 13 ≤ (nI k).toNatClampNeg) := nI_in (by omega) (by decide)
  have ei : (nI i).toNatClampNeg = i := nI_clamp (by omega)
  have ek : (nI k).toNatClampNeg = k := nI_clamp (by omega)
  have hj : S.2.2.1 (nI i).toNatClampNeg < 25 := by rw [ei]; have := l5 i (by omega); omega
  simp only [grd_pos hgi, grd_pos hgk, grd_pos hj, grd_pos a1]
  simp only [h1, h2, h3, h4, h5, h6, e10, ↓reduceIte, bnd_some, g1, not_false_eq_true]
  rw [a2, ei, ek]
  have hz : 0 ≤ z.toInt ∧ z.toInt ≤ 255 := by
    rw [Int32.lt_iff_toInt_lt] at h5 h6
    have e1 : (1 : Int32).toInt = 1 := by decide
    have e2 : (255 : Int32).toInt = 255 := by decide
    omega
  refine Sim.ret ⟨hH, ⟨n, l1, l2, l3, l4, l5, l6, fun i2 hi2 => ⟨fun k2 hk2 => ?_, ?_⟩⟩, hN, hJ, hM, hI⟩
  · show PIn 0 255 (va_up S.2.2.2.2 (S.2.2.1 i) (upd (S.2.2.2.2 (S.2.2.1 i)) k (S.2.2.2.2 (S.2.2.1 i) k ^^^ z)) (S.2.2.1 i2) k2) (upd (T.1 25) (14 * i + k) (T.1 25 (14 * i + k) ^^^ z) (14 * i2 + k2))
    by_cases e : i2 = i
    · subst e
      rw [va_up_self]
      by_cases e2 : k2 = k
      · subst e2
        rw [upd_eq, upd_eq]
        exact xor255 ((l7 i2 hi2).1 k2 hk2) hz
      · rw [upd_ne e2, upd_ne (by omega)]
        exact (l7 i2 hi2).1 k2 hk2
    · rw [va_up_ne _ _ (fun q => e (l6 i2 i (by omega) (by omega) q)), upd_ne (by omega)]
      exact (l7 i2 hi2).1 k2 hk2
  · show (S.2.2.2.1 (S.2.2.1 i2) = 1 ∧ upd (T.1 25) (14 * i + k) (T.1 25 (14 * i + k) ^^^ z) (14 * i2 + 13) = 0) ∨ (S.2.2.2.1 (S.2.2.1 i2) = 0 ∧ upd (T.1 25) (14 * i + k) (T.1 25 (14 * i + k) ^^^ z) (14 * i2 + 13) = 1)
    rw [upd_ne (by omega)]
    exact (l7 i2 hi2).2
