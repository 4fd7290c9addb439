/-! what holds between calls; the small calls -/
theorem g0 {β : Type} {iP : Decidable ((0 : Int32) = 0 ∨ (0 : Int32) = 1)} {q : Option β} : @grd β _ iP q = q := grd_pos (Or.inl rfl)
theorem g1 {β : Type} {iP : Decidable ((1 : Int32) = 0 ∨ (1 : Int32) = 1)} {q : Option β} : @grd β _ iP q = q := grd_pos (Or.inr rfl)
theorem e10 : ((1 : Int32) = 0) = False := by decide
theorem e00 : ((0 : Int32) = 0) = True := by decide
theorem i_le (a b : Int32) : a ≤ b ↔ ¬ b < a := by
  rw [Int32.le_iff_toInt_le, Int32.lt_iff_toInt_lt]
  omega
/-- the amount can be mixed -/
def MixOk (S : Mem) (A : Int32) : Prop := ∃ An : Nat, A = nI An ∧ (1 ≤ An ∧ An ≤ 40000) ∧ (rA (fun i => (S.1 22 i).toInt.toNat) (fun i => (S.1 23 i).toInt.toNat) An (41, 0, 0, 0, 0)).1 ≤ 40
/-- what the machine keeps to, beside what both memories have alike -/
def INV (S T : Mem) : Prop := (S.1 11 0 = 1 → (S.1 13 0 = 1 ∨ S.1 13 0 = 2 ∨ S.1 13 0 = 3 ∨ S.1 13 0 = 4) → 0 ≤ (S.1 14 0).toInt ∧ (S.1 14 0).toInt ≤ 15) ∧ (S.1 11 0 = 1 → (S.1 13 0 = 2 ∨ S.1 13 0 = 4 ∨ S.1 13 0 = 5) → 0 ≤ (S.1 20 0).toInt ∧ (S.1 20 0).toInt ≤ 15) ∧ (S.1 11 0 = 1 → S.1 13 0 = 4 → MixOk S (S.1 21 0) ∧ ∃ n : Nat, 0 < n ∧ n ≤ 291 ∧ S.1 36 0 = nI n ∧ S.1 32 (n - 1) = 1) ∧ (∀ n : Nat, n ≤ 300 → 0 < n → S.1 36 0 = nI n → (S.1 32 (n - 1) = 1 ∨ S.1 32 (n - 1) = 2 ∨ S.1 32 (n - 1) = 4) → ∃ b : Nat, b < n ∧ S.1 32 b = 1 ∧ (∀ i, b < i → i < n → S.1 32 i ≠ 1) ∧ T.1 14 (5 * b + 4) = S.1 17 0 ∧ (S.1 32 (n - 1) ≠ 2 → S.1 16 0 ≤ S.1 17 0))
/-- c: bounds of the stacker -/
def Rel (c : Nat × Nat) (S T : Mem) : Prop := RH S T ∧ RL S T ∧ RN c S T ∧ RJ S T ∧ RM S T ∧ INV S T
theorem op_account {g : Nat} {c : Nat × Nat} {S T : Mem} (h : Rel c S T) (x : Int32) (y : Int64) : Sim (Rel c) (f_A_account g S x y) (f_R_account g T x y) := by
  obtain ⟨hH, hL, hN, hJ, hM, hI⟩ := id h
  unfold f_A_account f_H_setBalance f_R_account
  simp only [p_isAccount, p_isWithin, bnd_some, lgc_lt, lgc_le, lt_eq]
  by_cases h1 : x < 0
  · simp only [h1, ↓reduceIte, bnd_some]
    exact Sim.ret h
  · by_cases h2 : 7 < x
    · simp only [h1, h2, ↓reduceIte, bnd_some]
      exact Sim.ret h
    · by_cases h3 : y < 0
      · simp only [h1, h2, h3, ↓reduceIte, bnd_some]
        exact Sim.ret h
      · by_cases h4 : 1000000000 < y
        · simp only [h1, h2, h3, h4, ↓reduceIte, bnd_some, not_true_eq_false]
          exact Sim.ret h
        · obtain ⟨hi, hk⟩ := ix_in (m := 7) (n := 8) (by decide) h1 h2
          have e10 : ¬ ((1 : Int32) = 0) := by decide
          simp only [h2, h3, h4, e10, ↓reduceIte, not_false_eq_true]
          rw [if_neg h1, if_neg e10, if_neg h1, grd_pos hi, grd_pos hi]
          exact Sim.ret ⟨⟨all_updL (P := fun a b => a = b) hH.1 rfl, hH.2⟩, hL, hN, hJ, hM, hI⟩
theorem op_card {g : Nat} {c : Nat × Nat} {S T : Mem} (h : Rel c S T) (x y z : Int32) : Sim (Rel c) (f_A_card g S x y z) (f_R_card g T x y z) := by
  obtain ⟨⟨b1, b2, b3, b4, b5⟩, hL, hN, hJ, hM, hI⟩ := id h
  unfold f_A_card f_H_tellCard f_R_card
  simp only [p_isCard, p_isAccount, p_isPin, bnd_some, l64_lt z 0 0 rfl, l64_gt z 9999 9999 rfl, i_le]
  by_cases h1 : x < 0
  · simp only [h1, ↓reduceIte, bnd_some, g0]; exact Sim.ret h
  by_cases h2 : 15 < x
  · simp only [h1, h2, ↓reduceIte, bnd_some, g0]; exact Sim.ret h
  by_cases h3 : y < 0
  · simp only [h1, h2, h3, ↓reduceIte, bnd_some, g0, e10]; exact Sim.ret h
  by_cases h4 : 7 < y
  · simp only [h1, h2, h3, h4, ↓reduceIte, bnd_some, g0, e10]; exact Sim.ret h
  by_cases h5 : z < 0
  · simp only [h1, h2, h3, h4, h5, ↓reduceIte, bnd_some, g0, e10]; exact Sim.ret h
  by_cases h6 : 9999 < z
  · simp only [h1, h2, h3, h4, h5, h6, ↓reduceIte, bnd_some, g0, e10, not_true_eq_false]; exact Sim.ret h
  obtain ⟨hi, hk⟩ := ix_in (m := 15) (n := 16) (by decide) h1 h2
  simp only [grd_pos hi, lt_eq]
  simp only [h1, h2, h3, h4, h5, h6, ↓reduceIte, bnd_some, g1, e10, not_false_eq_true]
  refine Sim.ret ⟨⟨b1, all_upd b2 ⟨rfl, Or.inr ?_⟩, all_upd (P := fun a b => a = b) b3 rfl, all_upd b4 ⟨rfl, by decide, by decide⟩, b5⟩, hL, hN, hJ, hM, hI⟩
  rw [Int32.lt_iff_toInt_lt] at h3 h4
  have e7 : (7 : Int32).toInt = 7 := by decide
  have e0 : (0 : Int32).toInt = 0 := by decide
  omega
theorem op_cut {g : Nat} {c : Nat × Nat} {S T : Mem} (h : Rel c S T) : Sim (Rel c) (f_A_cut g S) (f_R_cut g T) := by
  obtain ⟨hH, hL, hN, hJ, ⟨m1, m2, m3, m4⟩, i1, i2, i3, i4⟩ := id h
  have eOn : T.1 18 0 = S.1 11 0 := m2.1.symm
  unfold f_A_cut f_M_switchOff f_R_cut f_R_goOff
  simp only [eOn, lt_eq]
  by_cases h1 : S.1 11 0 = 0
  · simp only [h1, ↓reduceIte, bnd_some, g0]; exact Sim.ret h
  · simp only [h1, ↓reduceIte, bnd_some, g1]
    have z1 : ¬ ((0 : Int32) = 1) := by decide
    exact Sim.ret ⟨hH, hL, hN, hJ, ⟨m1, ⟨rfl, (show (0 : Int) ≤ (0 : Int32).toInt by decide), (show (0 : Int32).toInt ≤ 1 by decide)⟩, fun z => absurd z z1, m4⟩, fun z => absurd z z1, fun z => absurd z z1, fun z => absurd z z1, i4⟩
theorem op_arm {g : Nat} {c : Nat × Nat} {S T : Mem} (h : Rel c S T) (x : Int32) : Sim (Rel c) (f_A_arm g S x) (f_R_arm g T x) := by
  obtain ⟨hH, hL, hN, hJ, ⟨m1, m2, m3, m4⟩, hI⟩ := id h
  have eOn : T.1 18 0 = S.1 11 0 := m2.1.symm
  unfold f_A_arm f_M_allowSteps f_R_arm
  simp only [eOn, lt_eq, p_isWithin, bnd_some, l64_lt x 0 0 rfl, l64_gt x 100 100 rfl, i_le]
  by_cases h1 : S.1 11 0 = 0
  · simp only [h1, ↓reduceIte, bnd_some, g0]; exact Sim.ret h
  by_cases h2 : x < 0
  · simp only [h1, h2, ↓reduceIte, bnd_some, g0]; exact Sim.ret h
  by_cases h3 : 100 < x
  · simp only [h1, h2, h3, ↓reduceIte, bnd_some, g0, not_true_eq_false]; exact Sim.ret h
  · simp only [h1, h2, h3, ↓reduceIte, bnd_some, g1, e10, not_false_eq_true]
    exact Sim.ret ⟨hH, hL, hN, hJ, ⟨m1, m2, fun _ => rfl, m4⟩, hI⟩
theorem op_balance {g : Nat} {c : Nat × Nat} {S T : Mem} (h : Rel c S T) (x : Int32) : Sim (Rel c) (f_A_balance g S x) (f_R_balance g T x) := by
  obtain ⟨hH, -⟩ := id h
  unfold f_A_balance f_H_balanceOf f_R_balance
  simp only [p_isAccount, bnd_some, i_le]
  by_cases h1 : x < 0
  · simp only [h1, ↓reduceIte, bnd_some]; exact Sim.ret h
  by_cases h2 : 7 < x
  · simp only [h1, h2, ↓reduceIte, bnd_some, not_true_eq_false]; exact Sim.ret h
  obtain ⟨hi, hk⟩ := ix_in (m := 7) (n := 8) (by decide) h1 h2
  simp only [grd_pos hi]
  simp only [h1, h2, ↓reduceIte, bnd_some, e10, not_false_eq_true]
  rw [hH.1 _ hk]
  exact Sim.ret h
theorem op_cassette {g : Nat} {c : Nat × Nat} {S T : Mem} (h : Rel c S T) (x y : Int32) : Sim (Rel c) (f_A_cassette g S x y) (f_R_cassette g T x y) := by
  obtain ⟨-, -, ⟨n1, n2, n3, n4, n5, -⟩, -⟩ := id h
  unfold f_A_cassette f_O_tell f_R_cassette
  simp only [p_isCassette, bnd_some, i_le]
  by_cases h1 : x < 0
  · simp only [h1, ↓reduceIte, bnd_some]; exact Sim.ret h
  by_cases h2 : 3 < x
  · simp only [h1, h2, ↓reduceIte, bnd_some, not_true_eq_false]; exact Sim.ret h
  obtain ⟨hi, hk⟩ := ix_in (m := 3) (n := 4) (by decide) h1 h2
  simp only [grd_pos hi]
  simp only [h1, h2, ↓reduceIte, bnd_some, e10, not_false_eq_true]
  by_cases y0 : y = 0
  · simp only [y0, ↓reduceIte, bnd_some]; rw [(n1 _ hk).1]; exact Sim.ret h
  by_cases y1 : y = 1
  · simp only [y0, y1, e10, ↓reduceIte, bnd_some]; rw [(n2 _ hk).1]; exact Sim.ret h
  by_cases y2 : y = 2
  · simp only [y0, y1, y2, ↓reduceIte, bnd_some, show ((2 : Int32) = 0) = False by decide, show ((2 : Int32) = 1) = False by decide]; rw [(n3 _ hk).1]; exact Sim.ret h
  by_cases y3 : y = 3
  · simp only [y3, ↓reduceIte, bnd_some, show ((3 : Int32) = 0) = False by decide, show ((3 : Int32) = 1) = False by decide, show ((3 : Int32) = 2) = False by decide]; rw [n4 _ hk]; exact Sim.ret h
  by_cases y4 : y = 4
  · simp only [y4, ↓reduceIte, bnd_some, show ((4 : Int32) = 0) = False by decide, show ((4 : Int32) = 1) = False by decide, show ((4 : Int32) = 2) = False by decide, show ((4 : Int32) = 3) = False by decide]; rw [n5 _ hk]; exact Sim.ret h
  simp only [y0, y1, y2, y3, y4, ↓reduceIte, bnd_some]; exact Sim.ret h
