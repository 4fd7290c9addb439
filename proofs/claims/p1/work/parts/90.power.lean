/-! power comes -/
theorem p_tell {g n k : Nat} {S : Mem} (hn : n ≤ 300) (hs : S.1 36 0 = nI n) (hk : k < n) (w : Int32) : f_J_tell g S (nI k) w = some (if w = 0 then S.1 32 k else if w = 1 then S.1 33 k else if w = 2 then S.1 34 k else if w = 3 then S.1 35 k else -1, S) := by
  have gi : ¬ (nI k < 0 ∨ 300 ≤ (nI k).toNatClampNeg) := nI_in (by omega) (by decide)
  have ei : (nI k).toNatClampNeg = k := nI_clamp (by omega)
  have e1 : ¬ (nI k).toInt64 < (0 : Int64) := fun z => nI_pos (show k < 2 ^ 31 by omega) ((l64_lt (nI k) 0 0 rfl).mp z)
  have e2 : ¬ (nI n - 1).toInt64 < (nI k).toInt64 := by
    rw [nI_m1 (by omega), nI_l (by omega), nI_l (by omega), lN_lt (by omega) (by omega)]
    omega
  unfold f_J_tell
  rw [hs, p_isWithin, if_neg e1, if_neg e2, bnd_some, if_neg d10]
  simp only [grd_pos gi]
  rw [ei]
  by_cases w0 : w = 0
  · rw [if_pos w0, if_pos w0]
  rw [if_neg w0, if_neg w0]
  by_cases w1 : w = 1
  · rw [if_pos w1, if_pos w1]
  rw [if_neg w1, if_neg w1]
  by_cases w2 : w = 2
  · rw [if_pos w2, if_pos w2]
  rw [if_neg w2, if_neg w2]
  by_cases w3 : w = 3
  · rw [if_pos w3, if_pos w3]
  rw [if_neg w3, if_neg w3]
theorem l_lastB {g n : Nat} {S : Mem} (hn : n ≤ 300) (hs : S.1 36 0 = nI n) : ∀ (k f : Nat), k < f → k ≤ n → (∃ b : Nat, b < k ∧ S.1 32 b = 1 ∧ (∀ i, b < i → i < k → S.1 32 i ≠ 1) ∧ f_J_lastBegun_7 g f S (nI k + (-1)) = some (.inl (nI b, S))) ∨ ((∀ i, i < k → S.1 32 i ≠ 1) ∧ f_J_lastBegun_7 g f S (nI k + (-1)) = some (.inr (S, ()))) := by
  intro k
  induction k with
  | zero =>
    intro f hf hk
    obtain ⟨f, rfl⟩ : ∃ q, f = q + 1 := ⟨f - 1, by omega⟩
    refine Or.inr ⟨fun i hi => absurd hi (by omega), ?_⟩
    rw [f_J_lastBegun_7, if_pos (show nI 0 + (-1) < (0 : Int32) by decide)]
  | succ k ih =>
    intro f hf hk
    obtain ⟨f, rfl⟩ : ∃ q, f = q + 1 := ⟨f - 1, by omega⟩
    rw [f_J_lastBegun_7, pk_m1, if_neg (nI_pos (show k < 2 ^ 31 by omega)), p_tell hn hs (by omega), bnd_some, if_pos rfl]
    by_cases h1 : S.1 32 k = 1
    · rw [if_pos h1]
      exact Or.inl ⟨k, by omega, h1, fun i q1 q2 => absurd q2 (by omega), rfl⟩
    · rw [if_neg h1, lt_eq]
      rcases ih f (by omega) (by omega) with ⟨b, b1, b2, b3, b4⟩ | ⟨b1, b2⟩
      · refine Or.inl ⟨b, by omega, b2, fun i q1 q2 => ?_, b4⟩
        by_cases e : i = k
        · rw [e]; exact h1
        · exact b3 i q1 (by omega)
      · refine Or.inr ⟨fun i hi => ?_, b2⟩
        by_cases e : i = k
        · rw [e]; exact h1
        · exact b1 i (by omega)
theorem p_lastB {g n : Nat} {S : Mem} (hg : 400 < g) (hn : n ≤ 300) (hs : S.1 36 0 = nI n) : (∃ b : Nat, b < n ∧ S.1 32 b = 1 ∧ (∀ i, b < i → i < n → S.1 32 i ≠ 1) ∧ f_J_lastBegun g S = some (nI b, S)) ∨ ((∀ i, i < n → S.1 32 i ≠ 1) ∧ f_J_lastBegun g S = some (-1, S)) := by
  unfold f_J_lastBegun
  have e : nI n - 1 = nI n + (-1) := by
    rw [show (-1 : Int32) = -(1 : Int32) by decide, ← Int32.sub_eq_add_neg]
  rw [lt_eq, hs, e]
  rcases l_lastB (g := g) hn hs n g (by omega) (by omega) with ⟨b, b1, b2, b3, b4⟩ | ⟨b1, b2⟩
  · rw [b4, seqR_l]
    exact Or.inl ⟨b, b1, b2, b3, rfl⟩
  · rw [b2, seqR_r]
    exact Or.inr ⟨b1, rfl⟩
theorem l_pow58 {g n : Nat} {T : Mem} {x1 : Int32} (hn : n ≤ 300) (hs : T.1 15 0 = nI n) : ∀ (d k f : Nat) (x2 : Int32), k + d = n → d < f → (∃ b : Nat, k ≤ b ∧ b < n ∧ T.1 14 (5 * b) = 1 ∧ (∀ i, b < i → i < n → T.1 14 (5 * i) ≠ 1) ∧ f_R_power_58 g f T x1 x2 (nI k) = some (T, (x1, nI b))) ∨ ((∀ i, k ≤ i → i < n → T.1 14 (5 * i) ≠ 1) ∧ f_R_power_58 g f T x1 x2 (nI k) = some (T, (x1, x2))) := by
  intro d
  induction d with
  | zero =>
    intro k f x2 hk hf
    obtain ⟨f, rfl⟩ : ∃ q, f = q + 1 := ⟨f - 1, by omega⟩
    refine Or.inr ⟨fun i h1 h2 => absurd h2 (by omega), ?_⟩
    rw [f_R_power_58, hs, if_pos (nI_le (by omega) (by omega))]
  | succ d ih =>
    intro k f x2 hk hf
    obtain ⟨f, rfl⟩ : ∃ q, f = q + 1 := ⟨f - 1, by omega⟩
    have gi : ¬ (nI (5 * k) < 0 ∨ 1500 ≤ (nI (5 * k)).toNatClampNeg) := nI_in (by omega) (by decide)
    have ei : (nI (5 * k)).toNatClampNeg = 5 * k := nI_clamp (by omega)
    rw [f_R_power_58, hs, if_neg (nI_ge (by omega) (by omega)), show (5 : Int32) * nI k = nI (5 * k) from pk_mul 5 k, grd_pos gi, ei]
    simp only [lt_eq, add1]
    by_cases h1 : T.1 14 (5 * k) = 1
    · rw [if_pos h1]
      rcases ih (k + 1) f (nI k) (by omega) (by omega) with ⟨b, b0, b1, b2, b3, b4⟩ | ⟨b1, b2⟩
      · exact Or.inl ⟨b, by omega, b1, b2, b3, b4⟩
      · exact Or.inl ⟨k, by omega, by omega, h1, fun i q1 q2 => b1 i (by omega) q2, b2⟩
    · rw [if_neg h1]
      rcases ih (k + 1) f x2 (by omega) (by omega) with ⟨b, b0, b1, b2, b3, b4⟩ | ⟨b1, b2⟩
      · exact Or.inl ⟨b, by omega, b1, b2, b3, b4⟩
      · refine Or.inr ⟨fun i q1 q2 => ?_, b2⟩
        by_cases e : i = k
        · rw [e]; exact h1
        · exact b1 i (by omega) q2
theorem INV.on0 {S T : Mem} (h : S.1 13 0 = 0) (h4 : I4 S T) : INV S T := by
  refine ⟨fun _ z => ?_, fun _ z => ?_, fun _ z => ?_, h4⟩
  · rw [h] at z
    exact absurd z (by decide)
  · rw [h] at z
    exact absurd z (by decide)
  · rw [h] at z
    exact absurd z (by decide)
def onS (S : Mem) : Mem := sI (sI (sI (sI S 11 0 1) 12 0 (-1)) 14 0 (-1)) 13 0 0
def onT (T : Mem) : Mem := sI (sI (sI (sI T 18 0 1) 19 0 (-1)) 21 0 (-1)) 20 0 0
def rcS (S : Mem) (b : Nat) : Mem := sI (sI (sI S 19 0 (S.1 33 b)) 21 0 (S.1 34 b)) 20 0 (S.1 35 b)
def rcT (T : Mem) (b : Nat) : Mem := sI (sI (sI T 22 0 (T.1 14 (5 * b + 1))) 24 0 (T.1 14 (5 * b + 2))) 23 0 (T.1 14 (5 * b + 3))
/-- behind the recall: what the class does with the last record L -/
def tlS (g : Nat) (S : Mem) (L : Int32) : Option (Int32 × Mem) := if L = 1 then bnd (f_M_reverse g S 1) (fun _ X => some (1, X)) else if L = 2 then (if S.1 16 0 ≤ S.1 17 0 then bnd (f_M_reverse g S 1) (fun _ X => some (1, X)) else bnd (f_M_write g S 3) (fun _ X => some (1, X))) else if L = 4 then (if S.1 16 0 ≤ S.1 17 0 then bnd (f_M_reverse g S 0) (fun _ X => some (1, X)) else bnd (f_M_write g S 3) (fun _ X => some (1, X))) else some (1, S)
theorem p_onS {g n : Nat} {S S1 : Mem} {L : Int32} (h0 : S.1 11 0 = 0) (h1 : f_M_recallLastBegun g (onS S) = some ((), S1)) (h2 : f_J_lastKind g S1 = some (L, S1)) : f_M_switchOn g S = tlS g S1 L := by
  unfold f_M_switchOn f_M_endWithoutCard tlS
  rw [if_pos h0]
  simp only [lt_eq, bnd_some]
  rw [show f_M_recallLastBegun g (sI (sI (sI (sI S 11 0 1) 12 0 (-1)) 14 0 (-1)) 13 0 0) = some ((), S1) from h1, bnd_some, h2, bnd_some]
  simp only [h2, bnd_some]
  by_cases l1 : L = 1
  · simp only [if_pos l1]
  · simp only [if_neg l1]
    by_cases l2 : L = 2
    · simp only [if_pos l2]
    · simp only [if_neg l2]
      by_cases l3 : L = 3
      · have l4 : ¬ L = 4 := by rw [l3]; decide
        simp only [if_pos l3, if_neg l4]
      · simp only [if_neg l3]
def tlT (g : Nat) (T : Mem) (L : Int32) (ow : Int32) : Option (Int32 × Mem) := if L = 1 then bnd (f_R_reverse g T 1) (fun _ X => some (1, X)) else if L = 2 then (if T.1 17 0 ≤ ow then bnd (f_R_reverse g T 1) (fun _ X => some (1, X)) else bnd (f_R_record g T 3) (fun _ X => some (1, X))) else if L = 4 then bnd (f_R_reverse g T 0) (fun _ X => some (1, X)) else some (1, T)
theorem p_onT {g n b : Nat} {T : Mem} {L : Int32} (h0 : T.1 18 0 = 0) (hn : n ≤ 300) (hn0 : 0 < n) (hs : T.1 15 0 = nI n) (hL : T.1 14 (5 * n - 5) = L) (hb : b < n) (h1 : f_R_power_58 g g (onT T) L (-1) 0 = some (onT T, (L, nI b))) : f_R_power g T = tlT g (rcT (onT T) b) L (T.1 14 (5 * b + 4)) := by
  have hz : ¬ nI n = (0 : Int32) := fun z => by
    have := (nI_eq (show n < 2 ^ 31 by omega) (by decide)).mp (show nI n = nI 0 from z)
    omega
  have e5 : (5 : Int32) * nI n - 5 = nI (5 * n - 5) := by
    rw [show (5 : Int32) * nI n = nI (5 * n) from pk_mul 5 n]
    exact pk_sub (show 5 ≤ 5 * n by omega)
  have g5 : ¬ (nI (5 * n - 5) < 0 ∨ 1500 ≤ (nI (5 * n - 5)).toNatClampNeg) := nI_in (by omega) (by decide)
  have c5 : (nI (5 * n - 5)).toNatClampNeg = 5 * n - 5 := nI_clamp (by omega)
  have nb : ¬ nI b = (-1 : Int32) := fun z => by
    have h := congrArg Int32.toInt z
    rw [nI_toInt (by omega), show (-1 : Int32).toInt = -1 by decide] at h
    omega
  have k5 : (5 : Int32) * nI b = nI (5 * b) := pk_mul 5 b
  have gk : ∀ k, k < 5 → (¬ (nI (5 * b + k) < 0 ∨ 1500 ≤ (nI (5 * b + k)).toNatClampNeg)) ∧ (nI (5 * b + k)).toNatClampNeg = 5 * b + k := fun k hk => ⟨nI_in (by omega) (by decide), nI_clamp (by omega)⟩
  unfold f_R_power tlT
  rw [if_pos h0]
  simp only [lt_eq]
  rw [show (sI (sI (sI (sI T 18 0 1) 19 0 (-1)) 21 0 (-1)) 20 0 0).1 15 0 = nI n from hs, if_neg hz, e5, grd_pos g5, c5, show (sI (sI (sI (sI T 18 0 1) 19 0 (-1)) 21 0 (-1)) 20 0 0).1 14 (5 * n - 5) = L from hL, show f_R_power_58 g g (sI (sI (sI (sI T 18 0 1) 19 0 (-1)) 21 0 (-1)) 20 0 0) L (-1) 0 = some (onT T, (L, nI b)) from h1, seqM_some]
  simp only [if_neg nb]
  rw [k5, show nI (5 * b) + 1 = nI (5 * b + 1) from add1 _, show nI (5 * b) + 2 = nI (5 * b + 2) from nI_add _ 2, show nI (5 * b) + 3 = nI (5 * b + 3) from nI_add _ 3, show nI (5 * b) + 4 = nI (5 * b + 4) from nI_add _ 4]
  simp only [grd_pos (gk 1 (by decide)).1, grd_pos (gk 2 (by decide)).1, grd_pos (gk 3 (by decide)).1, grd_pos (gk 4 (by decide)).1]
  rw [(gk 1 (by decide)).2, (gk 2 (by decide)).2, (gk 3 (by decide)).2, (gk 4 (by decide)).2]
  by_cases l1 : L = 1
  · have l2 : ¬ L = 2 := by rw [l1]; decide
    have l4 : ¬ L = 4 := by rw [l1]; decide
    simp only [if_pos l1, if_neg l2, if_neg l4]
    rfl
  · by_cases l2 : L = 2
    · have l4 : ¬ L = 4 := by rw [l2]; decide
      simp only [if_neg l1, if_pos l2, if_neg l4]
      rfl
    · by_cases l4 : L = 4
      · simp only [if_neg l1, if_neg l2, if_pos l4]
        rfl
      · simp only [if_neg l1, if_neg l2, if_neg l4]
        rfl
theorem p_onT0 {g n : Nat} {T : Mem} {L : Int32} (h0 : T.1 18 0 = 0) (hn : n ≤ 300) (hs : T.1 15 0 = nI n) (hL : 0 < n → T.1 14 (5 * n - 5) = L) (hL0 : n = 0 → L = 0) (n1 : ¬ L = 1) (n2 : ¬ L = 2) (n4 : ¬ L = 4) (h1 : f_R_power_58 g g (onT T) L (-1) 0 = some (onT T, (L, -1))) : f_R_power g T = some (1, onT T) := by
  unfold f_R_power
  rw [if_pos h0]
  simp only [lt_eq]
  rw [show (sI (sI (sI (sI T 18 0 1) 19 0 (-1)) 21 0 (-1)) 20 0 0).1 15 0 = nI n from hs]
  by_cases hz : n = 0
  · subst hz
    rw [if_pos (show nI 0 = (0 : Int32) from rfl)]
    have hl := hL0 rfl
    subst hl
    rw [show f_R_power_58 g g (sI (sI (sI (sI T 18 0 1) 19 0 (-1)) 21 0 (-1)) 20 0 0) 0 (-1) 0 = some (onT T, (0, -1)) from h1, seqM_some]
    simp only [if_neg n1, if_neg n2, if_neg n4, ↓reduceIte]
  · have hz' : ¬ nI n = (0 : Int32) := fun z => hz ((nI_eq (show n < 2 ^ 31 by omega) (by decide)).mp (show nI n = nI 0 from z))
    have e5 : (5 : Int32) * nI n - 5 = nI (5 * n - 5) := by
      rw [show (5 : Int32) * nI n = nI (5 * n) from pk_mul 5 n]
      exact pk_sub (show 5 ≤ 5 * n by omega)
    have g5 : ¬ (nI (5 * n - 5) < 0 ∨ 1500 ≤ (nI (5 * n - 5)).toNatClampNeg) := nI_in (by omega) (by decide)
    have c5 : (nI (5 * n - 5)).toNatClampNeg = 5 * n - 5 := nI_clamp (by omega)
    rw [if_neg hz', e5, grd_pos g5, c5, show (sI (sI (sI (sI T 18 0 1) 19 0 (-1)) 21 0 (-1)) 20 0 0).1 14 (5 * n - 5) = L from hL (by omega), show f_R_power_58 g g (sI (sI (sI (sI T 18 0 1) 19 0 (-1)) 21 0 (-1)) 20 0 0) L (-1) 0 = some (onT T, (L, -1)) from h1, seqM_some]
    simp only [if_neg n1, if_neg n2, if_neg n4, ↓reduceIte]
theorem op_power {g : Nat} {c : Nat × Nat} {S T : Mem} (hg : 400 < g) (hb : c.1 < 2 ^ 28) (h : Rel c S T) : Sim (Rel c) (f_A_power g S) (f_R_power g T) := by
  obtain ⟨hH, hL, hN, ⟨n, j1, j2, j3, j4, j5⟩, ⟨m1, m2, m3, m4, m5, m6, m7, m8, m9, m10, m11⟩, hI⟩ := id h
  have eOn : T.1 18 0 = S.1 11 0 := m2.1.symm
  have i4 := hI.i4
  unfold f_A_power
  by_cases q1 : S.1 11 0 = 0
  rotate_left
  · unfold f_M_switchOn f_R_power
    rw [eOn, if_neg q1, if_neg q1, bnd_some, g0]
    exact Sim.ret h
  have q1' : T.1 18 0 = 0 := by rw [eOn]; exact q1
  have hC : Core c (onS S) (onT T) := ⟨hH, hL, hN, ⟨n, j1, j2, j3, j4, j5⟩, m1, ⟨rfl, (show (0 : Int) ≤ (1 : Int32).toInt by decide), (show (1 : Int32).toInt ≤ 1 by decide)⟩, fun _ => rfl, ⟨rfl, (show (0 : Int) ≤ (0 : Int32).toInt by decide), (show (0 : Int32).toInt ≤ 5 by decide)⟩, rfl, m6, m7, m8, m9, m10, m11⟩
  have hI0 : I4 (onS S) (onT T) := i4
  have lk : ∀ X : Mem, X.1 36 0 = nI n → X.1 32 = S.1 32 → f_J_lastKind g X = some (if n = 0 then -1 else S.1 32 (n - 1), X) := by
    intro X x1 x2
    unfold f_J_lastKind
    rw [x1]
    by_cases hz : n = 0
    · subst hz
      rw [if_pos rfl]
      unfold f_J_tell
      rw [x1, p_isWithin, if_pos (show (nI 0 - 1).toInt64 < 0 by decide), bnd_some, if_pos rfl, bnd_some]
    · rw [if_neg hz, nI_m1 (by omega), p_tell j1 x1 (by omega), if_pos rfl, bnd_some, x2]
  have kr : ∀ i, i < n → S.1 32 i = T.1 14 (5 * i) := fun i hi => (j4 i hi).1
  rcases p_lastB (g := g) (S := onS S) hg j1 j2 with ⟨b, b1, b2, b3, b4⟩ | ⟨b1, b2⟩
  · -- there is a record 1
    have b2' : S.1 32 b = 1 := b2
    have b3' : ∀ i, b < i → i < n → S.1 32 i ≠ 1 := b3
    have nb : ¬ nI b = (-1 : Int32) := fun z => by
      have h := congrArg Int32.toInt z
      rw [nI_toInt (by omega), show (-1 : Int32).toInt = -1 by decide] at h
      omega
    have rec1 : f_M_recallLastBegun g (onS S) = some ((), rcS (onS S) b) := by
      unfold f_M_recallLastBegun
      rw [b4, bnd_some, if_neg nb, p_tell (S := onS S) j1 j2 b1, bnd_some, lt_eq, p_tell (S := sI (onS S) 19 0 _) j1 j2 b1, bnd_some, lt_eq, p_tell (S := sI (sI (onS S) 19 0 _) 21 0 _) j1 j2 b1, bnd_some, lt_eq]
      rfl
    have hn0 : 0 < n := by omega
    have e58 : f_R_power_58 g g (onT T) (T.1 14 (5 * n - 5)) (-1) 0 = some (onT T, (T.1 14 (5 * n - 5), nI b)) := by
      rcases l_pow58 (g := g) (T := onT T) (x1 := T.1 14 (5 * n - 5)) j1 j3 n 0 g (-1) (by omega) (by omega) with ⟨d, d0, d1, d2, d3, d4⟩ | ⟨d1, d2⟩
      · have d2' : S.1 32 d = 1 := by rw [kr d d1]; exact d2
        have e : d = b := by
          rcases Nat.lt_trichotomy d b with z | z | z
          · exact absurd (show T.1 14 (5 * b) = 1 by rw [← kr b b1]; exact b2') (d3 b z b1)
          · exact z
          · exact absurd d2' (b3' d z d1)
        rw [← e]
        exact d4
      · exact absurd (show T.1 14 (5 * b) = 1 by rw [← kr b b1]; exact b2') (d1 b (Nat.zero_le b) b1)
    have eL : T.1 14 (5 * n - 5) = S.1 32 (n - 1) := by
      rw [kr (n - 1) (by omega), show 5 * n - 5 = 5 * (n - 1) by omega]
    have eS : f_M_switchOn g S = tlS g (rcS (onS S) b) (S.1 32 (n - 1)) := by
      refine p_onS (n := n) q1 rec1 ?_
      rw [lk (rcS (onS S) b) j2 rfl, if_neg (by omega)]
    rw [eS, p_onT q1' j1 hn0 j3 rfl b1 e58, eL]
    have hCb : Core c (rcS (onS S) b) (rcT (onT T) b) := by
      obtain ⟨gH, gL, gN, gJ, u1, u2, u3, u4, u5, u6, u7, u8, u9, u10, u11⟩ := hC
      obtain ⟨x1, x2, x3, x4⟩ := j4 b b1
      exact ⟨gH, gL, gN, gJ, u1, u2, u3, u4, u5, u6, u7, u8, ⟨x2, (j5 b b1 b2').1⟩, x4, x3⟩
    have hIb : I4 (rcS (onS S) b) (rcT (onT T) b) := i4
    have hcd : 0 ≤ ((rcS (onS S) b).1 20 0).toInt ∧ ((rcS (onS S) b).1 20 0).toInt ≤ 15 := (j5 b b1 b2').2
    have hfin : Rel c (rcS (onS S) b) (rcT (onT T) b) := hCb.rel (INV.on0 rfl hIb)
    have wr3 : Sim (Rel c) (bnd (f_M_write g (rcS (onS S) b) 3) (fun _ X => some ((1 : Int32), X))) (bnd (f_R_record g (rcT (onT T) b) 3) (fun _ X => some ((1 : Int32), X))) := by
      obtain ⟨r, S2, T2, w1, w2, w3, w4, w5, w6, w7, w8⟩ := r_write (g := g) (kd := 3) hCb rfl j1 j2 (fun z => absurd z (by decide))
      rw [w1, w2, bnd_some, bnd_some]
      have f13 : S2.1 13 0 = 0 := by
        rw [w4 _ (by decide) (by decide) (by decide) (by decide) (by decide) (by decide) (by decide)]
        rfl
      have f16 : S2.1 16 0 = (rcS (onS S) b).1 16 0 := by rw [w4 _ (by decide) (by decide) (by decide) (by decide) (by decide) (by decide) (by decide)]
      have f17 : S2.1 17 0 = (rcS (onS S) b).1 17 0 := by rw [w4 _ (by decide) (by decide) (by decide) (by decide) (by decide) (by decide) (by decide)]
      refine Sim.ret (w3.rel (INV.on0 f13 ?_))
      rcases w8 with ⟨-, y1, y2, y3, y4⟩ | ⟨-, y1, ⟨-, y2, y3, y4⟩ | ⟨x1, x2, x3, x4, x5, x6⟩⟩
      · exact hIb.keep (y2.trans j2.symm) y3 f16 f17 y4
      · exact hIb.keep (y2.trans j2.symm) y3 f16 f17 y4
      · exact I4.none (m := n + 1) (by omega) x2 (fun _ => by rw [Nat.add_sub_cancel, x3]; decide)
    have wrap : ∀ {o o2 : Option (Unit × Mem)}, Sim (Rel c) o o2 → Sim (Rel c) (bnd (bnd o (fun _ X => some ((1 : Int32), X))) (fun r21 S22 => grd (r21 = 0 ∨ r21 = 1) (some (r21, S22)))) (bnd o2 (fun _ X => some ((1 : Int32), X))) := by
      intro o o2 z
      obtain ⟨r, X, Y, x1, x2, x3⟩ := z
      rw [x1, x2, bnd_some, bnd_some, bnd_some, g1]
      exact Sim.ret x3
    have wrap3 : Sim (Rel c) (bnd (bnd (f_M_write g (rcS (onS S) b) 3) (fun _ X => some ((1 : Int32), X))) (fun r21 S22 => grd (r21 = 0 ∨ r21 = 1) (some (r21, S22)))) (bnd (f_R_record g (rcT (onT T) b) 3) (fun _ X => some ((1 : Int32), X))) := by
      obtain ⟨r, X, Y, x1, x2, x3⟩ := wr3
      have hr : r = 1 := by
        cases hq : f_M_write g (rcS (onS S) b) 3 with
        | none => rw [hq] at x1; cases x1
        | some z =>
          rw [hq] at x1
          cases x1
          rfl
      subst hr
      rw [x1, x2, bnd_some, g1]
      exact Sim.ret x3
    unfold tlS tlT
    by_cases l1 : S.1 32 (n - 1) = 1
    · obtain ⟨b', y1, y2, y3, y4, y5⟩ := i4 n j1 hn0 j2 (Or.inl l1)
      rw [if_pos l1, if_pos l1]
      exact wrap (r_rev1 (n := n) hg hCb hb rfl hcd hIb j1 j2 ⟨b', y1, y2, y3, y4⟩ (y5 (by rw [l1]; decide)))
    rw [if_neg l1, if_neg l1]
    by_cases l2 : S.1 32 (n - 1) = 2
    · obtain ⟨b', y1, y2, y3, y4, y5⟩ := i4 n j1 hn0 j2 (Or.inr (Or.inl l2))
      have eb : b' = b := by
        rcases Nat.lt_trichotomy b' b with z | z | z
        · exact absurd b2' (y3 b z b1)
        · exact z
        · exact absurd y2 (b3' b' z y1)
      subst eb
      have e17 : T.1 14 (5 * b' + 4) = S.1 17 0 := y4
      have e16 : (rcT (onT T) b').1 17 0 = S.1 16 0 := m7.symm
      rw [if_pos l2, if_pos l2, e16, e17, show (rcS (onS S) b').1 16 0 = S.1 16 0 from rfl, show (rcS (onS S) b').1 17 0 = S.1 17 0 from rfl]
      by_cases ho : S.1 16 0 ≤ S.1 17 0
      · rw [if_pos ho, if_pos ho]
        exact wrap (r_rev1 (n := n) hg hCb hb rfl hcd hIb j1 j2 ⟨b', y1, y2, y3, y4⟩ ho)
      · rw [if_neg ho, if_neg ho]
        exact wrap3
    rw [if_neg l2, if_neg l2]
    by_cases l4 : S.1 32 (n - 1) = 4
    · obtain ⟨b', y1, y2, y3, y4, y5⟩ := i4 n j1 hn0 j2 (Or.inr (Or.inr l4))
      have ho := y5 (by rw [l4]; decide)
      rw [if_pos l4, if_pos l4, if_pos (show (rcS (onS S) b).1 16 0 ≤ (rcS (onS S) b).1 17 0 from ho)]
      exact wrap (r_rev0 hg hCb hb rfl hcd hIb)
    · rw [if_neg l4, if_neg l4, bnd_some, g1]
      exact Sim.ret hfin
  · have b1' : ∀ i, i < n → S.1 32 i ≠ 1 := b1
    have rec1 : f_M_recallLastBegun g (onS S) = some ((), onS S) := by
      unfold f_M_recallLastBegun
      rw [b2, bnd_some, if_pos rfl]
    have nL : ∀ w : Int32, (w = 1 ∨ w = 2 ∨ w = 4) → ¬ (if n = 0 then (-1 : Int32) else S.1 32 (n - 1)) = w := by
      intro w hw z
      by_cases hz : n = 0
      · rw [if_pos hz] at z
        rw [← z] at hw
        exact absurd hw (by decide)
      · rw [if_neg hz] at z
        rw [← z] at hw
        obtain ⟨b', y1, y2, -⟩ := i4 n j1 (by omega) j2 hw
        exact b1' b' y1 y2
    have eS : f_M_switchOn g S = tlS g (onS S) (if n = 0 then (-1 : Int32) else S.1 32 (n - 1)) := p_onS (n := n) q1 rec1 (lk (onS S) j2 rfl)
    have eS2 : f_M_switchOn g S = some (1, onS S) := by
      rw [eS]
      unfold tlS
      rw [if_neg (nL 1 (Or.inl rfl)), if_neg (nL 2 (Or.inr (Or.inl rfl))), if_neg (nL 4 (Or.inr (Or.inr rfl)))]
    have eT2 : f_R_power g T = some (1, onT T) := by
      have e58 : ∀ L : Int32, f_R_power_58 g g (onT T) L (-1) 0 = some (onT T, (L, -1)) := by
        intro L
        rcases l_pow58 (g := g) (T := onT T) (x1 := L) j1 j3 n 0 g (-1) (by omega) (by omega) with ⟨d, d0, d1, d2, d3, d4⟩ | ⟨d1, d2⟩
        · exact absurd (show S.1 32 d = 1 by rw [kr d d1]; exact d2) (b1' d d1)
        · exact d2
      by_cases hz : n = 0
      · exact p_onT0 (n := n) (L := 0) q1' j1 j3 (fun z => absurd z (by omega)) (fun _ => rfl) (by decide) (by decide) (by decide) (e58 0)
      · have eL : T.1 14 (5 * n - 5) = S.1 32 (n - 1) := by
          rw [kr (n - 1) (by omega), show 5 * n - 5 = 5 * (n - 1) by omega]
        have nL' : ∀ w : Int32, (w = 1 ∨ w = 2 ∨ w = 4) → ¬ S.1 32 (n - 1) = w := fun w hw z => nL w hw (by rw [if_neg hz]; exact z)
        exact p_onT0 (n := n) (L := S.1 32 (n - 1)) q1' j1 j3 (fun _ => eL) (fun z => absurd z hz) (nL' 1 (Or.inl rfl)) (nL' 2 (Or.inr (Or.inl rfl))) (nL' 4 (Or.inr (Or.inr rfl))) (e58 _)
    rw [eS2, eT2, bnd_some, g1]
    exact Sim.ret (hC.rel (INV.on0 rfl hI0))
