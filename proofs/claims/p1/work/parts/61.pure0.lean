/-! pure rows: the start's memories -/
theorem bnd_some {μ γ β : Type} {r : γ} {S : μ} {F : γ → μ → Option β} : bnd (some (r, S)) F = F r S := rfl
theorem seqM_some {μ γ β : Type} {y : γ} {S : μ} {F : μ → γ → Option β} : seqM (some (S, y)) F = F S y := rfl
theorem lt_eq {γ δ : Type} (e : γ) (k : γ → δ) : lt e k = k e := rfl
theorem grd_pos {β : Type} {P : Prop} {iP : Decidable P} {q : Option β} (h : P) : @grd β P iP q = q := if_pos h
theorem sI_ne {S : Mem} {f j k : Nat} {v : Int32} (h : k ≠ f) : (sI S f j v).1 k = S.1 k := if_neg h
theorem sI_eq {S : Mem} {f j : Nat} {v : Int32} : (sI S f j v).1 f = upd (S.1 f) j v := if_pos rfl
theorem upd_eq {f : Nat → Int32} {k : Nat} {x : Int32} : upd f k x k = x := if_pos rfl
theorem upd_ne {f : Nat → Int32} {k j : Nat} {x : Int32} (h : j ≠ k) : upd f k x j = f j := if_neg h
theorem add1 (k : Nat) : nI k + 1 = nI (k + 1) := nI_1 k
theorem fill16 (g : Nat) (v : Int32) : ∀ (d k n : Nat) (S : Mem), k + d = 16 → d < n → ∃ S9 : Mem, f_F_fill_a16F16_5 g n S v (nI k) 16 = some (S9, ()) ∧ (∀ j, k ≤ j → j < 16 → S9.1 0 j = v) ∧ (∀ j, j < k → S9.1 0 j = S.1 0 j) ∧ (∀ f, f ≠ 0 → S9.1 f = S.1 f) ∧ S9.2 = S.2 := by
  intro d
  induction d with
  | zero =>
    intro k n S hk hn
    obtain ⟨n, rfl⟩ : ∃ q, n = q + 1 := ⟨n - 1, by omega⟩
    have hk2 : k = 16 := by omega
    subst hk2
    refine ⟨S, ?_, fun j h1 h2 => absurd h1 (by omega), fun _ _ => rfl, fun _ _ => rfl, rfl⟩
    rw [f_F_fill_a16F16_5, if_pos (show (16 : Int32) ≤ nI 16 by decide)]
  | succ d ih =>
    intro k n S hk hn
    obtain ⟨n, rfl⟩ : ∃ q, n = q + 1 := ⟨n - 1, by omega⟩
    have hkN : k < 16 := by omega
    have hg : ¬ (nI k < 0 ∨ 16 ≤ (nI k).toNatClampNeg) := nI_in hkN (by decide)
    obtain ⟨S9, h1, a0, b0, h4, h5⟩ := ih (k + 1) n (sI S 0 k v) (by omega) (by omega)
    refine ⟨S9, ?_, fun j h1 h2 => ?_, fun j h1 => ?_, fun f q0 => ?_, ?_⟩
    · rw [f_F_fill_a16F16_5, if_neg (show ¬ (16 : Int32) ≤ nI k from nI_ge hkN (by decide))]
      simp only [grd_pos hg, lt_eq]
      simp only [nI_clamp (show k < 2 ^ 31 by omega), add1]
      exact h1
    · by_cases hj : j = k
      · subst hj
        rw [b0 j (by omega)]
        simp [sI, upd]
      · exact a0 j (by omega) h2
    · rw [b0 j (by omega)]
      have : j ≠ k := by omega
      simp [sI, upd, this]
    · rw [h4 f q0]
      simp [sI, q0]
    · rw [h5]
      rfl
theorem fill2001 (g : Nat) (v : Int32) : ∀ (d k n : Nat) (S : Mem), k + d = 2001 → d < n → ∃ S9 : Mem, f_F_fill_a2001F2001_5 g n S v (nI k) 2001 = some (S9, ()) ∧ (∀ j, k ≤ j → j < 2001 → S9.1 0 j = v) ∧ (∀ j, j < k → S9.1 0 j = S.1 0 j) ∧ (∀ f, f ≠ 0 → S9.1 f = S.1 f) ∧ S9.2 = S.2 := by
  intro d
  induction d with
  | zero =>
    intro k n S hk hn
    obtain ⟨n, rfl⟩ : ∃ q, n = q + 1 := ⟨n - 1, by omega⟩
    have hk2 : k = 2001 := by omega
    subst hk2
    refine ⟨S, ?_, fun j h1 h2 => absurd h1 (by omega), fun _ _ => rfl, fun _ _ => rfl, rfl⟩
    rw [f_F_fill_a2001F2001_5, if_pos (show (2001 : Int32) ≤ nI 2001 by decide)]
  | succ d ih =>
    intro k n S hk hn
    obtain ⟨n, rfl⟩ : ∃ q, n = q + 1 := ⟨n - 1, by omega⟩
    have hkN : k < 2001 := by omega
    have hg : ¬ (nI k < 0 ∨ 2001 ≤ (nI k).toNatClampNeg) := nI_in hkN (by decide)
    obtain ⟨S9, h1, a0, b0, h4, h5⟩ := ih (k + 1) n (sI S 0 k v) (by omega) (by omega)
    refine ⟨S9, ?_, fun j h1 h2 => ?_, fun j h1 => ?_, fun f q0 => ?_, ?_⟩
    · rw [f_F_fill_a2001F2001_5, if_neg (show ¬ (2001 : Int32) ≤ nI k from nI_ge hkN (by decide))]
      simp only [grd_pos hg, lt_eq]
      simp only [nI_clamp (show k < 2 ^ 31 by omega), add1]
      exact h1
    · by_cases hj : j = k
      · subst hj
        rw [b0 j (by omega)]
        simp [sI, upd]
      · exact a0 j (by omega) h2
    · rw [b0 j (by omega)]
      have : j ≠ k := by omega
      simp [sI, upd, this]
    · rw [h4 f q0]
      simp [sI, q0]
    · rw [h5]
      rfl
theorem rini16 (g : Nat) : ∀ (d k n : Nat) (S : Mem), k + d = 16 → d < n → ∃ S9 : Mem, f_R_init_184 g n S (nI k) = some (S9, ()) ∧ (∀ j, k ≤ j → j < 16 → S9.1 0 j = (-1)) ∧ (∀ j, j < k → S9.1 0 j = S.1 0 j) ∧ (∀ f, f ≠ 0 → S9.1 f = S.1 f) ∧ S9.2 = S.2 := by
  intro d
  induction d with
  | zero =>
    intro k n S hk hn
    obtain ⟨n, rfl⟩ : ∃ q, n = q + 1 := ⟨n - 1, by omega⟩
    have hk2 : k = 16 := by omega
    subst hk2
    refine ⟨S, ?_, fun j h1 h2 => absurd h1 (by omega), fun _ _ => rfl, fun _ _ => rfl, rfl⟩
    rw [f_R_init_184, if_pos (show (16 : Int32) ≤ nI 16 by decide)]
  | succ d ih =>
    intro k n S hk hn
    obtain ⟨n, rfl⟩ : ∃ q, n = q + 1 := ⟨n - 1, by omega⟩
    have hkN : k < 16 := by omega
    have hg : ¬ (nI k < 0 ∨ 16 ≤ (nI k).toNatClampNeg) := nI_in hkN (by decide)
    obtain ⟨S9, h1, a0, b0, h4, h5⟩ := ih (k + 1) n (sI S 0 k (-1)) (by omega) (by omega)
    refine ⟨S9, ?_, fun j h1 h2 => ?_, fun j h1 => ?_, fun f q0 => ?_, ?_⟩
    · rw [f_R_init_184, if_neg (show ¬ (16 : Int32) ≤ nI k from nI_ge hkN (by decide))]
      simp only [grd_pos hg, lt_eq]
      simp only [nI_clamp (show k < 2 ^ 31 by omega), add1]
      exact h1
    · by_cases hj : j = k
      · subst hj
        rw [b0 j (by omega)]
        simp [sI, upd]
      · exact a0 j (by omega) h2
    · rw [b0 j (by omega)]
      have : j ≠ k := by omega
      simp [sI, upd, this]
    · rw [h4 f q0]
      simp [sI, q0]
    · rw [h5]
      rfl
theorem rini2001 (g : Nat) : ∀ (d k n : Nat) (S : Mem), k + d = 2001 → d < n → ∃ S9 : Mem, f_R_init_205 g n S (nI k) = some (S9, ()) ∧ (∀ j, k ≤ j → j < 2001 → S9.1 3 j = (-1)) ∧ (∀ j, j < k → S9.1 3 j = S.1 3 j) ∧ (∀ j, k ≤ j → j < 2001 → S9.1 4 j = (-1)) ∧ (∀ j, j < k → S9.1 4 j = S.1 4 j) ∧ (∀ f, f ≠ 3 → f ≠ 4 → S9.1 f = S.1 f) ∧ S9.2 = S.2 := by
  intro d
  induction d with
  | zero =>
    intro k n S hk hn
    obtain ⟨n, rfl⟩ : ∃ q, n = q + 1 := ⟨n - 1, by omega⟩
    have hk2 : k = 2001 := by omega
    subst hk2
    refine ⟨S, ?_, fun j h1 h2 => absurd h1 (by omega), fun _ _ => rfl, fun j h1 h2 => absurd h1 (by omega), fun _ _ => rfl, fun _ _ _ => rfl, rfl⟩
    rw [f_R_init_205, if_pos (show (2000 : Int32) < nI 2001 by decide)]
  | succ d ih =>
    intro k n S hk hn
    obtain ⟨n, rfl⟩ : ∃ q, n = q + 1 := ⟨n - 1, by omega⟩
    have hkN : k < 2001 := by omega
    have hg : ¬ (nI k < 0 ∨ 2001 ≤ (nI k).toNatClampNeg) := nI_in hkN (by decide)
    obtain ⟨S9, h1, a0, b0, a1, b1, h4, h5⟩ := ih (k + 1) n (sI (sI S 3 k (-1)) 4 k (-1)) (by omega) (by omega)
    refine ⟨S9, ?_, fun j h1 h2 => ?_, fun j h1 => ?_, fun j h1 h2 => ?_, fun j h1 => ?_, fun f q0 q1 => ?_, ?_⟩
    · rw [f_R_init_205, if_neg (show ¬ (2000 : Int32) < nI k from nI_nlt (show k ≤ 2000 by omega) (by decide))]
      simp only [grd_pos hg, lt_eq]
      simp only [nI_clamp (show k < 2 ^ 31 by omega), add1]
      exact h1
    · by_cases hj : j = k
      · subst hj
        rw [b0 j (by omega)]
        simp [sI, upd]
      · exact a0 j (by omega) h2
    · rw [b0 j (by omega)]
      have : j ≠ k := by omega
      simp [sI, upd, this]
    · by_cases hj : j = k
      · subst hj
        rw [b1 j (by omega)]
        simp [sI, upd]
      · exact a1 j (by omega) h2
    · rw [b1 j (by omega)]
      have : j ≠ k := by omega
      simp [sI, upd, this]
    · rw [h4 f q0 q1]
      simp [sI, q0, q1]
    · rw [h5]
      rfl
theorem start16 (g : Nat) (hg : 16 < g) : ∃ F : Mem, f_F_fill_a16F16 g (sM (fun _ => 0)) (-1) = some ((), F) ∧ ∀ j, j < 16 → F.1 0 j = -1 := by
  obtain ⟨S9, h1, h2, -⟩ := fill16 g (-1) 16 0 g (sM (fun _ => 0)) rfl hg
  refine ⟨S9, ?_, fun j hj => h2 j (Nat.zero_le j) hj⟩
  show seqM (f_F_fill_a16F16_5 g g (sM (fun _ => 0)) (-1) (nI 0) 16) _ = _
  rw [h1]
  rfl
theorem start2001 (g : Nat) (hg : 2001 < g) : ∃ F : Mem, f_F_fill_a2001F2001 g (sM (fun _ => 0)) (-1) = some ((), F) ∧ ∀ j, j < 2001 → F.1 0 j = -1 := by
  obtain ⟨S9, h1, h2, -⟩ := fill2001 g (-1) 2001 0 g (sM (fun _ => 0)) rfl hg
  refine ⟨S9, ?_, fun j hj => h2 j (Nat.zero_le j) hj⟩
  show seqM (f_F_fill_a2001F2001_5 g g (sM (fun _ => 0)) (-1) (nI 0) 2001) _ = _
  rw [h1]
  rfl
/-- the reference's start -/
theorem startR (g : Nat) (hg : 2001 < g) : ∃ F : Mem, f_R_init g S0r = some ((), F) ∧ (∀ j, j < 16 → F.1 0 j = -1) ∧ (∀ j, j < 2001 → F.1 3 j = -1) ∧ (∀ j, j < 2001 → F.1 4 j = -1) ∧ (F.1 8 0 = 10 ∧ F.1 8 1 = 20 ∧ F.1 8 2 = 50 ∧ F.1 8 3 = 100) ∧ (∀ f, f ≠ 0 → f ≠ 3 → f ≠ 4 → f ≠ 8 → F.1 f = S0r.1 f) ∧ F.2 = S0r.2 := by
  obtain ⟨A1, h1, h2, -, h4, h5⟩ := rini16 g 16 0 g S0r rfl (by omega)
  obtain ⟨A2, k1, k2, -, k4, -, k6, k7⟩ := rini2001 g 2001 0 g A1 rfl hg
  refine ⟨sI (sI (sI (sI A2 8 0 10) 8 1 20) 8 2 50) 8 3 100, ?_, fun j hj => ?_, fun j hj => ?_, fun j hj => ?_, ⟨rfl, rfl, rfl, rfl⟩, fun f q0 q3 q4 q8 => ?_, ?_⟩
  · show seqM (f_R_init_184 g g S0r (nI 0)) _ = _
    rw [h1, seqM_some]
    show seqM (f_R_init_205 g g A1 (nI 0)) _ = _
    rw [k1]
    rfl
  · show A2.1 0 j = -1
    rw [k6 0 (by decide) (by decide)]
    exact h2 j (Nat.zero_le j) hj
  · exact k2 j (Nat.zero_le j) hj
  · exact k4 j (Nat.zero_le j) hj
  · simp only [sI_ne q8]
    rw [k6 f q3 q4, h4 f q0]
  · show A2.2 = S0r.2
    rw [k7, h5]
