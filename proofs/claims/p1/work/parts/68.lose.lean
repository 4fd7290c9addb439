/-! taking a letter out of the line -/
theorem Rel.line {c : Nat × Nat} {S T S2 T2 : Mem} (h : Rel c S T) (hS : ∀ k, k ≠ 0 → k ≠ 1 → S2.1 k = S.1 k) (hSL : S2.2.1 = S.2.1) (hT : ∀ k, k ≠ 25 → k ≠ 26 → k ≠ 28 → k ≠ 29 → T2.1 k = T.1 k) (hTL : T2.2.1 = T.2.1) (hl : RL S2 T2) : Rel c S2 T2 := by
  obtain ⟨hH, -, hN, hJ, hM, hI⟩ := h
  refine ⟨?_, hl, ?_, ?_, ?_, ?_⟩
  · unfold RH at *
    simp only [hS 2 (by decide) (by decide), hS 3 (by decide) (by decide), hS 4 (by decide) (by decide), hS 5 (by decide) (by decide), hS 6 (by decide) (by decide), hS 7 (by decide) (by decide), hS 8 (by decide) (by decide), hSL, hTL, hT 0 (by decide) (by decide) (by decide) (by decide), hT 1 (by decide) (by decide) (by decide) (by decide), hT 2 (by decide) (by decide) (by decide) (by decide), hT 3 (by decide) (by decide) (by decide) (by decide), hT 4 (by decide) (by decide) (by decide) (by decide), hT 7 (by decide) (by decide) (by decide) (by decide), hT 6 (by decide) (by decide) (by decide) (by decide), hT 5 (by decide) (by decide) (by decide) (by decide)]
    exact hH
  · unfold RN at *
    simp only [hS 22 (by decide) (by decide), hS 23 (by decide) (by decide), hS 24 (by decide) (by decide), hS 25 (by decide) (by decide), hS 26 (by decide) (by decide), hS 27 (by decide) (by decide), hS 28 (by decide) (by decide), hSL, hTL, hT 8 (by decide) (by decide) (by decide) (by decide), hT 9 (by decide) (by decide) (by decide) (by decide), hT 10 (by decide) (by decide) (by decide) (by decide), hT 11 (by decide) (by decide) (by decide) (by decide), hT 12 (by decide) (by decide) (by decide) (by decide)]
    exact hN
  · unfold RJ at *
    simp only [hS 36 (by decide) (by decide), hS 32 (by decide) (by decide), hS 33 (by decide) (by decide), hS 34 (by decide) (by decide), hS 35 (by decide) (by decide), hT 15 (by decide) (by decide) (by decide) (by decide), hT 14 (by decide) (by decide) (by decide) (by decide)]
    exact hJ
  · unfold RM at *
    simp only [hS 10 (by decide) (by decide), hS 11 (by decide) (by decide), hS 12 (by decide) (by decide), hS 13 (by decide) (by decide), hS 14 (by decide) (by decide), hS 15 (by decide) (by decide), hS 16 (by decide) (by decide), hS 9 (by decide) (by decide), hS 18 (by decide) (by decide), hS 19 (by decide) (by decide), hS 20 (by decide) (by decide), hS 21 (by decide) (by decide), hT 13 (by decide) (by decide) (by decide) (by decide), hT 18 (by decide) (by decide) (by decide) (by decide), hT 19 (by decide) (by decide) (by decide) (by decide), hT 20 (by decide) (by decide) (by decide) (by decide), hT 21 (by decide) (by decide) (by decide) (by decide), hT 16 (by decide) (by decide) (by decide) (by decide), hT 17 (by decide) (by decide) (by decide) (by decide), hT 27 (by decide) (by decide) (by decide) (by decide), hT 22 (by decide) (by decide) (by decide) (by decide), hT 23 (by decide) (by decide) (by decide) (by decide), hT 24 (by decide) (by decide) (by decide) (by decide)]
    exact hM
  · unfold INV MixOk at *
    simp only [hS 11 (by decide) (by decide), hS 13 (by decide) (by decide), hS 14 (by decide) (by decide), hS 20 (by decide) (by decide), hS 21 (by decide) (by decide), hS 16 (by decide) (by decide), hS 17 (by decide) (by decide), hS 36 (by decide) (by decide), hS 32 (by decide) (by decide), hS 22 (by decide) (by decide), hS 23 (by decide) (by decide), hT 14 (by decide) (by decide) (by decide) (by decide)]
    exact hI
theorem nI_m1 {m : Nat} (h : 0 < m) : nI m - 1 = nI (m - 1) := by
  obtain ⟨k, rfl⟩ : ∃ k, m = k + 1 := ⟨m - 1, by omega⟩
  exact nI_pred k
theorem l_remove {g j2 m : Nat} (hm : 0 < m) (hm24 : m ≤ 24) : ∀ (d k n : Nat) (S : Mem), k + d = m - 1 → d < n → S.1 0 0 = nI m → (∀ q, q < 24 → S.2.2.1 q < 24) → ∃ S9 : Mem, f_N_remove_18 g j2 n S (nI k) = some (S9, ()) ∧ S9.1 = S.1 ∧ S9.2.1 = S.2.1 ∧ S9.2.2.2 = S.2.2.2 ∧ ∀ q, S9.2.2.1 q = if k ≤ q ∧ q < m - 1 then S.2.2.1 (q + 1) else S.2.2.1 q := by
  intro d
  induction d with
  | zero =>
    intro k n S hk hn hs hG
    obtain ⟨n, rfl⟩ : ∃ q, n = q + 1 := ⟨n - 1, by omega⟩
    refine ⟨S, ?_, rfl, rfl, rfl, fun q => by rw [if_neg (by omega)]⟩
    rw [f_N_remove_18, hs, nI_m1 hm, if_pos (nI_le (by omega) (by omega))]
  | succ d ih =>
    intro k n S hk hn hs hG
    obtain ⟨n, rfl⟩ : ∃ q, n = q + 1 := ⟨n - 1, by omega⟩
    have h1 : ¬ (nI (k + 1) < 0 ∨ 24 ≤ (nI (k + 1)).toNatClampNeg) := nI_in (by omega) (by decide)
    have h2 : ¬ (nI k < 0 ∨ 24 ≤ (nI k).toNatClampNeg) := nI_in (by omega) (by decide)
    have c1 : (nI (k + 1)).toNatClampNeg = k + 1 := nI_clamp (by omega)
    have c2 : (nI k).toNatClampNeg = k := nI_clamp (by omega)
    have h3 : S.2.2.1 (k + 1) < 25 := by have := hG (k + 1) (by omega); omega
    obtain ⟨S9, a1, a2, a3, a4, a5⟩ := ih (k + 1) n (sG S k (S.2.2.1 (k + 1))) (by omega) (by omega) hs (fun q hq => by
      show va_up S.2.2.1 k (S.2.2.1 (k + 1)) q < 24
      unfold va_up
      split
      · exact hG _ (by omega)
      · exact hG q hq)
    refine ⟨S9, ?_, a2, a3, a4, fun q => ?_⟩
    · rw [f_N_remove_18, hs, nI_m1 hm, if_neg (nI_ge (by omega) (by omega))]
      simp only [add1]
      rw [grd_pos h1]
      simp only [lt_eq]
      rw [c1, grd_pos h3, grd_pos h2, c2]
      exact a1
    · rw [a5 q]
      show (if k + 1 ≤ q ∧ q < m - 1 then va_up S.2.2.1 k (S.2.2.1 (k + 1)) (q + 1) else va_up S.2.2.1 k (S.2.2.1 (k + 1)) q) = _
      unfold va_up
      by_cases e1 : k + 1 ≤ q ∧ q < m - 1
      · rw [if_pos e1, if_neg (by omega), if_pos (by omega)]
      · rw [if_neg e1]
        by_cases e2 : q = k
        · rw [if_pos e2, if_pos (by omega), e2]
        · rw [if_neg e2, if_neg (by omega)]
theorem l_drop {g m : Nat} (hm24 : m ≤ 23) : ∀ (d k n : Nat) (T : Mem), k + d = 14 * m → d < n → T.1 26 0 = nI m → ∃ T9 : Mem, f_R_drop_15 g n T (nI k) = some (T9, ()) ∧ (∀ f, f ≠ 25 → T9.1 f = T.1 f) ∧ T9.2 = T.2 ∧ ∀ q, T9.1 25 q = if k ≤ q ∧ q < 14 * m then T.1 25 (q + 14) else T.1 25 q := by
  intro d
  induction d with
  | zero =>
    intro k n T hk hn hs
    obtain ⟨n, rfl⟩ : ∃ q, n = q + 1 := ⟨n - 1, by omega⟩
    refine ⟨T, ?_, fun _ _ => rfl, rfl, fun q => by rw [if_neg (by omega)]⟩
    rw [f_R_drop_15, hs, show (14 : Int32) * nI m = nI (14 * m) from pk_mul 14 m, if_pos (nI_le (by omega) (by omega))]
  | succ d ih =>
    intro k n T hk hn hs
    obtain ⟨n, rfl⟩ : ∃ q, n = q + 1 := ⟨n - 1, by omega⟩
    have e14 : nI k + 14 = nI (k + 14) := nI_add k 14
    have h1 : ¬ (nI (k + 14) < 0 ∨ 350 ≤ (nI (k + 14)).toNatClampNeg) := nI_in (by omega) (by decide)
    have h2 : ¬ (nI k < 0 ∨ 350 ≤ (nI k).toNatClampNeg) := nI_in (by omega) (by decide)
    have c1 : (nI (k + 14)).toNatClampNeg = k + 14 := nI_clamp (by omega)
    have c2 : (nI k).toNatClampNeg = k := nI_clamp (by omega)
    obtain ⟨T9, a1, a2, a3, a4⟩ := ih (k + 1) n (sI T 25 k (T.1 25 (k + 14))) (by omega) (by omega) hs
    refine ⟨T9, ?_, fun f hf => ?_, a3, fun q => ?_⟩
    · rw [f_R_drop_15, hs, show (14 : Int32) * nI m = nI (14 * m) from pk_mul 14 m, if_neg (nI_ge (by omega) (by omega)), e14, grd_pos h1, grd_pos h2]
      simp only [lt_eq, add1]
      rw [c1, c2]
      exact a1
    · rw [a2 f hf]
      exact sI_ne hf
    · rw [a4 q]
      show (if k + 1 ≤ q ∧ q < 14 * m then upd (T.1 25) k (T.1 25 (k + 14)) (q + 14) else upd (T.1 25) k (T.1 25 (k + 14)) q) = _
      unfold upd
      by_cases e1 : k + 1 ≤ q ∧ q < 14 * m
      · rw [if_pos e1, if_neg (by omega), if_pos (by omega)]
      · rw [if_neg e1]
        by_cases e2 : q = k
        · rw [if_pos e2, if_pos (by omega), e2]
        · rw [if_neg e2, if_neg (by omega)]
