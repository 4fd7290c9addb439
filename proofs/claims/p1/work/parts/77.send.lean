/-! the machine sends: a step, and a letter -/
theorem Core.line {c : Nat × Nat} {S T S2 T2 : Mem} (h : Core c S T) (hS : ∀ k, k ≠ 0 → k ≠ 1 → S2.1 k = S.1 k) (hSL : S2.2.1 = S.2.1) (hT : ∀ k, k ≠ 25 → k ≠ 26 → k ≠ 28 → T2.1 k = T.1 k) (hTL : T2.2.1 = T.2.1) (hl : RL S2 T2) : Core c S2 T2 := by
  obtain ⟨hH, -, hN, hJ, hM⟩ := h
  refine ⟨?_, hl, ?_, ?_, ?_⟩
  · unfold RH at *
    simp only [hS 2 (by decide) (by decide), hS 3 (by decide) (by decide), hS 4 (by decide) (by decide), hS 5 (by decide) (by decide), hS 6 (by decide) (by decide), hS 7 (by decide) (by decide), hS 8 (by decide) (by decide), hSL, hTL, hT 0 (by decide) (by decide) (by decide), hT 1 (by decide) (by decide) (by decide), hT 2 (by decide) (by decide) (by decide), hT 3 (by decide) (by decide) (by decide), hT 4 (by decide) (by decide) (by decide), hT 7 (by decide) (by decide) (by decide), hT 6 (by decide) (by decide) (by decide), hT 5 (by decide) (by decide) (by decide)]
    exact hH
  · unfold RN at *
    simp only [hS 22 (by decide) (by decide), hS 23 (by decide) (by decide), hS 24 (by decide) (by decide), hS 25 (by decide) (by decide), hS 26 (by decide) (by decide), hS 27 (by decide) (by decide), hS 28 (by decide) (by decide), hSL, hTL, hT 8 (by decide) (by decide) (by decide), hT 9 (by decide) (by decide) (by decide), hT 10 (by decide) (by decide) (by decide), hT 11 (by decide) (by decide) (by decide), hT 12 (by decide) (by decide) (by decide)]
    exact hN
  · unfold RJ at *
    simp only [hS 36 (by decide) (by decide), hS 32 (by decide) (by decide), hS 33 (by decide) (by decide), hS 34 (by decide) (by decide), hS 35 (by decide) (by decide), hT 15 (by decide) (by decide) (by decide), hT 14 (by decide) (by decide) (by decide)]
    exact hJ
  · unfold RM at *
    simp only [hS 10 (by decide) (by decide), hS 11 (by decide) (by decide), hS 12 (by decide) (by decide), hS 13 (by decide) (by decide), hS 14 (by decide) (by decide), hS 15 (by decide) (by decide), hS 16 (by decide) (by decide), hS 9 (by decide) (by decide), hS 18 (by decide) (by decide), hS 19 (by decide) (by decide), hS 20 (by decide) (by decide), hS 21 (by decide) (by decide), hT 13 (by decide) (by decide) (by decide), hT 18 (by decide) (by decide) (by decide), hT 19 (by decide) (by decide) (by decide), hT 20 (by decide) (by decide) (by decide), hT 21 (by decide) (by decide) (by decide), hT 16 (by decide) (by decide) (by decide), hT 17 (by decide) (by decide) (by decide), hT 27 (by decide) (by decide) (by decide), hT 22 (by decide) (by decide) (by decide), hT 23 (by decide) (by decide) (by decide), hT 24 (by decide) (by decide) (by decide)]
    exact hM
theorem d10 : ¬ ((1 : Int32) = 0) := by decide
theorem r_send {g kd : Nat} {c : Nat × Nat} {S T : Mem} (hg : 400 < g) (h : Core c S T) (hon : S.1 11 0 = 1) (hkd : kd ≤ 255) (hc : 0 ≤ (S.1 20 0).toInt ∧ (S.1 20 0).toInt ≤ 15) (x : Int32) :
    ∃ (r : Int32) (S2 T2 : Mem), f_M_send g S (nI kd) x = some (r, S2) ∧ f_R_sendStep g T (nI kd) x = some (r, T2) ∧ Core c S2 T2 ∧ (∀ k, k ≠ 11 → k ≠ 12 → k ≠ 0 → k ≠ 1 → S2.1 k = S.1 k) ∧ S2.2.1 = S.2.1 ∧ (∀ k, k ≠ 18 → k ≠ 19 → k ≠ 25 → k ≠ 26 → k ≠ 28 → T2.1 k = T.1 k) ∧ T2.2 = T.2 ∧ ((r = 0 ∧ S2.1 11 0 = 0) ∨ (r = 1 ∧ S2.1 11 0 = 1)) := by
  obtain ⟨r, A, B, s1, s2, s3, s4, s5, s6, s7, s8⟩ := r_step (g := g) h hon
  unfold f_M_send f_R_sendStep
  rw [s1, s2]
  simp only [bnd_some]
  rcases s8 with ⟨rfl, o1⟩ | ⟨rfl, o1⟩
  · rw [if_pos rfl, if_pos rfl]
    exact ⟨0, A, B, rfl, rfl, s3, fun k q1 q2 _ _ => s4 k q1 q2, by rw [s5], fun k q1 q2 _ _ _ => s6 k q1 q2, s7, Or.inl ⟨rfl, o1⟩⟩
  · rw [if_neg d10, if_neg d10]
    obtain ⟨-, -, -, -, w1, w2, w3, w4, w5, w6, w7, w8, w9, w10, w11⟩ := id s3
    have eT : B.1 22 0 = A.1 19 0 := w9.1.symm
    have eC : B.1 23 0 = A.1 20 0 := w10.symm
    have hcA : PIn 0 15 (A.1 20 0) (A.1 20 0) := by
      rw [s4 _ (by decide) (by decide)]
      exact ⟨rfl, hc⟩
    obtain ⟨cd, hcd, ecd, -⟩ := PIn_nat (m := 15) hcA (by decide)
    obtain ⟨S2, T2, a1, a2, a3, a4, a5, a6, a7⟩ := r_post (fh := 1) (tm := 0) (kd := nI kd) (tr := A.1 19 0) (cd := A.1 20 0) (v := x) (co := 0) (y := x.toInt64) hg s3.2.1 (lg_l2i_i2l x) (Or.inl ⟨rfl, rfl⟩) ⟨kd, hkd, rfl⟩ ⟨cd, by omega, ecd⟩ ⟨0, by decide, rfl⟩
    rw [eT, eC, a1, a2]
    simp only [bnd_some]
    refine ⟨1, S2, T2, rfl, rfl, s3.line a3 a4 a5 (by rw [a6]) a7, fun k q1 q2 q3 q4 => ?_, by rw [a4, s5], fun k q1 q2 q3 q4 q5 => ?_, by rw [a6, s7], Or.inr ⟨rfl, ?_⟩⟩
    · rw [a3 k q3 q4, s4 k q1 q2]
    · rw [a5 k q3 q4 q5, s6 k q1 q2]
    · rw [a3 _ (by decide) (by decide)]
      exact o1
