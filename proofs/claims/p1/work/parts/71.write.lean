/-- a record: written by both, or by neither -/
theorem r_write {g n : Nat} {c : Nat × Nat} {S T : Mem} {kd : Int32} (h : Core c S T) (hon : S.1 11 0 = 1) (hn : n ≤ 300) (hsz : S.1 36 0 = nI n) (hc : kd = 1 → 0 ≤ (S.1 20 0).toInt ∧ (S.1 20 0).toInt ≤ 15) :
    ∃ (r : Int32) (S2 T2 : Mem), f_M_write g S kd = some (r, S2) ∧ f_R_record g T kd = some (r, T2) ∧ Core c S2 T2 ∧ (∀ k, k ≠ 11 → k ≠ 12 → k ≠ 32 → k ≠ 33 → k ≠ 34 → k ≠ 35 → k ≠ 36 → S2.1 k = S.1 k) ∧ S2.2 = S.2 ∧ (∀ k, k ≠ 18 → k ≠ 19 → k ≠ 14 → k ≠ 15 → T2.1 k = T.1 k) ∧ T2.2 = T.2 ∧
      ((r = 0 ∧ S2.1 11 0 = 0 ∧ S2.1 36 0 = nI n ∧ S2.1 32 = S.1 32 ∧ T2.1 14 = T.1 14) ∨ (r = 1 ∧ S2.1 11 0 = 1 ∧ ((n = 300 ∧ S2.1 36 0 = nI n ∧ S2.1 32 = S.1 32 ∧ T2.1 14 = T.1 14) ∨ (n < 300 ∧ S2.1 36 0 = nI (n + 1) ∧ S2.1 32 n = kd ∧ (∀ i, i ≠ n → S2.1 32 i = S.1 32 i) ∧ T2.1 14 (5 * n + 4) = S.1 16 0 ∧ (∀ q, q < 5 * n → T2.1 14 q = T.1 14 q))))) := by
  obtain ⟨hH, hL, hN, ⟨n', j1, j2, j3, j4, j5⟩, m1, m2, m3, m4, m5, m6, m7, m8, m9, m10, m11⟩ := id h
  have hn' : n' = n := by
    have e := j2.symm.trans hsz
    exact (nI_eq (by omega) (by omega)).mp e
  subst hn'
  have eOn : T.1 18 0 = 1 := by rw [← m2.1]; exact hon
  unfold f_M_write f_R_record f_J_add f_J_isFull
  rw [j2, j3]
  by_cases hf : n' = 300
  · subst hf
    refine ⟨1, S, T, ?_, ?_, h, fun _ _ _ _ _ _ _ _ => rfl, rfl, fun _ _ _ _ _ => rfl, rfl, Or.inr ⟨rfl, hon, Or.inl ⟨rfl, j2, rfl, rfl⟩⟩⟩
    · rfl
    · rw [if_pos (show nI 300 = (300 : Int32) from rfl), eOn]
      exact grd_pos (Or.inr rfl)
  · have hlt : nI n' < (300 : Int32) := nI_lt (show n' < 300 by omega) (by decide)
    have hne : ¬ nI n' = (300 : Int32) := fun z => hf ((nI_eq (by omega) (by decide)).mp (show nI n' = nI 300 from z))
    rw [if_pos hlt, if_neg hne]
    simp only [bnd_some, e00, ↓reduceIte]
    obtain ⟨r, A, B, s1, s2, s3, s4, s5, s6, s7, s8⟩ := r_step (g := g) h hon
    rw [s1, s2]
    simp only [bnd_some]
    rcases s8 with ⟨rfl, o1⟩ | ⟨rfl, o1⟩
    · rw [if_pos rfl, if_pos rfl]
      exact ⟨0, A, B, rfl, rfl, s3, fun k q1 q2 _ _ _ _ _ => s4 k q1 q2, s5, fun k q1 q2 _ _ => s6 k q1 q2, s7, Or.inl ⟨rfl, o1, by rw [s4 _ (by decide) (by decide)]; exact j2, s4 _ (by decide) (by decide), s6 _ (by decide) (by decide)⟩⟩
    · have d10 : ¬ ((1 : Int32) = 0) := by decide
      rw [if_neg d10, if_neg d10]
      have a36 : A.1 36 0 = nI n' := by rw [s4 _ (by decide) (by decide)]; exact j2
      have b15 : B.1 15 0 = nI n' := by rw [s6 _ (by decide) (by decide)]; exact j3
      have gi : ¬ (nI n' < 0 ∨ 300 ≤ (nI n').toNatClampNeg) := nI_in (by omega) (by decide)
      have en : (nI n').toNatClampNeg = n' := nI_clamp (by omega)
      have k5 : (5 : Int32) * nI n' = nI (5 * n') := pk_mul 5 n'
      have gk : ∀ k, k < 5 → (¬ (nI (5 * n' + k) < 0 ∨ 1500 ≤ (nI (5 * n' + k)).toNatClampNeg)) ∧ (nI (5 * n' + k)).toNatClampNeg = 5 * n' + k := fun k hk => ⟨nI_in (by omega) (by decide), nI_clamp (by omega)⟩
      obtain ⟨p0, c0⟩ := gk 0 (by decide)
      obtain ⟨p1, c1⟩ := gk 1 (by decide)
      obtain ⟨p2, c2⟩ := gk 2 (by decide)
      obtain ⟨p3, c3⟩ := gk 3 (by decide)
      obtain ⟨p4, c4⟩ := gk 4 (by decide)
      rw [Nat.add_zero] at p0 c0
      obtain ⟨hH2, hL2, hN2, -, w1, w2, w3, w4, w5, w6, w7, w8, w9, w10, w11⟩ := id s3
      refine ⟨1, sI (sI (sI (sI (sI A 32 n' kd) 33 n' (A.1 19 0)) 34 n' (A.1 21 0)) 35 n' (A.1 20 0)) 36 0 (nI (n' + 1)), sI (sI (sI (sI (sI (sI B 14 (5 * n') kd) 14 (5 * n' + 1) (B.1 22 0)) 14 (5 * n' + 2) (B.1 24 0)) 14 (5 * n' + 3) (B.1 23 0)) 14 (5 * n' + 4) (B.1 17 0)) 15 0 (nI (n' + 1)), ?_, ?_, ⟨hH2, hL2, hN2, ⟨n' + 1, by omega, rfl, rfl, fun i hi => ?_, fun i hi hk1 => ?_⟩, w1, w2, w3, w4, w5, w6, w7, w8, w9, w10, w11⟩, fun k q1 q2 q3 q4 q5 q6 q7 => ?_, s5, fun k q1 q2 q3 q4 => ?_, s7, Or.inr ⟨rfl, o1, Or.inr ⟨by omega, rfl, ?_, fun i hi => ?_, ?_, fun q hq => ?_⟩⟩⟩
      · rw [a36, if_pos hlt, bnd_some, if_pos rfl]
        simp only [lt_eq]
        rw [a36, grd_pos gi, en]
        have u1 : (sI A 32 n' kd).1 36 0 = nI n' := a36
        rw [u1, grd_pos gi, en]
        have u2 : (sI (sI A 32 n' kd) 33 n' (A.1 19 0)).1 36 0 = nI n' := a36
        rw [u2, grd_pos gi, en]
        have u3 : (sI (sI (sI A 32 n' kd) 33 n' (A.1 19 0)) 34 n' (A.1 21 0)).1 36 0 = nI n' := a36
        rw [u3, grd_pos gi, en]
        have u4 : (sI (sI (sI (sI A 32 n' kd) 33 n' (A.1 19 0)) 34 n' (A.1 21 0)) 35 n' (A.1 20 0)).1 36 0 = nI n' := a36
        rw [u4, add1]
        rfl
      · simp only [lt_eq]
        rw [b15, k5, grd_pos p0, c0, show nI (5 * n') + 1 = nI (5 * n' + 1) from add1 _, grd_pos p1, c1, show nI (5 * n') + 2 = nI (5 * n' + 2) from nI_add _ 2, grd_pos p2, c2, show nI (5 * n') + 3 = nI (5 * n' + 3) from nI_add _ 3, grd_pos p3, c3, show nI (5 * n') + 4 = nI (5 * n' + 4) from nI_add _ 4, grd_pos p4, c4]
        have u4 : (sI (sI (sI (sI (sI B 14 (5 * n') kd) 14 (5 * n' + 1) ((sI B 14 (5 * n') kd).1 22 0)) 14 (5 * n' + 2) ((sI (sI B 14 (5 * n') kd) 14 (5 * n' + 1) ((sI B 14 (5 * n') kd).1 22 0)).1 24 0)) 14 (5 * n' + 3) (B.1 23 0)) 14 (5 * n' + 4) (B.1 17 0)).1 15 0 = nI n' := b15
        show some ((1 : Int32), sI _ 15 0 (B.1 15 0 + 1)) = _
        rw [b15, add1]
        rfl
      · show upd (A.1 32) n' kd i = upd (upd (upd (upd (upd (B.1 14) (5 * n') kd) (5 * n' + 1) (B.1 22 0)) (5 * n' + 2) (B.1 24 0)) (5 * n' + 3) (B.1 23 0)) (5 * n' + 4) (B.1 17 0) (5 * i) ∧ upd (A.1 33) n' (A.1 19 0) i = upd (upd (upd (upd (upd (B.1 14) (5 * n') kd) (5 * n' + 1) (B.1 22 0)) (5 * n' + 2) (B.1 24 0)) (5 * n' + 3) (B.1 23 0)) (5 * n' + 4) (B.1 17 0) (5 * i + 1) ∧ upd (A.1 34) n' (A.1 21 0) i = upd (upd (upd (upd (upd (B.1 14) (5 * n') kd) (5 * n' + 1) (B.1 22 0)) (5 * n' + 2) (B.1 24 0)) (5 * n' + 3) (B.1 23 0)) (5 * n' + 4) (B.1 17 0) (5 * i + 2) ∧ upd (A.1 35) n' (A.1 20 0) i = upd (upd (upd (upd (upd (B.1 14) (5 * n') kd) (5 * n' + 1) (B.1 22 0)) (5 * n' + 2) (B.1 24 0)) (5 * n' + 3) (B.1 23 0)) (5 * n' + 4) (B.1 17 0) (5 * i + 3)
        by_cases e : i = n'
        · subst e
          refine ⟨?_, ?_, ?_, ?_⟩
          · rw [upd_eq, upd_ne (by omega), upd_ne (by omega), upd_ne (by omega), upd_ne (by omega), upd_eq]
          · rw [upd_eq, upd_ne (by omega), upd_ne (by omega), upd_ne (by omega), upd_eq, w9.1]
          · rw [upd_eq, upd_ne (by omega), upd_ne (by omega), upd_eq, w11]
          · rw [upd_eq, upd_ne (by omega), upd_eq, w10]
        · have hi2 : i < n' := by omega
          have jj := j4 i hi2
          rw [← s4 32 (by decide) (by decide), ← s4 33 (by decide) (by decide), ← s4 34 (by decide) (by decide), ← s4 35 (by decide) (by decide), ← s6 14 (by decide) (by decide)] at jj
          refine ⟨?_, ?_, ?_, ?_⟩
          · rw [upd_ne e, upd_ne (by omega), upd_ne (by omega), upd_ne (by omega), upd_ne (by omega), upd_ne (by omega)]; exact jj.1
          · rw [upd_ne e, upd_ne (by omega), upd_ne (by omega), upd_ne (by omega), upd_ne (by omega), upd_ne (by omega)]; exact jj.2.1
          · rw [upd_ne e, upd_ne (by omega), upd_ne (by omega), upd_ne (by omega), upd_ne (by omega), upd_ne (by omega)]; exact jj.2.2.1
          · rw [upd_ne e, upd_ne (by omega), upd_ne (by omega), upd_ne (by omega), upd_ne (by omega), upd_ne (by omega)]; exact jj.2.2.2
      · have hk1' : upd (A.1 32) n' kd i = 1 := hk1
        show (0 ≤ (upd (A.1 33) n' (A.1 19 0) i).toInt ∧ (upd (A.1 33) n' (A.1 19 0) i).toInt ≤ 2000) ∧ (0 ≤ (upd (A.1 35) n' (A.1 20 0) i).toInt ∧ (upd (A.1 35) n' (A.1 20 0) i).toInt ≤ 15)
        by_cases e : i = n'
        · subst e
          rw [upd_eq] at hk1'
          rw [upd_eq, upd_eq, s4 20 (by decide) (by decide)]
          exact ⟨w9.2, hc hk1'⟩
        · rw [upd_ne e] at hk1'
          rw [upd_ne e, upd_ne e, s4 33 (by decide) (by decide), s4 35 (by decide) (by decide)]
          rw [s4 32 (by decide) (by decide)] at hk1'
          exact j5 i (by omega) hk1'
      · rw [sI_ne q7, sI_ne q6, sI_ne q5, sI_ne q4, sI_ne q3]
        exact s4 k q1 q2
      · rw [sI_ne q4, sI_ne q3, sI_ne q3, sI_ne q3, sI_ne q3, sI_ne q3]
        exact s6 k q1 q2
      · show upd (A.1 32) n' kd n' = kd
        exact upd_eq
      · show upd (A.1 32) n' kd i = S.1 32 i
        rw [upd_ne hi, s4 32 (by decide) (by decide)]
      · show upd (upd (upd (upd (upd (B.1 14) (5 * n') kd) (5 * n' + 1) (B.1 22 0)) (5 * n' + 2) (B.1 24 0)) (5 * n' + 3) (B.1 23 0)) (5 * n' + 4) (B.1 17 0) (5 * n' + 4) = S.1 16 0
        rw [upd_eq, s6 17 (by decide) (by decide), m7]
      · show upd (upd (upd (upd (upd (B.1 14) (5 * n') kd) (5 * n' + 1) (B.1 22 0)) (5 * n' + 2) (B.1 24 0)) (5 * n' + 3) (B.1 23 0)) (5 * n' + 4) (B.1 17 0) q = T.1 14 q
        rw [upd_ne (by omega), upd_ne (by omega), upd_ne (by omega), upd_ne (by omega), upd_ne (by omega), s6 14 (by decide) (by decide)]
