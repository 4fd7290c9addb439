/-! pin, ask, timeout -/
theorem i_lt1 (x k : Int32) : x ≤ k ↔ ¬ k < x := i_le x k
theorem nt_succ {x : Int32} (h1 : 1 ≤ x.toInt) (h2 : x.toInt ≤ 2000) : PIn 1 2001 (x + 1) (x + 1) := by
  have e1 : (1 : Int32).toInt = 1 := by decide
  have e : (x + 1).toInt = x.toInt + 1 := by rw [s_add (by rw [e1]; omega) (by rw [e1]; omega), e1]
  refine ⟨rfl, ?_, ?_⟩
  · rw [e]; omega
  · rw [e]; omega
theorem op_pin {g : Nat} {c : Nat × Nat} {S T : Mem} (hg : 400 < g) (h : Rel c S T) (x : Int32) : Sim (Rel c) (f_A_pin g S x) (f_R_pin g T x) := by
  obtain ⟨hH, hL, hN, hJ, ⟨m1, m2, m3, m4, m5, m6, m7, m8, m9, m10, m11⟩, i1, i2, i3, i4⟩ := id h
  have eOn : T.1 18 0 = S.1 11 0 := m2.1.symm
  have ePh : T.1 20 0 = S.1 13 0 := m4.1.symm
  have eNx : T.1 16 0 = S.1 15 0 := m6.1.symm
  have eSl : T.1 21 0 = S.1 14 0 := m5.symm
  unfold f_A_pin f_M_beginPinCheck f_R_pin f_M_takeTrace
  rw [eOn, ePh, p_isPin]
  by_cases q1 : S.1 11 0 = 0
  · rw [if_pos q1, if_pos q1, bnd_some, g0]; exact Sim.ret h
  rw [if_neg q1, if_neg q1]
  have hon : S.1 11 0 = 1 := one_of m2 q1
  by_cases q2 : S.1 13 0 = 1
  rotate_left
  · rw [if_neg q2, if_neg q2, bnd_some, g0]; exact Sim.ret h
  rw [if_pos q2, if_pos q2, bnd_some]
  by_cases h1 : x < 0
  · rw [if_pos ((l64_lt x 0 0 rfl).mpr h1), if_pos rfl, if_pos h1, bnd_some, g0]; exact Sim.ret h
  rw [if_neg (fun z => h1 ((l64_lt x 0 0 rfl).mp z)), if_neg h1]
  by_cases h2 : 9999 < x
  · rw [if_pos ((l64_gt x 9999 9999 rfl).mpr h2), if_pos rfl, if_pos h2, bnd_some, g0]; exact Sim.ret h
  rw [if_neg (fun z => h2 ((l64_gt x 9999 9999 rfl).mp z)), if_neg h2, if_neg d10, eNx]
  by_cases h3 : S.1 15 0 ≤ 2000
  rotate_left
  · rw [if_neg h3, if_neg h3, bnd_some, g0]; exact Sim.ret h
  rw [if_pos h3, if_pos h3]
  simp only [lt_eq, bnd_some]
  rw [Int32.le_iff_toInt_le, show (2000 : Int32).toInt = 2000 by decide] at h3
  have hsl := i1 hon (Or.inl q2)
  have hC : Core c (sI (sI (sI S 19 0 (S.1 15 0)) 20 0 (S.1 14 0)) 15 0 (S.1 15 0 + 1)) (sI (sI (sI T 22 0 (S.1 15 0)) 16 0 (T.1 16 0 + 1)) 23 0 (T.1 21 0)) := by
    refine ⟨hH, hL, hN, hJ, m1, m2, m3, m4, m5, ?_, m7, m8, ⟨rfl, ?_, ?_⟩, m5, m11⟩
    · show PIn 1 2001 (S.1 15 0 + 1) (T.1 16 0 + 1)
      rw [eNx]
      exact nt_succ m6.2.1 h3
    · have := m6.2.1
      show (0 : Int) ≤ (S.1 15 0).toInt
      omega
    · exact h3
  obtain ⟨r, S2, T2, s1, s2, s3, s4, s5, s6, s7, s8⟩ := r_send (kd := 1) hg hC hon (by decide) hsl x
  rw [show f_M_send g (sI (sI (sI S 19 0 (S.1 15 0)) 20 0 ((sI S 19 0 (S.1 15 0)).1 14 0)) 15 0 ((sI (sI S 19 0 (S.1 15 0)) 20 0 ((sI S 19 0 (S.1 15 0)).1 14 0)).1 15 0 + 1)) 1 x = some (r, S2) from s1, show f_R_sendStep g (sI (sI (sI T 22 0 (S.1 15 0)) 16 0 ((sI T 22 0 (S.1 15 0)).1 16 0 + 1)) 23 0 ((sI (sI T 22 0 (S.1 15 0)) 16 0 ((sI T 22 0 (S.1 15 0)).1 16 0 + 1)).1 21 0)) 1 x = some (r, T2) from s2, bnd_some, bnd_some]
  have hI2 : I4 S2 T2 := I4.keep (S := S) (T := T) i4 (by rw [s4 _ (by decide) (by decide) (by decide) (by decide)]; rfl) (s4 _ (by decide) (by decide) (by decide) (by decide)) (by rw [s4 _ (by decide) (by decide) (by decide) (by decide)]; rfl) (by rw [s4 _ (by decide) (by decide) (by decide) (by decide)]; rfl) (s6 _ (by decide) (by decide) (by decide) (by decide) (by decide))
  obtain ⟨hH, hL, hN, hJ, hM⟩ := id s3
  rcases s8 with ⟨rfl, o1⟩ | ⟨rfl, o1⟩
  · rw [if_pos rfl, if_pos rfl, bnd_some, g1]
    exact Sim.ret ⟨hH, hL, hN, hJ, hM, INV.off o1 hI2⟩
  · rw [if_neg d10, if_neg d10, bnd_some, g1]
    obtain ⟨w1, w2, w3, w4, w5, w6⟩ := hM
    refine Sim.ret ⟨hH, hL, hN, hJ, ⟨w1, w2, w3, ⟨rfl, (show (0 : Int) ≤ (2 : Int32).toInt by decide), (show (2 : Int32).toInt ≤ 5 by decide)⟩, w5, w6⟩, fun _ _ => ?_, fun _ _ => ?_, fun _ z => ?_, hI2⟩
    · show 0 ≤ (S2.1 14 0).toInt ∧ (S2.1 14 0).toInt ≤ 15
      rw [s4 _ (by decide) (by decide) (by decide) (by decide)]
      exact hsl
    · show 0 ≤ (S2.1 20 0).toInt ∧ (S2.1 20 0).toInt ≤ 15
      rw [s4 _ (by decide) (by decide) (by decide) (by decide)]
      exact hsl
    · have z' : (2 : Int32) = 4 := z
      exact absurd z' (by decide)
theorem op_timeout {g : Nat} {c : Nat × Nat} {S T : Mem} (hg : 400 < g) (hb : c.1 < 2 ^ 28) (h : Rel c S T) : Sim (Rel c) (f_A_timeout g S) (f_R_timeout g T) := by
  obtain ⟨hH, hL, hN, hJ, ⟨m1, m2, m3, m4, m5, m6, m7, m8, m9, m10, m11⟩, i1, i2, i3, i4⟩ := id h
  have eOn : T.1 18 0 = S.1 11 0 := m2.1.symm
  have ePh : T.1 20 0 = S.1 13 0 := m4.1.symm
  unfold f_A_timeout f_M_endWaiting f_R_timeout f_M_endWithoutCard
  rw [eOn, ePh]
  by_cases q1 : S.1 11 0 = 0
  · rw [if_pos q1, if_pos q1, bnd_some, g0]; exact Sim.ret h
  rw [if_neg q1, if_neg q1, lt_eq]
  have hon : S.1 11 0 = 1 := one_of m2 q1
  by_cases q2 : S.1 13 0 = 2
  · rw [if_pos q2, if_pos q2, if_pos q2]
    simp only [lt_eq, bnd_some, g1]
    refine Sim.ret ⟨hH, hL, hN, hJ, ⟨m1, m2, m3, ⟨rfl, (show (0 : Int) ≤ (0 : Int32).toInt by decide), (show (0 : Int32).toInt ≤ 5 by decide)⟩, rfl, m6, m7, m8, m9, m10, m11⟩, fun _ z => ?_, fun _ z => ?_, fun _ z => ?_, i4⟩
    · have z' : (0 : Int32) = 1 ∨ (0 : Int32) = 2 ∨ (0 : Int32) = 3 ∨ (0 : Int32) = 4 := z
      exact absurd z' (by decide)
    · have z' : (0 : Int32) = 2 ∨ (0 : Int32) = 4 ∨ (0 : Int32) = 5 := z
      exact absurd z' (by decide)
    · have z' : (0 : Int32) = 4 := z
      exact absurd z' (by decide)
  rw [if_neg q2, if_neg q2]
  by_cases q4 : S.1 13 0 = 4
  · rw [if_neg (show ¬ S.1 13 0 = 3 by rw [q4]; decide), if_pos q4, if_pos q4, if_neg q2, if_pos q4]
    obtain ⟨-, n, n0, n1, n2, n3⟩ := i3 hon q4
    obtain ⟨b, b1, b2, b3, b4, b5⟩ := i4 n (by omega) n0 n2 (Or.inl n3)
    obtain ⟨r, A, B, a1, a2, a3⟩ := r_rev1 (n := n) hg h.core hb hon (i2 hon (Or.inr (Or.inl q4))) i4 (by omega) n2 ⟨b, b1, b2, b3, b4⟩ (b5 (by rw [n3]; decide))
    rw [a1, a2, bnd_some, bnd_some, bnd_some, g1]
    exact Sim.ret a3
  rw [if_neg q4, if_neg q4]
  by_cases q5 : S.1 13 0 = 5
  · rw [if_neg (show ¬ S.1 13 0 = 3 by rw [q5]; decide), if_pos q5, if_pos q5, if_neg q2, if_neg q4]
    have hcd := i2 hon (Or.inr (Or.inr q5))
    have eA : T.1 24 0 = S.1 21 0 := m11.symm
    obtain ⟨r, S2, T2, s1, s2, s3, s4, s5, s6, s7, s8⟩ := r_send (kd := 3) hg h.core hon (by decide) hcd (S.1 21 0)
    rw [eA, show f_M_send g S (3 : Int32) (S.1 21 0) = some (r, S2) from s1, show f_R_sendStep g T (3 : Int32) (S.1 21 0) = some (r, T2) from s2, bnd_some, bnd_some, bnd_some, g1]
    have hI2 : I4 S2 T2 := I4.keep (S := S) (T := T) i4 (by rw [s4 _ (by decide) (by decide) (by decide) (by decide)]) (s4 _ (by decide) (by decide) (by decide) (by decide)) (by rw [s4 _ (by decide) (by decide) (by decide) (by decide)]) (by rw [s4 _ (by decide) (by decide) (by decide) (by decide)]) (s6 _ (by decide) (by decide) (by decide) (by decide) (by decide))
    obtain ⟨hH, hL, hN, hJ, hM⟩ := id s3
    rcases s8 with ⟨rfl, o1⟩ | ⟨rfl, o1⟩
    · exact Sim.ret ⟨hH, hL, hN, hJ, hM, INV.off o1 hI2⟩
    · have p5 : S2.1 13 0 = 5 := by
        rw [s4 _ (by decide) (by decide) (by decide) (by decide)]
        exact q5
      refine Sim.ret ⟨hH, hL, hN, hJ, hM, fun _ z => ?_, fun _ _ => ?_, fun _ z => ?_, hI2⟩
      · rw [p5] at z
        exact absurd z (by decide)
      · rw [s4 _ (by decide) (by decide) (by decide) (by decide)]
        exact hcd
      · rw [p5] at z
        exact absurd z (by decide)
  rw [if_neg q5, if_neg q5]
  by_cases q3 : S.1 13 0 = 3
  · rw [if_pos q3, bnd_some, g0]; exact Sim.ret h
  · rw [if_neg q3, bnd_some, g0]; exact Sim.ret h
theorem op_ask {g : Nat} {c : Nat × Nat} {S T : Mem} (hg : 400 < g) (h : Rel c S T) (x : Int32) : Sim (Rel c) (f_A_ask g S x) (f_R_ask g T x) := by
  obtain ⟨hH, hL, hN, ⟨n, j1, j2, j3, j4⟩, ⟨m1, m2, m3, m4, m5, m6, m7, m8, m9, m10, m11⟩, i1, i2, i3, i4⟩ := id h
  have eOn : T.1 18 0 = S.1 11 0 := m2.1.symm
  have ePh : T.1 20 0 = S.1 13 0 := m4.1.symm
  have eNx : T.1 16 0 = S.1 15 0 := m6.1.symm
  unfold f_A_ask f_M_beginWithdrawal f_R_ask
  rw [eOn, ePh, eNx, p_isAmount, j3]
  by_cases q1 : S.1 11 0 = 0
  · rw [if_pos q1, if_pos q1, bnd_some]; exact Sim.ret h
  rw [if_neg q1, if_neg q1]
  have hon : S.1 11 0 = 1 := one_of m2 q1
  by_cases q3 : S.1 13 0 = 3
  rotate_left
  · rw [if_neg q3, if_neg q3, bnd_some]; exact Sim.ret h
  rw [if_pos q3, if_pos q3, bnd_some]
  by_cases h1 : x < 1
  · rw [if_pos ((l64_lt x 1 1 rfl).mpr h1), if_pos rfl, if_pos h1, bnd_some]; exact Sim.ret h
  rw [if_neg (fun z => h1 ((l64_lt x 1 1 rfl).mp z)), if_neg h1]
  by_cases h2 : 40000 < x
  · rw [if_pos ((l64_gt x 40000 40000 rfl).mpr h2), if_pos rfl, if_pos h2, bnd_some]; exact Sim.ret h
  rw [if_neg (fun z => h2 ((l64_gt x 40000 40000 rfl).mp z)), if_neg h2, if_neg d10, j2]
  by_cases h3 : 290 < nI n
  · rw [if_pos h3, if_pos h3, bnd_some]; exact Sim.ret h
  rw [if_neg h3, if_neg h3]
  have hn : n ≤ 290 := by
    rw [show (290 : Int32) = nI 290 from rfl, nI_ltI (by decide) (by omega)] at h3
    omega
  by_cases h4 : S.1 15 0 ≤ 2000
  rotate_left
  · rw [if_neg h4, if_neg h4, bnd_some]; exact Sim.ret h
  rw [if_pos h4, if_pos h4]
  rw [Int32.le_iff_toInt_le, show (2000 : Int32).toInt = 2000 by decide] at h4
  obtain ⟨A, rfl, hA1, hA⟩ := ex_amt h1 h2
  obtain ⟨r, S9, T9, a1, a2, a3, a4, a5, a6, a7, a8, a9⟩ := r_mix hg hN hA1 hA
  rw [a1, a2, bnd_some, bnd_some]
  have hR : Rel c S9 T9 := h.mx a6 a7 a8 a9
  rcases a3 with ⟨rfl, hbest⟩ | ⟨rfl, hbest⟩
  rotate_left
  · rw [if_pos rfl, if_pos rfl, bnd_some]
    exact Sim.ret hR
  rw [if_neg d10, if_neg d10]
  unfold f_M_takeTrace
  simp only [lt_eq, bnd_some]
  have e14 : S9.1 14 = S.1 14 := a6 _ (by decide) (by decide) (by decide)
  have e15 : S9.1 15 = S.1 15 := a6 _ (by decide) (by decide) (by decide)
  have e11 : S9.1 11 = S.1 11 := a6 _ (by decide) (by decide) (by decide)
  have e36 : S9.1 36 = S.1 36 := a6 _ (by decide) (by decide) (by decide)
  have hsl : 0 ≤ (S9.1 14 0).toInt ∧ (S9.1 14 0).toInt ≤ 15 := by rw [e14]; exact i1 hon (Or.inr (Or.inr (Or.inl q3)))
  obtain ⟨gH, gL, gN, gJ, ⟨w1, w2, w3, w4, w5, w6, w7, w8, w9, w10, w11⟩, gI⟩ := id hR
  have eNx9 : T9.1 16 0 = S9.1 15 0 := w6.1.symm
  have hC : Core c (sI (sI (sI (sI S9 19 0 (S9.1 15 0)) 20 0 (S9.1 14 0)) 15 0 (S9.1 15 0 + 1)) 21 0 (nI A)) (sI (sI (sI (sI T9 22 0 (T9.1 16 0)) 16 0 (T9.1 16 0 + 1)) 23 0 (T9.1 21 0)) 24 0 (nI A)) := by
    refine ⟨gH, gL, gN, gJ, w1, w2, w3, w4, w5, ?_, w7, w8, ⟨w6.1, ?_, ?_⟩, w5, rfl⟩
    · show PIn 1 2001 (S9.1 15 0 + 1) (T9.1 16 0 + 1)
      rw [eNx9]
      refine nt_succ w6.2.1 ?_
      rw [e15]; exact h4
    · have := w6.2.1
      show (0 : Int) ≤ (S9.1 15 0).toInt
      omega
    · show (S9.1 15 0).toInt ≤ 2000
      rw [e15]; exact h4
  obtain ⟨r, A1, B1, s1, s2, s3, s4, s5, s6, s7, s8⟩ := r_write (g := g) (n := n) (kd := 1) hC (show S9.1 11 0 = 1 by rw [e11]; exact hon) (by omega) (show S9.1 36 0 = nI n by rw [e36]; exact j2) (fun _ => hsl)
  rw [show f_M_write g (sI (sI (sI (sI S9 19 0 (S9.1 15 0)) 20 0 ((sI S9 19 0 (S9.1 15 0)).1 14 0)) 15 0 ((sI (sI S9 19 0 (S9.1 15 0)) 20 0 ((sI S9 19 0 (S9.1 15 0)).1 14 0)).1 15 0 + 1)) 21 0 (nI A)) 1 = some (r, A1) from s1, show f_R_record g (sI (sI (sI (sI T9 22 0 (T9.1 16 0)) 16 0 ((sI T9 22 0 (T9.1 16 0)).1 16 0 + 1)) 23 0 ((sI (sI T9 22 0 (T9.1 16 0)) 16 0 ((sI T9 22 0 (T9.1 16 0)).1 16 0 + 1)).1 21 0)) 24 0 (nI A)) 1 = some (r, B1) from s2, bnd_some, bnd_some]
  rcases s8 with ⟨rfl, o1, o2, o3, o4⟩ | ⟨rfl, o1, o2⟩
  · rw [if_pos rfl, if_pos rfl, bnd_some]
    obtain ⟨hH, hL, hN, hJ, hM⟩ := id s3
    refine Sim.ret ⟨hH, hL, hN, hJ, hM, INV.off o1 (I4.keep (S := S9) (T := T9) gI.i4 (o2.trans (show S9.1 36 0 = nI n by rw [e36]; exact j2).symm) o3 ?_ ?_ o4)⟩
    · rw [s4 _ (by decide) (by decide) (by decide) (by decide) (by decide) (by decide) (by decide)]; rfl
    · rw [s4 _ (by decide) (by decide) (by decide) (by decide) (by decide) (by decide) (by decide)]; rfl
  rw [if_neg d10, if_neg d10]
  obtain ⟨p1, p2, p3, p4, p5, p6⟩ := o2.resolve_left (fun z => by omega)
  have k16 : A1.1 16 = S9.1 16 := s4 _ (by decide) (by decide) (by decide) (by decide) (by decide) (by decide) (by decide)
  have k14 : A1.1 14 = S9.1 14 := s4 _ (by decide) (by decide) (by decide) (by decide) (by decide) (by decide) (by decide)
  have k20 : A1.1 20 0 = S9.1 14 0 := by
    rw [s4 _ (by decide) (by decide) (by decide) (by decide) (by decide) (by decide) (by decide)]
    rfl
  have k21 : A1.1 21 0 = nI A := by
    rw [s4 _ (by decide) (by decide) (by decide) (by decide) (by decide) (by decide) (by decide)]
    rfl
  have k22 : A1.1 22 = S.1 22 := by
    rw [s4 _ (by decide) (by decide) (by decide) (by decide) (by decide) (by decide) (by decide)]
    exact a6 _ (by decide) (by decide) (by decide)
  have k23 : A1.1 23 = S.1 23 := by
    rw [s4 _ (by decide) (by decide) (by decide) (by decide) (by decide) (by decide) (by decide)]
    exact a6 _ (by decide) (by decide) (by decide)
  have hC2 : Core c (sI A1 17 0 (A1.1 16 0)) B1 := s3
  have hI3 : I4 (sI A1 17 0 (A1.1 16 0)) B1 := by
    intro m z1 z2 z3 z4
    have hm : m = n + 1 := (nI_eq (by omega) (by omega)).mp ((show A1.1 36 0 = nI m from z3).symm.trans p2)
    subst hm
    refine ⟨n, by omega, p3, fun i q1 q2 => absurd q2 (by omega), ?_, fun _ => ?_⟩
    · show B1.1 14 (5 * n + 4) = A1.1 16 0
      rw [p5, k16]
      rfl
    · show A1.1 16 0 ≤ A1.1 16 0
      rw [Int32.le_iff_toInt_le]
      exact Int.le_refl _
  obtain ⟨r, S2, T2, t1, t2, t3, t4, t5, t6, t7, t8⟩ := r_send (kd := 2) hg hC2 o1 (by decide) (show 0 ≤ (A1.1 20 0).toInt ∧ (A1.1 20 0).toInt ≤ 15 by rw [k20]; exact hsl) (nI A)
  rw [show f_M_send g (sI A1 17 0 (A1.1 16 0)) 2 (nI A) = some (r, S2) from t1, show f_R_sendStep g B1 2 (nI A) = some (r, T2) from t2, bnd_some, bnd_some]
  have hI2 : I4 S2 T2 := hI3.keep (by rw [t4 _ (by decide) (by decide) (by decide) (by decide)]) (t4 _ (by decide) (by decide) (by decide) (by decide)) (by rw [t4 _ (by decide) (by decide) (by decide) (by decide)]) (by rw [t4 _ (by decide) (by decide) (by decide) (by decide)]) (t6 _ (by decide) (by decide) (by decide) (by decide) (by decide))
  obtain ⟨hH, hL, hN, hJ, hM⟩ := id t3
  rcases t8 with ⟨rfl, o1⟩ | ⟨rfl, o1⟩
  · rw [if_pos rfl, if_pos rfl, bnd_some]
    exact Sim.ret ⟨hH, hL, hN, hJ, hM, INV.off o1 hI2⟩
  rw [if_neg d10, if_neg d10, bnd_some]
  obtain ⟨w1, w2, w3, w4, w5, w6⟩ := hM
  refine Sim.ret ⟨hH, hL, hN, hJ, ⟨w1, w2, w3, ⟨rfl, (show (0 : Int) ≤ (4 : Int32).toInt by decide), (show (4 : Int32).toInt ≤ 5 by decide)⟩, w5, w6⟩, fun _ _ => ?_, fun _ _ => ?_, fun _ _ => ⟨⟨A, ?_, ⟨hA1, hA⟩, ?_⟩, n + 1, by omega, by omega, ?_, ?_⟩, hI2⟩
  · show 0 ≤ (S2.1 14 0).toInt ∧ (S2.1 14 0).toInt ≤ 15
    rw [t4 _ (by decide) (by decide) (by decide) (by decide)]
    show 0 ≤ (A1.1 14 0).toInt ∧ (A1.1 14 0).toInt ≤ 15
    rw [k14]
    exact hsl
  · show 0 ≤ (S2.1 20 0).toInt ∧ (S2.1 20 0).toInt ≤ 15
    rw [t4 _ (by decide) (by decide) (by decide) (by decide)]
    show 0 ≤ (A1.1 20 0).toInt ∧ (A1.1 20 0).toInt ≤ 15
    rw [k20]
    exact hsl
  · show S2.1 21 0 = nI A
    rw [t4 _ (by decide) (by decide) (by decide) (by decide)]
    exact k21
  · show (rA (fun i => (S2.1 22 i).toInt.toNat) (fun i => (S2.1 23 i).toInt.toNat) A (41, 0, 0, 0, 0)).1 ≤ 40
    rw [t4 22 (by decide) (by decide) (by decide) (by decide), t4 23 (by decide) (by decide) (by decide) (by decide), show (sI A1 17 0 (A1.1 16 0)).1 22 = S.1 22 from k22, show (sI A1 17 0 (A1.1 16 0)).1 23 = S.1 23 from k23]
    exact hbest
  · show S2.1 36 0 = nI (n + 1)
    rw [t4 _ (by decide) (by decide) (by decide) (by decide)]
    exact p2
  · show S2.1 32 (n + 1 - 1) = 1
    rw [t4 _ (by decide) (by decide) (by decide) (by decide), Nat.add_sub_cancel]
    exact p3
