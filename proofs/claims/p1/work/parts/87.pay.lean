/-! the machine pays out -/
theorem Bg.keep {m : Nat} {S T S2 T2 : Mem} (h : Bg m S T) (e2 : S2.1 32 = S.1 32) (e4 : S2.1 17 0 = S.1 17 0) (e5 : T2.1 14 = T.1 14) : Bg m S2 T2 := by
  obtain ⟨b, b1, b2, b3, b4⟩ := h
  unfold Bg
  rw [e2, e4, e5]
  exact ⟨b, b1, b2, b3, b4⟩
theorem Bg.wr {n : Nat} {S T S2 T2 : Mem} {kd : Int32} (h : Bg n S T) (k1 : S2.1 32 n = kd) (k2 : ∀ i, i ≠ n → S2.1 32 i = S.1 32 i) (hr : ∀ q, q < 5 * n → T2.1 14 q = T.1 14 q) (e4 : S2.1 17 0 = S.1 17 0) (h1 : kd ≠ 1) : Bg (n + 1) S2 T2 := by
  obtain ⟨b, b1, b2, b3, b4⟩ := h
  refine ⟨b, by omega, by rw [k2 b (by omega)]; exact b2, fun i q1 q2 => ?_, by rw [hr _ (by omega), e4]; exact b4⟩
  by_cases e : i = n
  · rw [e, k1]; exact h1
  · rw [k2 i e]; exact b3 i q1 (by omega)
theorem I4.two {m : Nat} {S T : Mem} (hm : m ≤ 300) (hs : S.1 36 0 = nI m) (hk : S.1 32 (m - 1) = 2) (hB : Bg m S T) : I4 S T := by
  intro n h1 h2 h3 h4
  have e : n = m := (nI_eq (by omega) (by omega)).mp (h3.symm.trans hs)
  subst e
  obtain ⟨b, b1, b2, b3, b4⟩ := hB
  exact ⟨b, b1, b2, b3, b4, fun z => absurd hk z⟩
theorem I4.none {m : Nat} {S T : Mem} (hm : m ≤ 300) (hs : S.1 36 0 = nI m) (hk : 0 < m → S.1 32 (m - 1) ≠ 1 ∧ S.1 32 (m - 1) ≠ 2 ∧ S.1 32 (m - 1) ≠ 4) : I4 S T := by
  intro n h1 h2 h3 h4
  have e : n = m := (nI_eq (by omega) (by omega)).mp (h3.symm.trans hs)
  subst e
  obtain ⟨z1, z2, z3⟩ := hk h2
  rcases h4 with z | z | z
  · exact absurd z z1
  · exact absurd z z2
  · exact absurd z z3
theorem Core.opn {c : Nat × Nat} {S T : Mem} (h : Core c S T) : Core c (sI S 16 0 (S.1 16 0 + 1)) (sI T 17 0 (T.1 17 0 + 1)) := by
  obtain ⟨hH, hL, hN, hJ, m1, m2, m3, m4, m5, m6, m7, m8⟩ := h
  refine ⟨hH, hL, hN, hJ, m1, m2, m3, m4, m5, m6, ?_, m8⟩
  show S.1 16 0 + 1 = T.1 17 0 + 1
  rw [m7]
theorem Core.rel {c : Nat × Nat} {S T : Mem} (h : Core c S T) (hI : INV S T) : Rel c S T := ⟨h.1, h.2.1, h.2.2.1, h.2.2.2.1, h.2.2.2.2, hI⟩
theorem r_pay {g n A : Nat} {c : Nat × Nat} {S T : Mem} (hg : 400 < g) (h : Core c S T) (hb1 : c.1 + 40 < 2 ^ 29) (hb2 : c.2 + 40000 < 2 ^ 29) (hon : S.1 11 0 = 1) (hsl : 0 ≤ (S.1 14 0).toInt ∧ (S.1 14 0).toInt ≤ 15) (hI : I4 S T) (hn : n ≤ 291) (hsz : S.1 36 0 = nI n) (hB : Bg n S T) (eA : S.1 21 0 = nI A) (hA : 1 ≤ A ∧ A ≤ 40000) (hbest : (rA (dS S) (nS S) A (41, 0, 0, 0, 0)).1 ≤ 40) : Sim (Rel (c.1 + 40, c.2 + 40000)) (f_M_payOut g S) (f_R_giveOut g T) := by
  obtain ⟨r, S2, T2, w1, w2, w3, w4, w5, w6, w7, w8⟩ := r_write (g := g) (kd := 2) h hon (show n ≤ 300 by omega) hsz (fun z => absurd z (by decide))
  unfold f_M_payOut f_R_giveOut
  rw [w1, w2, bnd_some, bnd_some]
  have fS : ∀ k, k ≠ 11 → k ≠ 12 → k ≠ 32 → k ≠ 33 → k ≠ 34 → k ≠ 35 → k ≠ 36 → S2.1 k = S.1 k := w4
  rcases w8 with ⟨rfl, o1, o2, o3, o4⟩ | ⟨rfl, o1, o2⟩
  · rw [if_pos rfl, if_pos rfl]
    refine Sim.ret (Rel.mono (Core.rel w3 (INV.off o1 (hI.keep (o2.trans hsz.symm) o3 ?_ ?_ o4))) (Nat.le_add_right _ _) (Nat.le_add_right _ _))
    · rw [fS _ (by decide) (by decide) (by decide) (by decide) (by decide) (by decide) (by decide)]
    · rw [fS _ (by decide) (by decide) (by decide) (by decide) (by decide) (by decide) (by decide)]
  rw [if_neg d10, if_neg d10]
  obtain ⟨p1, p2, p3, p4, p5, p6⟩ := o2.resolve_left (fun z => by omega)
  have f17 : S2.1 17 0 = S.1 17 0 := by rw [fS _ (by decide) (by decide) (by decide) (by decide) (by decide) (by decide) (by decide)]
  have hB2 : Bg (n + 1) S2 T2 := hB.wr p3 p4 p6 f17 (by decide)
  have eA2 : S2.1 21 0 = nI A := by rw [fS _ (by decide) (by decide) (by decide) (by decide) (by decide) (by decide) (by decide)]; exact eA
  have eT2 : T2.1 24 0 = nI A := by rw [← eA2]; exact w3.2.2.2.2.2.2.2.2.2.2.2.2.2.2.symm
  have ed : dS S2 = dS S := by unfold dS; rw [fS _ (by decide) (by decide) (by decide) (by decide) (by decide) (by decide) (by decide)]
  have en : nS S2 = nS S := by unfold nS; rw [fS _ (by decide) (by decide) (by decide) (by decide) (by decide) (by decide) (by decide)]
  obtain ⟨r, S9, T9, a1, a2, a3, a4, a5, a6, a7, a8, a9⟩ := r_mix hg w3.2.2.1 hA.1 hA.2
  rw [ed, en] at a3 a4 a5
  rw [eA2, eT2, a1, a2, bnd_some, bnd_some]
  obtain ⟨rfl, -⟩ : r = 1 ∧ _ := a3.resolve_right (fun z => z.2 hbest)
  rw [if_neg d10]
  have hC9 : Core c S9 T9 := w3.mx a6 a7 a8 a9
  obtain ⟨x0, x1, x2, x3⟩ := a4.2 hbest
  obtain ⟨y0, y1, y2, y3⟩ := a5 hbest
  obtain ⟨g41, gd⟩ := Gd_rA (d := dS S) (n := nS S) (A := A)
  obtain ⟨gs, gd0, gd1, gd2, gd3, -⟩ := gd hbest
  obtain ⟨hD, hSn, -⟩ := RN_DN w3.2.2.1
  rw [ed, en] at hD hSn
  generalize hs : rA (dS S) (nS S) A (41, 0, 0, 0, 0) = s at *
  have hmx : ∀ j, j < 4 → (fun j => if j = 0 then s.2.1 else if j = 1 then s.2.2.1 else if j = 2 then s.2.2.2.1 else s.2.2.2.2) j ≤ 40 ∧ (fun j => if j = 0 then s.2.1 else if j = 1 then s.2.2.1 else if j = 2 then s.2.2.2.1 else s.2.2.2.2) j ≤ nS S j ∧ nS S j ≤ 200 := by
    intro j hj
    have h200 := (hD j hj).2.2
    rcases j4 hj with rfl | rfl | rfl | rfl
    · exact ⟨show s.2.1 ≤ 40 by omega, gd0, h200⟩
    · exact ⟨show s.2.2.1 ≤ 40 by omega, gd1, h200⟩
    · exact ⟨show s.2.2.2.1 ≤ 40 by omega, gd2, h200⟩
    · exact ⟨show s.2.2.2.2 ≤ 40 by omega, gd3, h200⟩
  have hsu : su (fun j => if j = 0 then s.2.1 else if j = 1 then s.2.2.1 else if j = 2 then s.2.2.2.1 else s.2.2.2.2) 0 4 = s.1 := by
    show s.2.1 + (s.2.2.1 + (s.2.2.2.1 + (s.2.2.2.2 + 0))) = s.1
    omega
  obtain ⟨A1, B1, b1, b2, b3, b4⟩ := l_stack4 (g := g) (cs := nS S) hg hmx 4 0 g g c S9 T9 (by decide) (by omega) (by omega) hC9 (by rw [a6 _ (by decide) (by decide) (by decide)]; exact o1) (fun j hj => by
    rcases j4 hj with rfl | rfl | rfl | rfl
    · exact ⟨x0, y0⟩
    · exact ⟨x1, y1⟩
    · exact ⟨x2, y2⟩
    · exact ⟨x3, y3⟩) (fun j _ hj => by
    rw [a6 _ (by decide) (by decide) (by decide)]
    exact (hSn j hj).2) (by rw [hsu]; omega) (by rw [hsu]; omega)
  rw [hsu] at b1
  have b1' : Core (c.1 + 40, c.2 + 40000) A1 B1 := b1.mono (by show c.1 + s.1 ≤ c.1 + 40; omega) (by show c.2 + 1000 * s.1 ≤ c.2 + 40000; omega)
  have kS : ∀ k, k ≠ 11 → k ≠ 12 → k ≠ 23 → k ≠ 24 → k ≠ 27 → k ≠ 29 → k ≠ 30 → k ≠ 31 → A1.1 k = S2.1 k := fun k q1 q2 q3 q4 q5 q6 q7 q8 => by rw [b2.1 k q1 q2 q3 q4 q5, a6 k q6 q7 q8]
  have kT : ∀ k, k ≠ 18 → k ≠ 19 → k ≠ 9 → k ≠ 10 → k ≠ 30 → B1.1 k = T2.1 k := fun k q1 q2 q3 q4 q5 => by rw [b3.1 k q1 q2 q3 q4, a8 k q5]
  have sz1 : A1.1 36 0 = nI (n + 1) := by rw [kS _ (by decide) (by decide) (by decide) (by decide) (by decide) (by decide) (by decide) (by decide)]; exact p2
  have kd1 : A1.1 32 (n + 1 - 1) = 2 := by rw [kS _ (by decide) (by decide) (by decide) (by decide) (by decide) (by decide) (by decide) (by decide), Nat.add_sub_cancel]; exact p3
  have hB1 : Bg (n + 1) A1 B1 := hB2.keep (kS _ (by decide) (by decide) (by decide) (by decide) (by decide) (by decide) (by decide) (by decide)) (by rw [kS _ (by decide) (by decide) (by decide) (by decide) (by decide) (by decide) (by decide) (by decide)]) (kT _ (by decide) (by decide) (by decide) (by decide) (by decide))
  unfold f_M_stackMix
  rcases b4 with ⟨u1, u2, u3⟩ | ⟨u1, u2, u3⟩
  · rw [show f_M_stackMix_2 g g S9 0 = some (.inl (0, A1)) from u1, show f_R_giveOut_20 g g T9 0 = some (.inl ((), B1)) from u2, seqR_l, seqR_l, bnd_some, if_pos rfl]
    exact Sim.ret (b1'.rel (INV.off u3 (I4.two (by omega) sz1 kd1 hB1)))
  rw [show f_M_stackMix_2 g g S9 0 = some (.inr (A1, ())) from u1, show f_R_giveOut_20 g g T9 0 = some (.inr (B1, ())) from u2, seqR_r, seqR_r, bnd_some, if_neg d10]
  obtain ⟨r, A2, B2, s1, s2, s3, s4, s5, s6, s7, s8⟩ := r_step (g := g) b1' u3
  rw [s1, s2, bnd_some, bnd_some]
  have sz2 : A2.1 36 0 = nI (n + 1) := by rw [s4 _ (by decide) (by decide)]; exact sz1
  have kd2 : A2.1 32 (n + 1 - 1) = 2 := by rw [s4 _ (by decide) (by decide)]; exact kd1
  have hB3 : Bg (n + 1) A2 B2 := hB1.keep (s4 _ (by decide) (by decide)) (by rw [s4 _ (by decide) (by decide)]) (s6 _ (by decide) (by decide))
  rcases s8 with ⟨rfl, v1⟩ | ⟨rfl, v1⟩
  · rw [if_pos rfl, if_pos rfl]
    exact Sim.ret (s3.rel (INV.off v1 (I4.two (by omega) sz2 kd2 hB3)))
  rw [if_neg d10, if_neg d10, p_toTray hg, bnd_some]
  obtain ⟨m, hm⟩ : ∃ m, g = m + 5 := ⟨g - 5, by omega⟩
  have e := p_trT g m B2
  rw [← hm] at e
  rw [show f_R_giveOut_102 g g B2 0 = some (trT B2, ()) from e, seqM_some]
  have hC3 : Core (c.1 + 40, c.2 + 40000) (sI (trS2 A2) 16 0 (A2.1 16 0 + 1)) (sI (trT2 B2) 17 0 (B2.1 17 0 + 1)) := (r_tray s3).opn
  obtain ⟨r, S3, T3, t1, t2, t3, t4, t5, t6, t7, t8⟩ := r_write (g := g) (n := n + 1) (kd := 3) hC3 v1 (by omega) sz2 (fun z => absurd z (by decide))
  show Sim (Rel (c.1 + 40, c.2 + 40000)) (bnd (f_M_write g (sI (trS2 A2) 16 0 (A2.1 16 0 + 1)) 3) (fun r41 S42 => if r41 = 0 then (some ((), S42)) else (lt (sI S42 13 0 (3 : Int32)) (fun S45 => some ((), S45))))) (bnd (f_R_record g (sI (trT2 B2) 17 0 (B2.1 17 0 + 1)) 3) (fun r68 S69 => if r68 = 0 then (some ((), S69)) else (lt (sI S69 20 0 (3 : Int32)) (fun S72 => some ((), S72)))))
  rw [t1, t2, bnd_some, bnd_some]
  rcases t8 with ⟨rfl, z1, z2, z3, z4⟩ | ⟨rfl, z1, z2⟩
  · rw [if_pos rfl, if_pos rfl]
    refine Sim.ret (t3.rel (INV.off z1 (I4.two (m := n + 1) (by omega) z2 (by rw [z3]; exact kd2) (hB3.keep z3 ?_ z4))))
    rw [t4 _ (by decide) (by decide) (by decide) (by decide) (by decide) (by decide) (by decide)]
    rfl
  rw [if_neg d10, if_neg d10]
  obtain ⟨q1, q2, q3, q4, q5, q6⟩ := z2.resolve_left (fun z => by omega)
  obtain ⟨hH, hL, hN, hJ, ⟨m1, m2, m3, m4, m5⟩⟩ := t3
  refine Sim.ret ⟨hH, hL, hN, hJ, ⟨m1, m2, m3, ⟨rfl, (show (0 : Int) ≤ (3 : Int32).toInt by decide), (show (3 : Int32).toInt ≤ 5 by decide)⟩, m5⟩, fun _ _ => ?_, fun _ z => ?_, fun _ z => ?_, ?_⟩
  · show 0 ≤ (S3.1 14 0).toInt ∧ (S3.1 14 0).toInt ≤ 15
    rw [t4 _ (by decide) (by decide) (by decide) (by decide) (by decide) (by decide) (by decide)]
    show 0 ≤ (A2.1 14 0).toInt ∧ (A2.1 14 0).toInt ≤ 15
    rw [s4 _ (by decide) (by decide), kS _ (by decide) (by decide) (by decide) (by decide) (by decide) (by decide) (by decide) (by decide), fS _ (by decide) (by decide) (by decide) (by decide) (by decide) (by decide) (by decide)]
    exact hsl
  · have z' : (3 : Int32) = 2 ∨ (3 : Int32) = 4 ∨ (3 : Int32) = 5 := z
    exact absurd z' (by decide)
  · have z' : (3 : Int32) = 4 := z
    exact absurd z' (by decide)
  · exact I4.none (m := n + 1 + 1) (S := S3) (T := T3) (by omega) q2 (fun _ => by rw [Nat.add_sub_cancel, q3]; decide)
