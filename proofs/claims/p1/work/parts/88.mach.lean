/-! a letter comes to the machine -/
def comeM (g : Nat) (T : Mem) : Option (Unit × Mem) := if (T.1 18 0) = 0 then (some ((), T)) else (bnd (f_R_check_letter g T (0 : Int32)) (fun r34 S35 => if (S35.1 29 ((11 : Int32).toNatClampNeg)) = (r34 >>> ((8 : Int32) &&& 31)) then (if (S35.1 29 ((12 : Int32).toNatClampNeg)) = (r34 &&& (255 : Int32)) then (bnd (f_R_machineTakes g S35) (fun r39 S40 => if r39 = 0 then (lt (sI S40 27 0 ((S40.1 27 0) + (1 : Int32))) (fun S43 => some ((), S43))) else (lt (sI S40 27 0 ((S40.1 27 0) + (0 : Int32))) (fun S44 => some ((), S44))))) else (lt (sI S35 27 0 ((S35.1 27 0) + (1 : Int32))) (fun S45 => some ((), S45)))) else (lt (sI S35 27 0 ((S35.1 27 0) + (1 : Int32))) (fun S46 => some ((), S46)))))
theorem nI_eq32 {V t : Nat} (hV : V < 2 ^ 32) (ht : t < 2 ^ 32) : nI V = nI t ↔ V = t := by
  constructor
  · intro z
    have e := congrArg (fun q : Int32 => q.toBitVec.toNat) z
    have e2 : (nI V).toBitVec.toNat = (nI t).toBitVec.toNat := e
    rw [pk_tn hV, pk_tn ht] at e2
    exact e2
  · intro z
    rw [z]
/-- the reference's takes, where the trace fits -/
theorem p_takes {g : Nat} {T : Mem} {t : Int32} (hv : f_R_numberAt g T 1 = some (t, T)) (ht : t = T.1 22 0) : f_R_machineTakes g T = if T.1 20 0 = 2 then (if T.1 29 0 = 129 then (if T.1 29 10 = 2 then grd (¬ ((T.1 21 0) < 0 ∨ 16 ≤ (T.1 21 0).toNatClampNeg)) (some (1, sI (sI (sI T 13 ((T.1 21 0).toNatClampNeg) 1) 21 0 (-1)) 20 0 0)) else if T.1 29 10 = 0 then some (1, sI T 20 0 3) else some (1, sI T 20 0 1)) else some (0, T)) else if T.1 20 0 = 4 then (if T.1 29 0 = 130 then (if T.1 29 10 = 0 then bnd (f_R_giveOut g T) (fun _ S => some (1, S)) else bnd (f_R_record g T 6) (fun r S => if r = 0 then some (1, S) else some (1, sI S 20 0 3))) else some (0, T)) else if T.1 20 0 = 5 then (if T.1 29 0 = 131 then bnd (f_R_record g T 5) (fun r S => if r = 0 then some (1, S) else some (1, sI S 20 0 0)) else some (0, T)) else some (0, T) := by
  have t0 : (0 : Int32).toNatClampNeg = 0 := by decide
  have t10 : (10 : Int32).toNatClampNeg = 10 := by decide
  unfold f_R_machineTakes
  rw [hv, bnd_some, if_pos ht, t0, t10]
  simp only [lt_eq]
  by_cases p2 : T.1 20 0 = 2
  · have n4 : ¬ T.1 20 0 = 4 := by rw [p2]; decide
    have n5 : ¬ T.1 20 0 = 5 := by rw [p2]; decide
    by_cases k : T.1 29 0 = 129
    · by_cases c2 : T.1 29 10 = 2
      · have c0 : ¬ T.1 29 10 = 0 := by rw [c2]; decide
        simp only [if_pos p2, if_pos k, if_pos c2, if_neg c0]
      · simp only [if_pos p2, if_pos k, if_neg c2]
    · simp only [if_pos p2, if_neg k, if_neg n4, if_neg n5]
  · by_cases p4 : T.1 20 0 = 4
    · have n5 : ¬ T.1 20 0 = 5 := by rw [p4]; decide
      by_cases k : T.1 29 0 = 130
      · simp only [if_neg p2, if_pos p4, if_pos k, if_neg n5]
      · simp only [if_neg p2, if_pos p4, if_neg k, if_neg n5]
    · by_cases p5 : T.1 20 0 = 5
      · simp only [if_neg p2, if_neg p4, if_pos p5]
      · simp only [if_neg p2, if_neg p4, if_neg p5]
theorem r_mach {g : Nat} {c : Nat × Nat} {S T : Mem} (hg : 400 < g) (hb1 : c.1 + 40 < 2 ^ 28) (hb2 : c.2 + 40000 < 2 ^ 28) (h : Rel c S T) (ha : RA S T) : Sim (Rel (c.1 + 40, c.2 + 40000)) (f_M_receive g 24 S) (comeM g T) := by
  obtain ⟨hH, hL, hN, hJ, ⟨m1, m2, m3, m4, m5, m6, m7, m8, m9, m10, m11⟩, i1, i2, i3, i4⟩ := id h
  have up : ∀ {X Y : Mem}, Rel c X Y → Rel (c.1 + 40, c.2 + 40000) X Y := fun z => z.mono (Nat.le_add_right _ _) (Nat.le_add_right _ _)
  have eOn : T.1 18 0 = S.1 11 0 := m2.1.symm
  have ePh : T.1 20 0 = S.1 13 0 := m4.1.symm
  have eSl : T.1 21 0 = S.1 14 0 := m5.symm
  unfold f_M_receive comeM
  rw [eOn]
  by_cases q1 : S.1 11 0 = 0
  · rw [if_pos q1, if_pos q1]; exact Sim.ret (up h)
  rw [if_neg q1, if_neg q1]
  have hon : S.1 11 0 = 1 := one_of m2 q1
  obtain ⟨r, c1, c2⟩ := r_sound hg ha
  have t11 : T.1 29 ((11 : Int32).toNatClampNeg) = T.1 29 11 := rfl
  have t12 : T.1 29 ((12 : Int32).toNatClampNeg) = T.1 29 12 := rfl
  rw [c1, bnd_some, t11, t12]
  rcases c2 with ⟨s1, s2, s3⟩ | ⟨s1, s2⟩
  rotate_left
  · rw [s1, bnd_some, if_pos rfl]
    by_cases q1 : T.1 29 11 = r >>> ((8 : Int32) &&& 31)
    · rw [if_pos q1, if_neg (fun z => s2 ⟨q1, z⟩)]
      exact Sim.ret (up h.dropM)
    · rw [if_neg q1]
      exact Sim.ret (up h.dropM)
  rw [s1, bnd_some, if_neg d10, if_pos s2, if_pos s3]
  obtain ⟨V, hV, v1, v2⟩ := r_trace hg ha
  obtain ⟨kd, hkd, k1, k2⟩ := PIn_nat (m := 255) (ha 0 (by decide)) (by decide)
  obtain ⟨co, hco, o1, o2⟩ := PIn_nat (m := 255) (ha 10 (by decide)) (by decide)
  obtain ⟨t, ht, tS, tT⟩ := PIn_nat (m := 2000) m9 (by decide)
  have ek : f_E_kind g 24 S = some (nI kd, S) := by rw [← k1]; rfl
  have eo : f_E_code g 24 S = some (nI co, S) := by rw [← o1]; rfl
  have q1 : lg_cmp (lN V) (S.1 19 0).toInt64 = 0 ↔ V = t := by
    rw [lgc_eq, tS, nI_l (by omega), pk_lEQ (by omega) (by omega)]
  have q2 : nI V = T.1 22 0 ↔ V = t := by
    rw [tT]
    exact nI_eq32 hV (by omega)
  by_cases hVt : V = t
  rotate_left
  · have e1 : f_M_isAwaited g 24 S = some (0, S) := by
      unfold f_M_isAwaited
      rw [v1, bnd_some, if_neg (fun z => hVt (q1.mp z))]
    have e2 : f_R_machineTakes g T = some (0, T) := by
      unfold f_R_machineTakes
      rw [v2, bnd_some, if_neg (fun z => hVt (q2.mp z))]
    rw [e1, e2, bnd_some, bnd_some, if_pos rfl, if_pos rfl]
    exact Sim.ret (up h.dropM)
  rw [p_takes v2 (q2.mpr hVt), ePh, k2, o2]
  have eW : f_M_isAwaited g 24 S = some (if S.1 13 0 = 2 then (if nI kd = 129 then 1 else 0) else if S.1 13 0 = 4 then (if nI kd = 130 then 1 else 0) else if S.1 13 0 = 5 then (if nI kd = 131 then 1 else 0) else 0, S) := by
    unfold f_M_isAwaited
    rw [v1, bnd_some, if_pos (q1.mpr hVt)]
    simp only [lt_eq, ek, bnd_some]
    by_cases p2 : S.1 13 0 = 2
    · rw [if_pos p2, if_pos p2]
      by_cases k : nI kd = 129
      · rw [if_pos k, if_pos k]
      · rw [if_neg k, if_neg k]
    · rw [if_neg p2, if_neg p2]
      by_cases p4 : S.1 13 0 = 4
      · rw [if_neg (show ¬ S.1 13 0 = 3 by rw [p4]; decide), if_pos p4, if_pos p4]
        by_cases k : nI kd = 130
        · rw [if_pos k, if_pos k]
        · rw [if_neg k, if_neg k]
      · rw [if_neg p4]
        by_cases p5 : S.1 13 0 = 5
        · rw [if_neg (show ¬ S.1 13 0 = 3 by rw [p5]; decide), if_neg p4, if_pos p5, if_pos p5]
          by_cases k : nI kd = 131
          · rw [if_pos k, if_pos k]
          · rw [if_neg k, if_neg k]
        · rw [if_neg p5, if_neg p4, if_neg p5]
          by_cases p3 : S.1 13 0 = 3
          · rw [if_pos p3]
          · rw [if_neg p3]
  rw [eW, bnd_some]
  have drop : Sim (Rel (c.1 + 40, c.2 + 40000)) (if (0 : Int32) = 0 then (lt (sI S 18 0 ((S.1 18 0) + (1 : Int32))) (fun S31 => some ((), S31))) else (none : Option (Unit × Mem))) (bnd (some ((0 : Int32), T)) (fun r39 S40 => if r39 = 0 then (lt (sI S40 27 0 ((S40.1 27 0) + (1 : Int32))) (fun S43 => some ((), S43))) else (none : Option (Unit × Mem)))) := by
    rw [bnd_some, if_pos rfl, if_pos rfl]
    exact Sim.ret (up h.dropM)
  by_cases p2 : S.1 13 0 = 2
  · simp only [if_pos p2]
    by_cases k : nI kd = 129
    rotate_left
    · rw [if_neg k, if_neg k, if_pos rfl, bnd_some, if_pos rfl]
      exact Sim.ret (up h.dropM)
    rw [if_pos k, if_pos k, if_neg d10, lt_eq, if_pos p2, eo, bnd_some]
    obtain ⟨sl, hsl, es, -⟩ := PIn_nat (m := 15) (x := S.1 14 0) (y := S.1 14 0) ⟨rfl, i1 hon (Or.inr (Or.inl p2))⟩ (by decide)
    have gs : ¬ (nI sl < 0 ∨ 16 ≤ (nI sl).toNatClampNeg) := nI_in (by omega) (by decide)
    have ec : (nI sl).toNatClampNeg = sl := nI_clamp (by omega)
    unfold f_M_endPinCheck f_M_endWithoutCard
    by_cases z0 : nI co = 0
    · rw [if_pos z0, if_neg (show ¬ nI co = 2 by rw [z0]; decide), if_pos z0, lt_eq, bnd_some, bnd_some, if_neg d10]
      refine Sim.ret (up (Rel.drop0 ⟨hH, hL, hN, hJ, ⟨m1, m2, m3, ⟨rfl, (show (0 : Int) ≤ (3 : Int32).toInt by decide), (show (3 : Int32).toInt ≤ 5 by decide)⟩, m5, m6, m7, m8, m9, m10, m11⟩, fun _ _ => i1 hon (Or.inr (Or.inl p2)), fun _ z => ?_, fun _ z => ?_, i4⟩))
      · have z' : (3 : Int32) = 2 ∨ (3 : Int32) = 4 ∨ (3 : Int32) = 5 := z
        exact absurd z' (by decide)
      · have z' : (3 : Int32) = 4 := z
        exact absurd z' (by decide)
    rw [if_neg z0]
    by_cases z2 : nI co = 2
    · rw [if_pos z2, if_pos z2, eSl, es, p_isCard, if_neg (nI_pos (by omega)), if_neg (show ¬ (15 : Int32) < nI sl from nI_nlt (a := 15) (b := sl) hsl (by decide)), bnd_some, if_neg d10, es, grd_pos gs, grd_pos gs, ec]
      simp only [lt_eq, bnd_some]
      rw [if_neg d10]
      refine Sim.ret (up (Rel.drop0 ⟨hH, hL, hN, hJ, ⟨all_upd m1 ⟨rfl, by decide, by decide⟩, m2, m3, ⟨rfl, (show (0 : Int) ≤ (0 : Int32).toInt by decide), (show (0 : Int32).toInt ≤ 5 by decide)⟩, rfl, m6, m7, m8, m9, m10, m11⟩, fun _ z => ?_, fun _ z => ?_, fun _ z => ?_, i4⟩))
      · have z' : (0 : Int32) = 1 ∨ (0 : Int32) = 2 ∨ (0 : Int32) = 3 ∨ (0 : Int32) = 4 := z
        exact absurd z' (by decide)
      · have z' : (0 : Int32) = 2 ∨ (0 : Int32) = 4 ∨ (0 : Int32) = 5 := z
        exact absurd z' (by decide)
      · have z' : (0 : Int32) = 4 := z
        exact absurd z' (by decide)
    · rw [if_neg z2, if_neg z2, if_neg z0, lt_eq, bnd_some, bnd_some, if_neg d10]
      refine Sim.ret (up (Rel.drop0 ⟨hH, hL, hN, hJ, ⟨m1, m2, m3, ⟨rfl, (show (0 : Int) ≤ (1 : Int32).toInt by decide), (show (1 : Int32).toInt ≤ 5 by decide)⟩, m5, m6, m7, m8, m9, m10, m11⟩, fun _ _ => i1 hon (Or.inr (Or.inl p2)), fun _ z => ?_, fun _ z => ?_, i4⟩))
      · have z' : (1 : Int32) = 2 ∨ (1 : Int32) = 4 ∨ (1 : Int32) = 5 := z
        exact absurd z' (by decide)
      · have z' : (1 : Int32) = 4 := z
        exact absurd z' (by decide)
  simp only [if_neg p2]
  by_cases p4 : S.1 13 0 = 4
  · simp only [if_pos p4]
    by_cases k : nI kd = 130
    rotate_left
    · rw [if_neg k, if_neg k, if_pos rfl, bnd_some, if_pos rfl]
      exact Sim.ret (up h.dropM)
    obtain ⟨⟨A, eA, hA, hbest⟩, n, n0, n1, n2, n3⟩ := i3 hon p4
    have hB : Bg n S T := I4.bg (S := S) (T := T) i4 (by omega) n0 n2 (Or.inl n3)
    have hsl := i1 hon (Or.inr (Or.inr (Or.inr p4)))
    rw [if_pos k, if_pos k, if_neg d10, lt_eq, if_neg p2, if_pos p4, eo, bnd_some]
    by_cases z0 : nI co = 0
    · rw [if_pos z0, if_pos z0]
      obtain ⟨r, X, Y, x1, x2, x3⟩ := r_pay (g := g) (n := n) (A := A) hg h.core (by omega) (by omega) hon hsl i4 n1 n2 hB eA hA hbest
      rw [x1, x2, bnd_some, bnd_some, bnd_some, if_neg d10]
      exact Sim.ret x3.drop0
    rw [if_neg z0, if_neg z0]
    obtain ⟨r, S2, T2, w1, w2, w3, w4, w5, w6, w7, w8⟩ := r_write (g := g) (kd := 6) h.core hon (show n ≤ 300 by omega) n2 (fun z => absurd z (by decide))
    rw [w1, w2, bnd_some, bnd_some]
    have f16 : S2.1 16 = S.1 16 := w4 _ (by decide) (by decide) (by decide) (by decide) (by decide) (by decide) (by decide)
    have f17 : S2.1 17 = S.1 17 := w4 _ (by decide) (by decide) (by decide) (by decide) (by decide) (by decide) (by decide)
    rcases w8 with ⟨rfl, y1, y2, y3, y4⟩ | ⟨rfl, y1, y2⟩
    · rw [if_pos rfl, if_pos rfl, bnd_some, if_neg d10]
      exact Sim.ret (up (Rel.drop0 (w3.rel (INV.off y1 (I4.keep (S := S) (T := T) i4 (y2.trans n2.symm) y3 (by rw [f16]) (by rw [f17]) y4)))))
    rw [if_neg d10, if_neg d10, bnd_some, if_neg d10]
    obtain ⟨x1, x2, x3, x4, x5, x6⟩ := y2.resolve_left (fun z => by omega)
    obtain ⟨gH, gL, gN, gJ, ⟨u1, u2, u3, u4, u5⟩⟩ := w3
    refine Sim.ret (up (Rel.drop0 ⟨gH, gL, gN, gJ, ⟨u1, u2, u3, ⟨rfl, (show (0 : Int) ≤ (3 : Int32).toInt by decide), (show (3 : Int32).toInt ≤ 5 by decide)⟩, u5⟩, fun _ _ => ?_, fun _ z => ?_, fun _ z => ?_, I4.none (m := n + 1) (S := S2) (T := T2) (by omega) x2 (fun _ => by rw [Nat.add_sub_cancel, x3]; decide)⟩))
    · show 0 ≤ (S2.1 14 0).toInt ∧ (S2.1 14 0).toInt ≤ 15
      rw [w4 _ (by decide) (by decide) (by decide) (by decide) (by decide) (by decide) (by decide)]
      exact hsl
    · have z' : (3 : Int32) = 2 ∨ (3 : Int32) = 4 ∨ (3 : Int32) = 5 := z
      exact absurd z' (by decide)
    · have z' : (3 : Int32) = 4 := z
      exact absurd z' (by decide)
  simp only [if_neg p4]
  by_cases p5 : S.1 13 0 = 5
  · simp only [if_pos p5]
    by_cases k : nI kd = 131
    rotate_left
    · rw [if_neg k, if_neg k, if_pos rfl, bnd_some, if_pos rfl]
      exact Sim.ret (up h.dropM)
    obtain ⟨n, j1, j2, -⟩ := id hJ
    rw [if_pos k, if_pos k, if_neg d10, lt_eq, if_neg p2, if_neg p4]
    obtain ⟨r, S2, T2, w1, w2, w3, w4, w5, w6, w7, w8⟩ := r_write (g := g) (kd := 5) h.core hon j1 j2 (fun z => absurd z (by decide))
    rw [w1, w2, bnd_some, bnd_some]
    have f16 : S2.1 16 = S.1 16 := w4 _ (by decide) (by decide) (by decide) (by decide) (by decide) (by decide) (by decide)
    have f17 : S2.1 17 = S.1 17 := w4 _ (by decide) (by decide) (by decide) (by decide) (by decide) (by decide) (by decide)
    rcases w8 with ⟨rfl, y1, y2, y3, y4⟩ | ⟨rfl, y1, y2⟩
    · rw [if_pos rfl, if_pos rfl, bnd_some, if_neg d10]
      exact Sim.ret (up (Rel.drop0 (w3.rel (INV.off y1 (I4.keep (S := S) (T := T) i4 (y2.trans j2.symm) y3 (by rw [f16]) (by rw [f17]) y4)))))
    rw [if_neg d10, if_neg d10, bnd_some, if_neg d10]
    have hI4 : I4 S2 T2 := by
      rcases y2 with ⟨-, x2, x3, x4⟩ | ⟨x1, x2, x3, x4, x5, x6⟩
      · exact I4.keep (S := S) (T := T) i4 (x2.trans j2.symm) x3 (by rw [f16]) (by rw [f17]) x4
      · exact I4.none (m := n + 1) (by omega) x2 (fun _ => by rw [Nat.add_sub_cancel, x3]; decide)
    obtain ⟨gH, gL, gN, gJ, ⟨u1, u2, u3, u4, u5⟩⟩ := w3
    refine Sim.ret (up (Rel.drop0 ⟨gH, gL, gN, gJ, ⟨u1, u2, u3, ⟨rfl, (show (0 : Int) ≤ (0 : Int32).toInt by decide), (show (0 : Int32).toInt ≤ 5 by decide)⟩, u5⟩, fun _ z => ?_, fun _ z => ?_, fun _ z => ?_, hI4⟩))
    · have z' : (0 : Int32) = 1 ∨ (0 : Int32) = 2 ∨ (0 : Int32) = 3 ∨ (0 : Int32) = 4 := z
      exact absurd z' (by decide)
    · have z' : (0 : Int32) = 2 ∨ (0 : Int32) = 4 ∨ (0 : Int32) = 5 := z
      exact absurd z' (by decide)
    · have z' : (0 : Int32) = 4 := z
      exact absurd z' (by decide)
  simp only [if_neg p5]
  rw [if_pos trivial, bnd_some, if_pos rfl]
  exact Sim.ret (up h.dropM)
