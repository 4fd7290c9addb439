/-! the host's answers -/
theorem sI_at {S : Mem} {f j : Nat} {v : Int32} : (sI S f j v).1 f j = v := by rw [sI_eq, upd_eq]
theorem pin_eq {x : Int32} {U : Nat} (hU : U ≤ 9999) : lg_cmp x.toInt64 (lN U) = 0 ↔ x = nI U := by
  rw [lgc_eq, ← nI_l (show U < 2 ^ 31 by omega)]
  constructor
  · intro z
    have := congrArg Int64.toInt32 z
    rw [lg_l2i_i2l, lg_l2i_i2l] at this
    exact this
  · intro z
    rw [z]
theorem ri0 : (0 : Int) ≤ (0 : Int32).toInt ∧ (0 : Int32).toInt ≤ 2 := by decide
theorem ri1 : (0 : Int) ≤ (1 : Int32).toInt ∧ (1 : Int32).toInt ≤ 2 := by decide
theorem ri2 : (0 : Int) ≤ (2 : Int32).toInt ∧ (2 : Int32).toInt ≤ 2 := by decide
theorem pc0 : PIn (-1) 2 0 0 := ⟨rfl, by decide, by decide⟩
theorem pc1 : PIn (-1) 2 1 1 := ⟨rfl, by decide, by decide⟩
theorem pc2 : PIn (-1) 2 2 2 := ⟨rfl, by decide, by decide⟩
theorem r_pin {g : Nat} {c : Nat × Nat} {S T : Mem} (h : Rel c S T) {V cd U : Nat} (hV : 1 ≤ V ∧ V ≤ 2000) (hc : cd ≤ 15) (hU : U ≤ 9999) : ∃ (r : Int32) (S2 T2 : Mem), f_H_decide g S (nI 1) (nI V) (nI cd) (lN U) = some (r, S2) ∧ f_R_onPin g T (nI V) (nI cd) (nI U) = some (r, T2) ∧ Rel c S2 T2 ∧ 0 ≤ r.toInt ∧ r.toInt ≤ 2 := by
  obtain ⟨⟨b1, b2, b3, b4, b5, b6, b7⟩, hL, hN, hJ, hM, hI⟩ := id h
  have gV : ¬ (nI V < 0 ∨ 2001 ≤ (nI V).toNatClampNeg) := nI_in (by omega) (by decide)
  have gC : ¬ (nI cd < 0 ∨ 16 ≤ (nI cd).toNatClampNeg) := nI_in (by omega) (by decide)
  have eV : (nI V).toNatClampNeg = V := nI_clamp (by omega)
  have eC : (nI cd).toNatClampNeg = cd := nI_clamp (by omega)
  have d1 : f_A_isWithin g S (nI V).toInt64 1 2000 = some (1, S) := by
    rw [p_isWithin, if_neg (fun z => nI_nlt (a := V) (b := 1) hV.1 (by omega) ((l64_lt (nI V) 1 1 rfl).mp z)), if_neg (fun z => nI_nlt (a := 2000) (b := V) hV.2 (by decide) ((l64_gt (nI V) 2000 2000 rfl).mp z))]
  have d2 : f_A_isCard g S (nI cd) = some (1, S) := by
    rw [p_isCard, if_neg (nI_pos (by omega)), if_neg (show ¬ (15 : Int32) < nI cd from nI_nlt (a := 15) (b := cd) hc (by decide))]
  have eP : T.1 3 V = S.1 5 V := (b5 V (by omega)).1.symm
  have eA : T.1 0 cd = S.1 2 cd := (b2 cd (by omega)).1.symm
  have eT : T.1 2 cd = S.1 4 cd := (b4 cd (by omega)).1.symm
  have eN : T.1 1 cd = S.1 3 cd := (b3 cd (by omega)).symm
  obtain ⟨t, ht, et, -⟩ := PIn_nat (m := 3) (b4 cd (by omega)) (by decide)
  unfold f_H_decide
  rw [d1, bnd_some, if_neg d10, d2, bnd_some, if_neg d10, if_pos (show nI 1 = (1 : Int32) from rfl)]
  unfold f_R_onPin f_H_tryPin
  simp only [grd_pos gV, grd_pos gC]
  simp only [eV, eC, lt_eq, eP, eA, eT, eN, pin_eq hU, et]
  by_cases q1 : S.1 5 V = -1
  · by_cases q2 : S.1 2 cd = -1
    · simp only [q1, q2, ↓reduceIte, bnd_some, sI_at]
      exact ⟨1, _, _, rfl, rfl, ⟨⟨b1, b2, b3, b4, all_upd b5 pc1, b6, b7⟩, hL, hN, hJ, hM, hI⟩, ri1⟩
    · by_cases q3 : t = 3
      · subst q3
        simp only [q1, q2, ↓reduceIte, bnd_some, sI_at, (by decide : (nI 3 < (3 : Int32)) = False), (by decide : (nI 3 = (3 : Int32)) = True)]
        exact ⟨2, _, _, rfl, rfl, ⟨⟨b1, b2, b3, b4, all_upd b5 pc2, b6, b7⟩, hL, hN, hJ, hM, hI⟩, ri2⟩
      · have t3 : nI t < (3 : Int32) := nI_lt (show t < 3 by omega) (by decide)
        have t4 : ¬ nI t = (3 : Int32) := fun z => q3 ((nI_eq (by omega) (by decide)).mp (show nI t = nI 3 from z))
        by_cases q4 : S.1 3 cd = nI U
        · simp only [q1, q2, t3, t4, q4, ↓reduceIte, bnd_some, sI_at]
          exact ⟨0, _, _, rfl, rfl, ⟨⟨b1, b2, b3, all_upd b4 ⟨rfl, by decide, by decide⟩, all_upd b5 pc0, b6, b7⟩, hL, hN, hJ, hM, hI⟩, ri0⟩
        · have hb : PTry (nI (t + 1)) (nI (t + 1)) := by
            refine ⟨rfl, ?_, ?_⟩
            · rw [nI_toInt (by omega)]; omega
            · rw [nI_toInt (by omega)]; omega
          by_cases q5 : t = 2
          · subst q5
            simp only [q1, q2, t3, t4, q4, ↓reduceIte, bnd_some, sI_at, add1, (by decide : (nI (2 + 1) < (3 : Int32)) = False), (by decide : (nI (2 + 1) = (3 : Int32)) = True)]
            exact ⟨2, _, _, rfl, rfl, ⟨⟨b1, b2, b3, all_upd b4 hb, all_upd b5 pc2, b6, b7⟩, hL, hN, hJ, hM, hI⟩, ri2⟩
          · have t5 : nI (t + 1) < (3 : Int32) := nI_lt (show t + 1 < 3 by omega) (by decide)
            have t6 : ¬ nI (t + 1) = (3 : Int32) := fun z => q5 (by
              have := (nI_eq (show t + 1 < 2 ^ 31 by omega) (by decide)).mp (show nI (t + 1) = nI 3 from z)
              omega)
            simp only [q1, q2, t3, t4, q4, ↓reduceIte, bnd_some, sI_at, add1, t5, t6]
            exact ⟨1, _, _, rfl, rfl, ⟨⟨b1, b2, b3, all_upd b4 hb, all_upd b5 pc1, b6, b7⟩, hL, hN, hJ, hM, hI⟩, ri1⟩
  · simp only [q1, ↓reduceIte]
    refine ⟨_, S, T, rfl, rfl, h, ?_⟩
    obtain ⟨-, p1, p2⟩ := b5 V (by omega)
    have p3 : (S.1 5 V).toInt ≠ -1 := fun z => q1 (Int32.toInt_inj.mp (z.trans (by decide)))
    omega
theorem r_debit {g : Nat} {c : Nat × Nat} {S T : Mem} (h : Rel c S T) {V cd U : Nat} (hV : 1 ≤ V ∧ V ≤ 2000) (hc : cd ≤ 15) (hU : 1 ≤ U ∧ U ≤ 40000) : ∃ (r : Int32) (S2 T2 : Mem), f_H_decide g S (nI 2) (nI V) (nI cd) (lN U) = some (r, S2) ∧ f_R_onDebit g T (nI V) (nI cd) (nI U) = some (r, T2) ∧ Rel c S2 T2 ∧ 0 ≤ r.toInt ∧ r.toInt ≤ 2 := by
  obtain ⟨⟨b1, b2, b3, b4, b5, b6, b7⟩, hL, hN, hJ, hM, hI⟩ := id h
  have gV : ¬ (nI V < 0 ∨ 2001 ≤ (nI V).toNatClampNeg) := nI_in (by omega) (by decide)
  have gC : ¬ (nI cd < 0 ∨ 16 ≤ (nI cd).toNatClampNeg) := nI_in (by omega) (by decide)
  have eV : (nI V).toNatClampNeg = V := nI_clamp (by omega)
  have eC : (nI cd).toNatClampNeg = cd := nI_clamp (by omega)
  have d1 : f_A_isWithin g S (nI V).toInt64 1 2000 = some (1, S) := by
    rw [p_isWithin, if_neg (fun z => nI_nlt (a := V) (b := 1) hV.1 (by omega) ((l64_lt (nI V) 1 1 rfl).mp z)), if_neg (fun z => nI_nlt (a := 2000) (b := V) hV.2 (by decide) ((l64_gt (nI V) 2000 2000 rfl).mp z))]
  have d2 : f_A_isCard g S (nI cd) = some (1, S) := by
    rw [p_isCard, if_neg (nI_pos (by omega)), if_neg (show ¬ (15 : Int32) < nI cd from nI_nlt (a := 15) (b := cd) hc (by decide))]
  have eA : T.1 0 cd = S.1 2 cd := (b2 cd (by omega)).1.symm
  unfold f_H_decide
  rw [d1, bnd_some, if_neg d10, d2, bnd_some, if_neg d10, if_neg (show ¬ nI 2 = (1 : Int32) by decide), if_pos (show nI 2 = (2 : Int32) from rfl)]
  unfold f_R_onDebit f_H_takeOff
  simp only [grd_pos gV, grd_pos gC]
  simp only [eV, eC, lt_eq, eA, lN_i, p_isAccount, bnd_some]
  rcases b6 V (by omega) with ⟨r1, r2, r3⟩ | ⟨r1, r2, r3⟩ | ⟨r1, r2, r3, r4⟩ | ⟨r1, r2⟩
  · have nw : ∀ j, j < 2001 → RD (upd (S.1 6) V 1 j) (upd (T.1 4) V 1 j) (T.1 7 j) (S.1 7 j) (T.1 6 j) (S.1 8 j) (T.1 5 j) := by
      intro j hj
      by_cases e : j = V
      · subst e
        rw [upd_eq, upd_eq]
        exact Or.inr (Or.inl ⟨rfl, rfl, r3⟩)
      · rw [upd_ne e, upd_ne e]
        exact b6 j hj
    obtain ⟨-, ha⟩ := b2 cd (by omega)
    by_cases q1 : S.1 2 cd = -1
    · simp only [r1, r2, r3, q1, ↓reduceIte, bnd_some, sI_at, (by decide : ((-1 : Int32) < 0) = True), (by decide : ((1 : Int32) = 2) = False)]
      exact ⟨1, _, _, rfl, rfl, ⟨⟨b1, b2, b3, b4, b5, nw, b7⟩, hL, hN, hJ, hM, hI⟩, ri1⟩
    · obtain ⟨a, hal, ea, -⟩ := PIn_nat (m := 7) (x := S.1 2 cd) (y := S.1 2 cd) ⟨rfl, ha.resolve_left q1⟩ (by decide)
      have ga : ¬ (nI a < 0 ∨ 8 ≤ (nI a).toNatClampNeg) := nI_in (by omega) (by decide)
      have eCl : (nI a).toNatClampNeg = a := nI_clamp (by omega)
      have na : ¬ nI a = (-1 : Int32) := by rw [← ea]; exact q1
      have n0 : ¬ nI a < (0 : Int32) := nI_pos (by omega)
      have n7 : ¬ (7 : Int32) < nI a := nI_nlt (a := 7) (b := a) hal (by decide)
      have eB : T.2.1 0 a = S.2.1 0 a := (b1 a (by omega)).symm
      simp only [ea, grd_pos ga]
      simp only [eCl, eB, i_le]
      by_cases q2 : lg_cmp (S.2.1 0 a) (nI U).toInt64 < 0
      · simp only [r1, r2, r3, na, n0, n7, q2, ↓reduceIte, bnd_some, sI_at, e10, not_true_eq_false, (by decide : ((1 : Int32) = 2) = False)]
        exact ⟨1, _, _, rfl, rfl, ⟨⟨b1, b2, b3, b4, b5, nw, b7⟩, hL, hN, hJ, hM, hI⟩, ri1⟩
      · have e6 : ∀ (X : Mem) (u w : Int32), (sI (sI (sI X 6 V 2) 7 V u) 8 V w).1 6 V = 2 := fun X u w => (sI_at : (sI X 6 V 2).1 6 V = 2)
        simp only [r1, r2, r3, na, n0, n7, q2, ↓reduceIte, bnd_some, sI_at, e10, e6, not_false_eq_true]
        refine ⟨0, _, _, rfl, rfl, ⟨⟨all_updL (P := fun a b => a = b) b1 rfl, b2, b3, b4, b5, ?_, ?_⟩, hL, hN, hJ, hM, hI⟩, ri0⟩
        · intro j hj
          show RD (upd (S.1 6) V 2 j) (upd (T.1 4) V 0 j) (T.1 7 j) (upd (S.1 7) V (nI U) j) (upd (T.1 6) V (nI U) j) (upd (S.1 8) V (nI a) j) (upd (T.1 5) V (T.1 0 cd) j)
          rw [eA, ea]
          by_cases e : j = V
          · subst e
            rw [upd_eq, upd_eq, upd_eq, upd_eq, upd_eq, upd_eq]
            refine Or.inr (Or.inr (Or.inl ⟨rfl, rfl, r3, rfl, rfl, ?_, ?_⟩))
            · rw [nI_toInt (by omega)]; omega
            · rw [nI_toInt (by omega)]; omega
          · rw [upd_ne e, upd_ne e, upd_ne e, upd_ne e, upd_ne e, upd_ne e]
            exact b6 j hj
        · show S.2.1 1 0 + (nI U).toInt64 = T.2.1 1 0 + (nI U).toInt64
          rw [b7]
  · simp only [r1, r2, r3, ↓reduceIte, e10, (by decide : ((1 : Int32) = 2) = False), (by decide : ((1 : Int32) = -1) = False)]
    exact ⟨1, S, T, rfl, rfl, h, ri1⟩
  · simp only [r1, r2, r3, ↓reduceIte, (by decide : ((2 : Int32) = 0) = False), (by decide : ((0 : Int32) = -1) = False)]
    exact ⟨0, S, T, rfl, rfl, h, ri0⟩
  · simp only [r1, r2, ↓reduceIte, e10, (by decide : ((3 : Int32) = 0) = False), (by decide : ((3 : Int32) = 2) = False)]
    exact ⟨1, S, T, rfl, rfl, h, ri1⟩
theorem r_back {g : Nat} {c : Nat × Nat} {S T : Mem} (h : Rel c S T) {V cd U : Nat} (hV : 1 ≤ V ∧ V ≤ 2000) (hc : cd ≤ 15) : ∃ (r : Int32) (S2 T2 : Mem), f_H_decide g S (nI 3) (nI V) (nI cd) (lN U) = some (r, S2) ∧ f_R_onReversal g T (nI V) = some (r, T2) ∧ Rel c S2 T2 ∧ 0 ≤ r.toInt ∧ r.toInt ≤ 2 := by
  obtain ⟨⟨b1, b2, b3, b4, b5, b6, b7⟩, hL, hN, hJ, hM, hI⟩ := id h
  have gV : ¬ (nI V < 0 ∨ 2001 ≤ (nI V).toNatClampNeg) := nI_in (by omega) (by decide)
  have eV : (nI V).toNatClampNeg = V := nI_clamp (by omega)
  have d1 : f_A_isWithin g S (nI V).toInt64 1 2000 = some (1, S) := by
    rw [p_isWithin, if_neg (fun z => nI_nlt (a := V) (b := 1) hV.1 (by omega) ((l64_lt (nI V) 1 1 rfl).mp z)), if_neg (fun z => nI_nlt (a := 2000) (b := V) hV.2 (by decide) ((l64_gt (nI V) 2000 2000 rfl).mp z))]
  have d2 : f_A_isCard g S (nI cd) = some (1, S) := by
    rw [p_isCard, if_neg (nI_pos (by omega)), if_neg (show ¬ (15 : Int32) < nI cd from nI_nlt (a := 15) (b := cd) hc (by decide))]
  have nw : ∀ j, j < 2001 → RD (upd (S.1 6) V 3 j) (T.1 4 j) (upd (T.1 7) V 1 j) (S.1 7 j) (T.1 6 j) (S.1 8 j) (T.1 5 j) := by
    intro j hj
    by_cases e : j = V
    · subst e
      rw [upd_eq, upd_eq]
      exact Or.inr (Or.inr (Or.inr ⟨rfl, rfl⟩))
    · rw [upd_ne e, upd_ne e]
      exact b6 j hj
  have plain : Rel c (sI S 6 V 3) (sI T 7 V 1) := ⟨⟨b1, b2, b3, b4, b5, nw, b7⟩, hL, hN, hJ, hM, hI⟩
  unfold f_H_decide
  rw [d1, bnd_some, if_neg d10, d2, bnd_some, if_neg d10, if_neg (show ¬ nI 3 = (1 : Int32) by decide), if_neg (show ¬ nI 3 = (2 : Int32) by decide)]
  unfold f_R_onReversal f_H_giveBack
  simp only [grd_pos gV]
  simp only [eV, lt_eq, p_isAccount, bnd_some]
  rcases b6 V (by omega) with ⟨r1, r2, r3⟩ | ⟨r1, r2, r3⟩ | ⟨r1, r2, r3, r4, r5, r6⟩ | ⟨r1, r2⟩
  · simp only [r1, r2, r3, ↓reduceIte, (by decide : ((0 : Int32) = 2) = False), (by decide : ((-1 : Int32) = 0) = False)]
    exact ⟨0, _, _, rfl, rfl, plain, ri0⟩
  · simp only [r1, r2, r3, ↓reduceIte, e10, (by decide : ((1 : Int32) = 2) = False)]
    exact ⟨0, _, _, rfl, rfl, plain, ri0⟩
  · obtain ⟨a, hal, ea, -⟩ := PIn_nat (m := 7) (x := S.1 8 V) (y := S.1 8 V) ⟨rfl, r6⟩ (by decide)
    have ga : ¬ (nI a < 0 ∨ 8 ≤ (nI a).toNatClampNeg) := nI_in (by omega) (by decide)
    have eCl : (nI a).toNatClampNeg = a := nI_clamp (by omega)
    have n0 : ¬ nI a < (0 : Int32) := nI_pos (by omega)
    have n7 : ¬ (7 : Int32) < nI a := nI_nlt (a := 7) (b := a) hal (by decide)
    simp only [← r5, ← r4, ea, grd_pos ga]
    simp only [eCl, r1, r2, r3, n0, n7, ↓reduceIte, e10, bnd_some]
    refine ⟨0, _, _, rfl, rfl, ⟨⟨?_, b2, b3, b4, b5, nw, ?_⟩, hL, hN, hJ, hM, hI⟩, ri0⟩
    · refine all_updL (P := fun a b => a = b) b1 ?_
      show S.2.1 0 a + (S.1 7 V).toInt64 = T.2.1 0 a + _
      rw [b1 a (by omega)]
    · show S.2.1 1 0 - (S.1 7 V).toInt64 = T.2.1 1 0 - (T.1 6 V).toInt64
      rw [b7, r4]
  · by_cases q : T.1 4 V = 0
    · simp only [r1, r2, q, ↓reduceIte, e10, (by decide : ((3 : Int32) = 2) = False)]
      exact ⟨0, _, _, rfl, rfl, plain, ri0⟩
    · simp only [r1, r2, q, ↓reduceIte, e10, (by decide : ((3 : Int32) = 2) = False)]
      exact ⟨0, _, _, rfl, rfl, plain, ri0⟩
theorem r_decide {g : Nat} {c : Nat × Nat} {S T : Mem} (h : Rel c S T) {kd V cd U : Nat} (hk : kd = 1 ∨ kd = 2 ∨ kd = 3) (hV : 1 ≤ V ∧ V ≤ 2000) (hc : cd ≤ 15) (hU1 : kd = 1 → U ≤ 9999) (hU2 : kd = 2 → 1 ≤ U ∧ U ≤ 40000) : ∃ (r : Int32) (S2 T2 : Mem), f_H_decide g S (nI kd) (nI V) (nI cd) (lN U) = some (r, S2) ∧ hostCode g T kd V cd U = some (r, T2) ∧ Rel c S2 T2 ∧ 0 ≤ r.toInt ∧ r.toInt ≤ 2 := by
  rcases hk with rfl | rfl | rfl
  · exact r_pin h hV hc (hU1 rfl)
  · exact r_debit h hV hc (hU2 rfl)
  · exact r_back h hV hc
/-- what the reference does with a letter for the host -/
def comeH (g : Nat) (T : Mem) : Option (Unit × Mem) := bnd (f_R_check_letter g T 0) (fun r47 S48 => if (S48.1 29 ((11 : Int32).toNatClampNeg)) = (r47 >>> ((8 : Int32) &&& 31)) then (if (S48.1 29 ((12 : Int32).toNatClampNeg)) = (r47 &&& (255 : Int32)) then (bnd (f_R_hostTakes g S48) (fun r52 S53 => if r52 = 0 then (lt (sI S53 27 0 ((S53.1 27 0) + (1 : Int32))) (fun S56 => some ((), S56))) else (lt (sI S53 27 0 ((S53.1 27 0) + (0 : Int32))) (fun S57 => some ((), S57))))) else (lt (sI S48 27 0 ((S48.1 27 0) + (1 : Int32))) (fun S58 => some ((), S58)))) else (lt (sI S48 27 0 ((S48.1 27 0) + (1 : Int32))) (fun S59 => some ((), S59))))
theorem Rel.dropH {c : Nat × Nat} {S T : Mem} (h : Rel c S T) : Rel c (sI S 9 0 (S.1 9 0 + 1)) (sI T 27 0 (T.1 27 0 + 1)) := by
  obtain ⟨hH, hL, hN, hJ, ⟨m1, m2, m3, m4, m5, m6, m7, m8, m9⟩, hI⟩ := h
  refine ⟨hH, hL, hN, hJ, ⟨m1, m2, m3, m4, m5, m6, m7, ?_, m9⟩, hI⟩
  show S.1 9 0 + 1 + S.1 18 0 = T.1 27 0 + 1
  rw [← m8, Int32.add_assoc, Int32.add_comm 1, ← Int32.add_assoc]
theorem Rel.dropM {c : Nat × Nat} {S T : Mem} (h : Rel c S T) : Rel c (sI S 18 0 (S.1 18 0 + 1)) (sI T 27 0 (T.1 27 0 + 1)) := by
  obtain ⟨hH, hL, hN, hJ, ⟨m1, m2, m3, m4, m5, m6, m7, m8, m9⟩, hI⟩ := h
  refine ⟨hH, hL, hN, hJ, ⟨m1, m2, m3, m4, m5, m6, m7, ?_, m9⟩, hI⟩
  show S.1 9 0 + (S.1 18 0 + 1) = T.1 27 0 + 1
  rw [← m8, ← Int32.add_assoc]
theorem Rel.drop0 {c : Nat × Nat} {S T : Mem} (h : Rel c S T) : Rel c S (sI T 27 0 (T.1 27 0 + 0)) := by
  obtain ⟨hH, hL, hN, hJ, ⟨m1, m2, m3, m4, m5, m6, m7, m8, m9⟩, hI⟩ := h
  refine ⟨hH, hL, hN, hJ, ⟨m1, m2, m3, m4, m5, m6, m7, ?_, m9⟩, hI⟩
  show S.1 9 0 + S.1 18 0 = T.1 27 0 + 0
  rw [Int32.add_zero]
  exact m8
theorem r_host {g : Nat} {c : Nat × Nat} {S T : Mem} (hg : 400 < g) (h : Rel c S T) (ha : RA S T) : Sim (Rel c) (f_H_receive g 24 S) (comeH g T) := by
  obtain ⟨r, c1, c2⟩ := r_sound hg ha
  have t11 : T.1 29 ((11 : Int32).toNatClampNeg) = T.1 29 11 := rfl
  have t12 : T.1 29 ((12 : Int32).toNatClampNeg) = T.1 29 12 := rfl
  unfold f_H_receive comeH
  rw [c1, bnd_some, t11, t12]
  rcases c2 with ⟨s1, s2, s3⟩ | ⟨s1, s2⟩
  · rw [s1, bnd_some, if_neg d10, if_pos s2, if_pos s3]
    obtain ⟨kd, V, cd, U, hkd, hcd, hV, hU, k1, k2, k3, k4, k5⟩ := r_usable hg ha
    rcases k5 with ⟨u1, u2⟩ | ⟨u1, ⟨u3, u4, u8⟩, u7⟩
    · rw [u1, u2, bnd_some, bnd_some, if_pos rfl, if_pos rfl]
      exact Sim.ret h.dropH
    · rw [u1, u7, bnd_some, if_neg d10, k1, bnd_some, k2, bnd_some, lt_eq, k3, bnd_some, k4, bnd_some, lN_i]
      have u2 : kd = 1 ∨ kd = 2 ∨ kd = 3 := by
        rcases u8 with ⟨q, -⟩ | ⟨q, -⟩ | q
        · exact Or.inl q
        · exact Or.inr (Or.inl q)
        · exact Or.inr (Or.inr q)
      have u5 : kd = 1 → U ≤ 9999 := fun z => by
        rcases u8 with ⟨-, q⟩ | ⟨q, -⟩ | q
        · exact q
        · omega
        · omega
      have u6 : kd = 2 → 1 ≤ U ∧ U ≤ 40000 := fun z => by
        rcases u8 with ⟨q, -⟩ | ⟨-, q⟩ | q
        · omega
        · exact q
        · omega
      obtain ⟨co, A, B, e1, e2, e3, e4⟩ := r_decide (g := g) h u2 u3 u4 u5 u6
      rw [e1, e2, bnd_some, bnd_some]
      obtain ⟨z, hz, ez, -⟩ := PIn_nat (m := 2) (x := co) (y := co) ⟨rfl, e4⟩ (by decide)
      obtain ⟨S2, T2, a1, a2, a3, a4, a5, a6, a7⟩ := r_post (fh := 0) (tm := 1) (kd := nI kd + 128) (tr := nI V) (cd := nI cd) (v := nI U) (co := co) (y := lN U) hg e3.2.1 (lN_i U) (Or.inr ⟨rfl, rfl⟩) ⟨kd + 128, by omega, nI_add kd 128⟩ ⟨cd, hcd, rfl⟩ ⟨z, by omega, ez⟩
      rw [a1, a2, bnd_some, bnd_some, bnd_some, if_neg d10]
      exact Sim.ret (Rel.drop0 (e3.line a3 a4 (fun k q1 q2 q3 _ => a5 k q1 q2 q3) (by rw [a6]) a7))
  · rw [s1, bnd_some, if_pos rfl]
    by_cases q1 : T.1 29 11 = r >>> ((8 : Int32) &&& 31)
    · rw [if_pos q1, if_neg (fun z => s2 ⟨q1, z⟩)]
      exact Sim.ret h.dropH
    · rw [if_neg q1]
      exact Sim.ret h.dropH
