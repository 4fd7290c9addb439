/-! notes go into the stacker -/
theorem RN.mono {c e : Nat × Nat} {S T : Mem} (h : RN c S T) (h1 : c.1 ≤ e.1) (h2 : c.2 ≤ e.2) : RN e S T := by
  obtain ⟨a1, a2, a3, a4, a5, ⟨a6, a7, a8⟩, a9⟩ := h
  exact ⟨a1, a2, fun j hj => ⟨(a3 j hj).1, (a3 j hj).2.1, by have := (a3 j hj).2.2; omega⟩, a4, a5, ⟨a6, a7, by omega⟩, a9⟩
theorem Core.mono {c e : Nat × Nat} {S T : Mem} (h : Core c S T) (h1 : c.1 ≤ e.1) (h2 : c.2 ≤ e.2) : Core e S T := ⟨h.1, h.2.1, h.2.2.1.mono h1 h2, h.2.2.2.1, h.2.2.2.2⟩
theorem Rel.mono {c e : Nat × Nat} {S T : Mem} (h : Rel c S T) (h1 : c.1 ≤ e.1) (h2 : c.2 ≤ e.2) : Rel e S T := ⟨h.1, h.2.1, h.2.2.1.mono h1 h2, h.2.2.2.1, h.2.2.2.2.1, h.2.2.2.2.2⟩
theorem add_l {x y : Int32} (h1 : 0 ≤ x.toInt) (h2 : x.toInt < 2 ^ 30) (h3 : 0 ≤ y.toInt) (h4 : y.toInt < 2 ^ 30) : (x + y).toInt64 = x.toInt64 + y.toInt64 ∧ (x + y).toInt = x.toInt + y.toInt := by
  have e : (x + y).toInt = x.toInt + y.toInt := s_add (by omega) (by omega)
  refine ⟨?_, e⟩
  apply Int64.toInt_inj.mp
  rw [Int32.toInt_toInt64, e, lg_i2l_add]
/-- one note: what the class and the reference have then -/
def stS (S : Mem) (i : Nat) : Mem := sI (sI (sI S 23 i (S.1 23 i - 1)) 24 i (S.1 24 i + 1)) 27 0 (S.1 27 0 + S.1 22 i)
def stT (T : Mem) (i : Nat) : Mem := sL (sI (sI T 9 i (T.1 9 i - 1)) 10 i (T.1 10 i + 1)) 2 0 (T.2.1 2 0 + (T.1 8 i).toInt64)
theorem p_stackOne {g i : Nat} {S : Mem} (hi : i < 4) (hc : ¬ S.1 23 i ≤ 0) : f_O_stackOne g S (nI i) = some ((), stS S i) := by
  have gi : ¬ (nI i < 0 ∨ 4 ≤ (nI i).toNatClampNeg) := nI_in hi (by decide)
  have ei : (nI i).toNatClampNeg = i := nI_clamp (by omega)
  have gi2 : ¬ (nI i < 0 ∨ 4 ≤ i) := by
    rw [ei] at gi
    exact gi
  unfold f_O_stackOne
  rw [p_isCassette, if_neg (nI_pos (by omega)), if_neg (show ¬ (3 : Int32) < nI i from nI_nlt (a := 3) (b := i) (by omega) (by decide)), bnd_some, if_neg d10, grd_pos gi, ei, if_neg hc]
  simp only [grd_pos gi2, lt_eq]
  rfl
theorem r_st {c : Nat × Nat} {i : Nat} {S T : Mem} (h : Core c S T) (hi : i < 4) (hc : ¬ S.1 23 i ≤ 0) (hb1 : c.1 < 2 ^ 29) (hb2 : c.2 < 2 ^ 29) : Core (c.1 + 1, c.2 + 1000) (stS S i) (stT T i) := by
  obtain ⟨hH, hL, ⟨n1, n2, n3, n4, n5, ⟨n6, n7, n8⟩, n9, n10⟩, hJ, hM⟩ := h
  obtain ⟨a1, a2, a3⟩ := n1 i hi
  obtain ⟨b1, b2, b3⟩ := n2 i hi
  obtain ⟨c1, c2, c3⟩ := n3 i hi
  have e1 : (1 : Int32).toInt = 1 := by decide
  have e0 : (0 : Int32).toInt = 0 := by decide
  rw [Int32.le_iff_toInt_le, e0] at hc
  have s1 : (S.1 23 i - 1).toInt = (S.1 23 i).toInt - 1 := by
    rw [s_sub (by rw [e1]; omega) (by rw [e1]; omega), e1]
  have s2 : (S.1 24 i + 1).toInt = (S.1 24 i).toInt + 1 := by
    rw [s_add (by rw [e1]; omega) (by rw [e1]; omega), e1]
  obtain ⟨w1, w2⟩ := add_l (x := S.1 27 0) (y := S.1 22 i) n7 (by omega) (by omega) (by omega)
  have n3' : ∀ j, j < 4 → PIn 0 (((c.1 + 1, c.2 + 1000) : Nat × Nat).1) (S.1 24 j) (T.1 10 j) := fun j hj => ⟨(n3 j hj).1, (n3 j hj).2.1, by
    have := (n3 j hj).2.2
    show (S.1 24 j).toInt ≤ ((c.1 + 1 : Nat) : Int)
    omega⟩
  refine ⟨hH, hL, ⟨n1, ?_, ?_, n4, n5, ⟨?_, ?_, ?_⟩, n9, n10⟩, hJ, hM⟩
  · refine all_upd n2 ⟨by rw [b1], ?_, ?_⟩
    · rw [s1]; omega
    · rw [s1]; omega
  · refine all_upd n3' ⟨by rw [c1], ?_, ?_⟩
    · rw [s2]; omega
    · rw [s2]
      show (S.1 24 i).toInt + 1 ≤ ((c.1 + 1 : Nat) : Int)
      omega
  · show (S.1 27 0 + S.1 22 i).toInt64 = T.2.1 2 0 + (T.1 8 i).toInt64
    rw [w1, n6, a1]
  · show 0 ≤ (S.1 27 0 + S.1 22 i).toInt
    rw [w2]; omega
  · show (S.1 27 0 + S.1 22 i).toInt ≤ ((c.2 + 1000 : Nat) : Int)
    rw [w2]; omega
/-- what the stacking leaves as it was -/
def FrS (S S2 : Mem) : Prop := (∀ k, k ≠ 11 → k ≠ 12 → k ≠ 23 → k ≠ 24 → k ≠ 27 → S2.1 k = S.1 k) ∧ S2.2 = S.2
def FrT (T T2 : Mem) : Prop := (∀ k, k ≠ 18 → k ≠ 19 → k ≠ 9 → k ≠ 10 → T2.1 k = T.1 k) ∧ T2.2.2 = T.2.2
theorem FrS.tr {S S1 S2 : Mem} (h1 : FrS S S1) (h2 : FrS S1 S2) : FrS S S2 := ⟨fun k a b c d e => by rw [h2.1 k a b c d e, h1.1 k a b c d e], by rw [h2.2, h1.2]⟩
theorem FrT.tr {S S1 S2 : Mem} (h1 : FrT S S1) (h2 : FrT S1 S2) : FrT S S2 := ⟨fun k a b c d => by rw [h2.1 k a b c d, h1.1 k a b c d], by rw [h2.2, h1.2]⟩
theorem FrS.st {S : Mem} {i : Nat} : FrS S (stS S i) := ⟨fun k _ _ a b c => by unfold stS; rw [sI_ne c, sI_ne b, sI_ne a], rfl⟩
theorem FrT.st {T : Mem} {i : Nat} : FrT T (stT T i) := ⟨fun k _ _ a b => by
  show (sI (sI T 9 i (T.1 9 i - 1)) 10 i (T.1 10 i + 1)).1 k = T.1 k
  rw [sI_ne b, sI_ne a], rfl⟩
/-- the notes of one cassette: both stop for want of power, or both go on -/
theorem l_stack {g i mx : Nat} (hi : i < 4) (hmx : mx ≤ 40) : ∀ (y x f f2 c0 : Nat) (c : Nat × Nat) (S T : Mem), x + y = mx → y < f → y < f2 → Core c S T → S.1 11 0 = 1 → S.1 29 i = nI mx → S.1 23 i = nI c0 → y ≤ c0 → c0 ≤ 200 → c.1 + y < 2 ^ 29 → c.2 + 1000 * y < 2 ^ 29 →
    ∃ S2 T2 : Mem, Core (c.1 + y, c.2 + 1000 * y) S2 T2 ∧ FrS S S2 ∧ FrT T T2 ∧ (∀ j, j ≠ i → S2.1 23 j = S.1 23 j) ∧ ((f_M_stackMix_9 g f S (nI i) (nI x) = some (.inl (0, S2)) ∧ f_R_giveOut_32 g f2 T (nI i) (nI y) = some (.inl ((), T2)) ∧ S2.1 11 0 = 0) ∨ (f_M_stackMix_9 g f S (nI i) (nI x) = some (.inr (S2, nI i)) ∧ f_R_giveOut_32 g f2 T (nI i) (nI y) = some (.inr (T2, nI i)) ∧ S2.1 11 0 = 1)) := by
  have gi : ¬ (nI i < 0 ∨ 4 ≤ (nI i).toNatClampNeg) := nI_in hi (by decide)
  have ei : (nI i).toNatClampNeg = i := nI_clamp (by omega)
  intro y
  induction y with
  | zero =>
    intro x f f2 c0 c S T hx hf hf2 h hon hm hc0 _ _ _ _
    obtain ⟨f, rfl⟩ : ∃ q, f = q + 1 := ⟨f - 1, by omega⟩
    obtain ⟨f2, rfl⟩ : ∃ q, f2 = q + 1 := ⟨f2 - 1, by omega⟩
    refine ⟨S, T, h, ⟨fun _ _ _ _ _ _ => rfl, rfl⟩, ⟨fun _ _ _ _ _ => rfl, rfl⟩, fun _ _ => rfl, Or.inr ⟨?_, ?_, hon⟩⟩
    · rw [f_M_stackMix_9, grd_pos gi, ei, hm, if_pos (nI_le (by omega) (by omega))]
    · rw [f_R_giveOut_32, if_pos (show nI 0 ≤ (0 : Int32) by decide)]
  | succ y ih =>
    intro x f f2 c0 c S T hx hf hf2 h hon hm hc0 hy hc200 hb1 hb2
    obtain ⟨f, rfl⟩ : ∃ q, f = q + 1 := ⟨f - 1, by omega⟩
    obtain ⟨f2, rfl⟩ : ∃ q, f2 = q + 1 := ⟨f2 - 1, by omega⟩
    obtain ⟨r, A, B, s1, s2, s3, s4, s5, s6, s7, s8⟩ := r_step (g := g) h hon
    have fA : FrS S A := ⟨fun k a b _ _ _ => s4 k a b, s5⟩
    have fB : FrT T B := ⟨fun k a b _ _ => s6 k a b, by rw [s7]⟩
    rw [f_M_stackMix_9, grd_pos gi, ei, hm, if_neg (nI_ge (by omega) (by omega)), s1, bnd_some, f_R_giveOut_32, if_neg (show ¬ nI (y + 1) ≤ (0 : Int32) from nI_ge (show 0 < y + 1 by omega) (by omega)), s2, bnd_some]
    rcases s8 with ⟨rfl, o1⟩ | ⟨rfl, o1⟩
    · rw [if_pos rfl, if_pos rfl]
      exact ⟨A, B, s3.mono (by show c.1 ≤ c.1 + (y + 1); omega) (by show c.2 ≤ c.2 + 1000 * (y + 1); omega), fA, fB, fun j _ => by rw [s4 _ (by decide) (by decide)], Or.inl ⟨rfl, rfl, o1⟩⟩
    · have hA0 : A.1 23 i = nI c0 := by rw [s4 _ (by decide) (by decide)]; exact hc0
      have hcA : ¬ A.1 23 i ≤ 0 := by
        rw [hA0]
        exact nI_ge (show 0 < c0 by omega) (by omega)
      have hst := r_st s3 hi hcA (by omega) (by omega)
      rw [if_neg d10, if_neg d10, p_stackOne hi hcA, bnd_some]
      simp only [grd_pos gi, lt_eq]
      rw [ei, add1, pk_m1]
      have hA1 : (stS A i).1 23 i = nI (c0 - 1) := by
        show upd (A.1 23) i (A.1 23 i - 1) i = _
        rw [upd_eq, hA0, nI_m1 (by omega)]
      obtain ⟨S2, T2, e1, e2, e3, e4, e5⟩ := ih (x + 1) f f2 (c0 - 1) (c.1 + 1, c.2 + 1000) (stS A i) (stT B i) (by omega) (by omega) (by omega) hst o1 (by
        show A.1 29 i = nI mx
        rw [s4 _ (by decide) (by decide)]
        exact hm) hA1 (by omega) (by omega) (by show c.1 + 1 + y < 2 ^ 29; omega) (by show c.2 + 1000 + 1000 * y < 2 ^ 29; omega)
      refine ⟨S2, T2, e1.mono (by show c.1 + 1 + y ≤ c.1 + (y + 1); omega) (by show c.2 + 1000 + 1000 * y ≤ c.2 + 1000 * (y + 1); omega), (fA.tr FrS.st).tr e2, (fB.tr FrT.st).tr e3, fun j hj => ?_, e5⟩
      rw [e4 j hj]
      show upd (A.1 23) i _ j = _
      rw [upd_ne hj, s4 _ (by decide) (by decide)]
