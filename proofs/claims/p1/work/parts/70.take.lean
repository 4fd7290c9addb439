theorem p_fillTray (g n : Nat) (S : Mem) (v : Int32) : f_F_fill_inTrayC_5 g (n + 5) S v 0 4 = some (sI (sI (sI (sI S 25 0 v) 25 1 v) 25 2 v) 25 3 v, ()) := rfl
theorem p_takeR (g n : Nat) (S : Mem) (v : Int32) : f_R_take_13 g (n + 5) S v 0 = some (sI (sI (sI (sI S 11 0 0) 11 1 0) 11 2 0) 11 3 0, v) := rfl
theorem op_take {g : Nat} {c : Nat × Nat} {S T : Mem} (hg : 400 < g) (h : Rel c S T) : Sim (Rel c) (f_A_take g S) (f_R_take g T) := by
  obtain ⟨hH, hL, ⟨n1, n2, n3, n4, n5, n6, n7, n8⟩, hJ, hM, hI⟩ := id h
  unfold f_A_take f_O_clearTray f_F_fill_inTrayC f_R_take
  simp only [lt_eq]
  obtain ⟨m, hm⟩ : ∃ m, g = m + 5 := ⟨g - 5, by omega⟩
  have e1 : f_F_fill_inTrayC_5 g g S 0 0 4 = some (sI (sI (sI (sI S 25 0 0) 25 1 0) 25 2 0) 25 3 0, ()) := by
    have := p_fillTray g m S 0
    rw [← hm] at this
    exact this
  have e2 : ∀ (U : Mem) (v : Int32), f_R_take_13 g g U v 0 = some (sI (sI (sI (sI U 11 0 0) 11 1 0) 11 2 0) 11 3 0, v) := by
    intro U v
    have := p_takeR g m U v
    rw [← hm] at this
    exact this
  rw [e1, e2]
  simp only [seqM_some, bnd_some]
  rw [n7]
  refine Sim.ret ⟨hH, hL, ⟨n1, n2, n3, ?_, n5, n6, rfl, n8⟩, hJ, hM, hI⟩
  exact all_upd (P := fun a b => a = b) (all_upd (P := fun a b => a = b) (all_upd (P := fun a b => a = b) (all_upd (P := fun a b => a = b) n4 rfl) rfl) rfl) rfl
/-- the relation in the midst of a call -/
def Core (c : Nat × Nat) (S T : Mem) : Prop := RH S T ∧ RL S T ∧ RN c S T ∧ RJ S T ∧ RM S T
theorem Rel.core {c : Nat × Nat} {S T : Mem} (h : Rel c S T) : Core c S T := ⟨h.1, h.2.1, h.2.2.1, h.2.2.2.1, h.2.2.2.2.1⟩
/-- one step of the machine: both go on, or both lose the power -/
theorem r_step {g : Nat} {c : Nat × Nat} {S T : Mem} (h : Core c S T) (hon : S.1 11 0 = 1) : ∃ (r : Int32) (S2 T2 : Mem), f_M_mayStep g S = some (r, S2) ∧ f_R_step g T = some (r, T2) ∧ Core c S2 T2 ∧ (∀ k, k ≠ 11 → k ≠ 12 → S2.1 k = S.1 k) ∧ S2.2 = S.2 ∧ (∀ k, k ≠ 18 → k ≠ 19 → T2.1 k = T.1 k) ∧ T2.2 = T.2 ∧ ((r = 0 ∧ S2.1 11 0 = 0) ∨ (r = 1 ∧ S2.1 11 0 = 1)) := by
  obtain ⟨hH, hL, hN, hJ, m1, m2, m3, m4⟩ := id h
  have eOn : T.1 18 0 = 1 := by rw [← m2.1]; exact hon
  have eS : T.1 19 0 = S.1 12 0 := (m3 hon).symm
  have d10 : ¬ ((1 : Int32) = 0) := by decide
  unfold f_M_mayStep f_R_step f_R_goOff
  rw [eOn, if_neg d10, eS]
  by_cases h1 : S.1 12 0 = 0
  · refine ⟨0, sI S 11 0 0, sI (sI T 18 0 0) 19 0 (-1), ?_, ?_, ⟨hH, hL, hN, hJ, m1, ⟨rfl, (show (0 : Int) ≤ (0 : Int32).toInt by decide), (show (0 : Int32).toInt ≤ 1 by decide)⟩, fun z => absurd z (show ¬ ((0 : Int32) = 1) by decide), m4⟩, fun k q1 _ => sI_ne q1, rfl, fun k q1 q2 => by rw [sI_ne q2, sI_ne q1], rfl, Or.inl ⟨rfl, rfl⟩⟩
    · rw [if_pos h1]
      exact grd_pos (Or.inl rfl)
    · rw [if_pos h1]
      rfl
  · rw [if_neg h1, if_neg h1]
    by_cases h2 : S.1 12 0 ≤ 0
    · refine ⟨1, S, sI T 19 0 (S.1 12 0 - 0), ?_, ?_, ⟨hH, hL, hN, hJ, m1, m2, fun _ => ?_, m4⟩, fun _ _ _ => rfl, rfl, fun k _ q2 => sI_ne q2, rfl, Or.inr ⟨rfl, hon⟩⟩
      · rw [if_pos h2, hon]
        exact grd_pos (Or.inr rfl)
      · rw [if_pos h2]
        rfl
      · show S.1 12 0 = S.1 12 0 - 0
        exact (Int32.sub_zero _).symm
    · refine ⟨1, sI S 12 0 (S.1 12 0 - 1), sI T 19 0 (S.1 12 0 - 1), ?_, ?_, ⟨hH, hL, hN, hJ, m1, m2, fun _ => rfl, m4⟩, fun k _ q2 => sI_ne q2, rfl, fun k _ q2 => sI_ne q2, rfl, Or.inr ⟨rfl, hon⟩⟩
      · rw [if_neg h2]
        show grd _ (some (S.1 11 0, _)) = _
        refine (grd_pos (Or.inr hon)).trans ?_
        rw [hon]
      · rw [if_neg h2]
        rfl
