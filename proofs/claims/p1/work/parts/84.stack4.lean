/-! the whole mix goes into the stacker; the stacker is emptied -/
theorem seqR_l {ρ μ γ β : Type} {t : ρ} {E : ρ → Option β} {F : μ → γ → Option β} : seqR (some (Sum.inl t)) E F = E t := rfl
theorem seqR_r {ρ μ γ β : Type} {S : μ} {y : γ} {E : ρ → Option β} {F : μ → γ → Option β} : seqR (some (Sum.inr (S, y))) E F = F S y := rfl
def su (mx : Nat → Nat) : Nat → Nat → Nat
  | _, 0 => 0
  | i, e + 1 => mx i + su mx (i + 1) e
theorem su_succ (mx : Nat → Nat) (i e : Nat) : su mx i (e + 1) = mx i + su mx (i + 1) e := rfl
theorem l_stack4 {g : Nat} {mx cs : Nat → Nat} (hg : 400 < g) (hmx : ∀ j, j < 4 → mx j ≤ 40 ∧ mx j ≤ cs j ∧ cs j ≤ 200) : ∀ (e i f f2 : Nat) (c : Nat × Nat) (S T : Mem), i + e = 4 → e < f → e < f2 → Core c S T → S.1 11 0 = 1 → (∀ j, j < 4 → S.1 29 j = nI (mx j) ∧ T.1 30 j = nI (mx j)) → (∀ j, i ≤ j → j < 4 → S.1 23 j = nI (cs j)) → c.1 + su mx i e < 2 ^ 29 → c.2 + 1000 * su mx i e < 2 ^ 29 →
    ∃ S2 T2 : Mem, Core (c.1 + su mx i e, c.2 + 1000 * su mx i e) S2 T2 ∧ FrS S S2 ∧ FrT T T2 ∧ ((f_M_stackMix_2 g f S (nI i) = some (.inl (0, S2)) ∧ f_R_giveOut_20 g f2 T (nI i) = some (.inl ((), T2)) ∧ S2.1 11 0 = 0) ∨ (f_M_stackMix_2 g f S (nI i) = some (.inr (S2, ())) ∧ f_R_giveOut_20 g f2 T (nI i) = some (.inr (T2, ())) ∧ S2.1 11 0 = 1)) := by
  intro e
  induction e with
  | zero =>
    intro i f f2 c S T hi hf hf2 h hon hm hc _ _
    obtain ⟨f, rfl⟩ : ∃ q, f = q + 1 := ⟨f - 1, by omega⟩
    obtain ⟨f2, rfl⟩ : ∃ q, f2 = q + 1 := ⟨f2 - 1, by omega⟩
    have h4 : i = 4 := by omega
    subst h4
    refine ⟨S, T, h, ⟨fun _ _ _ _ _ _ => rfl, rfl⟩, ⟨fun _ _ _ _ _ => rfl, rfl⟩, Or.inr ⟨?_, ?_, hon⟩⟩
    · rw [f_M_stackMix_2, if_pos (show (4 : Int32) ≤ nI 4 by decide)]
    · rw [f_R_giveOut_20, if_pos (show (4 : Int32) ≤ nI 4 by decide)]
  | succ e ih =>
    intro i f f2 c S T hi hf hf2 h hon hm hc hb1 hb2
    obtain ⟨f, rfl⟩ : ∃ q, f = q + 1 := ⟨f - 1, by omega⟩
    obtain ⟨f2, rfl⟩ : ∃ q, f2 = q + 1 := ⟨f2 - 1, by omega⟩
    have hi4 : i < 4 := by omega
    rw [su_succ] at hb1 hb2 ⊢
    have gi : ¬ (nI i < 0 ∨ 4 ≤ (nI i).toNatClampNeg) := nI_in hi4 (by decide)
    have ei : (nI i).toNatClampNeg = i := nI_clamp (by omega)
    obtain ⟨x1, x2, x3⟩ := hmx i hi4
    obtain ⟨A, B, a1, a2, a3, a4, a5⟩ := l_stack (g := g) hi4 x1 (mx i) 0 g g (cs i) c S T (by omega) (by omega) (by omega) h hon (hm i hi4).1 (hc i (by omega) hi4) x2 x3 (by omega) (by omega)
    rw [f_M_stackMix_2, if_neg (show ¬ (4 : Int32) ≤ nI i from nI_ge hi4 (by decide)), f_R_giveOut_20, if_neg (show ¬ (4 : Int32) ≤ nI i from nI_ge hi4 (by decide)), grd_pos gi, ei, lt_eq, (hm i hi4).2, show (0 : Int32) = nI 0 from rfl]
    rcases a5 with ⟨r1, r2, r3⟩ | ⟨r1, r2, r3⟩
    · rw [r1, r2, seqR_l, seqR_l]
      exact ⟨A, B, a1.mono (by show c.1 + mx i ≤ c.1 + (mx i + su mx (i + 1) e); omega) (by show c.2 + 1000 * mx i ≤ c.2 + 1000 * (mx i + su mx (i + 1) e); omega), a2, a3, Or.inl ⟨rfl, rfl, r3⟩⟩
    · rw [r1, r2, seqR_r, seqR_r, lt_eq, lt_eq, add1]
      obtain ⟨S2, T2, b1, b2, b3, b4⟩ := ih (i + 1) f f2 (c.1 + mx i, c.2 + 1000 * mx i) A B (by omega) (by omega) (by omega) a1 r3 (fun j hj => by
        rw [a2.1 _ (by decide) (by decide) (by decide) (by decide) (by decide), a3.1 _ (by decide) (by decide) (by decide) (by decide)]
        exact hm j hj) (fun j h1 h2 => by
        rw [a4 j (by omega)]
        exact hc j (by omega) h2) (by show c.1 + mx i + su mx (i + 1) e < 2 ^ 29; omega) (by show c.2 + 1000 * mx i + 1000 * su mx (i + 1) e < 2 ^ 29; omega)
      exact ⟨S2, T2, b1.mono (by show c.1 + mx i + su mx (i + 1) e ≤ c.1 + (mx i + su mx (i + 1) e); omega) (by show c.2 + 1000 * mx i + 1000 * su mx (i + 1) e ≤ c.2 + 1000 * (mx i + su mx (i + 1) e); omega), a2.tr b2, a3.tr b3, b4⟩
/-- into the tray -/
def trS (S : Mem) : Mem := sI (sI (sI (sI (sI (sI (sI (sI S 25 0 (S.1 25 0 + S.1 24 0)) 24 0 0) 25 1 (S.1 25 1 + S.1 24 1)) 24 1 0) 25 2 (S.1 25 2 + S.1 24 2)) 24 2 0) 25 3 (S.1 25 3 + S.1 24 3)) 24 3 0
def trT (T : Mem) : Mem := sI (sI (sI (sI (sI (sI (sI (sI T 11 0 (T.1 11 0 + T.1 10 0)) 10 0 0) 11 1 (T.1 11 1 + T.1 10 1)) 10 1 0) 11 2 (T.1 11 2 + T.1 10 2)) 10 2 0) 11 3 (T.1 11 3 + T.1 10 3)) 10 3 0
def bnS (S : Mem) : Mem := sI (sI (sI (sI (sI (sI (sI (sI S 26 0 (S.1 26 0 + S.1 24 0)) 24 0 0) 26 1 (S.1 26 1 + S.1 24 1)) 24 1 0) 26 2 (S.1 26 2 + S.1 24 2)) 24 2 0) 26 3 (S.1 26 3 + S.1 24 3)) 24 3 0
def bnT (T : Mem) : Mem := sI (sI (sI (sI (sI (sI (sI (sI T 12 0 (T.1 12 0 + T.1 10 0)) 10 0 0) 12 1 (T.1 12 1 + T.1 10 1)) 10 1 0) 12 2 (T.1 12 2 + T.1 10 2)) 10 2 0) 12 3 (T.1 12 3 + T.1 10 3)) 10 3 0
theorem p_trS (g n : Nat) (S : Mem) : f_O_emptyStackerInto_inTray_2 g (n + 5) S 0 = some (trS S, ()) := rfl
theorem p_trT (g n : Nat) (T : Mem) : f_R_giveOut_102 g (n + 5) T 0 = some (trT T, ()) := rfl
theorem p_bnS (g n : Nat) (S : Mem) : f_O_emptyStackerInto_inBin_2 g (n + 5) S 0 = some (bnS S, ()) := rfl
theorem p_bnT (g n : Nat) (T : Mem) : f_R_reverse_30 g (n + 5) T 0 = some (bnT T, ()) := rfl
def trS2 (S : Mem) : Mem := sI (sL (sI (trS S) 28 0 (S.1 28 0 + S.1 27 0)) 2 0 (S.2.1 2 0 + (S.1 27 0).toInt64)) 27 0 0
def trT2 (T : Mem) : Mem := sL (sL (sL (trT T) 3 0 (T.2.1 3 0 + T.2.1 2 0)) 4 0 (T.2.1 4 0 + T.2.1 2 0)) 2 0 0
theorem p_toTray {g : Nat} {S : Mem} (hg : 400 < g) : f_O_moveStackerToTray g S = some ((), trS2 S) := by
  obtain ⟨m, hm⟩ : ∃ m, g = m + 5 := ⟨g - 5, by omega⟩
  have e := p_trS g m S
  rw [← hm] at e
  unfold f_O_moveStackerToTray f_O_emptyStackerInto_inTray
  rw [e, seqM_some, bnd_some]
  rfl
theorem p_toBin {g : Nat} {S : Mem} (hg : 400 < g) : f_O_moveStackerToBin g S = some ((), sI (bnS S) 27 0 0) := by
  obtain ⟨m, hm⟩ : ∃ m, g = m + 5 := ⟨g - 5, by omega⟩
  have e := p_bnS g m S
  rw [← hm] at e
  unfold f_O_moveStackerToBin f_O_emptyStackerInto_inBin
  rw [e, seqM_some, bnd_some]
  rfl
theorem j4 {j : Nat} (h : j < 4) : j = 0 ∨ j = 1 ∨ j = 2 ∨ j = 3 := by omega
theorem r_tray {c : Nat × Nat} {S T : Mem} (h : Core c S T) : Core c (trS2 S) (trT2 T) := by
  obtain ⟨hH, hL, ⟨n1, n2, n3, n4, n5, ⟨n6, n7, n8⟩, n9, n10⟩, hJ, hM⟩ := h
  refine ⟨hH, hL, ⟨n1, n2, fun j hj => ?_, fun j hj => ?_, n5, ⟨?_, ?_, ?_⟩, ?_, ?_⟩, hJ, hM⟩
  · rcases j4 hj with rfl | rfl | rfl | rfl <;> exact ⟨rfl, (show (0 : Int) ≤ (0 : Int32).toInt by decide), Int.natCast_nonneg _⟩
  · rcases j4 hj with rfl | rfl | rfl | rfl
    · show S.1 25 0 + S.1 24 0 = T.1 11 0 + T.1 10 0
      rw [n4 0 hj, (n3 0 hj).1]
    · show S.1 25 1 + S.1 24 1 = T.1 11 1 + T.1 10 1
      rw [n4 1 hj, (n3 1 hj).1]
    · show S.1 25 2 + S.1 24 2 = T.1 11 2 + T.1 10 2
      rw [n4 2 hj, (n3 2 hj).1]
    · show S.1 25 3 + S.1 24 3 = T.1 11 3 + T.1 10 3
      rw [n4 3 hj, (n3 3 hj).1]
  · rfl
  · show (0 : Int) ≤ (0 : Int32).toInt
    decide
  · show (0 : Int32).toInt ≤ (c.2 : Int)
    exact Int.natCast_nonneg _
  · show S.1 28 0 + S.1 27 0 = (T.2.1 3 0 + T.2.1 2 0).toInt32
    rw [Int64.toInt32_add, ← n6, lg_l2i_i2l, n9]
  · show S.2.1 2 0 + (S.1 27 0).toInt64 = T.2.1 4 0 + T.2.1 2 0
    rw [n6, n10]
theorem r_bin {c : Nat × Nat} {S T : Mem} (h : Core c S T) : Core c (sI (bnS S) 27 0 0) (sL (bnT T) 2 0 0) := by
  obtain ⟨hH, hL, ⟨n1, n2, n3, n4, n5, ⟨n6, n7, n8⟩, n9, n10⟩, hJ, hM⟩ := h
  refine ⟨hH, hL, ⟨n1, n2, fun j hj => ?_, n4, fun j hj => ?_, ⟨?_, ?_, ?_⟩, n9, n10⟩, hJ, hM⟩
  · rcases j4 hj with rfl | rfl | rfl | rfl <;> exact ⟨rfl, (show (0 : Int) ≤ (0 : Int32).toInt by decide), Int.natCast_nonneg _⟩
  · rcases j4 hj with rfl | rfl | rfl | rfl
    · show S.1 26 0 + S.1 24 0 = T.1 12 0 + T.1 10 0
      rw [n5 0 hj, (n3 0 hj).1]
    · show S.1 26 1 + S.1 24 1 = T.1 12 1 + T.1 10 1
      rw [n5 1 hj, (n3 1 hj).1]
    · show S.1 26 2 + S.1 24 2 = T.1 12 2 + T.1 10 2
      rw [n5 2 hj, (n3 2 hj).1]
    · show S.1 26 3 + S.1 24 3 = T.1 12 3 + T.1 10 3
      rw [n5 3 hj, (n3 3 hj).1]
  · rfl
  · show (0 : Int) ≤ (0 : Int32).toInt
    decide
  · show (0 : Int32).toInt ≤ (c.2 : Int)
    exact Int.natCast_nonneg _
theorem l_are {g : Nat} {S : Mem} (k f : Nat) (x : Int32) (hk : k < 4) (hx : x = 0 ∨ x = 1) : f_O_areStacked_4 g (f + 1) S x (nI k) = f_O_areStacked_4 g f S (if x = 0 then (if S.1 24 k ≤ 0 then 0 else 1) else 1) (nI (k + 1)) := by
  have gi : ¬ (nI k < 0 ∨ 4 ≤ (nI k).toNatClampNeg) := nI_in hk (by decide)
  have ei : (nI k).toNatClampNeg = k := nI_clamp (by omega)
  rw [f_O_areStacked_4, if_neg (show ¬ (4 : Int32) ≤ nI k from nI_ge hk (by decide))]
  simp only [lt_eq]
  rcases hx with rfl | rfl
  · rw [if_pos rfl, if_pos rfl, grd_pos gi, ei, add1]
    by_cases h : S.1 24 k ≤ 0
    · rw [if_pos h, if_pos h]
    · rw [if_neg h, if_neg h]
  · rw [if_neg d10, if_neg d10, add1]
theorem ite01 {P : Prop} {iP : Decidable P} : (@ite Int32 P iP 0 1) = 0 ∨ (@ite Int32 P iP 0 1) = 1 := by
  by_cases h : P
  · rw [if_pos h]; exact Or.inl rfl
  · rw [if_neg h]; exact Or.inr rfl
theorem ite011 {P Q : Prop} {iP : Decidable P} {iQ : Decidable Q} : (@ite Int32 P iP (@ite Int32 Q iQ 0 1) 1) = 0 ∨ (@ite Int32 P iP (@ite Int32 Q iQ 0 1) 1) = 1 := by
  by_cases h : P
  · rw [if_pos h]; exact ite01
  · rw [if_neg h]; exact Or.inr rfl
/-- are there notes in the stacker: both say the same -/
theorem r_stacked {g : Nat} {c : Nat × Nat} {S T : Mem} (hg : 400 < g) (h : RN c S T) (hb : c.1 < 2 ^ 28) : ∃ r : Int32, (r = 0 ∨ r = 1) ∧ f_O_areStacked g S = some (r, S) ∧ f_R_hasStacked g T = some (r, T) := by
  have hP : ∀ j, j < 4 → ∃ a : Nat, a ≤ c.1 ∧ S.1 24 j = nI a ∧ T.1 10 j = nI a := fun j hj => PIn_nat (h.2.2.1 j hj) (by omega)
  obtain ⟨a0, x0, y0, z0⟩ := hP 0 (by decide)
  obtain ⟨a1, x1, y1, z1⟩ := hP 1 (by decide)
  obtain ⟨a2, x2, y2, z2⟩ := hP 2 (by decide)
  obtain ⟨a3, x3, y3, z3⟩ := hP 3 (by decide)
  have le0 : ∀ a : Nat, a ≤ c.1 → (nI a ≤ (0 : Int32) ↔ a = 0) := fun a ha => by
    rw [show (0 : Int32) = nI 0 from rfl, nI_leI (by omega) (by decide)]
    omega
  obtain ⟨m, hm⟩ : ∃ m, g = m + 5 := ⟨g - 5, by omega⟩
  have e : ∃ r : Int32, (r = 0 ∨ r = 1) ∧ (r = 0 ↔ a0 + a1 + a2 + a3 = 0) ∧ f_O_areStacked_4 g (m + 5) S 0 (nI 0) = some (S, r) := by
    rw [l_are 0 (m + 4) 0 (by decide) (Or.inl rfl), l_are 1 (m + 3) _ (by decide) ite011, l_are 2 (m + 2) _ (by decide) ite011, l_are 3 (m + 1) _ (by decide) ite011, f_O_areStacked_4, if_pos (show (4 : Int32) ≤ nI (3 + 1) by decide)]
    refine ⟨_, ite011, ?_, rfl⟩
    rw [y0, y1, y2, y3]
    simp only [le0 a0 x0, le0 a1 x1, le0 a2 x2, le0 a3 x3]
    by_cases q0 : a0 = 0 <;> by_cases q1 : a1 = 0 <;> by_cases q2 : a2 = 0 <;> by_cases q3 : a3 = 0 <;> simp [q0, q1, q2, q3]
  obtain ⟨r, r1, r2, r3⟩ := e
  rw [← hm] at r3
  refine ⟨r, r1, ?_, ?_⟩
  · unfold f_O_areStacked
    rw [show f_O_areStacked_4 g g S 0 0 = some (S, r) from r3, seqM_some, grd_pos r1]
  · unfold f_R_hasStacked
    rw [show T.1 10 ((0 : Int32).toNatClampNeg) = nI a0 from z0, show T.1 10 ((1 : Int32).toNatClampNeg) = nI a1 from z1, show T.1 10 ((2 : Int32).toNatClampNeg) = nI a2 from z2, show T.1 10 ((3 : Int32).toNatClampNeg) = nI a3 from z3, nI_add, nI_add, nI_add]
    have hs : nI (a0 + a1 + a2 + a3) ≤ (0 : Int32) ↔ a0 + a1 + a2 + a3 = 0 := by
      rw [show (0 : Int32) = nI 0 from rfl, nI_leI (by omega) (by decide)]
      omega
    rcases r1 with rfl | rfl
    · rw [if_pos (hs.mpr (r2.mp rfl))]
    · rw [if_neg (fun z => d10 (r2.mpr (hs.mp z)))]
