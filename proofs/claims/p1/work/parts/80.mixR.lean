/-! the mix: the reference's search -/
def HT (T : Mem) (d n : Nat → Nat) : Prop := ∀ i, i < 4 → T.1 8 i = nI (d i) ∧ T.1 9 i = nI (n i)
def DN (d n : Nat → Nat) : Prop := ∀ i, i < 4 → 1 ≤ d i ∧ d i ≤ 1000 ∧ n i ≤ 200
def MR (T : Mem) (s : Bst) : Prop := s.1 ≤ 40 → T.1 30 0 = nI s.2.1 ∧ T.1 30 1 = nI s.2.2.1 ∧ T.1 30 2 = nI s.2.2.2.1 ∧ T.1 30 3 = nI s.2.2.2.2
theorem wo_le {d n : Nat → Nat} (hD : DN d n) (a b c : Nat) : a * d 0 ≤ a * 1000 ∧ b * d 1 ≤ b * 1000 ∧ c * d 2 ≤ c * 1000 := ⟨Nat.mul_le_mul_left a (hD 0 (by decide)).2.1, Nat.mul_le_mul_left b (hD 1 (by decide)).2.1, Nat.mul_le_mul_left c (hD 2 (by decide)).2.1⟩
theorem l_R40 {g A a b : Nat} {d n : Nat → Nat} (hA : A ≤ 40000) (hD : DN d n) (ha : a ≤ n 0) : ∀ (k f : Nat) (T : Mem) (s : Bst), k < f → k + a + b ≤ 41 → s.1 ≤ 41 → HT T d n → MR T s → ∃ T9 : Mem, f_R_findMix_40 g f T (nI A) (nI s.1) (nI a) (nI b) (nI k + (-1)) = some (T9, (nI A, nI (dn (stp d n A a b) k s).1, nI a, nI b)) ∧ MR T9 (dn (stp d n A a b) k s) ∧ (dn (stp d n A a b) k s).1 ≤ 41 ∧ (∀ q, q ≠ 30 → T9.1 q = T.1 q) ∧ T9.2 = T.2 := by
  intro k
  induction k with
  | zero =>
    intro f T s hf hk hs hT hM
    obtain ⟨f, rfl⟩ : ∃ q, f = q + 1 := ⟨f - 1, by omega⟩
    refine ⟨T, ?_, hM, hs, fun _ _ => rfl, rfl⟩
    rw [f_R_findMix_40, if_pos (show nI 0 + (-1) < (0 : Int32) by decide)]
    rfl
  | succ k ih =>
    intro f T s hf hk hs hT hM
    obtain ⟨f, rfl⟩ : ∃ q, f = q + 1 := ⟨f - 1, by omega⟩
    obtain ⟨z0, z1, z2⟩ := wo_le hD a b k
    have m0 : T.1 8 ((0 : Int32).toNatClampNeg) = nI (d 0) := (hT 0 (by decide)).1
    have m1 : T.1 8 ((1 : Int32).toNatClampNeg) = nI (d 1) := (hT 1 (by decide)).1
    have m2 : T.1 8 ((2 : Int32).toNatClampNeg) = nI (d 2) := (hT 2 (by decide)).1
    have m3 : T.1 8 ((3 : Int32).toNatClampNeg) = nI (d 3) := (hT 3 (by decide)).1
    have n1 : T.1 9 ((1 : Int32).toNatClampNeg) = nI (n 1) := (hT 1 (by decide)).2
    have n2 : T.1 9 ((2 : Int32).toNatClampNeg) = nI (n 2) := (hT 2 (by decide)).2
    have n3 : T.1 9 ((3 : Int32).toNatClampNeg) = nI (n 3) := (hT 3 (by decide)).2
    obtain ⟨p3, p3', p3''⟩ := hD 3 (by decide)
    have hn1 := (hD 1 (by decide)).2.2
    have hn2 := (hD 2 (by decide)).2.2
    have g3 : ¬ nI (d 3) = (0 : Int32) := fun z => by
      have := (nI_eq (show d 3 < 2 ^ 31 by omega) (by decide)).mp (show nI (d 3) = nI 0 from z)
      omega
    have t0 : (0 : Int32).toNatClampNeg = 0 := by decide
    have t1 : (1 : Int32).toNatClampNeg = 1 := by decide
    have t2 : (2 : Int32).toNatClampNeg = 2 := by decide
    have t3 : (3 : Int32).toNatClampNeg = 3 := by decide
    rw [f_R_findMix_40, pk_m1, if_neg (nI_pos (show k < 2 ^ 31 by omega))]
    simp only [lt_eq, m0, m1, m2, m3, n1, n2, n3]
    by_cases hb : n 1 < b
    · rw [if_pos (nI_lt hb (by omega))]
      have e : dn (stp d n A a b) (k + 1) s = s := dn_skip (h := 0) (k + 1) (by omega) (fun c _ _ => if_neg (fun z => by have := z.2.1; omega))
      rw [e]
      exact ⟨T, rfl, hM, hs, fun _ _ => rfl, rfl⟩
    · rw [if_neg (nI_nlt (by omega) (by omega)), dn_succ]
      have sk : ¬ Ok d n A a b k s.1 → stp d n A a b k s = s := fun z => if_neg z
      by_cases hc : n 2 < k
      · rw [if_pos (nI_lt hc (by omega)), sk (fun z => by have := z.2.2.1; omega)]
        exact ih f T s (by omega) (by omega) hs hT hM
      · rw [if_neg (nI_nlt (by omega) (by omega)), pk_mul, pk_mul, pk_mul]
        by_cases hw : wo d a b k ≤ A
        · have hw' := hw
          unfold wo at hw'
          have ex : nI A - nI (a * d 0) - nI (b * d 1) - nI (k * d 2) = nI (A - wo d a b k) := by
            rw [pk_sub (by omega), pk_sub (by omega), pk_sub (by omega)]
            unfold wo
            congr 1
            omega
          have hq : q4 d A a b k ≤ A - wo d a b k := Nat.div_le_self _ _
          rw [ex, if_neg (nI_pos (by omega)), grd_pos g3, pk_rem (by omega) (by omega) (by omega)]
          by_cases hr : (A - wo d a b k) % d 3 = 0
          · rw [hr, if_pos (show nI 0 = (0 : Int32) from rfl), grd_pos g3, pk_div (by omega) (by omega) (by omega), show (A - wo d a b k) / d 3 = q4 d A a b k from rfl]
            by_cases h3 : n 3 < q4 d A a b k
            · rw [if_pos (nI_lt h3 (by omega)), sk (fun z => by have := z.2.2.2.2.2.1; omega)]
              exact ih f T s (by omega) (by omega) hs hT hM
            · rw [if_neg (nI_nlt (by omega) (by omega)), nI_add, nI_add, nI_add]
              by_cases hq2 : s.1 ≤ a + b + k + q4 d A a b k
              · rw [if_pos (nI_le hq2 (by omega)), sk (fun z => by have := z.2.2.2.2.2.2; omega)]
                exact ih f T s (by omega) (by omega) hs hT hM
              · rw [if_neg (nI_ge (by omega) (by omega)), t0, t1, t2, t3]
                have up : stp d n A a b k s = (a + b + k + q4 d A a b k, a, b, k, q4 d A a b k) := if_pos ⟨ha, by omega, by omega, hw, hr, by omega, by omega⟩
                rw [up]
                obtain ⟨T9, e1, e2, e3, e4, e5⟩ := ih f (sI (sI (sI (sI T 30 0 (nI a)) 30 1 (nI b)) 30 2 (nI k)) 30 3 (nI (q4 d A a b k))) (a + b + k + q4 d A a b k, a, b, k, q4 d A a b k) (by omega) (by omega) (show a + b + k + q4 d A a b k ≤ 41 by omega) hT (fun _ => ⟨rfl, rfl, rfl, rfl⟩)
                exact ⟨T9, e1, e2, e3, fun q hq => by rw [e4 q hq, sI_ne hq, sI_ne hq, sI_ne hq, sI_ne hq], e5⟩
          · rw [if_neg (show ¬ nI ((A - wo d a b k) % d 3) = (0 : Int32) from fun z => hr ((nI_eq (Nat.lt_of_lt_of_le (Nat.mod_lt _ (by omega)) (by omega)) (by decide)).mp (show nI _ = nI 0 from z))), sk (fun z => hr z.2.2.2.2.1)]
            exact ih f T s (by omega) (by omega) hs hT hM
        · have hw' := hw
          unfold wo at hw'
          have e1 : (nI A - nI (a * d 0)).toInt = (A : Int) - ((a * d 0 : Nat) : Int) := pk_sub_toInt (by omega) (by omega)
          have y1 : (nI (b * d 1)).toInt = ((b * d 1 : Nat) : Int) := nI_toInt (by omega)
          have y2 : (nI (k * d 2)).toInt = ((k * d 2 : Nat) : Int) := nI_toInt (by omega)
          have e2 : (nI A - nI (a * d 0) - nI (b * d 1)).toInt = (A : Int) - ((a * d 0 : Nat) : Int) - ((b * d 1 : Nat) : Int) := by
            rw [s_sub (by rw [e1, y1]; omega) (by rw [e1, y1]; omega), e1, y1]
          have e3 : (nI A - nI (a * d 0) - nI (b * d 1) - nI (k * d 2)).toInt = (A : Int) - ((a * d 0 : Nat) : Int) - ((b * d 1 : Nat) : Int) - ((k * d 2 : Nat) : Int) := by
            rw [s_sub (by rw [e2, y2]; omega) (by rw [e2, y2]; omega), e2, y2]
          have hneg : nI A - nI (a * d 0) - nI (b * d 1) - nI (k * d 2) < (0 : Int32) := by
            rw [i32, e3]
            omega
          rw [if_pos hneg, sk (fun z => hw z.2.2.2.1)]
          exact ih f T s (by omega) (by omega) hs hT hM
theorem l_R16 {g A a : Nat} {d n : Nat → Nat} (hg : 400 < g) (hA : A ≤ 40000) (hD : DN d n) : ∀ (k f : Nat) (T : Mem) (s : Bst), k < f → k + a ≤ 41 → s.1 ≤ 41 → HT T d n → MR T s → ∃ T9 : Mem, f_R_findMix_16 g f T (nI A) (nI s.1) (nI a) (nI k + (-1)) = some (T9, (nI A, nI (dn (rC d n A a) k s).1, nI a)) ∧ MR T9 (dn (rC d n A a) k s) ∧ (dn (rC d n A a) k s).1 ≤ 41 ∧ (∀ q, q ≠ 30 → T9.1 q = T.1 q) ∧ T9.2 = T.2 := by
  intro k
  induction k with
  | zero =>
    intro f T s hf hk hs hT hM
    obtain ⟨f, rfl⟩ : ∃ q, f = q + 1 := ⟨f - 1, by omega⟩
    refine ⟨T, ?_, hM, hs, fun _ _ => rfl, rfl⟩
    rw [f_R_findMix_16, if_pos (show nI 0 + (-1) < (0 : Int32) by decide)]
    rfl
  | succ k ih =>
    intro f T s hf hk hs hT hM
    obtain ⟨f, rfl⟩ : ∃ q, f = q + 1 := ⟨f - 1, by omega⟩
    have n0 : T.1 9 ((0 : Int32).toNatClampNeg) = nI (n 0) := (hT 0 (by decide)).2
    have hn0 := (hD 0 (by decide)).2.2
    rw [f_R_findMix_16, pk_m1, if_neg (nI_pos (show k < 2 ^ 31 by omega)), n0]
    simp only [lt_eq]
    by_cases ha : n 0 < a
    · rw [if_pos (nI_lt ha (by omega))]
      have e : dn (rC d n A a) (k + 1) s = s := dn_skip (h := 0) (k + 1) (by omega) (fun b _ _ => dn_skip (h := 0) (41 - a - b) (by omega) (fun c _ _ => if_neg (fun z => by have := z.1; omega)))
      rw [e]
      exact ⟨T, rfl, hM, hs, fun _ _ => rfl, rfl⟩
    · rw [if_neg (nI_nlt (by omega) (by omega)), dn_succ]
      have e40 : (40 : Int32) - nI a - nI k = nI (41 - a - k) + (-1) := by
        rw [show (40 : Int32) = nI 40 from rfl, pk_sub (by omega), pk_sub (by omega), show 41 - a - k = (40 - a - k) + 1 by omega, pk_m1]
      obtain ⟨T1, e1, e2, e3, e4, e5⟩ := l_R40 (g := g) (b := k) hA hD (show a ≤ n 0 by omega) (41 - a - k) g T s (by omega) (by omega) hs hT hM
      rw [e40, e1, seqM_some]
      obtain ⟨T9, x1, x2, x3, x4, x5⟩ := ih f T1 (rC d n A a k s) (by omega) (by omega) e3 (fun i hi => by rw [e4 _ (by decide), e4 _ (by decide)]; exact hT i hi) e2
      exact ⟨T9, x1, x2, x3, fun q hq => by rw [x4 q hq, e4 q hq], by rw [x5, e5]⟩
theorem l_R6 {g A : Nat} {d n : Nat → Nat} (hg : 400 < g) (hA : A ≤ 40000) (hD : DN d n) : ∀ (k f : Nat) (T : Mem) (s : Bst), k < f → k ≤ 41 → s.1 ≤ 41 → HT T d n → MR T s → ∃ T9 : Mem, f_R_findMix_6 g f T (nI A) (nI s.1) (nI k + (-1)) = some (T9, nI (dn (rB d n A) k s).1) ∧ MR T9 (dn (rB d n A) k s) ∧ (dn (rB d n A) k s).1 ≤ 41 ∧ (∀ q, q ≠ 30 → T9.1 q = T.1 q) ∧ T9.2 = T.2 := by
  intro k
  induction k with
  | zero =>
    intro f T s hf hk hs hT hM
    obtain ⟨f, rfl⟩ : ∃ q, f = q + 1 := ⟨f - 1, by omega⟩
    refine ⟨T, ?_, hM, hs, fun _ _ => rfl, rfl⟩
    rw [f_R_findMix_6, if_pos (show nI 0 + (-1) < (0 : Int32) by decide)]
    rfl
  | succ k ih =>
    intro f T s hf hk hs hT hM
    obtain ⟨f, rfl⟩ : ∃ q, f = q + 1 := ⟨f - 1, by omega⟩
    rw [f_R_findMix_6, pk_m1, if_neg (nI_pos (show k < 2 ^ 31 by omega)), dn_succ]
    simp only [lt_eq]
    have e40 : (40 : Int32) - nI k = nI (41 - k) + (-1) := by
      rw [show (40 : Int32) = nI 40 from rfl, pk_sub (by omega), show 41 - k = (40 - k) + 1 by omega, pk_m1]
    obtain ⟨T1, e1, e2, e3, e4, e5⟩ := l_R16 (g := g) (a := k) hg hA hD (41 - k) g T s (by omega) (by omega) hs hT hM
    rw [e40, e1, seqM_some]
    obtain ⟨T9, x1, x2, x3, x4, x5⟩ := ih f T1 (rB d n A k s) (by omega) (by omega) e3 (fun i hi => by rw [e4 _ (by decide), e4 _ (by decide)]; exact hT i hi) e2
    exact ⟨T9, x1, x2, x3, fun q hq => by rw [x4 q hq, e4 q hq], by rw [x5, e5]⟩
theorem p_findMixR {g A : Nat} {d n : Nat → Nat} {T : Mem} (hg : 400 < g) (hA : A ≤ 40000) (hD : DN d n) (hT : HT T d n) : ∃ T9 : Mem, f_R_findMix g T (nI A) = some (if (rA d n A (41, 0, 0, 0, 0)).1 ≤ 40 then 1 else 0, T9) ∧ MR T9 (rA d n A (41, 0, 0, 0, 0)) ∧ (∀ q, q ≠ 30 → T9.1 q = T.1 q) ∧ T9.2 = T.2 := by
  obtain ⟨T9, x1, x2, x3, x4, x5⟩ := l_R6 (g := g) hg hA hD 41 g T (41, 0, 0, 0, 0) (by omega) (by omega) (by decide) hT (fun z => absurd z (by decide))
  refine ⟨T9, ?_, x2, x4, x5⟩
  unfold f_R_findMix
  have x1' : f_R_findMix_6 g g T (nI A) 41 40 = some (T9, nI (rA d n A (41, 0, 0, 0, 0)).1) := x1
  rw [x1', seqM_some]
  have x3' : (rA d n A (41, 0, 0, 0, 0)).1 ≤ 41 := x3
  by_cases h : (rA d n A (41, 0, 0, 0, 0)).1 ≤ 40
  · rw [if_pos h, if_neg (show ¬ (40 : Int32) < nI _ from nI_nlt (a := 40) h (by decide))]
  · rw [if_neg h, if_pos (show (40 : Int32) < nI _ from nI_lt (Nat.lt_of_not_le h) (by omega))]
