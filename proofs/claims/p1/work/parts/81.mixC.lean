/-! the mix: the class's search -/
def HS (S : Mem) (d n : Nat → Nat) (lg : Nat) : Prop := (∀ i, i < 4 → S.1 22 i = nI (d i) ∧ S.1 23 i = nI (n i)) ∧ S.1 31 0 = nI lg
def MS (S : Mem) (s : Bst) : Prop := S.1 30 0 = nI s.1 ∧ (s.1 ≤ 40 → S.1 29 0 = nI s.2.1 ∧ S.1 29 1 = nI s.2.2.1 ∧ S.1 29 2 = nI s.2.2.2.1 ∧ S.1 29 3 = nI s.2.2.2.2)
def Fr (S S9 : Mem) : Prop := (∀ q, q ≠ 29 → q ≠ 30 → S9.1 q = S.1 q) ∧ S9.2 = S.2
theorem Fr.rf {S : Mem} : Fr S S := ⟨fun _ _ _ => rfl, rfl⟩
theorem Fr.tr {S S1 S9 : Mem} (h1 : Fr S S1) (h2 : Fr S1 S9) : Fr S S9 := ⟨fun q a b => by rw [h2.1 q a b, h1.1 q a b], by rw [h2.2, h1.2]⟩
theorem HS.fr {S S9 : Mem} {d n : Nat → Nat} {lg : Nat} (h : HS S d n lg) (hf : Fr S S9) : HS S9 d n lg := by
  refine ⟨fun i hi => ?_, ?_⟩
  · rw [hf.1 _ (by decide) (by decide), hf.1 _ (by decide) (by decide)]
    exact h.1 i hi
  · rw [hf.1 _ (by decide) (by decide)]
    exact h.2
/-- the most notes that are looked at -/
def mo (r m q : Nat) : Nat := if r ≤ m then (if r ≤ q then r else q) else (if m ≤ q then m else q)
theorem mo_le (r m q : Nat) : mo r m q ≤ r ∧ mo r m q ≤ m ∧ mo r m q ≤ q := by
  unfold mo
  split <;> split <;> omega
theorem mo_gt {r m q c : Nat} (h : mo r m q < c) : r < c ∨ m < c ∨ q < c := by
  unfold mo at h
  split at h <;> split at h <;> omega
theorem p_mostOf {g i m r lg : Nat} {S : Mem} {d n : Nat → Nat} (hD : DN d n) (hS : HS S d n lg) (hi : i < 4) (hm : m ≤ 40000) (hr : r ≤ 40) (hl : lg ≤ 1000) : f_O_mostOf g S (nI i) (nI m) (nI r) = some (if m ≤ r * lg then nI (mo r (n i) (m / d i)) else -1, S) := by
  have hrl : r * lg ≤ 40 * 1000 := Nat.mul_le_mul hr hl
  obtain ⟨p1, p2, p3⟩ := hD i hi
  have gi : ¬ (nI i < 0 ∨ 4 ≤ (nI i).toNatClampNeg) := nI_in hi (by decide)
  have ei : (nI i).toNatClampNeg = i := nI_clamp (by omega)
  have gd : ¬ nI (d i) = (0 : Int32) := fun z => by
    have := (nI_eq (show d i < 2 ^ 31 by omega) (by decide)).mp (show nI (d i) = nI 0 from z)
    omega
  have hq : m / d i ≤ m := Nat.div_le_self _ _
  have gi2 : ¬ (nI i < 0 ∨ 4 ≤ i) := by
    rw [ei] at gi
    exact gi
  unfold f_O_mostOf
  rw [if_neg (nI_pos (by omega)), if_neg (show ¬ (4 : Int32) ≤ nI i from nI_ge hi (by decide)), if_neg (nI_pos (by omega)), hS.2, pk_mul]
  by_cases h : m ≤ r * lg
  · rw [if_pos (nI_le h (by omega)), if_pos h, grd_pos gi, ei]
    simp only [lt_eq]
    rw [(hS.1 i hi).1, (hS.1 i hi).2, if_pos (show (1 : Int32) ≤ nI (d i) from nI_le p1 (by omega)), grd_pos gd, grd_pos gi2, pk_div (by omega) (by omega) (by omega)]
    unfold mo
    by_cases h1 : r ≤ n i
    · rw [if_pos (nI_le h1 (by omega)), if_pos h1]
      by_cases h2 : r ≤ m / d i
      · rw [if_pos (nI_le h2 (by omega)), if_pos h2]
      · rw [if_neg (nI_ge (by omega) (by omega)), if_neg h2]
    · rw [if_neg (nI_ge (by omega) (by omega)), if_neg h1, grd_pos gi2]
      by_cases h2 : n i ≤ m / d i
      · rw [if_pos (nI_le h2 (by omega)), if_pos h2]
      · rw [if_neg (nI_ge (by omega) (by omega)), if_neg h2]
  · rw [if_neg (nI_ge (by omega) (by omega)), if_neg h]
theorem p_mostNeg {g i m : Nat} {x : Int32} {S : Mem} (hi : i < 4) (hx : x < 0) : f_O_mostOf g S (nI i) (nI m) x = some (-1, S) := by
  unfold f_O_mostOf
  rw [if_neg (nI_pos (by omega)), if_neg (show ¬ (4 : Int32) ≤ nI i from nI_ge hi (by decide)), if_pos hx]
theorem l_C26 {g A a b m : Nat} {d n : Nat → Nat} {lg : Nat} (hA : A ≤ 40000) (hD : DN d n) (ha : a ≤ n 0) (hb : b ≤ n 1) (hab : a * d 0 + b * d 1 + m = A) : ∀ (k f : Nat) (S : Mem) (s : Bst), k < f → k + a + b ≤ 41 → (∀ c, c < k → c ≤ n 2 ∧ c * d 2 ≤ m) → s.1 ≤ 41 → HS S d n lg → MS S s → ∃ S9 : Mem, f_O_mixRest_26 g f S (nI a) (nI b) (nI m) (nI (d 3)) (nI k + (-1)) = some (S9, ()) ∧ MS S9 (dn (stp d n A a b) k s) ∧ (dn (stp d n A a b) k s).1 ≤ 41 ∧ Fr S S9 := by
  intro k
  induction k with
  | zero =>
    intro f S s hf hk hc hs hS hM
    obtain ⟨f, rfl⟩ : ∃ q, f = q + 1 := ⟨f - 1, by omega⟩
    refine ⟨S, ?_, hM, hs, Fr.rf⟩
    rw [f_O_mixRest_26, if_pos (show nI 0 + (-1) < (0 : Int32) by decide)]
  | succ k ih =>
    intro f S s hf hk hc hs hS hM
    obtain ⟨f, rfl⟩ : ∃ q, f = q + 1 := ⟨f - 1, by omega⟩
    have hc' : ∀ c, c < k → c ≤ n 2 ∧ c * d 2 ≤ m := fun c h => hc c (by omega)
    obtain ⟨c2, cm⟩ := hc k (by omega)
    have m2 : S.1 22 ((2 : Int32).toNatClampNeg) = nI (d 2) := (hS.1 2 (by decide)).1
    have n3 : S.1 23 ((3 : Int32).toNatClampNeg) = nI (n 3) := (hS.1 3 (by decide)).2
    obtain ⟨p3, p3', p3''⟩ := hD 3 (by decide)
    have g3 : ¬ nI (d 3) = (0 : Int32) := fun z => by
      have := (nI_eq (show d 3 < 2 ^ 31 by omega) (by decide)).mp (show nI (d 3) = nI 0 from z)
      omega
    have t0 : (0 : Int32).toNatClampNeg = 0 := by decide
    have t1 : (1 : Int32).toNatClampNeg = 1 := by decide
    have t2 : (2 : Int32).toNatClampNeg = 2 := by decide
    have t3 : (3 : Int32).toNatClampNeg = 3 := by decide
    have hwo : A - wo d a b k = m - k * d 2 := by
      unfold wo
      omega
    have hwl : wo d a b k ≤ A := by
      unfold wo
      omega
    have hq : q4 d A a b k = (m - k * d 2) / d 3 := by
      unfold q4
      rw [hwo]
    have hqm : (m - k * d 2) / d 3 ≤ m - k * d 2 := Nat.div_le_self _ _
    have hdm := Nat.div_add_mod' (m - k * d 2) (d 3)
    have sk : ¬ Ok d n A a b k s.1 → stp d n A a b k s = s := fun z => if_neg z
    rw [f_O_mixRest_26, pk_m1, if_neg (nI_pos (show k < 2 ^ 31 by omega)), dn_succ]
    simp only [lt_eq]
    rw [m2, n3, pk_mul, pk_sub cm, if_pos (show (1 : Int32) ≤ nI (d 3) from nI_le p3 (by omega)), grd_pos g3, pk_div (by omega) (by omega) (by omega), pk_mul, nI_add, nI_add, nI_add, hM.1]
    by_cases hr : (m - k * d 2) / d 3 * d 3 = m - k * d 2
    · rw [hr, if_pos rfl]
      by_cases h3 : n 3 < (m - k * d 2) / d 3
      · rw [if_pos (nI_lt h3 (by omega)), sk (fun z => by have := z.2.2.2.2.2.1; rw [hq] at this; omega)]
        exact ih f S s (by omega) (by omega) hc' hs hS hM
      · rw [if_neg (nI_nlt (by omega) (by omega))]
        by_cases h4 : s.1 ≤ a + b + k + (m - k * d 2) / d 3
        · rw [if_pos (nI_le h4 (by omega)), sk (fun z => by have := z.2.2.2.2.2.2; rw [hq] at this; omega)]
          exact ih f S s (by omega) (by omega) hc' hs hS hM
        · rw [if_neg (nI_ge (by omega) (by omega)), t0, t1, t2, t3]
          have up : stp d n A a b k s = (a + b + k + (m - k * d 2) / d 3, a, b, k, (m - k * d 2) / d 3) := by
            rw [← hq]
            exact if_pos ⟨ha, hb, c2, hwl, by rw [hwo]; omega, by rw [hq]; omega, by rw [hq]; omega⟩
          rw [up]
          obtain ⟨S9, x1, x2, x3, x4⟩ := ih f (sI (sI (sI (sI (sI S 30 0 (nI (a + b + k + (m - k * d 2) / d 3))) 29 0 (nI a)) 29 1 (nI b)) 29 2 (nI k)) 29 3 (nI ((m - k * d 2) / d 3))) (a + b + k + (m - k * d 2) / d 3, a, b, k, (m - k * d 2) / d 3) (by omega) (by omega) hc' (show a + b + k + (m - k * d 2) / d 3 ≤ 41 by omega) hS ⟨rfl, fun _ => ⟨rfl, rfl, rfl, rfl⟩⟩
          have hF : Fr S (sI (sI (sI (sI (sI S 30 0 (nI (a + b + k + (m - k * d 2) / d 3))) 29 0 (nI a)) 29 1 (nI b)) 29 2 (nI k)) 29 3 (nI ((m - k * d 2) / d 3))) := ⟨fun q q1 q2 => by rw [sI_ne q1, sI_ne q1, sI_ne q1, sI_ne q1, sI_ne q2], rfl⟩
          exact ⟨S9, x1, x2, x3, hF.tr x4⟩
    · rw [if_neg (fun z => hr ((nI_eq (by omega) (by omega)).mp z)), sk (fun z => by have := z.2.2.2.2.1; rw [hwo] at this; omega)]
      exact ih f S s (by omega) (by omega) hc' hs hS hM
/-- notes of a worth of at most lg each -/
theorem worth_le {d : Nat → Nat} {lg x y z : Nat} (hl : d 1 ≤ lg ∧ d 2 ≤ lg ∧ d 3 ≤ lg) : x * d 1 + y * d 2 + z * d 3 ≤ (x + y + z) * lg := by
  have h1 : x * d 1 ≤ x * lg := Nat.mul_le_mul_left x hl.1
  have h2 : y * d 2 ≤ y * lg := Nat.mul_le_mul_left y hl.2.1
  have h3 : z * d 3 ≤ z * lg := Nat.mul_le_mul_left z hl.2.2
  rw [Nat.add_mul, Nat.add_mul]
  omega
theorem Ok.eq {d n : Nat → Nat} {A a b c best : Nat} (h : Ok d n A a b c best) : a * d 0 + b * d 1 + c * d 2 + q4 d A a b c * d 3 = A := by
  obtain ⟨h1, h2, h3, h4, h5, h6, h7⟩ := h
  have e := Nat.div_add_mod' (A - wo d a b c) (d 3)
  have e2 : q4 d A a b c * d 3 = A - wo d a b c := by
    unfold q4
    omega
  rw [e2]
  unfold wo at *
  omega
theorem p_mixRest {g A a b m : Nat} {d n : Nat → Nat} {lg : Nat} {S : Mem} {s : Bst} (hg : 400 < g) (hA : A ≤ 40000) (hD : DN d n) (hl : lg ≤ 1000) (hlg : d 1 ≤ lg ∧ d 2 ≤ lg ∧ d 3 ≤ lg) (ha : a ≤ n 0) (hb : b ≤ n 1) (hab : a * d 0 + b * d 1 + m = A) (h40 : a + b ≤ 40) (hs : s.1 ≤ 41) (hS : HS S d n lg) (hM : MS S s) : ∃ S9 : Mem, f_O_mixRest g S (nI a) (nI b) (nI m) = some ((), S9) ∧ MS S9 (rC d n A a b s) ∧ (rC d n A a b s).1 ≤ 41 ∧ Fr S S9 := by
  have m3 : S.1 22 ((3 : Int32).toNatClampNeg) = nI (d 3) := (hS.1 3 (by decide)).1
  unfold f_O_mixRest
  rw [lt_eq, m3, hM.1]
  have none1 : ∀ hi : Nat, hi = 0 → (∀ c, ¬ Ok d n A a b c s.1) → rC d n A a b s = s := fun hi _ h => dn_skip (h := 0) (41 - a - b) (by omega) (fun c _ _ => if_neg (h c))
  have lp0 : ∀ X : Mem, f_O_mixRest_26 g g X (nI a) (nI b) (nI m) (nI (d 3)) (-1) = some (X, ()) := by
    intro X
    obtain ⟨f, hf⟩ : ∃ q, g = q + 1 := ⟨g - 1, by omega⟩
    have e : f_O_mixRest_26 g (f + 1) X (nI a) (nI b) (nI m) (nI (d 3)) (-1) = some (X, ()) := by
      rw [f_O_mixRest_26, if_pos (show (-1 : Int32) < 0 by decide)]
    rw [← hf] at e
    exact e
  by_cases hr : a + b + 1 ≤ s.1
  · have er : nI s.1 - 1 - nI a - nI b = nI (s.1 - 1 - a - b) := by
      rw [show (1 : Int32) = nI 1 from rfl, pk_sub (by omega), pk_sub (by omega), pk_sub (by omega)]
    rw [er, show (2 : Int32) = nI 2 from rfl, p_mostOf hD hS (by decide) (by omega) (by omega) hl, bnd_some]
    by_cases hw : m ≤ (s.1 - 1 - a - b) * lg
    · rw [if_pos hw]
      obtain ⟨o1, o2, o3⟩ := mo_le (s.1 - 1 - a - b) (n 2) (m / d 2)
      have hd2 := (hD 2 (by decide)).1
      have key : rC d n A a b s = dn (stp d n A a b) (mo (s.1 - 1 - a - b) (n 2) (m / d 2) + 1) s := by
        refine dn_skip (41 - a - b) (by omega) (fun c q1 q2 => if_neg (fun z => ?_))
        obtain ⟨z1, z2, z3, z4, z5, z6, z7⟩ := z
        rcases mo_gt (show mo (s.1 - 1 - a - b) (n 2) (m / d 2) < c by omega) with w | w | w
        · omega
        · omega
        · have h1 : m < c * d 2 := by
            rw [Nat.div_lt_iff_lt_mul (by omega)] at w
            exact w
          unfold wo at z4
          omega
      obtain ⟨S9, x1, x2, x3, x4⟩ := l_C26 (g := g) (lg := lg) hA hD ha hb hab (mo (s.1 - 1 - a - b) (n 2) (m / d 2) + 1) g S s (by omega) (by omega) (fun c hc => ⟨by omega, by
        have h1 : c ≤ m / d 2 := by omega
        exact (Nat.le_div_iff_mul_le (by omega)).mp h1⟩) hs hS hM
      rw [pk_m1] at x1
      rw [x1, seqM_some, key]
      exact ⟨S9, rfl, x2, x3, x4⟩
    · rw [if_neg hw, lp0, seqM_some, none1 0 rfl (fun c z => ?_)]
      · exact ⟨S, rfl, hM, hs, Fr.rf⟩
      · have e := Ok.eq z
        have z7 := z.2.2.2.2.2.2
        have h1 : 0 * d 1 + c * d 2 + q4 d A a b c * d 3 ≤ (0 + c + q4 d A a b c) * lg := worth_le hlg
        have h2 : (0 + c + q4 d A a b c) * lg ≤ (s.1 - 1 - a - b) * lg := Nat.mul_le_mul_right lg (by omega)
        omega
  · have hneg : nI s.1 - 1 - nI a - nI b < (0 : Int32) := by
      have y0 : (nI s.1 - nI 1).toInt = (s.1 : Int) - (1 : Nat) := pk_sub_toInt (by omega) (by omega)
      have ya : (nI a).toInt = (a : Int) := nI_toInt (by omega)
      have yb : (nI b).toInt = (b : Int) := nI_toInt (by omega)
      have y1 : (nI s.1 - nI 1 - nI a).toInt = (s.1 : Int) - (1 : Nat) - a := by
        rw [s_sub (by rw [y0, ya]; omega) (by rw [y0, ya]; omega), y0, ya]
      have y2 : (nI s.1 - nI 1 - nI a - nI b).toInt = (s.1 : Int) - (1 : Nat) - a - b := by
        rw [s_sub (by rw [y1, yb]; omega) (by rw [y1, yb]; omega), y1, yb]
      rw [show (1 : Int32) = nI 1 from rfl, i32, y2]
      omega
    rw [show (2 : Int32) = nI 2 from rfl, p_mostNeg (by decide) hneg, bnd_some, lp0, seqM_some, none1 0 rfl (fun c z => by have := z.2.2.2.2.2.2; omega)]
    exact ⟨S, rfl, hM, hs, Fr.rf⟩
theorem l_C64 {g A a m : Nat} {d n : Nat → Nat} {lg : Nat} (hg : 400 < g) (hA : A ≤ 40000) (hD : DN d n) (hl : lg ≤ 1000) (hlg : d 1 ≤ lg ∧ d 2 ≤ lg ∧ d 3 ≤ lg) (ha : a ≤ n 0) (ham : a * d 0 + m = A) : ∀ (k f : Nat) (S : Mem) (s : Bst), k < f → k + a ≤ 41 → (∀ b, b < k → b ≤ n 1 ∧ b * d 1 ≤ m) → s.1 ≤ 41 → HS S d n lg → MS S s → ∃ S9 : Mem, f_O_findMix_64 g f S (nI A) (nI a) (nI m) (nI k + (-1)) = some (S9, (nI A, nI a)) ∧ MS S9 (dn (rC d n A a) k s) ∧ (dn (rC d n A a) k s).1 ≤ 41 ∧ Fr S S9 := by
  intro k
  induction k with
  | zero =>
    intro f S s hf hk hc hs hS hM
    obtain ⟨f, rfl⟩ : ∃ q, f = q + 1 := ⟨f - 1, by omega⟩
    refine ⟨S, ?_, hM, hs, Fr.rf⟩
    rw [f_O_findMix_64, if_pos (show nI 0 + (-1) < (0 : Int32) by decide)]
  | succ k ih =>
    intro f S s hf hk hc hs hS hM
    obtain ⟨f, rfl⟩ : ∃ q, f = q + 1 := ⟨f - 1, by omega⟩
    obtain ⟨c1, cm⟩ := hc k (by omega)
    have m1 : S.1 22 ((1 : Int32).toNatClampNeg) = nI (d 1) := (hS.1 1 (by decide)).1
    rw [f_O_findMix_64, pk_m1, if_neg (nI_pos (show k < 2 ^ 31 by omega)), dn_succ, m1, pk_mul, pk_sub cm]
    obtain ⟨S1, e1, e2, e3, e4⟩ := p_mixRest (g := g) (b := k) (m := m - k * d 1) (S := S) (s := s) hg hA hD hl hlg ha c1 (by omega) (by omega) hs hS hM
    rw [e1, bnd_some, lt_eq]
    obtain ⟨S9, x1, x2, x3, x4⟩ := ih f S1 (rC d n A a k s) (by omega) (by omega) (fun b h => hc b (by omega)) e3 (hS.fr e4) e2
    exact ⟨S9, x1, x2, x3, e4.tr x4⟩
theorem l_C29 {g A : Nat} {d n : Nat → Nat} {lg : Nat} (hg : 400 < g) (hA : A ≤ 40000) (hD : DN d n) (hl : lg ≤ 1000) (hlg : d 1 ≤ lg ∧ d 2 ≤ lg ∧ d 3 ≤ lg) : ∀ (k f : Nat) (S : Mem) (s : Bst), k < f → k ≤ 41 → (∀ a, a < k → a ≤ n 0 ∧ a * d 0 ≤ A) → s.1 ≤ 41 → HS S d n lg → MS S s → ∃ S9 : Mem, f_O_findMix_29 g f S (nI A) (nI k + (-1)) = some (S9, ()) ∧ MS S9 (dn (rB d n A) k s) ∧ (dn (rB d n A) k s).1 ≤ 41 ∧ Fr S S9 := by
  intro k
  induction k with
  | zero =>
    intro f S s hf hk hc hs hS hM
    obtain ⟨f, rfl⟩ : ∃ q, f = q + 1 := ⟨f - 1, by omega⟩
    refine ⟨S, ?_, hM, hs, Fr.rf⟩
    rw [f_O_findMix_29, if_pos (show nI 0 + (-1) < (0 : Int32) by decide)]
  | succ k ih =>
    intro f S s hf hk hc hs hS hM
    obtain ⟨f, rfl⟩ : ∃ q, f = q + 1 := ⟨f - 1, by omega⟩
    obtain ⟨c0, cA⟩ := hc k (by omega)
    have m0 : S.1 22 ((0 : Int32).toNatClampNeg) = nI (d 0) := (hS.1 0 (by decide)).1
    have hk' : ∀ a, a < k → a ≤ n 0 ∧ a * d 0 ≤ A := fun a h => hc a (by omega)
    rw [f_O_findMix_29, pk_m1, if_neg (nI_pos (show k < 2 ^ 31 by omega)), dn_succ]
    simp only [lt_eq]
    rw [m0, pk_mul, pk_sub cA, hM.1]
    have lp0 : ∀ X : Mem, f_O_findMix_64 g g X (nI A) (nI k) (nI (A - k * d 0)) (-1) = some (X, (nI A, nI k)) := by
      intro X
      obtain ⟨f, hf⟩ : ∃ q, g = q + 1 := ⟨g - 1, by omega⟩
      have e : f_O_findMix_64 g (f + 1) X (nI A) (nI k) (nI (A - k * d 0)) (-1) = some (X, (nI A, nI k)) := by
        rw [f_O_findMix_64, if_pos (show (-1 : Int32) < 0 by decide)]
      rw [← hf] at e
      exact e
    have none1 : (∀ b c, ¬ Ok d n A k b c s.1) → rB d n A k s = s := fun h => dn_skip (h := 0) (41 - k) (by omega) (fun b _ _ => dn_skip (h := 0) (41 - k - b) (by omega) (fun c _ _ => if_neg (h b c)))
    by_cases hr : k + 1 ≤ s.1
    · have er : nI s.1 - 1 - nI k = nI (s.1 - 1 - k) := by
        rw [show (1 : Int32) = nI 1 from rfl, pk_sub (by omega), pk_sub (by omega)]
      rw [er, show (1 : Int32) = nI 1 from rfl, p_mostOf hD hS (by decide) (by omega) (by omega) hl, bnd_some]
      by_cases hw : A - k * d 0 ≤ (s.1 - 1 - k) * lg
      · rw [if_pos hw]
        obtain ⟨o1, o2, o3⟩ := mo_le (s.1 - 1 - k) (n 1) ((A - k * d 0) / d 1)
        have hd1 := (hD 1 (by decide)).1
        have key : rB d n A k s = dn (rC d n A k) (mo (s.1 - 1 - k) (n 1) ((A - k * d 0) / d 1) + 1) s := by
          refine dn_skip (41 - k) (by omega) (fun b q1 q2 => dn_skip (h := 0) (41 - k - b) (by omega) (fun c _ _ => if_neg (fun z => ?_)))
          obtain ⟨z1, z2, z3, z4, z5, z6, z7⟩ := z
          rcases mo_gt (show mo (s.1 - 1 - k) (n 1) ((A - k * d 0) / d 1) < b by omega) with w | w | w
          · omega
          · omega
          · have h1 : A - k * d 0 < b * d 1 := by
              rw [Nat.div_lt_iff_lt_mul (by omega)] at w
              exact w
            unfold wo at z4
            omega
        obtain ⟨S1, e1, e2, e3, e4⟩ := l_C64 (g := g) (a := k) (m := A - k * d 0) (lg := lg) hg hA hD hl hlg c0 (by omega) (mo (s.1 - 1 - k) (n 1) ((A - k * d 0) / d 1) + 1) g S s (by omega) (by omega) (fun b hb => ⟨by omega, by
          have h1 : b ≤ (A - k * d 0) / d 1 := by omega
          exact (Nat.le_div_iff_mul_le (by omega)).mp h1⟩) hs hS hM
        rw [pk_m1] at e1
        rw [e1, seqM_some, key]
        rw [← key] at e2 e3 ⊢
        obtain ⟨S9, x1, x2, x3, x4⟩ := ih f S1 (rB d n A k s) (by omega) (by omega) hk' e3 (hS.fr e4) e2
        exact ⟨S9, x1, x2, x3, e4.tr x4⟩
      · rw [if_neg hw, lp0, seqM_some, none1 (fun b c z => ?_)]
        · exact ih f S s (by omega) (by omega) hk' hs hS hM
        · have e := Ok.eq z
          have z7 := z.2.2.2.2.2.2
          have h1 : b * d 1 + c * d 2 + q4 d A k b c * d 3 ≤ (b + c + q4 d A k b c) * lg := worth_le hlg
          have h2 : (b + c + q4 d A k b c) * lg ≤ (s.1 - 1 - k) * lg := Nat.mul_le_mul_right lg (by omega)
          omega
    · have hneg : nI s.1 - 1 - nI k < (0 : Int32) := by
        have y0 : (nI s.1 - nI 1).toInt = (s.1 : Int) - (1 : Nat) := pk_sub_toInt (by omega) (by omega)
        have ya : (nI k).toInt = (k : Int) := nI_toInt (by omega)
        have y1 : (nI s.1 - nI 1 - nI k).toInt = (s.1 : Int) - (1 : Nat) - k := by
          rw [s_sub (by rw [y0, ya]; omega) (by rw [y0, ya]; omega), y0, ya]
        rw [show (1 : Int32) = nI 1 from rfl, i32, y1]
        omega
      rw [show f_O_mostOf g S 1 (nI (A - k * d 0)) (nI s.1 - 1 - nI k) = some (-1, S) from p_mostNeg (i := 1) (by decide) hneg, bnd_some, lp0, seqM_some, none1 (fun b c z => by have := z.2.2.2.2.2.2; omega)]
      exact ih f S s (by omega) (by omega) hk' hs hS hM
theorem p_largest {g : Nat} {d n : Nat → Nat} {S : Mem} (hg : 400 < g) (hD : DN d n) (h0 : ∀ i, i < 4 → S.1 22 i = nI (d i)) : ∃ (lg : Nat) (S9 : Mem), f_O_findLargest g S = some ((), S9) ∧ S9.1 31 0 = nI lg ∧ lg ≤ 1000 ∧ (d 0 ≤ lg ∧ d 1 ≤ lg ∧ d 2 ≤ lg ∧ d 3 ≤ lg) ∧ (∀ q, q ≠ 31 → S9.1 q = S.1 q) ∧ S9.2 = S.2 := by
  have hm : ∀ (i l : Nat), i < 4 → l ≤ 1000 → (if nI l < nI (d i) then nI (d i) else nI l) = nI (if l < d i then d i else l) := by
    intro i l hi hl
    have hdi := (hD i hi).2.1
    by_cases h : l < d i
    · rw [if_pos (nI_lt h (by omega)), if_pos h]
    · rw [if_neg (nI_nlt (by omega) (by omega)), if_neg h]
  have step : ∀ (i f l : Nat) (X : Mem), i < 4 → l ≤ 1000 → (∀ q, q ≠ 31 → X.1 q = S.1 q) → X.2 = S.2 → X.1 31 0 = nI l → ∃ Y : Mem, f_O_findLargest_7 g (f + 1) X (nI i) = f_O_findLargest_7 g f Y (nI (i + 1)) ∧ (∀ q, q ≠ 31 → Y.1 q = S.1 q) ∧ Y.2 = S.2 ∧ Y.1 31 0 = nI (if l < d i then d i else l) := by
    intro i f l X hi hl hX hX2 hXl
    have gi : ¬ (nI i < 0 ∨ 4 ≤ (nI i).toNatClampNeg) := nI_in hi (by decide)
    have ei : (nI i).toNatClampNeg = i := nI_clamp (by omega)
    refine ⟨sI X 31 0 (nI (if l < d i then d i else l)), ?_, fun q hq => by rw [sI_ne hq, hX q hq], hX2, rfl⟩
    rw [f_O_findLargest_7, if_neg (show ¬ (4 : Int32) ≤ nI i from nI_ge hi (by decide)), grd_pos gi, ei]
    simp only [lt_eq]
    rw [hXl, hX 22 (by decide), h0 i hi, hm i l hi hl, add1]
  obtain ⟨f, hf⟩ : ∃ q, g = q + 5 := ⟨g - 5, by omega⟩
  obtain ⟨a0, a1, a2⟩ := hD 0 (by decide)
  obtain ⟨b0, b1, b2⟩ := hD 1 (by decide)
  obtain ⟨c0, c1, c2⟩ := hD 2 (by decide)
  obtain ⟨e0, e1, e2⟩ := hD 3 (by decide)
  obtain ⟨Y0, y1, y2, y3, y4⟩ := step 0 (f + 4) 0 (sI S 31 0 0) (by decide) (by decide) (fun q hq => sI_ne hq) rfl rfl
  obtain ⟨Y1, u1, u2, u3, u4⟩ := step 1 (f + 3) _ Y0 (by decide) (by split <;> omega) y2 y3 y4
  obtain ⟨Y2, v1, v2, v3, v4⟩ := step 2 (f + 2) _ Y1 (by decide) (by split <;> split <;> omega) u2 u3 u4
  obtain ⟨Y3, w1, w2, w3, w4⟩ := step 3 (f + 1) _ Y2 (by decide) (by split <;> split <;> split <;> omega) v2 v3 v4
  refine ⟨_, Y3, ?_, w4, ?_, ?_, w2, w3⟩
  · unfold f_O_findLargest
    rw [lt_eq]
    have e : f_O_findLargest_7 g (f + 5) (sI S 31 0 0) (nI 0) = some (Y3, ()) := by
      rw [y1, u1, v1, w1, f_O_findLargest_7, if_pos (show (4 : Int32) ≤ nI (3 + 1) by decide)]
    rw [← hf] at e
    rw [show f_O_findLargest_7 g g (sI S 31 0 0) 0 = some (Y3, ()) from e, seqM_some]
  · split <;> split <;> split <;> split <;> omega
  · refine ⟨?_, ?_, ?_, ?_⟩ <;> split <;> split <;> split <;> split <;> omega
theorem p_findMixC {g A : Nat} {d n : Nat → Nat} {S : Mem} (hg : 400 < g) (hA1 : 1 ≤ A) (hA : A ≤ 40000) (hD : DN d n) (hS : ∀ i, i < 4 → S.1 22 i = nI (d i) ∧ S.1 23 i = nI (n i)) : ∃ S9 : Mem, f_O_findMix g S (nI A) = some (if (rA d n A (41, 0, 0, 0, 0)).1 ≤ 40 then 1 else 0, S9) ∧ MS S9 (rA d n A (41, 0, 0, 0, 0)) ∧ (∀ q, q ≠ 29 → q ≠ 30 → q ≠ 31 → S9.1 q = S.1 q) ∧ S9.2 = S.2 := by
  have d1 : f_A_isAmount g (sI S 30 0 41) (nI A).toInt64 = some (1, sI S 30 0 41) := by
    rw [p_isAmount, if_neg (fun z => nI_nlt (a := A) (b := 1) hA1 (by omega) ((l64_lt (nI A) 1 1 rfl).mp z)), if_neg (fun z => nI_nlt (a := 40000) (b := A) hA (by decide) ((l64_gt (nI A) 40000 40000 rfl).mp z))]
  obtain ⟨lg, S1, l1, l2, l3, ⟨l4, l5⟩, l6, l7⟩ := p_largest (g := g) (S := sI S 30 0 41) hg hD (fun i hi => (hS i hi).1)
  have hS1 : HS S1 d n lg := ⟨fun i hi => by rw [l6 _ (by decide), l6 _ (by decide)]; exact hS i hi, l2⟩
  have hM1 : MS S1 (41, 0, 0, 0, 0) := ⟨by rw [l6 _ (by decide)]; rfl, fun z => absurd z (by decide)⟩
  have fin : ∀ S9 : Mem, (dn (rB d n A) 41 (41, 0, 0, 0, 0)).1 ≤ 41 → MS S9 (rA d n A (41, 0, 0, 0, 0)) → Fr S1 S9 → (if (40 : Int32) < S9.1 30 0 then some ((0 : Int32), S9) else some (1, S9)) = some (if (rA d n A (41, 0, 0, 0, 0)).1 ≤ 40 then 1 else 0, S9) ∧ (∀ q, q ≠ 29 → q ≠ 30 → q ≠ 31 → S9.1 q = S.1 q) ∧ S9.2 = S.2 := by
    intro S9 h41 hM hF
    have x3' : (rA d n A (41, 0, 0, 0, 0)).1 ≤ 41 := h41
    refine ⟨?_, fun q q1 q2 q3 => by rw [hF.1 q q1 q2, l6 q q3, sI_ne q2], by rw [hF.2, l7]; rfl⟩
    rw [hM.1]
    by_cases h : (rA d n A (41, 0, 0, 0, 0)).1 ≤ 40
    · rw [if_pos h, if_neg (show ¬ (40 : Int32) < nI _ from nI_nlt (a := 40) h (by decide))]
    · rw [if_neg h, if_pos (show (40 : Int32) < nI _ from nI_lt (Nat.lt_of_not_le h) (by omega))]
  unfold f_O_findMix
  rw [lt_eq, d1, bnd_some, if_neg d10, l1, bnd_some, show (0 : Int32) = nI 0 from rfl, show (40 : Int32) = nI 40 from rfl, p_mostOf hD hS1 (by decide) hA (by decide) l3, bnd_some]
  by_cases hw : A ≤ 40 * lg
  · rw [if_pos hw]
    obtain ⟨o1, o2, o3⟩ := mo_le 40 (n 0) (A / d 0)
    have hd0 := (hD 0 (by decide)).1
    have key : rA d n A (41, 0, 0, 0, 0) = dn (rB d n A) (mo 40 (n 0) (A / d 0) + 1) (41, 0, 0, 0, 0) := by
      refine dn_skip 41 (by omega) (fun a q1 q2 => dn_skip (h := 0) (41 - a) (by omega) (fun b _ _ => dn_skip (h := 0) (41 - a - b) (by omega) (fun c _ _ => if_neg (fun z => ?_))))
      obtain ⟨z1, z2, z3, z4, z5, z6, z7⟩ := z
      rcases mo_gt (show mo 40 (n 0) (A / d 0) < a by omega) with w | w | w
      · omega
      · omega
      · have h1 : A < a * d 0 := by
          rw [Nat.div_lt_iff_lt_mul (by omega)] at w
          exact w
        unfold wo at z4
        omega
    obtain ⟨S9, x1, x2, x3, x4⟩ := l_C29 (g := g) (lg := lg) hg hA hD l3 l5 (mo 40 (n 0) (A / d 0) + 1) g S1 (41, 0, 0, 0, 0) (by omega) (by omega) (fun a ha => ⟨by omega, by
      have h1 : a ≤ A / d 0 := by omega
      exact (Nat.le_div_iff_mul_le (by omega)).mp h1⟩) (by decide) hS1 hM1
    rw [pk_m1] at x1
    rw [← key] at x2 x3
    obtain ⟨y1, y2, y3⟩ := fin S9 x3 x2 x4
    rw [x1, seqM_some]
    exact ⟨S9, y1, x2, y2, y3⟩
  · rw [if_neg hw]
    have key : rA d n A (41, 0, 0, 0, 0) = (41, 0, 0, 0, 0) := by
      refine dn_skip (h := 0) 41 (by omega) (fun a q1 q2 => dn_skip (h := 0) (41 - a) (by omega) (fun b _ _ => dn_skip (h := 0) (41 - a - b) (by omega) (fun c _ _ => if_neg (fun z => ?_))))
      have e := Ok.eq z
      have z7 : a + b + c + q4 d A a b c < 41 := z.2.2.2.2.2.2
      have h0 : a * d 0 ≤ a * lg := Nat.mul_le_mul_left a l4
      have h1 : b * d 1 + c * d 2 + q4 d A a b c * d 3 ≤ (b + c + q4 d A a b c) * lg := worth_le l5
      have h2 : (a + (b + c + q4 d A a b c)) * lg ≤ 40 * lg := Nat.mul_le_mul_right lg (by omega)
      rw [Nat.add_mul] at h2
      omega
    obtain ⟨f, hf⟩ : ∃ q, g = q + 1 := ⟨g - 1, by omega⟩
    have e : f_O_findMix_29 g g S1 (nI A) (-1) = some (S1, ()) := by
      have e : f_O_findMix_29 g (f + 1) S1 (nI A) (-1) = some (S1, ()) := by
        rw [f_O_findMix_29, if_pos (show (-1 : Int32) < 0 by decide)]
      rw [← hf] at e
      exact e
    rw [e, seqM_some]
    obtain ⟨y1, y2, y3⟩ := fin S1 (by rw [show dn (rB d n A) 41 (41, 0, 0, 0, 0) = (41, 0, 0, 0, 0) from key]; decide) (by rw [key]; exact hM1) Fr.rf
    exact ⟨S1, y1, by rw [key]; exact hM1, y2, y3⟩
