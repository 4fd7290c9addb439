/-! the relation between the class's memory S and the reference's memory T -/
def RD (d dc rv am am2 ac ac2 : Int32) : Prop := (d = 0 ∧ dc = -1 ∧ rv = 0) ∨ (d = 1 ∧ dc = 1 ∧ rv = 0) ∨ (d = 2 ∧ dc = 0 ∧ rv = 0 ∧ am = am2 ∧ ac = ac2 ∧ 0 ≤ ac.toInt ∧ ac.toInt ≤ 7) ∨ (d = 3 ∧ rv = 1)
def PAcc (x y : Int32) : Prop := x = y ∧ (x = -1 ∨ (0 ≤ x.toInt ∧ x.toInt ≤ 7))
def PTry (x y : Int32) : Prop := x = y ∧ 0 ≤ x.toInt ∧ x.toInt ≤ 3
def PIn (a b : Int) (x y : Int32) : Prop := x = y ∧ a ≤ x.toInt ∧ x.toInt ≤ b
/-- the host -/
def RH (S T : Mem) : Prop := (∀ j, j < 8 → S.2.1 0 j = T.2.1 0 j) ∧ (∀ j, j < 16 → PAcc (S.1 2 j) (T.1 0 j)) ∧ (∀ j, j < 16 → S.1 3 j = T.1 1 j) ∧ (∀ j, j < 16 → PTry (S.1 4 j) (T.1 2 j)) ∧ (∀ j, j < 2001 → PIn (-1) 2 (S.1 5 j) (T.1 3 j)) ∧ (∀ j, j < 2001 → RD (S.1 6 j) (T.1 4 j) (T.1 7 j) (S.1 7 j) (T.1 6 j) (S.1 8 j) (T.1 5 j)) ∧ S.2.1 1 0 = T.2.1 1 0
/-- the line: letter i in flight is the letter with the id S.2.2.1 i -/
def RL (S T : Mem) : Prop := ∃ n : Nat, n ≤ 24 ∧ S.1 0 0 = nI n ∧ T.1 26 0 = nI n ∧ S.1 1 0 = T.1 28 0 ∧ (∀ i, i < 24 → S.2.2.1 i < 24) ∧ (∀ i j, i < 24 → j < 24 → S.2.2.1 i = S.2.2.1 j → i = j) ∧ (∀ i, i < n → (∀ k, k < 13 → PIn 0 255 (S.2.2.2.2 (S.2.2.1 i) k) (T.1 25 (14 * i + k))) ∧ ((S.2.2.2.1 (S.2.2.1 i) = 1 ∧ T.1 25 (14 * i + 13) = 0) ∨ (S.2.2.2.1 (S.2.2.1 i) = 0 ∧ T.1 25 (14 * i + 13) = 1)))
/-- the notes; c: bounds of the notes in the stacker, and of their worth -/
def RN (c : Nat × Nat) (S T : Mem) : Prop := (∀ j, j < 4 → PIn 1 1000 (S.1 22 j) (T.1 8 j)) ∧ (∀ j, j < 4 → PIn 0 200 (S.1 23 j) (T.1 9 j)) ∧ (∀ j, j < 4 → PIn 0 c.1 (S.1 24 j) (T.1 10 j)) ∧ (∀ j, j < 4 → S.1 25 j = T.1 11 j) ∧ (∀ j, j < 4 → S.1 26 j = T.1 12 j) ∧ ((S.1 27 0).toInt64 = T.2.1 2 0 ∧ 0 ≤ (S.1 27 0).toInt ∧ (S.1 27 0).toInt ≤ c.2) ∧ S.1 28 0 = (T.2.1 3 0).toInt32 ∧ S.2.1 2 0 = T.2.1 4 0
/-- the journal -/
def RJ (S T : Mem) : Prop := ∃ n : Nat, n ≤ 300 ∧ S.1 36 0 = nI n ∧ T.1 15 0 = nI n ∧ (∀ i, i < n → S.1 32 i = T.1 14 (5 * i) ∧ S.1 33 i = T.1 14 (5 * i + 1) ∧ S.1 34 i = T.1 14 (5 * i + 2) ∧ S.1 35 i = T.1 14 (5 * i + 3)) ∧ (∀ i, i < n → S.1 32 i = 1 → (0 ≤ (S.1 33 i).toInt ∧ (S.1 33 i).toInt ≤ 2000) ∧ (0 ≤ (S.1 35 i).toInt ∧ (S.1 35 i).toInt ≤ 15))
/-- the machine -/
def RM (S T : Mem) : Prop := (∀ j, j < 16 → PIn 0 1 (S.1 10 j) (T.1 13 j)) ∧ PIn 0 1 (S.1 11 0) (T.1 18 0) ∧ (S.1 11 0 = 1 → S.1 12 0 = T.1 19 0) ∧ PIn 0 5 (S.1 13 0) (T.1 20 0) ∧ S.1 14 0 = T.1 21 0 ∧ PIn 1 2001 (S.1 15 0) (T.1 16 0) ∧ S.1 16 0 = T.1 17 0 ∧ S.1 9 0 + S.1 18 0 = T.1 27 0 ∧ PIn 0 2000 (S.1 19 0) (T.1 22 0) ∧ S.1 20 0 = T.1 23 0 ∧ S.1 21 0 = T.1 24 0
theorem all_upd {n k : Nat} {f f2 : Nat → Int32} {P : Int32 → Int32 → Prop} {v v2 : Int32} (h : ∀ j, j < n → P (f j) (f2 j)) (hv : P v v2) : ∀ j, j < n → P (upd f k v j) (upd f2 k v2 j) := by
  intro j hj
  unfold upd
  by_cases hk : j = k
  · rw [if_pos hk, if_pos hk]; exact hv
  · rw [if_neg hk, if_neg hk]; exact h j hj
theorem all_updL {n k : Nat} {f f2 : Nat → Int64} {P : Int64 → Int64 → Prop} {v v2 : Int64} (h : ∀ j, j < n → P (f j) (f2 j)) (hv : P v v2) : ∀ j, j < n → P (vp_updL f k v j) (vp_updL f2 k v2 j) := by
  intro j hj
  unfold vp_updL
  by_cases hk : j = k
  · rw [if_pos hk, if_pos hk]; exact hv
  · rw [if_neg hk, if_neg hk]; exact h j hj
theorem i32 (x : Int32) : (x < 0 ↔ x.toInt < 0) := by rw [Int32.lt_iff_toInt_lt]; rfl
theorem r_account {g : Nat} {S T : Mem} (h : RH S T) (x : Int32) (y : Int64) : Sim (fun S2 T2 => RH S2 T2 ∧ S2.1 = S.1 ∧ S2.2.2 = S.2.2 ∧ S2.2.1 2 = S.2.1 2 ∧ T2.1 = T.1 ∧ T2.2.1 2 = T.2.1 2 ∧ T2.2.1 3 = T.2.1 3 ∧ T2.2.1 4 = T.2.1 4) (f_A_account g S x y) (f_R_account g T x y) := by
  unfold f_A_account f_H_setBalance f_R_account
  simp only [p_isAccount, p_isWithin, bnd_some, lgc_lt, lgc_le, lt_eq]
  by_cases h1 : x < 0
  · simp only [h1, ↓reduceIte, bnd_some]
    exact Sim.ret ⟨h, rfl, rfl, rfl, rfl, rfl, rfl, rfl⟩
  · by_cases h2 : 7 < x
    · simp only [h1, h2, ↓reduceIte, bnd_some]
      exact Sim.ret ⟨h, rfl, rfl, rfl, rfl, rfl, rfl, rfl⟩
    · by_cases h3 : y < 0
      · simp only [h1, h2, h3, ↓reduceIte, bnd_some]
        exact Sim.ret ⟨h, rfl, rfl, rfl, rfl, rfl, rfl, rfl⟩
      · by_cases h4 : 1000000000 < y
        · simp only [h1, h2, h3, h4, ↓reduceIte, bnd_some, not_true_eq_false]
          exact Sim.ret ⟨h, rfl, rfl, rfl, rfl, rfl, rfl, rfl⟩
        · obtain ⟨hi, hk⟩ := ix_in (m := 7) (n := 8) (by decide) h1 h2
          have e10 : ¬ ((1 : Int32) = 0) := by decide
          simp only [h2, h3, h4, e10, ↓reduceIte, not_false_eq_true]
          rw [if_neg h1, if_neg e10, if_neg h1, grd_pos hi, grd_pos hi]
          refine Sim.ret ⟨⟨all_updL (P := fun a b => a = b) h.1 rfl, h.2⟩, rfl, rfl, rfl, rfl, rfl, rfl, rfl⟩
/-! the mix, as a search over numbers of notes -/
abbrev Bst : Type := Nat × Nat × Nat × Nat × Nat
def dn {σ : Type} (f : Nat → σ → σ) : Nat → σ → σ
  | 0, s => s
  | k + 1, s => dn f k (f k s)
theorem dn_succ {σ : Type} (f : Nat → σ → σ) (k : Nat) (s : σ) : dn f (k + 1) s = dn f k (f k s) := rfl
theorem dn_skip {σ : Type} {f : Nat → σ → σ} {s : σ} {h : Nat} : ∀ t : Nat, h ≤ t → (∀ c, h ≤ c → c < t → f c s = s) → dn f t s = dn f h s := by
  intro t
  induction t with
  | zero =>
    intro h1 _
    rw [show h = 0 by omega]
  | succ t ih =>
    intro h1 h2
    by_cases e : h = t + 1
    · rw [e]
    · rw [dn_succ, h2 t (by omega) (by omega)]
      exact ih (by omega) (fun c q1 q2 => h2 c q1 (by omega))
theorem dn_inv {σ : Type} {f : Nat → σ → σ} {P : σ → Prop} (hf : ∀ k s, P s → P (f k s)) : ∀ (k : Nat) (s : σ), P s → P (dn f k s) := by
  intro k
  induction k with
  | zero => intro s h; exact h
  | succ k ih => intro s h; exact ih _ (hf k s h)
def wo (d : Nat → Nat) (a b c : Nat) : Nat := a * d 0 + b * d 1 + c * d 2
def q4 (d : Nat → Nat) (A a b c : Nat) : Nat := (A - wo d a b c) / d 3
abbrev Ok (d n : Nat → Nat) (A a b c best : Nat) : Prop := a ≤ n 0 ∧ b ≤ n 1 ∧ c ≤ n 2 ∧ wo d a b c ≤ A ∧ (A - wo d a b c) % d 3 = 0 ∧ q4 d A a b c ≤ n 3 ∧ a + b + c + q4 d A a b c < best
/-- the best way so far, and one more to look at -/
def stp (d n : Nat → Nat) (A a b c : Nat) (s : Bst) : Bst := if Ok d n A a b c s.1 then (a + b + c + q4 d A a b c, a, b, c, q4 d A a b c) else s
def rC (d n : Nat → Nat) (A a b : Nat) (s : Bst) : Bst := dn (stp d n A a b) (41 - a - b) s
def rB (d n : Nat → Nat) (A a : Nat) (s : Bst) : Bst := dn (rC d n A a) (41 - a) s
def rA (d n : Nat → Nat) (A : Nat) (s : Bst) : Bst := dn (rB d n A) 41 s
/-- what is known of the best way so far -/
def Gd (d n : Nat → Nat) (A : Nat) (s : Bst) : Prop := s.1 ≤ 41 ∧ (s.1 ≤ 40 → s.2.1 + s.2.2.1 + s.2.2.2.1 + s.2.2.2.2 = s.1 ∧ s.2.1 ≤ n 0 ∧ s.2.2.1 ≤ n 1 ∧ s.2.2.2.1 ≤ n 2 ∧ s.2.2.2.2 ≤ n 3 ∧ s.2.1 * d 0 + s.2.2.1 * d 1 + s.2.2.2.1 * d 2 + s.2.2.2.2 * d 3 = A)
theorem Gd_stp {d n : Nat → Nat} {A a b c : Nat} {s : Bst} (h : Gd d n A s) : Gd d n A (stp d n A a b c s) := by
  unfold stp
  split
  · rename_i hk
    obtain ⟨h1, h2, h3, h4, h5, h6, h7⟩ := hk
    refine ⟨?_, fun _ => ⟨rfl, h1, h2, h3, h6, ?_⟩⟩
    · have := h.1
      show a + b + c + q4 d A a b c ≤ 41
      omega
    · show a * d 0 + b * d 1 + c * d 2 + q4 d A a b c * d 3 = A
      have e := Nat.div_add_mod' (A - wo d a b c) (d 3)
      have e2 : q4 d A a b c * d 3 = A - wo d a b c := by
        unfold q4
        omega
      rw [e2]
      unfold wo at *
      omega
  · exact h
theorem Gd_rA {d n : Nat → Nat} {A : Nat} : Gd d n A (rA d n A (41, 0, 0, 0, 0)) := by
  refine dn_inv (fun a s hs => ?_) 41 _ ⟨Nat.le_refl _, fun z => absurd z (by decide)⟩
  refine dn_inv (fun b s hs => ?_) (41 - a) _ hs
  exact dn_inv (fun c s hs => Gd_stp hs) (41 - a - b) _ hs
