theorem p_bitsL {g : Nat} {S : Mem} {x1 x3 : Int32} : ∀ (d b n : Nat) (x : Int32), b + d = 8 → d < n → f_R_check_letter_25 g n S x1 x x3 (nI b) = some (S, (x1, cbN d x, x3)) := by
  intro d
  induction d with
  | zero =>
    intro b n x hb hn
    obtain ⟨n, rfl⟩ : ∃ q, n = q + 1 := ⟨n - 1, by omega⟩
    have : b = 8 := by omega
    subst this
    rfl
  | succ d ih =>
    intro b n x hb hn
    obtain ⟨n, rfl⟩ : ∃ q, n = q + 1 := ⟨n - 1, by omega⟩
    rw [f_R_check_letter_25, if_neg (show ¬ (8 : Int32) ≤ nI b from nI_ge (show b < 8 by omega) (by decide)), cbN_succ]
    simp only [lt_eq, add1]
    unfold cb
    by_cases hx : x ≤ 32767
    · rw [if_pos hx, if_pos hx]
      exact ih (b + 1) n _ (by omega) (by omega)
    · rw [if_neg hx, if_neg hx]
      exact ih (b + 1) n _ (by omega) (by omega)
theorem p_checkL {g p : Nat} {S : Mem} (hg : 400 < g) (hp : p = 0) : ∀ (d k n : Nat) (x : Int32), k + d = 11 → d < n → f_R_check_letter_5 g n S (nI p) x (nI k) = some (S, cN (fun q => S.1 29 (p + q)) k d x) := by
  intro d
  induction d with
  | zero =>
    intro b n x hb hn
    obtain ⟨n, rfl⟩ : ∃ q, n = q + 1 := ⟨n - 1, by omega⟩
    have : b = 11 := by omega
    subst this
    rfl
  | succ d ih =>
    intro k n x hb hn
    obtain ⟨n, rfl⟩ : ∃ q, n = q + 1 := ⟨n - 1, by omega⟩
    have hp0 := hp
    have hk : ¬ (nI (p + k) < 0 ∨ 14 ≤ (nI (p + k)).toNatClampNeg) := nI_in (by omega) (by decide)
    have ek : (nI (p + k)).toNatClampNeg = p + k := nI_clamp (by omega)
    rw [f_R_check_letter_5, if_neg (show ¬ (11 : Int32) ≤ nI k from nI_ge (show k < 11 by omega) (by decide)), nI_add, grd_pos hk]
    simp only [lt_eq]
    rw [ek, show (0 : Int32) = nI 0 from rfl, p_bitsL 8 0 g _ rfl (by omega), seqM_some, cN_succ]
    simp only [add1]
    exact ih (k + 1) n _ (by omega) (by omega)
theorem p_checkLetter {g p : Nat} {S : Mem} (hg : 400 < g) (hp : p = 0) : f_R_check_letter g S (nI p) = some (cN (fun q => S.1 29 (p + q)) 0 11 65535, S) := by
  unfold f_R_check_letter
  rw [show (0 : Int32) = nI 0 from rfl, p_checkL hg hp 11 0 g _ rfl (by omega), seqM_some]
/-- the check fits: as the class asks, and as the reference does -/
theorem sound_iff {c a b : Nat} (hc : c < 2 ^ 16) (ha : a ≤ 255) (hb : b ≤ 255) : nI c = nI a * 256 + nI b ↔ (nI a = nI c >>> ((8 : Int32) &&& 31) ∧ nI b = nI c &&& 255) := by
  have e1 : nI a * 256 + nI b = nI (a * 256 + b) := by rw [show (256 : Int32) = nI 256 from rfl, pk_mul, nI_add]
  have e2 : nI c >>> ((8 : Int32) &&& 31) = nI (c / 2 ^ 8) := pk_shrN (by omega) _ 8 (by decide)
  have e3 : nI c &&& 255 = nI (c % 2 ^ 8) := pk_andN (by omega) 8 (by decide)
  rw [e1, e2, e3, nI_eq (by omega) (by omega), nI_eq (by omega) (by omega), nI_eq (by omega) (by omega)]
  omega
theorem PIn_nat {x y : Int32} {m : Nat} (h : PIn 0 m x y) (hm : m < 2 ^ 30) : ∃ a : Nat, a ≤ m ∧ x = nI a ∧ y = nI a := by
  obtain ⟨rfl, h1, h2⟩ := h
  have h3 : x.toInt < ((m + 1 : Nat) : Int) := by
    have h2' : x.toInt ≤ (m : Int) := h2
    omega
  have h1' : 0 ≤ x.toInt := h1
  obtain ⟨a, ha, e⟩ := vp_in_of (x := x) (n := m + 1) (vp_in_iff.mpr ⟨h1', h3⟩) (by omega)
  exact ⟨a, by omega, e, e⟩
