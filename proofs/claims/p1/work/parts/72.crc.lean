/-! the check of a letter -/
def cb (x : Int32) : Int32 := if x ≤ 32767 then (x * 2) &&& 65535 else ((x * 2) &&& 65535) ^^^ 4129
def cbN : Nat → Int32 → Int32
  | 0, x => x
  | d + 1, x => cbN d (cb x)
def cN (f : Nat → Int32) : Nat → Nat → Int32 → Int32
  | _, 0, x => x
  | k, d + 1, x => cN f (k + 1) d (cbN 8 (x ^^^ (f k <<< ((8 : Int32) &&& 31))))
theorem cN_succ (f : Nat → Int32) (k d : Nat) (x : Int32) : cN f k (d + 1) x = cN f (k + 1) d (cbN 8 (x ^^^ (f k <<< ((8 : Int32) &&& 31)))) := rfl
theorem cbN_succ (d : Nat) (x : Int32) : cbN (d + 1) x = cbN d (cb x) := rfl
theorem cN_congr {f f2 : Nat → Int32} : ∀ (d k : Nat) (x : Int32), (∀ q, k ≤ q → q < k + d → f q = f2 q) → cN f k d x = cN f2 k d x := by
  intro d
  induction d with
  | zero => intro k x _; rfl
  | succ d ih =>
    intro k x h
    rw [cN_succ, cN_succ, h k (by omega) (by omega)]
    exact ih (k + 1) _ (fun q h1 h2 => h q (by omega) (by omega))
theorem shl1 (x : Int32) : x <<< ((1 : Int32) &&& 31) = x * 2 := by
  apply Int32.toBitVec_inj.mp
  apply BitVec.eq_of_toNat_eq
  rw [pk_shl x ((1 : Int32) &&& 31) 1 (by decide)]
  show _ = (x.toBitVec * (2 : Int32).toBitVec).toNat
  rw [BitVec.toNat_mul]
  rfl
theorem nI_xor (a b : Nat) (ha : a < 2 ^ 16) (hb : b < 2 ^ 16) : nI a ^^^ nI b = nI (a ^^^ b) := by
  apply Int32.toBitVec_inj.mp
  apply BitVec.eq_of_toNat_eq
  have hab : a ^^^ b < 2 ^ 16 := Nat.xor_lt_two_pow ha hb
  show ((nI a).toBitVec ^^^ (nI b).toBitVec).toNat = (nI (a ^^^ b)).toBitVec.toNat
  rw [BitVec.toNat_xor, pk_tn (by omega), pk_tn (by omega), pk_tn (by omega)]
theorem cb_in (x : Int32) : ∃ j : Nat, j < 2 ^ 16 ∧ cb x = nI j := by
  obtain ⟨j, hj, e⟩ := pk_andE (x * 2) (m := 65535) 16 (by decide)
  unfold cb
  split
  · exact ⟨j, hj, e⟩
  · refine ⟨j ^^^ 4129, Nat.xor_lt_two_pow hj (by decide), ?_⟩
    rw [e]
    exact nI_xor j 4129 hj (by decide)
theorem cbN_in : ∀ (d : Nat) (x : Int32), 0 < d → ∃ j : Nat, j < 2 ^ 16 ∧ cbN d x = nI j := by
  intro d
  induction d with
  | zero => intro x h; omega
  | succ d ih =>
    intro x _
    by_cases hd : d = 0
    · subst hd
      exact cb_in x
    · exact ih (cb x) (by omega)
theorem cN_in (f : Nat → Int32) : ∀ (d k : Nat) (x : Int32), 0 < d → ∃ j : Nat, j < 2 ^ 16 ∧ cN f k d x = nI j := by
  intro d
  induction d with
  | zero => intro k x h; omega
  | succ d ih =>
    intro k x _
    by_cases hd : d = 0
    · subst hd
      exact cbN_in 8 _ (by decide)
    · exact ih (k + 1) _ (by omega)
theorem p_bitsE {g j : Nat} {S : Mem} {x2 : Int32} : ∀ (d b n : Nat) (x : Int32), b + d = 8 → d < n → f_E_reckonCheck_25 g j n S x x2 (nI b) = some (S, (cbN d x, x2)) := by
  intro d
  induction d with
  | zero =>
    intro b n x hb hn
    obtain ⟨n, rfl⟩ : ∃ q, n = q + 1 := ⟨n - 1, by omega⟩
    have : b = 8 := by omega
    subst this
    rfl
  | succ d ih =>
    intro b n x hb hn
    obtain ⟨n, rfl⟩ : ∃ q, n = q + 1 := ⟨n - 1, by omega⟩
    rw [f_E_reckonCheck_25, if_neg (show ¬ (8 : Int32) ≤ nI b from nI_ge (show b < 8 by omega) (by decide)), cbN_succ]
    simp only [lt_eq, shl1, add1]
    unfold cb
    by_cases hx : x ≤ 32767
    · rw [if_pos hx, if_pos hx]
      exact ih (b + 1) n _ (by omega) (by omega)
    · rw [if_neg hx, if_neg hx]
      exact ih (b + 1) n _ (by omega) (by omega)
theorem p_checkE {g j : Nat} {S : Mem} (hg : 400 < g) : ∀ (d k n : Nat) (x : Int32), k + d = 11 → d < n → f_E_reckonCheck_5 g j n S x (nI k) = some (S, cN (S.2.2.2.2 j) k d x) := by
  intro d
  induction d with
  | zero =>
    intro b n x hb hn
    obtain ⟨n, rfl⟩ : ∃ q, n = q + 1 := ⟨n - 1, by omega⟩
    have : b = 11 := by omega
    subst this
    rfl
  | succ d ih =>
    intro k n x hb hn
    obtain ⟨n, rfl⟩ : ∃ q, n = q + 1 := ⟨n - 1, by omega⟩
    have hk : ¬ (nI k < 0 ∨ 13 ≤ (nI k).toNatClampNeg) := nI_in (by omega) (by decide)
    have ek : (nI k).toNatClampNeg = k := nI_clamp (by omega)
    rw [f_E_reckonCheck_5, if_neg (show ¬ (11 : Int32) ≤ nI k from nI_ge (show k < 11 by omega) (by decide)), grd_pos hk]
    simp only [lt_eq]
    rw [ek, show (0 : Int32) = nI 0 from rfl, p_bitsE 8 0 g _ rfl (by omega), seqM_some, cN_succ]
    simp only [add1]
    exact ih (k + 1) n _ (by omega) (by omega)
theorem p_reckon {g j : Nat} {S : Mem} (hg : 400 < g) : f_E_reckonCheck g j S = some (cN (S.2.2.2.2 j) 0 11 65535, S) := by
  unfold f_E_reckonCheck
  rw [show (0 : Int32) = nI 0 from rfl, p_checkE hg 11 0 g _ rfl (by omega), seqM_some]
theorem p_bitsR {g : Nat} {S : Mem} {x1 x3 : Int32} : ∀ (d b n : Nat) (x : Int32), b + d = 8 → d < n → f_R_check_line_25 g n S x1 x x3 (nI b) = some (S, (x1, cbN d x, x3)) := by
  intro d
  induction d with
  | zero =>
    intro b n x hb hn
    obtain ⟨n, rfl⟩ : ∃ q, n = q + 1 := ⟨n - 1, by omega⟩
    have : b = 8 := by omega
    subst this
    rfl
  | succ d ih =>
    intro b n x hb hn
    obtain ⟨n, rfl⟩ : ∃ q, n = q + 1 := ⟨n - 1, by omega⟩
    rw [f_R_check_line_25, if_neg (show ¬ (8 : Int32) ≤ nI b from nI_ge (show b < 8 by omega) (by decide)), cbN_succ]
    simp only [lt_eq, add1]
    unfold cb
    by_cases hx : x ≤ 32767
    · rw [if_pos hx, if_pos hx]
      exact ih (b + 1) n _ (by omega) (by omega)
    · rw [if_neg hx, if_neg hx]
      exact ih (b + 1) n _ (by omega) (by omega)
theorem p_checkR {g p : Nat} {S : Mem} (hg : 400 < g) (hp : p ≤ 330) : ∀ (d k n : Nat) (x : Int32), k + d = 11 → d < n → f_R_check_line_5 g n S (nI p) x (nI k) = some (S, cN (fun q => S.1 25 (p + q)) k d x) := by
  intro d
  induction d with
  | zero =>
    intro b n x hb hn
    obtain ⟨n, rfl⟩ : ∃ q, n = q + 1 := ⟨n - 1, by omega⟩
    have : b = 11 := by omega
    subst this
    rfl
  | succ d ih =>
    intro k n x hb hn
    obtain ⟨n, rfl⟩ : ∃ q, n = q + 1 := ⟨n - 1, by omega⟩
    have hk : ¬ (nI (p + k) < 0 ∨ 350 ≤ (nI (p + k)).toNatClampNeg) := nI_in (by omega) (by decide)
    have ek : (nI (p + k)).toNatClampNeg = p + k := nI_clamp (by omega)
    rw [f_R_check_line_5, if_neg (show ¬ (11 : Int32) ≤ nI k from nI_ge (show k < 11 by omega) (by decide)), nI_add, grd_pos hk]
    simp only [lt_eq]
    rw [ek, show (0 : Int32) = nI 0 from rfl, p_bitsR 8 0 g _ rfl (by omega), seqM_some, cN_succ]
    simp only [add1]
    exact ih (k + 1) n _ (by omega) (by omega)
theorem p_checkLine {g p : Nat} {S : Mem} (hg : 400 < g) (hp : p ≤ 330) : f_R_check_line g S (nI p) = some (cN (fun q => S.1 25 (p + q)) 0 11 65535, S) := by
  unfold f_R_check_line
  rw [show (0 : Int32) = nI 0 from rfl, p_checkR hg hp 11 0 g _ rfl (by omega), seqM_some]
