/-! four bytes of a number: the class shifts a long, the reference an int -/
def by4 (v : Int32) (k : Nat) : Int32 := (v >>> (((24 : Int32) - ((8 : Int32) * nI k)) &&& 31)) &&& 255
theorem and255 (x : Int32) : ∃ a : Nat, a ≤ 255 ∧ x &&& 255 = nI a := by
  obtain ⟨a, ha, e⟩ := pk_andE x (m := 255) 8 (by decide)
  exact ⟨a, by omega, e⟩
theorem by4_in (v : Int32) (k : Nat) : ∃ a : Nat, a ≤ 255 ∧ by4 v k = nI a := and255 _
theorem shr64 (a s : Int64) (k : Nat) (hs : (s.toBitVec.smod 64).toNat = k) : (a >>> s).toInt = a.toInt >>> k := by
  show (a.toBitVec.sshiftRight (s.toBitVec.smod 64).toNat).toInt = _
  rw [hs, BitVec.toInt_sshiftRight]
  rfl
theorem and255_int (x : Int32) : x &&& 255 = nI ((x.toInt % 256).toNat) := by
  rw [pk_and x (m := 255) 8 (by decide)]
  have h : x.toInt = if 2 * x.toBitVec.toNat < 2 ^ 32 then (x.toBitVec.toNat : Int) else (x.toBitVec.toNat : Int) - ((2 ^ 32 : Nat) : Int) := BitVec.toInt_eq_toNat_cond x.toBitVec
  have e : x.toBitVec.toNat % 2 ^ 8 = (x.toInt % 256).toNat := by
    rw [h]
    split <;> omega
  rw [e]
theorem bm_a (z : Int) : (z / 16777216).bmod 4294967296 % 256 = (z.bmod 4294967296 / 16777216) % 256 := by
  unfold Int.bmod
  simp only []
  split <;> split <;> omega
theorem bm_b (z : Int) : (z / 65536).bmod 4294967296 % 256 = (z.bmod 4294967296 / 65536) % 256 := by
  unfold Int.bmod
  simp only []
  split <;> split <;> omega
theorem bm_c (z : Int) : (z / 256).bmod 4294967296 % 256 = (z.bmod 4294967296 / 256) % 256 := by
  unfold Int.bmod
  simp only []
  split <;> split <;> omega
theorem bm_d (z : Int) : (z / 1).bmod 4294967296 % 256 = (z.bmod 4294967296 / 1) % 256 := by
  rw [Int.ediv_one, Int.ediv_one]
/-- the low 32 bits of a long, shifted and cut to a byte, are the int's -/
theorem by4_long (y : Int64) (v : Int32) (hv : y.toInt32 = v) (k : Nat) (hk : k < 4) : ((y >>> (((24 : Int32) - ((8 : Int32) * nI k)).toInt64 &&& 63)).toInt32) &&& 255 = by4 v k := by
  subst hv
  unfold by4
  rw [and255_int, and255_int, Int64.toInt_toInt32]
  rcases (show k = 0 ∨ k = 1 ∨ k = 2 ∨ k = 3 by omega) with rfl | rfl | rfl | rfl
  · rw [shr64 _ _ 24 (by decide), pk_shr _ _ 24 (by decide), Int64.toInt_toInt32, Int.shiftRight_eq_div_pow, Int.shiftRight_eq_div_pow]
    exact congrArg (fun q : Int => nI q.toNat) (bm_a y.toInt)
  · rw [shr64 _ _ 16 (by decide), pk_shr _ _ 16 (by decide), Int64.toInt_toInt32, Int.shiftRight_eq_div_pow, Int.shiftRight_eq_div_pow]
    exact congrArg (fun q : Int => nI q.toNat) (bm_b y.toInt)
  · rw [shr64 _ _ 8 (by decide), pk_shr _ _ 8 (by decide), Int64.toInt_toInt32, Int.shiftRight_eq_div_pow, Int.shiftRight_eq_div_pow]
    exact congrArg (fun q : Int => nI q.toNat) (bm_c y.toInt)
  · rw [shr64 _ _ 0 (by decide), pk_shr _ _ 0 (by decide), Int64.toInt_toInt32, Int.shiftRight_eq_div_pow, Int.shiftRight_eq_div_pow]
    exact congrArg (fun q : Int => nI q.toNat) (bm_d y.toInt)
