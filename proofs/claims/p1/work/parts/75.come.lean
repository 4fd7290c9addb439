/-! what has come: sound or not; the numbers in it -/
/-- the letter that has come: the class's letter 24, the reference's row -/
def RA (S T : Mem) : Prop := ∀ k, k < 13 → PIn 0 255 (S.2.2.2.2 24 k) (T.1 29 k)
theorem r_sound {g : Nat} {S T : Mem} (hg : 400 < g) (h : RA S T) : ∃ r : Int32, f_R_check_letter g T 0 = some (r, T) ∧ ((f_E_isSound g 24 S = some (1, S) ∧ T.1 29 11 = r >>> ((8 : Int32) &&& 31) ∧ T.1 29 12 = r &&& 255) ∨ (f_E_isSound g 24 S = some (0, S) ∧ ¬ (T.1 29 11 = r >>> ((8 : Int32) &&& 31) ∧ T.1 29 12 = r &&& 255))) := by
  have e : cN (S.2.2.2.2 24) 0 11 65535 = cN (fun q => T.1 29 (0 + q)) 0 11 65535 := cN_congr 11 0 65535 (fun q _ h2 => by
    show S.2.2.2.2 24 q = T.1 29 (0 + q)
    rw [Nat.zero_add]
    exact (h q (by omega)).1)
  obtain ⟨c, hc, ec⟩ := cN_in (fun q => T.1 29 (0 + q)) 11 0 65535 (by decide)
  obtain ⟨a, ha, a1, a2⟩ := PIn_nat (m := 255) (h 11 (by decide)) (by decide)
  obtain ⟨b, hb, b1, b2⟩ := PIn_nat (m := 255) (h 12 (by decide)) (by decide)
  have t11 : (11 : Int32).toNatClampNeg = 11 := by decide
  have t12 : (12 : Int32).toNatClampNeg = 12 := by decide
  refine ⟨cN (fun q => T.1 29 (0 + q)) 0 11 65535, p_checkLetter (p := 0) hg rfl, ?_⟩
  have es : f_E_isSound g 24 S = if nI c = nI a * 256 + nI b then some (1, S) else some (0, S) := by
    unfold f_E_isSound
    rw [p_reckon hg, bnd_some, t11, t12, a1, b1, e, ec]
  rw [es, ec, a2, b2]
  by_cases hq : nI c = nI a * 256 + nI b
  · exact Or.inl ⟨if_pos hq, (sound_iff hc ha hb).mp hq⟩
  · exact Or.inr ⟨if_neg hq, fun z => hq ((sound_iff hc ha hb).mpr z)⟩
def num4 (a b c d : Nat) : Nat := a * 16777216 + b * 65536 + c * 256 + d
theorem num4_l {a b c d : Nat} (ha : a ≤ 255) (hb : b ≤ 255) (hc : c ≤ 255) (hd : d ≤ 255) : ((((0 : Int64) * 256 + (nI a).toInt64) * 256 + (nI b).toInt64) * 256 + (nI c).toInt64) * 256 + (nI d).toInt64 = lN (num4 a b c d) := by
  rw [nI_l (by omega), nI_l (by omega), nI_l (by omega), nI_l (by omega), show (0 : Int64) = lN 0 from rfl, show (256 : Int64) = lN 256 from rfl]
  simp only [lN_mul, lN_add]
  exact congrArg lN (by unfold num4; omega)
theorem or4 {a b c d : Nat} (ha : a ≤ 255) (hb : b ≤ 255) (hc : c ≤ 255) (hd : d ≤ 255) : (((nI a <<< ((24 : Int32) &&& 31)) ||| (nI b <<< ((16 : Int32) &&& 31))) ||| (nI c <<< ((8 : Int32) &&& 31))) ||| nI d = nI (num4 a b c d) := by
  apply Int32.toBitVec_inj.mp
  apply BitVec.eq_of_toNat_eq
  show ((((nI a <<< ((24 : Int32) &&& 31)).toBitVec ||| (nI b <<< ((16 : Int32) &&& 31)).toBitVec) ||| (nI c <<< ((8 : Int32) &&& 31)).toBitVec) ||| (nI d).toBitVec).toNat = (nI (num4 a b c d)).toBitVec.toNat
  rw [BitVec.toNat_or, BitVec.toNat_or, BitVec.toNat_or, pk_shl (nI a) _ 24 (by decide), pk_shl (nI b) _ 16 (by decide), pk_shl (nI c) _ 8 (by decide), pk_tn (show a < 2 ^ 32 by omega), pk_tn (show b < 2 ^ 32 by omega), pk_tn (show c < 2 ^ 32 by omega), pk_tn (show d < 2 ^ 32 by omega), pk_tn (show num4 a b c d < 2 ^ 32 by unfold num4; omega), Nat.mod_eq_of_lt (show a * 2 ^ 24 < 2 ^ 32 by omega), Nat.mod_eq_of_lt (show b * 2 ^ 16 < 2 ^ 32 by omega), Nat.mod_eq_of_lt (show c * 2 ^ 8 < 2 ^ 32 by omega)]
  have o1 : a * 2 ^ 24 ||| b * 2 ^ 16 = (a * 2 ^ 8 + b) * 2 ^ 16 := by
    have h := Nat.shiftLeft_add_eq_or_of_lt (show b * 2 ^ 16 < 2 ^ 24 by omega) a
    rw [Nat.shiftLeft_eq] at h
    rw [← h]
    omega
  have o2 : (a * 2 ^ 8 + b) * 2 ^ 16 ||| c * 2 ^ 8 = ((a * 2 ^ 8 + b) * 2 ^ 8 + c) * 2 ^ 8 := by
    have h := Nat.shiftLeft_add_eq_or_of_lt (show c * 2 ^ 8 < 2 ^ 16 by omega) (a * 2 ^ 8 + b)
    rw [Nat.shiftLeft_eq] at h
    rw [← h]
    omega
  have o3 : ((a * 2 ^ 8 + b) * 2 ^ 8 + c) * 2 ^ 8 ||| d = num4 a b c d := by
    have h := Nat.shiftLeft_add_eq_or_of_lt (show d < 2 ^ 8 by omega) ((a * 2 ^ 8 + b) * 2 ^ 8 + c)
    rw [Nat.shiftLeft_eq] at h
    rw [← h]
    unfold num4
    omega
  rw [o1, o2, o3]
theorem p_readA (g n j : Nat) (S : Mem) : f_E_readNumber_5 g j (n + 5) S 1 0 0 = some (S, ((((0 : Int64) * 256 + (S.2.2.2.2 j 1).toInt64) * 256 + (S.2.2.2.2 j 2).toInt64) * 256 + (S.2.2.2.2 j 3).toInt64) * 256 + (S.2.2.2.2 j 4).toInt64) := rfl
theorem p_readB (g n j : Nat) (S : Mem) : f_E_readNumber_5 g j (n + 5) S 6 0 0 = some (S, ((((0 : Int64) * 256 + (S.2.2.2.2 j 6).toInt64) * 256 + (S.2.2.2.2 j 7).toInt64) * 256 + (S.2.2.2.2 j 8).toInt64) * 256 + (S.2.2.2.2 j 9).toInt64) := rfl
theorem p_numA (g : Nat) (T : Mem) : f_R_numberAt g T 1 = some ((((T.1 29 1 <<< ((24 : Int32) &&& 31)) ||| (T.1 29 2 <<< ((16 : Int32) &&& 31))) ||| (T.1 29 3 <<< ((8 : Int32) &&& 31))) ||| T.1 29 4, T) := rfl
theorem p_numB (g : Nat) (T : Mem) : f_R_numberAt g T 6 = some ((((T.1 29 6 <<< ((24 : Int32) &&& 31)) ||| (T.1 29 7 <<< ((16 : Int32) &&& 31))) ||| (T.1 29 8 <<< ((8 : Int32) &&& 31))) ||| T.1 29 9, T) := rfl
theorem num4_lt {a b c d : Nat} (ha : a ≤ 255) (hb : b ≤ 255) (hc : c ≤ 255) (hd : d ≤ 255) : num4 a b c d < 2 ^ 32 := by
  unfold num4
  omega
theorem r_trace {g : Nat} {S T : Mem} (hg : 400 < g) (h : RA S T) : ∃ V : Nat, V < 2 ^ 32 ∧ f_E_trace g 24 S = some (lN V, S) ∧ f_R_numberAt g T 1 = some (nI V, T) := by
  obtain ⟨a, ha, a1, a2⟩ := PIn_nat (m := 255) (h 1 (by decide)) (by decide)
  obtain ⟨b, hb, b1, b2⟩ := PIn_nat (m := 255) (h 2 (by decide)) (by decide)
  obtain ⟨c, hc, c1, c2⟩ := PIn_nat (m := 255) (h 3 (by decide)) (by decide)
  obtain ⟨d, hd, d1, d2⟩ := PIn_nat (m := 255) (h 4 (by decide)) (by decide)
  obtain ⟨m, hm⟩ : ∃ m, g = m + 5 := ⟨g - 5, by omega⟩
  have e1 : f_E_readNumber_5 g 24 g S 1 0 0 = some (S, lN (num4 a b c d)) := by
    have e := p_readA g m 24 S
    rw [← hm, a1, b1, c1, d1, num4_l ha hb hc hd] at e
    exact e
  refine ⟨num4 a b c d, num4_lt ha hb hc hd, ?_, ?_⟩
  · unfold f_E_trace f_E_readNumber
    rw [e1, seqM_some, bnd_some]
  · rw [p_numA, a2, b2, c2, d2, or4 ha hb hc hd]
theorem r_value {g : Nat} {S T : Mem} (hg : 400 < g) (h : RA S T) : ∃ V : Nat, V < 2 ^ 32 ∧ f_E_value g 24 S = some (lN V, S) ∧ f_R_numberAt g T 6 = some (nI V, T) := by
  obtain ⟨a, ha, a1, a2⟩ := PIn_nat (m := 255) (h 6 (by decide)) (by decide)
  obtain ⟨b, hb, b1, b2⟩ := PIn_nat (m := 255) (h 7 (by decide)) (by decide)
  obtain ⟨c, hc, c1, c2⟩ := PIn_nat (m := 255) (h 8 (by decide)) (by decide)
  obtain ⟨d, hd, d1, d2⟩ := PIn_nat (m := 255) (h 9 (by decide)) (by decide)
  obtain ⟨m, hm⟩ : ∃ m, g = m + 5 := ⟨g - 5, by omega⟩
  have e1 : f_E_readNumber_5 g 24 g S 6 0 0 = some (S, lN (num4 a b c d)) := by
    have e := p_readB g m 24 S
    rw [← hm, a1, b1, c1, d1, num4_l ha hb hc hd] at e
    exact e
  refine ⟨num4 a b c d, num4_lt ha hb hc hd, ?_, ?_⟩
  · unfold f_E_value f_E_readNumber
    rw [e1, seqM_some, bnd_some]
  · rw [p_numB, a2, b2, c2, d2, or4 ha hb hc hd]
/-- a number of four bytes in a range, as a long and as an int -/
theorem rng4 {V lo hi : Nat} (hV : V < 2 ^ 32) (hh : hi < 2 ^ 31) (hlo : lo ≤ hi) : ((lo ≤ V ∧ V ≤ hi) ∧ ¬ lN V < lN lo ∧ ¬ lN hi < lN V ∧ ¬ nI V < nI lo ∧ ¬ nI hi < nI V) ∨ (¬ (lo ≤ V ∧ V ≤ hi) ∧ (lN V < lN lo ∨ lN hi < lN V) ∧ (nI V < nI lo ∨ nI hi < nI V)) := by
  have l1 : lN V < lN lo ↔ V < lo := pk_lLT (by omega) (by omega)
  have l2 : lN hi < lN V ↔ hi < V := pk_lLT (by omega) (by omega)
  by_cases h : lo ≤ V ∧ V ≤ hi
  · refine Or.inl ⟨h, ?_, ?_, ?_, ?_⟩
    · rw [l1]; omega
    · rw [l2]; omega
    · rw [nI_ltI (by omega) (by omega)]; omega
    · rw [nI_ltI (by omega) (by omega)]; omega
  · refine Or.inr ⟨h, ?_, ?_⟩
    · rw [l1, l2]; omega
    · by_cases hb : V < 2 ^ 31
      · rw [nI_ltI hb (by omega), nI_ltI (by omega) hb]; omega
      · left
        rw [Int32.lt_iff_toInt_lt, nI_toInt (show lo < 2 ^ 31 by omega)]
        have e : (nI V).toInt = (V : Int) - 4294967296 := by
          have h1 : (nI V).toInt = if 2 * (nI V).toBitVec.toNat < 2 ^ 32 then ((nI V).toBitVec.toNat : Int) else ((nI V).toBitVec.toNat : Int) - ((2 ^ 32 : Nat) : Int) := BitVec.toInt_eq_toNat_cond (nI V).toBitVec
          rw [h1, pk_tn hV, if_neg (by omega)]
          rfl
        rw [e]
        omega
theorem s_sub {x y : Int32} (h1 : -2147483648 ≤ x.toInt - y.toInt) (h2 : x.toInt - y.toInt < 2147483648) : (x - y).toInt = x.toInt - y.toInt := by
  rw [Int32.toInt_sub]
  exact Int.bmod_eq_of_le (by omega) (by omega)
theorem s_add {x y : Int32} (h1 : -2147483648 ≤ x.toInt + y.toInt) (h2 : x.toInt + y.toInt < 2147483648) : (x + y).toInt = x.toInt + y.toInt := by
  rw [Int32.toInt_add]
  exact Int.bmod_eq_of_le (by omega) (by omega)
