/-! the law's loop -/
def Lok (z : Option ((Int32 × (Mem × Mem)) ⊕ ((Mem × Mem) × Unit))) : Prop := ∃ S9 : Mem × Mem, z = some (.inr (S9, ()))
theorem Lst {R : Mem → Mem → Prop} {o o2 : Option (Int32 × Mem)} {F E : Mem → Mem → Option ((Int32 × (Mem × Mem)) ⊕ ((Mem × Mem) × Unit))} (h : Sim R o o2) (k : ∀ A B, R A B → Lok (F A B)) : Lok (bnd o (fun r A => bnd o2 (fun r2 B => if r = r2 then F A B else E A B))) := by
  obtain ⟨r, A, B, rfl, rfl, hR⟩ := h
  rw [bnd_some, bnd_some, if_pos rfl]
  exact k A B hR
theorem LstL {R : Mem → Mem → Prop} {o o2 : Option (Int64 × Mem)} {F E : Mem → Mem → Option ((Int32 × (Mem × Mem)) ⊕ ((Mem × Mem) × Unit))} (h : Sim R o o2) (k : ∀ A B, R A B → Lok (F A B)) : Lok (bnd o (fun r A => bnd o2 (fun r2 B => if lg_cmp r r2 = 0 then F A B else E A B))) := by
  obtain ⟨r, A, B, rfl, rfl, hR⟩ := h
  rw [bnd_some, bnd_some, if_pos ((lgc_eq _ _).mpr rfl)]
  exact k A B hR
def cm (m : Nat) : Nat × Nat := (40 * m, 40000 * m)
theorem l_law {g L : Nat} {xs : Nat → Int32} (hg : 400 < g) (hL : L ≤ 2048) : ∀ (d k n m : Nat) (S : Mem × Mem), L < k + 4 * d + 4 → k ≤ L → d < n → m + d ≤ 600 → Rel (cm m) S.1 S.2 → Lok (f_L_18 g L xs n S (nI k)) := by
  intro d
  induction d with
  | zero =>
    intro k n m S h1 h2 hn hm hR
    obtain ⟨n, rfl⟩ : ∃ q, n = q + 1 := ⟨n - 1, by omega⟩
    have hlt : Int32.ofNat L - 4 < nI k := by
      rw [Int32.lt_iff_toInt_lt, show (Int32.ofNat L - 4).toInt = (L : Int) - (4 : Nat) from pk_sub_toInt (by omega) (by decide), nI_toInt (by omega)]
      omega
    refine ⟨S, ?_⟩
    rw [f_L_18, if_pos hlt]
  | succ d ih =>
    intro k n m S h1 h2 hn hm hR
    obtain ⟨n, rfl⟩ : ∃ q, n = q + 1 := ⟨n - 1, by omega⟩
    have hiff : Int32.ofNat L - 4 < nI k ↔ L < k + 4 := by
      rw [Int32.lt_iff_toInt_lt, show (Int32.ofNat L - 4).toInt = (L : Int) - (4 : Nat) from pk_sub_toInt (by omega) (by decide), nI_toInt (by omega)]
      omega
    rw [f_L_18]
    by_cases hlt : L < k + 4
    · rw [if_pos (hiff.mpr hlt)]
      exact ⟨S, rfl⟩
    rw [if_neg (fun z => hlt (hiff.mp z))]
    have g0' : ¬ (nI k < 0 ∨ L ≤ (nI k).toNatClampNeg) := nI_in (by omega) (by omega)
    have e1 : nI k + 1 = nI (k + 1) := add1 k
    have e2 : nI k + 2 = nI (k + 2) := nI_add k 2
    have e3 : nI k + 3 = nI (k + 3) := nI_add k 3
    have e4 : nI k + 4 = nI (k + 4) := nI_add k 4
    have g1' : ¬ (nI (k + 1) < 0 ∨ L ≤ (nI (k + 1)).toNatClampNeg) := nI_in (by omega) (by omega)
    have g2' : ¬ (nI (k + 2) < 0 ∨ L ≤ (nI (k + 2)).toNatClampNeg) := nI_in (by omega) (by omega)
    have g3' : ¬ (nI (k + 3) < 0 ∨ L ≤ (nI (k + 3)).toNatClampNeg) := nI_in (by omega) (by omega)
    rw [e1, e2, e3, e4]
    simp only [grd_pos g0', grd_pos g1', grd_pos g2', grd_pos g3', lt_eq]
    have nx : ∀ A B : Mem, Rel (cm (m + 1)) A B → Lok (f_L_18 g L xs n (A, B) (nI (k + 4))) := fun A B h => ih (k + 4) n (m + 1) (A, B) (by omega) (by omega) (by omega) (by omega) h
    have n0 : ∀ A B : Mem, Rel (cm m) A B → Lok (f_L_18 g L xs n (A, B) (nI (k + 4))) := fun A B h => nx A B (h.mono (show 40 * m ≤ 40 * (m + 1) by omega) (show 40000 * m ≤ 40000 * (m + 1) by omega))
    have n1 : ∀ A B : Mem, Rel ((cm m).1 + 40, (cm m).2 + 40000) A B → Lok (f_L_18 g L xs n (A, B) (nI (k + 4))) := fun A B h => nx A B (h.mono (show 40 * m + 40 ≤ 40 * (m + 1) by omega) (show 40000 * m + 40000 ≤ 40000 * (m + 1) by omega))
    have hb0 : (cm m).1 < 2 ^ 28 := by show 40 * m < 2 ^ 28; omega
    have hb1 : (cm m).1 + 40 < 2 ^ 28 := by show 40 * m + 40 < 2 ^ 28; omega
    have hb2 : (cm m).2 + 40000 < 2 ^ 28 := by show 40000 * m + 40000 < 2 ^ 28; omega
    generalize hx : xs (nI k).toNatClampNeg &&& 31 = x
    by_cases c0 : x = 0
    · rw [if_pos c0]; exact Lst (op_account hR _ _) n0
    rw [if_neg c0]
    by_cases c1 : x = 1
    · rw [if_pos c1]; exact Lst (op_card hR _ _ _) n0
    rw [if_neg c1]
    by_cases c2 : x = 2
    · rw [if_pos c2]; exact Lst (op_load hR _ _ _) n0
    rw [if_neg c2]
    by_cases c3 : x = 3
    · rw [if_pos c3]; exact Lst (op_insert hR _) n0
    rw [if_neg c3]
    by_cases c4 : x = 4
    · rw [if_pos c4]; exact Lst (op_pin hg hR _) n0
    rw [if_neg c4]
    by_cases c5 : x = 5
    · rw [if_pos c5]; exact Lst (op_ask hg hR _) n0
    rw [if_neg c5]
    by_cases c6 : x = 6
    · rw [if_pos c6]; exact Lst (op_eject hR) n0
    rw [if_neg c6]
    by_cases c7 : x = 7
    · rw [if_pos c7]; exact Lst (op_take hg hR) n0
    rw [if_neg c7]
    by_cases c8 : x = 8
    · rw [if_pos c8]; exact Lst (op_timeout hg hb0 hR) n0
    rw [if_neg c8]
    by_cases c9 : x = 9
    · rw [if_pos c9]; exact Lst (op_deliver hg hb1 hb2 hR _) n1
    rw [if_neg c9]
    by_cases c10 : x = 10
    · rw [if_pos c10]; exact Lst (op_twice hg hb1 hb2 hR _) n1
    rw [if_neg c10]
    by_cases c11 : x = 11
    · rw [if_pos c11]; exact Lst (op_lose hg hR _) n0
    rw [if_neg c11]
    by_cases c12 : x = 12
    · rw [if_pos c12]; exact Lst (op_poke hR _ _ _) n0
    rw [if_neg c12]
    by_cases c13 : x = 13
    · rw [if_pos c13]; exact Lst (op_letter hR _ _) n0
    rw [if_neg c13]
    by_cases c14 : x = 14
    · rw [if_pos c14]; exact Lst (op_cut hR) n0
    rw [if_neg c14]
    by_cases c15 : x = 15
    · rw [if_pos c15]; exact Lst (op_arm hR _) n0
    rw [if_neg c15]
    by_cases c16 : x = 16
    · rw [if_pos c16]; exact Lst (op_power hg hb0 hR) n0
    rw [if_neg c16]
    by_cases c17 : x = 17
    · rw [if_pos c17]; exact Lst (op_cassette hR _ _) n0
    rw [if_neg c17]
    by_cases c18 : x = 18
    · rw [if_pos c18]; exact Lst (op_mix hg hR _ _) n0
    rw [if_neg c18]
    by_cases c19 : x = 19
    · rw [if_pos c19]; exact LstL (op_balance hR _) n0
    rw [if_neg c19]
    by_cases c20 : x = 20
    · rw [if_pos c20]; exact Lst (op_ofCard hR _ _) n0
    rw [if_neg c20]
    by_cases c21 : x = 21
    · rw [if_pos c21]; exact Lst (op_record hR _ _) n0
    rw [if_neg c21]
    by_cases c22 : x = 22
    · rw [if_pos c22]; exact LstL (op_count hR _) n0
    rw [if_neg c22]
    exact n0 S.1 S.2 hR
