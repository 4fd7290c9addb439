/-! the host: which letters it takes -/
def hostCode (g : Nat) (T : Mem) (kd V cd U : Nat) : Option (Int32 × Mem) := if kd = 1 then f_R_onPin g T (nI V) (nI cd) (nI U) else if kd = 2 then f_R_onDebit g T (nI V) (nI cd) (nI U) else f_R_onReversal g T (nI V)
def usable (kd V cd U : Nat) : Prop := (1 ≤ V ∧ V ≤ 2000) ∧ cd ≤ 15 ∧ ((kd = 1 ∧ U ≤ 9999) ∨ (kd = 2 ∧ 1 ≤ U ∧ U ≤ 40000) ∨ kd = 3)
theorem knI {kd k : Nat} (h : kd ≤ 255) (hk : k ≤ 255) : nI kd = nI k ↔ kd = k := nI_eq (by omega) (by omega)
theorem p_usable {g kd V cd U : Nat} {S : Mem} (hkd : kd ≤ 255) (hcd : cd ≤ 255) (hV : V < 2 ^ 32) (hU : U < 2 ^ 32) (ek : f_E_kind g 24 S = some (nI kd, S)) (ev : f_E_trace g 24 S = some (lN V, S)) (ec : f_E_cardNumber g 24 S = some (nI cd, S)) (eu : f_E_value g 24 S = some (lN U, S)) : (usable kd V cd U ∧ f_H_isUsable g 24 S = some (1, S)) ∨ (¬ usable kd V cd U ∧ f_H_isUsable g 24 S = some (0, S)) := by
  unfold f_H_isUsable
  rw [ev, bnd_some, p_isWithin, bnd_some]
  rcases rng4 (lo := 1) (hi := 2000) hV (by decide) (by decide) with ⟨hv, a1, a2, -, -⟩ | ⟨hv, a12, -⟩
  · rw [if_neg (show ¬ lN V < (1 : Int64) from a1), if_neg (show ¬ (2000 : Int64) < lN V from a2), if_neg d10, ec, bnd_some, p_isCard, bnd_some, if_neg (nI_pos (show cd < 2 ^ 31 by omega))]
    by_cases hC : cd ≤ 15
    · rw [if_neg (show ¬ (15 : Int32) < nI cd from nI_nlt (a := 15) (b := cd) hC (by decide)), if_neg d10, ek, bnd_some]
      by_cases k1 : kd = 1
      · rw [if_pos (show nI kd = (1 : Int32) by rw [k1]; rfl), eu, bnd_some, p_isPin, bnd_some, grd_pos p01]
        rcases rng4 (lo := 0) (hi := 9999) hU (by decide) (by decide) with ⟨hu, w1, w2, -, -⟩ | ⟨hu, w12, -⟩
        · rw [if_neg (show ¬ lN U < (0 : Int64) from w1), if_neg (show ¬ (9999 : Int64) < lN U from w2)]
          exact Or.inl ⟨⟨hv, hC, Or.inl ⟨k1, hu.2⟩⟩, rfl⟩
        · refine Or.inr ⟨fun z => ?_, ?_⟩
          · rcases z.2.2 with ⟨-, q⟩ | ⟨q, -⟩ | q
            · exact hu ⟨Nat.zero_le _, q⟩
            · omega
            · omega
          · by_cases z1 : lN U < (0 : Int64)
            · rw [if_pos z1]
            · rw [if_neg z1, if_pos (show (9999 : Int64) < lN U from w12.resolve_left z1)]
      · rw [if_neg (show ¬ nI kd = (1 : Int32) from fun z => k1 ((knI hkd (k := 1) (by decide)).mp z))]
        by_cases k2 : kd = 2
        · rw [if_pos (show nI kd = (2 : Int32) by rw [k2]; rfl), eu, bnd_some, p_isAmount, bnd_some, grd_pos p01]
          rcases rng4 (lo := 1) (hi := 40000) hU (by decide) (by decide) with ⟨hu, w1, w2, -, -⟩ | ⟨hu, w12, -⟩
          · rw [if_neg (show ¬ lN U < (1 : Int64) from w1), if_neg (show ¬ (40000 : Int64) < lN U from w2)]
            exact Or.inl ⟨⟨hv, hC, Or.inr (Or.inl ⟨k2, hu⟩)⟩, rfl⟩
          · refine Or.inr ⟨fun z => ?_, ?_⟩
            · rcases z.2.2 with ⟨q, -⟩ | ⟨-, q⟩ | q
              · omega
              · exact hu q
              · omega
            · by_cases z1 : lN U < (1 : Int64)
              · rw [if_pos z1]
              · rw [if_neg z1, if_pos (show (40000 : Int64) < lN U from w12.resolve_left z1)]
        · rw [if_neg (show ¬ nI kd = (2 : Int32) from fun z => k2 ((knI hkd (k := 2) (by decide)).mp z))]
          by_cases k3 : kd = 3
          · rw [if_pos (show nI kd = (3 : Int32) by rw [k3]; rfl)]
            exact Or.inl ⟨⟨hv, hC, Or.inr (Or.inr k3)⟩, rfl⟩
          · rw [if_neg (show ¬ nI kd = (3 : Int32) from fun z => k3 ((knI hkd (k := 3) (by decide)).mp z))]
            refine Or.inr ⟨fun z => ?_, rfl⟩
            rcases z.2.2 with ⟨q, -⟩ | ⟨q, -⟩ | q
            · exact k1 q
            · exact k2 q
            · exact k3 q
    · rw [if_pos (show (15 : Int32) < nI cd from nI_lt (a := 15) (b := cd) (by omega) (by omega)), if_pos rfl]
      exact Or.inr ⟨fun z => hC z.2.1, rfl⟩
  · refine Or.inr ⟨fun z => hv z.1, ?_⟩
    by_cases z1 : lN V < (1 : Int64)
    · rw [if_pos z1, if_pos rfl]
    · rw [if_neg z1, if_pos (show (2000 : Int64) < lN V from a12.resolve_left z1), if_pos rfl]
theorem p_takesH {g kd V cd U : Nat} {T : Mem} (hkd : kd ≤ 255) (hcd : cd ≤ 255) (hV : V < 2 ^ 32) (hU : U < 2 ^ 32) (ek : T.1 29 0 = nI kd) (ec : T.1 29 5 = nI cd) (ev : f_R_numberAt g T 1 = some (nI V, T)) (eu : f_R_numberAt g T 6 = some (nI U, T)) : (usable kd V cd U ∧ f_R_hostTakes g T = bnd (hostCode g T kd V cd U) (fun r T2 => bnd (f_R_send g T2 (nI kd + 128) (nI V) (nI cd) (nI U) r 1) (fun _ T3 => some (1, T3)))) ∨ (¬ usable kd V cd U ∧ f_R_hostTakes g T = some (0, T)) := by
  have t0 : (0 : Int32).toNatClampNeg = 0 := by decide
  have t5 : (5 : Int32).toNatClampNeg = 5 := by decide
  unfold f_R_hostTakes
  rw [lt_eq, t0, ek, ev, bnd_some, lt_eq, t5, ec, eu, bnd_some]
  by_cases k0 : kd = 0
  · rw [if_pos (show nI kd < (1 : Int32) by rw [k0]; decide)]
    refine Or.inr ⟨fun z => ?_, rfl⟩
    rcases z.2.2 with ⟨q, -⟩ | ⟨q, -⟩ | q <;> omega
  rw [if_neg (show ¬ nI kd < (1 : Int32) from nI_nlt (a := kd) (b := 1) (by omega) (by omega))]
  by_cases k4 : 3 < kd
  · rw [if_pos (show (3 : Int32) < nI kd from nI_lt (a := 3) (b := kd) k4 (by omega))]
    refine Or.inr ⟨fun z => ?_, rfl⟩
    rcases z.2.2 with ⟨q, -⟩ | ⟨q, -⟩ | q <;> omega
  rw [if_neg (show ¬ (3 : Int32) < nI kd from nI_nlt (a := 3) (b := kd) (by omega) (by decide))]
  rcases rng4 (lo := 1) (hi := 2000) hV (by decide) (by decide) with ⟨hv, -, -, a3, a4⟩ | ⟨hv, -, a34⟩
  rotate_left
  · refine Or.inr ⟨fun z => hv z.1, ?_⟩
    by_cases z1 : nI V < (1 : Int32)
    · rw [if_pos z1]
    · rw [if_neg z1, if_pos (show (2000 : Int32) < nI V from a34.resolve_left z1)]
  rw [if_neg (show ¬ nI V < (1 : Int32) from a3), if_neg (show ¬ (2000 : Int32) < nI V from a4)]
  by_cases hC : cd ≤ 15
  rotate_left
  · rw [if_pos (show (15 : Int32) < nI cd from nI_lt (a := 15) (b := cd) (by omega) (by omega))]
    exact Or.inr ⟨fun z => hC z.2.1, rfl⟩
  rw [if_neg (show ¬ (15 : Int32) < nI cd from nI_nlt (a := 15) (b := cd) hC (by decide))]
  by_cases k1 : kd = 1
  · have e1 : nI kd = (1 : Int32) := by rw [k1]; rfl
    have e2 : ¬ nI kd = (2 : Int32) := by rw [k1]; decide
    rw [if_pos e1]
    rcases rng4 (lo := 0) (hi := 9999) hU (by decide) (by decide) with ⟨hu, -, -, w3, w4⟩ | ⟨hu, -, w34⟩
    · rw [if_neg (show ¬ nI U < (0 : Int32) from w3), if_neg (show ¬ (9999 : Int32) < nI U from w4), if_neg e2, if_pos e1]
      refine Or.inl ⟨⟨hv, hC, Or.inl ⟨k1, hu.2⟩⟩, ?_⟩
      rw [hostCode, if_pos k1]
    · refine Or.inr ⟨fun z => ?_, ?_⟩
      · rcases z.2.2 with ⟨-, q⟩ | ⟨q, -⟩ | q
        · exact hu ⟨Nat.zero_le _, q⟩
        · omega
        · omega
      · by_cases z1 : nI U < (0 : Int32)
        · rw [if_pos z1]
        · rw [if_neg z1, if_pos (show (9999 : Int32) < nI U from w34.resolve_left z1)]
  have n1 : ¬ nI kd = (1 : Int32) := fun z => k1 ((knI hkd (k := 1) (by decide)).mp z)
  rw [if_neg n1]
  by_cases k2 : kd = 2
  · have e2 : nI kd = (2 : Int32) := by rw [k2]; rfl
    rw [if_pos e2]
    rcases rng4 (lo := 1) (hi := 40000) hU (by decide) (by decide) with ⟨hu, -, -, w3, w4⟩ | ⟨hu, -, w34⟩
    · rw [if_neg (show ¬ nI U < (1 : Int32) from w3), if_neg (show ¬ (40000 : Int32) < nI U from w4), if_neg n1, if_pos e2]
      refine Or.inl ⟨⟨hv, hC, Or.inr (Or.inl ⟨k2, hu⟩)⟩, ?_⟩
      rw [hostCode, if_neg k1, if_pos k2]
    · refine Or.inr ⟨fun z => ?_, ?_⟩
      · rcases z.2.2 with ⟨q, -⟩ | ⟨-, q⟩ | q
        · omega
        · exact hu q
        · omega
      · by_cases z1 : nI U < (1 : Int32)
        · rw [if_pos z1]
        · rw [if_neg z1, if_pos (show (40000 : Int32) < nI U from w34.resolve_left z1)]
  have n2 : ¬ nI kd = (2 : Int32) := fun z => k2 ((knI hkd (k := 2) (by decide)).mp z)
  rw [if_neg n2, if_neg n1, if_neg n2]
  refine Or.inl ⟨⟨hv, hC, Or.inr (Or.inr (by omega))⟩, ?_⟩
  rw [hostCode, if_neg k1, if_neg k2]
theorem r_usable {g : Nat} {S T : Mem} (hg : 400 < g) (h : RA S T) : ∃ kd V cd U : Nat, kd ≤ 255 ∧ cd ≤ 255 ∧ V < 2 ^ 32 ∧ U < 2 ^ 32 ∧ f_E_kind g 24 S = some (nI kd, S) ∧ f_E_trace g 24 S = some (lN V, S) ∧ f_E_cardNumber g 24 S = some (nI cd, S) ∧ f_E_value g 24 S = some (lN U, S) ∧ ((f_H_isUsable g 24 S = some (0, S) ∧ f_R_hostTakes g T = some (0, T)) ∨ (f_H_isUsable g 24 S = some (1, S) ∧ usable kd V cd U ∧ f_R_hostTakes g T = bnd (hostCode g T kd V cd U) (fun r T2 => bnd (f_R_send g T2 (nI kd + 128) (nI V) (nI cd) (nI U) r 1) (fun _ T3 => some (1, T3))))) := by
  obtain ⟨kd, hkd, k1, k2⟩ := PIn_nat (m := 255) (h 0 (by decide)) (by decide)
  obtain ⟨cd, hcd, c1, c2⟩ := PIn_nat (m := 255) (h 5 (by decide)) (by decide)
  obtain ⟨V, hV, v1, v2⟩ := r_trace hg h
  obtain ⟨U, hU, u1, u2⟩ := r_value hg h
  have ek : f_E_kind g 24 S = some (nI kd, S) := by rw [← k1]; rfl
  have ec : f_E_cardNumber g 24 S = some (nI cd, S) := by rw [← c1]; rfl
  refine ⟨kd, V, cd, U, hkd, hcd, hV, hU, ek, v1, ec, u1, ?_⟩
  rcases p_usable hkd hcd hV hU ek v1 ec u1 with ⟨a1, a2⟩ | ⟨a1, a2⟩
  · rcases p_takesH hkd hcd hV hU k2 c2 v2 u2 with ⟨b1, b2⟩ | ⟨b1, b2⟩
    · exact Or.inr ⟨a2, a1, b2⟩
    · exact absurd a1 b1
  · rcases p_takesH hkd hcd hV hU k2 c2 v2 u2 with ⟨b1, b2⟩ | ⟨b1, b2⟩
    · exact absurd b1 a1
    · exact Or.inl ⟨a2, b2⟩
