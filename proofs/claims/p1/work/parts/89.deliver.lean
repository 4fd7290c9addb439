/-! a letter is delivered -/
theorem l_come2 {g i : Nat} {x2 : Int32} (hi : i < 24) : ∀ (d k n : Nat) (T : Mem), k + d = 14 → d < n → ∃ T9 : Mem, f_R_come_2 g n T (nI i) x2 (nI k) = some (T9, (nI i, x2)) ∧ (∀ q, q ≠ 29 → T9.1 q = T.1 q) ∧ T9.2 = T.2 ∧ (∀ q, q < 14 → T9.1 29 q = if k ≤ q then T.1 25 (14 * i + q) else T.1 29 q) := by
  intro d
  induction d with
  | zero =>
    intro k n T hk hn
    obtain ⟨n, rfl⟩ : ∃ q, n = q + 1 := ⟨n - 1, by omega⟩
    have : k = 14 := by omega
    subst this
    refine ⟨T, ?_, fun _ _ => rfl, rfl, fun q hq => by rw [if_neg (by omega)]⟩
    rw [f_R_come_2, if_pos (show (14 : Int32) ≤ nI 14 by decide)]
  | succ d ih =>
    intro k n T hk hn
    obtain ⟨n, rfl⟩ : ∃ q, n = q + 1 := ⟨n - 1, by omega⟩
    have h1 : ¬ (nI (14 * i + k) < 0 ∨ 350 ≤ (nI (14 * i + k)).toNatClampNeg) := nI_in (by omega) (by decide)
    have h2 : ¬ (nI k < 0 ∨ 14 ≤ (nI k).toNatClampNeg) := nI_in (by omega) (by decide)
    have c1 : (nI (14 * i + k)).toNatClampNeg = 14 * i + k := nI_clamp (by omega)
    have c2 : (nI k).toNatClampNeg = k := nI_clamp (by omega)
    obtain ⟨T9, a1, a2, a3, a4⟩ := ih (k + 1) n (sI T 29 k (T.1 25 (14 * i + k))) (by omega) (by omega)
    refine ⟨T9, ?_, fun q hq => by rw [a2 q hq, sI_ne hq], a3, fun q hq => ?_⟩
    · rw [f_R_come_2, if_neg (show ¬ (14 : Int32) ≤ nI k from nI_ge (show k < 14 by omega) (by decide)), show (14 : Int32) * nI i = nI (14 * i) from pk_mul 14 i, nI_add, grd_pos h1, grd_pos h2]
      simp only [lt_eq, add1]
      rw [c1, c2]
      exact a1
    · rw [a4 q hq]
      show (if k + 1 ≤ q then T.1 25 (14 * i + q) else upd (T.1 29) k (T.1 25 (14 * i + k)) q) = _
      by_cases e : q = k
      · subst e
        rw [if_neg (by omega), upd_eq, if_pos (Nat.le_refl _)]
      · rw [upd_ne e]
        by_cases e2 : k + 1 ≤ q
        · rw [if_pos e2, if_pos (by omega)]
        · rw [if_neg e2, if_neg (by omega)]
/-- the class's memory with the letter i copied -/
def cpS (S : Mem) (j : Nat) : Mem := sF (sK S 24 (va_cpy (S.2.2.2.2 j) (S.2.2.2.2 24) 0 0 13)) 24 (S.2.2.2.1 j)
theorem p_come {g : Nat} {T T1 : Mem} {x y : Int32} (h : f_R_come_2 g g T x y 0 = some (T1, (x, y))) : f_R_come g T x y = bnd (if y = 0 then f_R_drop g T1 x else some ((), T1)) (fun _ T2 => if T2.1 29 13 = 1 then comeM g T2 else comeH g T2) := by
  have t13 : (13 : Int32).toNatClampNeg = 13 := by decide
  unfold f_R_come
  rw [h, seqM_some, t13]
  by_cases hy : y = 0
  · simp only [if_pos hy]
    rfl
  · simp only [if_neg hy]
    rfl
theorem r_hand {g : Nat} {c : Nat × Nat} {S T : Mem} (hg : 400 < g) (hb1 : c.1 + 40 < 2 ^ 28) (hb2 : c.2 + 40000 < 2 ^ 28) (h : Rel c S T) (ha : RA S T) (hf : (S.2.2.2.1 24 = 1 ∧ T.1 29 13 = 0) ∨ (S.2.2.2.1 24 = 0 ∧ T.1 29 13 = 1)) : Sim (Rel (c.1 + 40, c.2 + 40000)) (f_A_handOver g S) (if T.1 29 13 = 1 then comeM g T else comeH g T) := by
  unfold f_A_handOver
  rcases hf with ⟨h1, h2⟩ | ⟨h1, h2⟩
  · obtain ⟨r, X, Y, x1, x2, x3⟩ := r_host hg h ha
    rw [if_neg (show ¬ S.2.2.2.1 24 = 0 by rw [h1]; decide), if_neg (show ¬ T.1 29 13 = 1 by rw [h2]; decide), x1, x2, bnd_some]
    exact Sim.ret (x3.mono (Nat.le_add_right _ _) (Nat.le_add_right _ _))
  · obtain ⟨r, X, Y, x1, x2, x3⟩ := r_mach hg hb1 hb2 h ha
    rw [if_pos h1, if_pos h2, x1, x2, bnd_some]
    exact Sim.ret x3
theorem r_copy {g i n : Nat} {c : Nat × Nat} {S T : Mem} (hg : 400 < g) (h : Rel c S T) (l1 : n ≤ 24) (l2 : S.1 0 0 = nI n) (l3 : T.1 26 0 = nI n) (hi : i < n) (x2 : Int32) : ∃ S1 T1 : Mem, f_N_copyTo g 24 S (nI i) = some ((), S1) ∧ f_R_come_2 g g T (nI i) x2 0 = some (T1, (nI i, x2)) ∧ S1.1 = S.1 ∧ Rel c S1 T1 ∧ RA S1 T1 ∧ ((S1.2.2.2.1 24 = 1 ∧ T1.1 29 13 = 0) ∨ (S1.2.2.2.1 24 = 0 ∧ T1.1 29 13 = 1)) := by
  obtain ⟨n', j1, j2, j3, l4, l5, l6, l7⟩ := h.2.1
  have hn' : n' = n := (nI_eq (by omega) (by omega)).mp (j2.symm.trans l2)
  subst hn'
  obtain ⟨T1, a1, a2, a3, a4⟩ := l_come2 (g := g) (i := i) (x2 := x2) (by omega) 14 0 g T (by omega) (by omega)
  have hgi : ¬ (nI i < 0 ∨ 24 ≤ (nI i).toNatClampNeg) := nI_in (by omega) (by decide)
  have ei : (nI i).toNatClampNeg = i := nI_clamp (by omega)
  have hj := l5 i (by omega)
  obtain ⟨b1, b2⟩ := l7 i hi
  have hf : S.2.2.2.1 (S.2.2.1 i) = 0 ∨ S.2.2.2.1 (S.2.2.1 i) = 1 := by
    rcases b2 with ⟨z, -⟩ | ⟨z, -⟩
    · exact Or.inr z
    · exact Or.inl z
  refine ⟨cpS S (S.2.2.1 i), T1, ?_, a1, rfl, ?_, ?_, ?_⟩
  · unfold f_N_copyTo
    rw [p_has, l2, if_neg (nI_pos (by omega)), if_neg (nI_ge hi (by omega)), bnd_some, if_neg d10, grd_pos hgi, ei, lt_eq, grd_pos (show S.2.2.1 i < 25 by omega)]
    unfold f_E_copyFrom
    rw [lt_eq]
    have e : (sK S 24 (va_cpy (S.2.2.2.2 (S.2.2.1 i)) (S.2.2.2.2 24) 0 0 13)).2.2.2.1 (S.2.2.1 i) = S.2.2.2.1 (S.2.2.1 i) := rfl
    rw [e, grd_pos hf, lt_eq, bnd_some]
    rfl
  · refine h.line (S2 := cpS S (S.2.2.1 i)) (T2 := T1) (fun _ _ _ => rfl) rfl (fun k _ _ _ q => a2 k q) (by rw [a3]) ⟨n', j1, j2, ?_, ?_, l5, l6, fun q hq => ?_⟩
    · rw [a2 _ (by decide)]; exact j3
    · rw [a2 _ (by decide)]; exact l4
    · have hid : S.2.2.1 q ≠ 24 := by
        have := l5 q (by omega)
        omega
      show (∀ k, k < 13 → PIn 0 255 (va_up S.2.2.2.2 24 (va_cpy (S.2.2.2.2 (S.2.2.1 i)) (S.2.2.2.2 24) 0 0 13) (S.2.2.1 q) k) (T1.1 25 (14 * q + k))) ∧ ((upd S.2.2.2.1 24 (S.2.2.2.1 (S.2.2.1 i)) (S.2.2.1 q) = 1 ∧ T1.1 25 (14 * q + 13) = 0) ∨ (upd S.2.2.2.1 24 (S.2.2.2.1 (S.2.2.1 i)) (S.2.2.1 q) = 0 ∧ T1.1 25 (14 * q + 13) = 1))
      rw [vu_ne hid, upd_ne hid, a2 _ (by decide)]
      exact l7 q hq
  · intro k hk
    show PIn 0 255 (va_up S.2.2.2.2 24 (va_cpy (S.2.2.2.2 (S.2.2.1 i)) (S.2.2.2.2 24) 0 0 13) 24 k) (T1.1 29 k)
    rw [vu_eq, pk_cpy_in (Nat.zero_le k) (by omega), a4 k (by omega), if_pos (Nat.zero_le k), Nat.zero_add, Nat.sub_zero]
    exact b1 k hk
  · show (upd S.2.2.2.1 24 (S.2.2.2.1 (S.2.2.1 i)) 24 = 1 ∧ T1.1 29 13 = 0) ∨ (upd S.2.2.2.1 24 (S.2.2.2.1 (S.2.2.1 i)) 24 = 0 ∧ T1.1 29 13 = 1)
    rw [upd_eq, a4 13 (by decide), if_pos (Nat.zero_le 13)]
    exact b2
theorem fly_eq {c : Nat × Nat} {S T : Mem} (h : Rel c S T) : T.1 26 0 = S.1 0 0 := by
  obtain ⟨n, -, l2, l3, -⟩ := h.2.1
  rw [l2, l3]
theorem op_twice {g : Nat} {c : Nat × Nat} {S T : Mem} (hg : 400 < g) (hb1 : c.1 + 40 < 2 ^ 28) (hb2 : c.2 + 40000 < 2 ^ 28) (h : Rel c S T) (x : Int32) : Sim (Rel (c.1 + 40, c.2 + 40000)) (f_A_twice g S x) (f_R_twice g T x) := by
  obtain ⟨hH, ⟨n, l1, l2, l3, l4, l5, l6, l7⟩, hN, hJ, hM, hI⟩ := id h
  have up : Rel (c.1 + 40, c.2 + 40000) S T := h.mono (Nat.le_add_right _ _) (Nat.le_add_right _ _)
  unfold f_A_twice f_R_twice
  rw [p_has, p_isLetter, bnd_some, bnd_some, l2, l3]
  by_cases h1 : x < 0
  · rw [if_pos h1, if_pos rfl, if_pos rfl]; exact Sim.ret up
  by_cases h2 : nI n ≤ x
  · rw [if_neg h1, if_pos h2, if_pos rfl, if_pos rfl]; exact Sim.ret up
  obtain ⟨i, hi, rfl⟩ := ex_nI h1 (nle_lt (by omega) h2) (by omega)
  obtain ⟨S1, T1, a1, a2, -, a3, a4, a5⟩ := r_copy (g := g) hg h l1 l2 l3 hi 1
  obtain ⟨r, X, Y, x1, x2, x3⟩ := r_hand hg hb1 hb2 a3 a4 a5
  rw [if_neg h1, if_neg h2, if_neg d10, if_neg d10, a1, bnd_some, x1, bnd_some, p_come a2, if_neg d10, bnd_some, x2, bnd_some, fly_eq x3]
  exact Sim.ret x3
theorem op_deliver {g : Nat} {c : Nat × Nat} {S T : Mem} (hg : 400 < g) (hb1 : c.1 + 40 < 2 ^ 28) (hb2 : c.2 + 40000 < 2 ^ 28) (h : Rel c S T) (x : Int32) : Sim (Rel (c.1 + 40, c.2 + 40000)) (f_A_deliver g S x) (f_R_deliver g T x) := by
  obtain ⟨hH, ⟨n, l1, l2, l3, l4, l5, l6, l7⟩, hN, hJ, hM, hI⟩ := id h
  have up : Rel (c.1 + 40, c.2 + 40000) S T := h.mono (Nat.le_add_right _ _) (Nat.le_add_right _ _)
  unfold f_A_deliver f_R_deliver
  rw [p_has, p_isLetter, bnd_some, bnd_some, l2, l3]
  by_cases h1 : x < 0
  · rw [if_pos h1, if_pos rfl, if_pos rfl]; exact Sim.ret up
  by_cases h2 : nI n ≤ x
  · rw [if_neg h1, if_pos h2, if_pos rfl, if_pos rfl]; exact Sim.ret up
  obtain ⟨i, hi, rfl⟩ := ex_nI h1 (nle_lt (by omega) h2) (by omega)
  obtain ⟨S1, T1, a1, a2, a0, a3, a4, a5⟩ := r_copy (g := g) hg h l1 l2 l3 hi 0
  obtain ⟨n', y1, y2, y3, y4, y5, y6, y7⟩ := a3.2.1
  have hn' : i < n' := by
    rw [a0] at y2
    have e : n' = n := (nI_eq (by omega) (by omega)).mp (y2.symm.trans l2)
    rw [e]
    exact hi
  obtain ⟨S2, T2, k1, k2, k3, k4, k5, k6, k7, k8, k9, k10⟩ := r_remove (g := g) (S := S1) hg y1 y2 y3 y4 y5 y6 y7 hn'
  have hR : Rel c S2 T2 := a3.line (fun k q1 _ => k5 k q1) k6 (fun k q1 q2 _ _ => k8 k q1 q2) (by rw [k9]) k10
  have hA : RA S2 T2 := fun k hk => by
    rw [k7, k8 _ (by decide) (by decide)]
    exact a4 k hk
  have hF : (S2.2.2.2.1 24 = 1 ∧ T2.1 29 13 = 0) ∨ (S2.2.2.2.1 24 = 0 ∧ T2.1 29 13 = 1) := by
    rw [k7, k8 _ (by decide) (by decide)]
    exact a5
  obtain ⟨r, X, Y, x1, x2, x3⟩ := r_hand hg hb1 hb2 hR hA hF
  rw [if_neg h1, if_neg h2, if_neg d10, if_neg d10, a1, bnd_some, k1, bnd_some, x1, bnd_some, p_come a2, if_pos rfl, k2, bnd_some, x2, bnd_some, fly_eq x3]
  exact Sim.ret x3
