def sg (i n q : Nat) : Nat := if q = n - 1 then i else if i ≤ q ∧ q < n - 1 then q + 1 else q
theorem sg_lt {i n q : Nat} (hi : i < n) (hn : n ≤ 24) (hq : q < 24) : sg i n q < 24 := by
  unfold sg
  split
  · omega
  · split <;> omega
theorem sg_inj {i n a b : Nat} (hi : i < n) (h : sg i n a = sg i n b) : a = b := by
  unfold sg at h
  split at h <;> split at h <;> (try split at h) <;> (try split at h) <;> omega
theorem r_remove {g n i : Nat} {S T : Mem} (hg : 400 < g) (l1 : n ≤ 24) (l2 : S.1 0 0 = nI n) (l3 : T.1 26 0 = nI n) (l4 : S.1 1 0 = T.1 28 0) (l5 : ∀ i, i < 24 → S.2.2.1 i < 24) (l6 : ∀ i j, i < 24 → j < 24 → S.2.2.1 i = S.2.2.1 j → i = j) (l7 : ∀ i, i < n → (∀ k, k < 13 → PIn 0 255 (S.2.2.2.2 (S.2.2.1 i) k) (T.1 25 (14 * i + k))) ∧ ((S.2.2.2.1 (S.2.2.1 i) = 1 ∧ T.1 25 (14 * i + 13) = 0) ∨ (S.2.2.2.1 (S.2.2.1 i) = 0 ∧ T.1 25 (14 * i + 13) = 1))) (hi : i < n) :
    ∃ S2 T2 : Mem, f_N_remove g S (nI i) = some ((), S2) ∧ f_R_drop g T (nI i) = some ((), T2) ∧ S2.1 0 0 = nI (n - 1) ∧ T2.1 26 0 = nI (n - 1) ∧ (∀ k, k ≠ 0 → S2.1 k = S.1 k) ∧ S2.2.1 = S.2.1 ∧ S2.2.2.2 = S.2.2.2 ∧ (∀ k, k ≠ 25 → k ≠ 26 → T2.1 k = T.1 k) ∧ T2.2 = T.2 ∧ RL S2 T2 := by
  have hgi : ¬ (nI i < 0 ∨ 24 ≤ (nI i).toNatClampNeg) := nI_in (by omega) (by decide)
  have ei : (nI i).toNatClampNeg = i := nI_clamp (by omega)
  have h1 : ¬ nI i < 0 := nI_pos (by omega)
  have h2 : ¬ nI n ≤ nI i := nI_ge (by omega) (by omega)
  have hj : S.2.2.1 i < 25 := by have := l5 i (by omega); omega
  obtain ⟨S9, a1, a2, a3, a4, a5⟩ := l_remove (g := g) (j2 := S.2.2.1 i) (m := n) (by omega) l1 (n - 1 - i) i g S (by omega) (by omega) l2 l5
  have hf9 : S9.1 0 0 - 1 = nI (n - 1) := by rw [a2, l2, nI_m1 (by omega)]
  have hgn : ¬ (nI (n - 1) < 0 ∨ 24 ≤ (nI (n - 1)).toNatClampNeg) := nI_in (by omega) (by decide)
  have en : (nI (n - 1)).toNatClampNeg = n - 1 := nI_clamp (by omega)
  obtain ⟨T9, b1, b2, b3, b4⟩ := l_drop (g := g) (m := n - 1) (by omega) (14 * (n - 1) - 14 * i) (14 * i) g (sI T 26 0 (nI (n - 1))) (by omega) (by omega) rfl
  have hG : ∀ q, va_up S9.2.2.1 (n - 1) (S.2.2.1 i) q = S.2.2.1 (sg i n q) := by
    intro q
    unfold va_up sg
    by_cases e1 : q = n - 1
    · rw [if_pos e1, if_pos e1]
    · rw [if_neg e1, if_neg e1, a5 q]
      by_cases e2 : i ≤ q ∧ q < n - 1
      · rw [if_pos e2, if_pos e2]
      · rw [if_neg e2, if_neg e2]
  refine ⟨sG (sI S9 0 0 (nI (n - 1))) (n - 1) (S.2.2.1 i), T9, ?_, ?_, rfl, ?_, fun k hk => ?_, a3, a4, fun k q1 q2 => ?_, b3, n - 1, by omega, rfl, ?_, ?_, fun q hq => ?_, fun p q hp hq e => ?_, fun q hq => ⟨fun k hk => ?_, ?_⟩⟩
  · unfold f_N_remove
    simp only [grd_pos hgi, p_has, bnd_some, l2]
    simp only [h1, h2, e10, ↓reduceIte]
    rw [ei]
    simp only [lt_eq]
    rw [grd_pos hj, a1]
    simp only [seqM_some, hf9]
    have e0 : (sI S9 0 0 (nI (n - 1))).1 0 0 = nI (n - 1) := rfl
    rw [e0, grd_pos hgn, en]
  · unfold f_R_drop
    simp only [lt_eq]
    rw [l3, nI_m1 (by omega), show (14 : Int32) * nI i = nI (14 * i) from pk_mul 14 i, b1]
    rfl
  · rw [b2 _ (by decide)]
    rfl
  · show (sI S9 0 0 (nI (n - 1))).1 k = S.1 k
    rw [sI_ne hk, a2]
  · rw [b2 k q1, sI_ne q2]
  · rw [b2 _ (by decide)]
    rfl
  · show S9.1 1 0 = _
    rw [a2, b2 _ (by decide)]
    exact l4
  · show va_up S9.2.2.1 (n - 1) (S.2.2.1 i) q < 24
    rw [hG]
    exact l5 _ (sg_lt hi l1 hq)
  · have e' : va_up S9.2.2.1 (n - 1) (S.2.2.1 i) p = va_up S9.2.2.1 (n - 1) (S.2.2.1 i) q := e
    rw [hG, hG] at e'
    exact sg_inj hi (l6 _ _ (sg_lt hi l1 hp) (sg_lt hi l1 hq) e')
  · show PIn 0 255 (S9.2.2.2.2 (va_up S9.2.2.1 (n - 1) (S.2.2.1 i) q) k) (T9.1 25 (14 * q + k))
    rw [hG, a4, b4]
    have e1 : (sI T 26 0 (nI (n - 1))).1 25 = T.1 25 := rfl
    rw [e1]
    unfold sg
    rw [if_neg (by omega)]
    by_cases e2 : i ≤ q ∧ q < n - 1
    · rw [if_pos e2, if_pos (by omega), show 14 * q + k + 14 = 14 * (q + 1) + k by omega]
      exact (l7 (q + 1) (by omega)).1 k hk
    · rw [if_neg e2, if_neg (by omega)]
      exact (l7 q (by omega)).1 k hk
  · show (S9.2.2.2.1 (va_up S9.2.2.1 (n - 1) (S.2.2.1 i) q) = 1 ∧ T9.1 25 (14 * q + 13) = 0) ∨ (S9.2.2.2.1 (va_up S9.2.2.1 (n - 1) (S.2.2.1 i) q) = 0 ∧ T9.1 25 (14 * q + 13) = 1)
    rw [hG, a4, b4]
    have e1 : (sI T 26 0 (nI (n - 1))).1 25 = T.1 25 := rfl
    rw [e1]
    unfold sg
    rw [if_neg (by omega)]
    by_cases e2 : i ≤ q ∧ q < n - 1
    · rw [if_pos e2, if_pos (by omega), show 14 * q + 13 + 14 = 14 * (q + 1) + 13 by omega]
      exact (l7 (q + 1) (by omega)).2
    · rw [if_neg e2, if_neg (by omega)]
      exact (l7 q (by omega)).2
theorem op_lose {g : Nat} {c : Nat × Nat} {S T : Mem} (hg : 400 < g) (h : Rel c S T) (x : Int32) : Sim (Rel c) (f_A_lose g S x) (f_R_lose g T x) := by
  obtain ⟨hH, ⟨n, l1, l2, l3, l4, l5, l6, l7⟩, hN, hJ, hM, hI⟩ := id h
  unfold f_A_lose f_R_lose
  simp only [p_has, p_isLetter, bnd_some, l2, l3]
  by_cases h1 : x < 0
  · simp only [h1, ↓reduceIte]; exact Sim.ret h
  by_cases h2 : nI n ≤ x
  · simp only [h1, h2, ↓reduceIte]; exact Sim.ret h
  obtain ⟨i, hi, rfl⟩ := ex_nI h1 (nle_lt (by omega) h2) (by omega)
  obtain ⟨S2, T2, k1, k2, k3, k4, k5, k6, k7, k8, k9, k10⟩ := r_remove hg l1 l2 l3 l4 l5 l6 l7 hi
  simp only [h1, h2, e10, ↓reduceIte, k1, k2, bnd_some, k3, k4]
  exact Sim.ret (h.line (fun k q1 _ => k5 k q1) k6 (fun k q1 q2 _ _ => k8 k q1 q2) (by rw [k9]) k10)
