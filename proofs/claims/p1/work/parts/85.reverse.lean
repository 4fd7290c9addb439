/-! what holds between calls, after a record; the reversal -/
def I4 (S T : Mem) : Prop := ∀ n : Nat, n ≤ 300 → 0 < n → S.1 36 0 = nI n → (S.1 32 (n - 1) = 1 ∨ S.1 32 (n - 1) = 2 ∨ S.1 32 (n - 1) = 4) → ∃ b : Nat, b < n ∧ S.1 32 b = 1 ∧ (∀ i, b < i → i < n → S.1 32 i ≠ 1) ∧ T.1 14 (5 * b + 4) = S.1 17 0 ∧ (S.1 32 (n - 1) ≠ 2 → S.1 16 0 ≤ S.1 17 0)
/-- the last record 1, and how often the shutter had opened then -/
def Bg (n : Nat) (S T : Mem) : Prop := ∃ b : Nat, b < n ∧ S.1 32 b = 1 ∧ (∀ i, b < i → i < n → S.1 32 i ≠ 1) ∧ T.1 14 (5 * b + 4) = S.1 17 0
theorem INV.i4 {S T : Mem} (h : INV S T) : I4 S T := h.2.2.2
theorem INV.off {S T : Mem} (h : S.1 11 0 = 0) (h4 : I4 S T) : INV S T := by
  have z : ¬ S.1 11 0 = 1 := by rw [h]; decide
  exact ⟨fun q => absurd q z, fun q => absurd q z, fun q => absurd q z, h4⟩
theorem I4.keep {S T S2 T2 : Mem} (h : I4 S T) (e1 : S2.1 36 0 = S.1 36 0) (e2 : S2.1 32 = S.1 32) (e3 : S2.1 16 0 = S.1 16 0) (e4 : S2.1 17 0 = S.1 17 0) (e5 : T2.1 14 = T.1 14) : I4 S2 T2 := by
  intro n h1 h2 h3 h4
  rw [e1] at h3
  rw [e2] at h4
  obtain ⟨b, b1, b2, b3, b4, b5⟩ := h n h1 h2 h3 h4
  rw [e2, e3, e4, e5]
  exact ⟨b, b1, b2, b3, b4, b5⟩
theorem I4.bg {n : Nat} {S T : Mem} (h : I4 S T) (h1 : n ≤ 300) (h2 : 0 < n) (h3 : S.1 36 0 = nI n) (h4 : S.1 32 (n - 1) = 1 ∨ S.1 32 (n - 1) = 2 ∨ S.1 32 (n - 1) = 4) : Bg n S T := by
  obtain ⟨b, b1, b2, b3, b4, -⟩ := h n h1 h2 h3 h4
  exact ⟨b, b1, b2, b3, b4⟩
theorem I4.wr {n : Nat} {S T S2 T2 : Mem} {kd : Int32} (hn : n < 300) (h2 : S2.1 36 0 = nI (n + 1)) (k1 : S2.1 32 n = kd) (k2 : ∀ i, i ≠ n → S2.1 32 i = S.1 32 i) (hr : ∀ q, q < 5 * n → T2.1 14 q = T.1 14 q) (e4 : S2.1 17 0 = S.1 17 0) (h1 : kd ≠ 1) (hB : kd = 2 ∨ kd = 4 → Bg n S T) (hO : kd = 4 → S2.1 16 0 ≤ S2.1 17 0) : I4 S2 T2 := by
  intro m m1 m2 m3 m4
  have hm : m = n + 1 := (nI_eq (by omega) (by omega)).mp (m3.symm.trans h2)
  subst hm
  rw [Nat.add_sub_cancel, k1] at m4 ⊢
  have hkd : kd = 2 ∨ kd = 4 := by
    rcases m4 with z | z | z
    · exact absurd z h1
    · exact Or.inl z
    · exact Or.inr z
  obtain ⟨b, b1, b2, b3, b4⟩ := hB hkd
  refine ⟨b, by omega, by rw [k2 b (by omega)]; exact b2, fun i q1 q2 => ?_, by rw [hr _ (by omega), e4]; exact b4, fun z => hO (hkd.resolve_left z)⟩
  by_cases e : i = n
  · rw [e, k1]; exact h1
  · rw [k2 i e]; exact b3 i q1 (by omega)
/-- the end of a reversal: the letter goes out -/
theorem r_rev2 {g : Nat} {c : Nat × Nat} {S T : Mem} (hg : 400 < g) (h : Core c S T) (hon : S.1 11 0 = 1) (hc : 0 ≤ (S.1 20 0).toInt ∧ (S.1 20 0).toInt ≤ 15) (hI : I4 S T) : Sim (Rel c) (bnd (f_M_send g S (3 : Int32) (S.1 21 0)) (fun r26 S27 => if r26 = 0 then (some ((), S27)) else (lt (sI S27 14 0 (-1 : Int32)) (fun S30 => lt (sI S30 13 0 (5 : Int32)) (fun S31 => some ((), S31)))))) (bnd (f_R_sendStep g T (3 : Int32) (T.1 24 0)) (fun r26 S27 => if r26 = 0 then (some ((), S27)) else (lt (sI S27 21 0 (-1 : Int32)) (fun S30 => lt (sI S30 20 0 (5 : Int32)) (fun S31 => some ((), S31)))))) := by
  have eA : T.1 24 0 = S.1 21 0 := h.2.2.2.2.2.2.2.2.2.2.2.2.2.2.symm
  obtain ⟨r, S2, T2, s1, s2, s3, s4, s5, s6, s7, s8⟩ := r_send (kd := 3) hg h hon (by decide) hc (S.1 21 0)
  rw [eA, show f_M_send g S (3 : Int32) (S.1 21 0) = some (r, S2) from s1, show f_R_sendStep g T (3 : Int32) (S.1 21 0) = some (r, T2) from s2, bnd_some, bnd_some]
  have hI2 : I4 S2 T2 := hI.keep (by rw [s4 _ (by decide) (by decide) (by decide) (by decide)]) (s4 _ (by decide) (by decide) (by decide) (by decide)) (by rw [s4 _ (by decide) (by decide) (by decide) (by decide)]) (by rw [s4 _ (by decide) (by decide) (by decide) (by decide)]) (s6 _ (by decide) (by decide) (by decide) (by decide) (by decide))
  obtain ⟨hH, hL, hN, hJ, hM⟩ := id s3
  rcases s8 with ⟨rfl, o1⟩ | ⟨rfl, o1⟩
  · rw [if_pos rfl, if_pos rfl]
    exact Sim.ret ⟨hH, hL, hN, hJ, hM, INV.off o1 hI2⟩
  · rw [if_neg d10, if_neg d10]
    obtain ⟨m1, m2, m3, m4, m5, m6⟩ := hM
    have hc2 : 0 ≤ (S2.1 20 0).toInt ∧ (S2.1 20 0).toInt ≤ 15 := by
      rw [s4 _ (by decide) (by decide) (by decide) (by decide)]
      exact hc
    refine Sim.ret ⟨hH, hL, hN, hJ, ⟨m1, m2, m3, ⟨rfl, (show (0 : Int) ≤ (5 : Int32).toInt by decide), (show (5 : Int32).toInt ≤ 5 by decide)⟩, rfl, m6⟩, fun _ z => ?_, fun _ _ => hc2, fun _ z => ?_, hI2⟩
    · have z' : (5 : Int32) = 1 ∨ (5 : Int32) = 2 ∨ (5 : Int32) = 3 ∨ (5 : Int32) = 4 := z
      exact absurd z' (by decide)
    · have z' : (5 : Int32) = 4 := z
      exact absurd z' (by decide)
theorem r_rev0 {g : Nat} {c : Nat × Nat} {S T : Mem} (hg : 400 < g) (h : Core c S T) (hb : c.1 < 2 ^ 28) (hon : S.1 11 0 = 1) (hc : 0 ≤ (S.1 20 0).toInt ∧ (S.1 20 0).toInt ≤ 15) (hI : I4 S T) : Sim (Rel c) (f_M_reverse g S 0) (f_R_reverse g T 0) := by
  obtain ⟨r, r1, r2, r3⟩ := r_stacked hg h.2.2.1 hb
  unfold f_M_reverse f_R_reverse
  rw [if_pos rfl, if_pos rfl, r2, r3, bnd_some, bnd_some]
  rcases r1 with rfl | rfl
  · rw [if_pos rfl, if_pos rfl]
    exact r_rev2 hg h hon hc hI
  · rw [if_neg d10, if_neg d10]
    obtain ⟨r, A, B, s1, s2, s3, s4, s5, s6, s7, s8⟩ := r_step (g := g) h hon
    have hI2 : I4 A B := hI.keep (by rw [s4 _ (by decide) (by decide)]) (s4 _ (by decide) (by decide)) (by rw [s4 _ (by decide) (by decide)]) (by rw [s4 _ (by decide) (by decide)]) (s6 _ (by decide) (by decide))
    rw [s1, s2, bnd_some, bnd_some]
    rcases s8 with ⟨rfl, o1⟩ | ⟨rfl, o1⟩
    · rw [if_pos rfl, if_pos rfl]
      obtain ⟨hH, hL, hN, hJ, hM⟩ := id s3
      exact Sim.ret ⟨hH, hL, hN, hJ, hM, INV.off o1 hI2⟩
    · obtain ⟨m, hm⟩ : ∃ m, g = m + 5 := ⟨g - 5, by omega⟩
      have e := p_bnT g m B
      rw [← hm] at e
      rw [if_neg d10, if_neg d10, p_toBin hg, bnd_some, e, seqM_some, lt_eq]
      refine r_rev2 hg (r_bin s3) o1 ?_ hI2
      show 0 ≤ (A.1 20 0).toInt ∧ (A.1 20 0).toInt ≤ 15
      rw [s4 _ (by decide) (by decide)]
      exact hc
theorem p_rev1 {g : Nat} {S : Mem} : f_M_reverse g S 1 = bnd (f_M_write g S 4) (fun r S46 => if r = 0 then some ((), S46) else f_M_reverse g S46 0) := by
  unfold f_M_reverse
  rw [if_neg d10]
  simp only [↓reduceIte]
theorem p_rev1R {g : Nat} {T : Mem} : f_R_reverse g T 1 = bnd (f_R_record g T 4) (fun r S46 => if r = 0 then some ((), S46) else f_R_reverse g S46 0) := by
  unfold f_R_reverse
  rw [if_neg d10]
  simp only [↓reduceIte]
theorem r_rev1 {g n : Nat} {c : Nat × Nat} {S T : Mem} (hg : 400 < g) (h : Core c S T) (hb : c.1 < 2 ^ 28) (hon : S.1 11 0 = 1) (hc : 0 ≤ (S.1 20 0).toInt ∧ (S.1 20 0).toInt ≤ 15) (hI : I4 S T) (hn : n ≤ 300) (hsz : S.1 36 0 = nI n) (hB : Bg n S T) (hO : S.1 16 0 ≤ S.1 17 0) : Sim (Rel c) (f_M_reverse g S 1) (f_R_reverse g T 1) := by
  obtain ⟨r, S2, T2, w1, w2, w3, w4, w5, w6, w7, w8⟩ := r_write (g := g) (kd := 4) h hon hn hsz (fun z => absurd z (by decide))
  rw [p_rev1, p_rev1R, w1, w2, bnd_some, bnd_some]
  have f16 : S2.1 16 = S.1 16 := w4 _ (by decide) (by decide) (by decide) (by decide) (by decide) (by decide) (by decide)
  have f17 : S2.1 17 = S.1 17 := w4 _ (by decide) (by decide) (by decide) (by decide) (by decide) (by decide) (by decide)
  have f20 : S2.1 20 = S.1 20 := w4 _ (by decide) (by decide) (by decide) (by decide) (by decide) (by decide) (by decide)
  rcases w8 with ⟨rfl, o1, o2, o3, o4⟩ | ⟨rfl, o1, o2⟩
  · rw [if_pos rfl, if_pos rfl]
    obtain ⟨hH, hL, hN, hJ, hM⟩ := id w3
    exact Sim.ret ⟨hH, hL, hN, hJ, hM, INV.off o1 (hI.keep (o2.trans hsz.symm) o3 (by rw [f16]) (by rw [f17]) o4)⟩
  · rw [if_neg d10, if_neg d10]
    refine r_rev0 hg w3 hb o1 (by rw [f20]; exact hc) ?_
    rcases o2 with ⟨-, q1, q2, q3⟩ | ⟨p1, p2, p3, p4, p5, p6⟩
    · exact hI.keep (q1.trans hsz.symm) q2 (by rw [f16]) (by rw [f17]) q3
    · exact I4.wr p1 p2 p3 p4 p6 (by rw [f17]) (by decide) (fun _ => hB) (fun _ => by rw [f16, f17]; exact hO)
