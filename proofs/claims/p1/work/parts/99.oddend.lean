/-! THE STATEMENT IS FALSE at the odd start: there the law returns, and answers 0 -/
theorem en_len {t : State} {below : List Frame} {v : Option Value} (h : Ended t below (.returned v)) : t.frames.length = below.length := by
  unfold Ended at h
  cases below with
  | nil => rw [h.2]
  | cons f r => cases f <;> first | (obtain ⟨c, i, len, _, _, hf⟩ := h; rw [hf]; rfl) | (rw [h.2]; done) | (rw [h]; rfl)
theorem en_uni {t : State} {below : List Frame} {v u : Option Value} (h : Ended t below (.returned v)) (g : Ended t below (.returned u)) : v = u := by
  have key : ∀ {a b : Option Value} {l : List Value}, a.toList ++ l = b.toList ++ l → a = b := by
    intro a b l e
    have e2 := List.append_cancel_right e
    cases a <;> cases b <;> simp_all
  unfold Ended at h g
  cases below with
  | nil => rw [h.1, g.1]
  | cons f r =>
    cases f <;> first
      | (obtain ⟨c, i, len, _, _, hf⟩ := h
         obtain ⟨c2, i2, len2, _, _, gf⟩ := g
         have e := hf.symm.trans gf
         injection e with e1 e2
         injection e1 with e3
         injection e3 with _ _ _ e4
         exact key e4)
      | (rw [h.1, g.1]; done)
      | (have e := h.symm.trans g
         simp at e
         exact e)
theorem in_len {t : State} {below : List Frame} (h : Within t below) : below.length < t.frames.length := by
  unfold Within at h
  obtain ⟨ab, h1, h2, -⟩ := h
  rw [h1, List.length_append]
  have : 0 < ab.length := List.length_pos_iff.mpr h2
  omega
def od_xs : Nat → Int32 := fun j => if j = 0 then 17 else 0
theorem od_law {f16 f2001 : Nat → Int32} {R1 : Mem} (h8 : R1.1 8 0 = 10) : f_L_law 5000 4 od_xs (S0cz f16 f2001, R1) = some (0, (S0cz f16 f2001, R1)) := by
  have eA : f_A_cassette 5000 (S0cz f16 f2001) (od_xs ((0 : Int32) + 1).toNatClampNeg) (od_xs ((0 : Int32) + 2).toNatClampNeg) = some (0, S0cz f16 f2001) := rfl
  have eR : f_R_cassette 5000 R1 (od_xs ((0 : Int32) + 1).toNatClampNeg) (od_xs ((0 : Int32) + 2).toNatClampNeg) = some (10, R1) := by
    rw [show f_R_cassette 5000 R1 (od_xs ((0 : Int32) + 1).toNatClampNeg) (od_xs ((0 : Int32) + 2).toNatClampNeg) = some (R1.1 8 0, R1) from rfl, h8]
  have hx : od_xs ((0 : Int32).toNatClampNeg) &&& 31 = 17 := by decide
  have e : f_L_18 5000 4 od_xs 5000 (S0cz f16 f2001, R1) 0 = some (.inl (0, (S0cz f16 f2001, R1))) := by
    rw [f_L_18, if_neg (by decide), grd_pos (by decide), lt_eq, hx]
    rw [if_neg (by decide), if_neg (by decide), if_neg (by decide), if_neg (by decide), if_neg (by decide), if_neg (by decide), if_neg (by decide), if_neg (by decide), if_neg (by decide), if_neg (by decide), if_neg (by decide), if_neg (by decide), if_neg (by decide), if_neg (by decide), if_neg (by decide), if_neg (by decide), if_neg (by decide), if_pos rfl]
    rw [grd_pos (show ¬ ((0 : Int32) + 1 < 0 ∨ 4 ≤ ((0 : Int32) + 1).toNatClampNeg) by decide), grd_pos (show ¬ ((0 : Int32) + 2 < 0 ∨ 4 ≤ ((0 : Int32) + 2).toNatClampNeg) by decide), eA, bnd_some, grd_pos (show ¬ ((0 : Int32) + 1 < 0 ∨ 4 ≤ ((0 : Int32) + 1).toNatClampNeg) by decide), grd_pos (show ¬ ((0 : Int32) + 2 < 0 ∨ 4 ≤ ((0 : Int32) + 2).toNatClampNeg) by decide), eR, bnd_some, if_neg (show ¬ (0 : Int32) = 10 by decide)]
  unfold f_L_law
  rw [e, seqR_l]
theorem od_hO (t : Nat) (cell : Cell) (h1 : (Term.static "AutoTeller" "FIRST_DENOMINATIONS" "[I").eval #[Value.ref 0] od none [] od = some (.ref t)) (h2 : od.heap[t]? = some cell) : cell.vm.isStatics = false ∧ od.vm.findClass "Odd" = some cell.cls := by
  have e1 : (Term.static "AutoTeller" "FIRST_DENOMINATIONS" "[I").eval #[Value.ref 0] od none [] od = some (.ref 2) := by decide +kernel
  cases e1.symm.trans h1
  have e2 : od.heap[2]? = some od_cell := rfl
  cases e2.symm.trans h2
  exact ⟨rfl, by decide +kernel⟩
theorem od_hW : ∀ w ∈ od_ws, ∀ a, w.before a od = true := fun w hw a => word_at (State.WarmedH.refl od) (od_good w hw) (List.all_eq_true.mp od_wo w hw)
def od_P (args : Array Value) (s : State) : Prop := args = #[.ref 0] ∧ s = od
set_option maxHeartbeats 4000000 in
theorem od_walk (l : Launch) : MetFree l x (headSpec (Jvm.Cond.code x code maxLocals ret :: tables_1) room_1) od_P (fun _ _ _ _ _ => True) (fun _ _ o _ => o = .returned (some (.int 0))) := by
  refine MetFree.of_bodyS (code := code) (maxLocals := maxLocals) (ret := ret) (by decide) ?_ ?_
  · intro args s m h hn
    obtain ⟨meth, c, h1, h2, h3, h4, h5, h6, -, -⟩ := Cond.code_spec hn (atoms_spec (ws := Jvm.Cond.code x code maxLocals ret :: tables_1) h _ List.mem_cons_self)
    exact ⟨meth, c, h1, h2, h3, h4, h5, h6⟩
  · intro p e s m args below meth c s₁ B hml0 hP _
    obtain ⟨rfl, rfl⟩ := hP
    have hown : od.vm.findClass R_law = some m.cls := findClass_of_methodNamed B.named
    have hts0 : ∀ c ∈ (Jvm.Cond.code x code maxLocals ret :: tables_1), c.before #[Value.ref 0] od = true := atoms_spec (ws := Jvm.Cond.code x code maxLocals ret :: tables_1) B.pre
    have hts : ∀ w ∈ lw_tbl, w.before #[Value.ref 0] od = true := k2_hts_sels lw_privs (fun w hw => hts0 w (List.mem_cons_of_mem _ hw)) lw_privs_ok
    have hml : c.maxLocals = 4 := B.maxLocals_eq (hts0 _ List.mem_cons_self)
    have X₀ : Stand p l e room_1 od m #[Value.ref 0] below meth c s₁ [] 0 0 := Stand.of_body B
    have hh0 : s₁.heap = od.heap := by rw [B.state]; rfl
    have hX : va_X 0 4 od_xs od od.heap := by
      refine ⟨{ cls := 15, slots := #[.int 17, .int 0, .int 0, .int 0], vm := .none }, rfl, ⟨fun k h => (by cases h), _, rfl, _, rfl⟩, (fun h => by cases h), rfl, fun j hj => ?_⟩
      rcases j4 hj with rfl | rfl | rfl | rfl <;> rfl
    have hgv : (Jvm.Cond.and given_1 narrow_1).before #[Value.ref 0] od = true := by decide +kernel
    have K : W p l e room_1 od m #[Value.ref 0] below meth c s₁.heap [] 0 0 (lw_Z0 below #[Value.ref 0] od) (entryFrame m ([Value.ref 0] : List Value).toArray 4) := by
      rw [hh0]
      obtain ⟨F16, a1, a2⟩ := start16 5000 (by decide)
      obtain ⟨F2001, b1, b2⟩ := start2001 5000 (by decide)
      obtain ⟨R1, c1, c2, c3, c4, c5, c6, c7⟩ := startR 5000 (by decide)
      exact odd_walk l ⟨B.exec, B.bytes, B.returns, hml, hown, hts, hX, (show 0 < od.heap.size by decide +kernel), B.notSynchronized, hgv⟩ od_hO od_hW 5000 a1 b1 c1 (od_law c5.1)
    obtain ⟨t, a1, o, b1, b2, b3⟩ := K s₁ rfl X₀
    exact ⟨t, o, a1, b1, b2, b3⟩
/-- at the odd start the law returns 0 -/
theorem od_comes : ∃ (n : Nat) (o : Outcome), (∀ k, k < n → Within (stepsAlone start1.p0.tables start1.e0 k od) Lib.HandBits.below0) ∧ (stepsAlone start1.p0.tables start1.e0 n od).status = Status.running ∧ Ended (stepsAlone start1.p0.tables start1.e0 n od) Lib.HandBits.below0 o ∧ o = .returned (some (.int 0)) := by
  obtain ⟨h1, h2, h3, h4, h5, h6, h7, h8, h9, h10, h11, h12, h13⟩ := od_start
  obtain ⟨k, o, a1, a2, a3, hQ⟩ := od_walk launch0 start1.p0 start1.e0 h3 h5 h6 od ⟨0, 0⟩ start1.args0 Lib.HandBits.below0 h7 ((Spec.applies_iff_loose h7).mp h10).1 ⟨rfl, rfl⟩ trivial
  exact ⟨k, o, a1, a2, a3, hQ⟩
/-- THE STATEMENT OF p1 IS FALSE -/
theorem p1_refuted : ¬ (Claimed_1_1 ∧ Claimed_1_2) := by
  rintro ⟨-, hC⟩
  obtain ⟨h1, h2, h3, h4, h5, h6, h7, h8, h9, h10, h11, h12, h13⟩ := od_start
  obtain ⟨n, o, a1, a2, a3, a4⟩ := hC launch0 rfl h1 h2 start1.p0 start1.e0 h3 h5 h6 od ⟨0, 0⟩ start1.args0 Lib.HandBits.below0 h7 h8 h9 h10 ⟨h11, h12, h13⟩
  obtain ⟨k, o2, b1, b2, b3, b4⟩ := od_comes
  subst b4
  have hlim : limb_1_2.after start1.args0 od o (stepsAlone start1.p0.tables start1.e0 n od) = true := a4.1
  cases o with
  | threw a => simp [limb_1_2, Cond.after, Cond.holds, Cond.value, Term.eval] at hlim
  | returned v =>
    have e : n = k := by
      rcases Nat.lt_trichotomy n k with z | z | z
      · exact absurd (en_len a3) (by have := in_len (b1 n z); omega)
      · exact z
      · exact absurd (en_len b3) (by have := in_len (a1 k z); omega)
    subst e
    have ev := en_uni a3 b3
    subst ev
    simp [limb_1_2, Cond.after, Cond.holds, Cond.value, Term.eval] at hlim
