/-! the start, and the whole over the wanting premise -/
theorem rel0 {f16 f2001 : Nat → Int32} {R1 : Mem} (h16 : ∀ j, j < 16 → f16 j = -1) (h2001 : ∀ j, j < 2001 → f2001 j = -1) (r0 : ∀ j, j < 16 → R1.1 0 j = -1) (r3 : ∀ j, j < 2001 → R1.1 3 j = -1) (r4 : ∀ j, j < 2001 → R1.1 4 j = -1) (r8 : R1.1 8 0 = 10 ∧ R1.1 8 1 = 20 ∧ R1.1 8 2 = 50 ∧ R1.1 8 3 = 100) (rf : ∀ f, f ≠ 0 → f ≠ 3 → f ≠ 4 → f ≠ 8 → R1.1 f = S0r.1 f) (r2 : R1.2 = S0r.2) : Rel (cm 0) (S0c f16 f2001) R1 := by
  have z : ∀ f, f ≠ 0 → f ≠ 3 → f ≠ 4 → f ≠ 8 → ∀ j, R1.1 f j = S0r.1 f j := fun f a b c d j => by rw [rf f a b c d]
  have p01 : ∀ {a b : Int32}, a = 0 → b = 0 → PIn 0 1 a b := fun ha hb => by subst ha; subst hb; exact ⟨rfl, by decide, by decide⟩
  refine ⟨⟨fun j hj => ?_, fun j hj => ?_, fun j hj => ?_, fun j hj => ?_, fun j hj => ?_, fun j hj => ?_, ?_⟩, ⟨0, by decide, rfl, ?_, ?_, fun i hi => hi, fun i j _ _ h => h, fun i hi => absurd hi (by omega)⟩, ⟨fun j hj => ?_, fun j hj => ?_, fun j hj => ?_, fun j hj => ?_, fun j hj => ?_, ⟨?_, ?_, ?_⟩, ?_, ?_⟩, ⟨0, by decide, rfl, ?_, fun i hi => absurd hi (by omega), fun i hi => absurd hi (by omega)⟩, ⟨fun j hj => ?_, ?_, fun _ => ?_, ?_, ?_, ?_, ?_, ?_, ?_, ?_, ?_⟩, fun _ q => ?_, fun _ q => ?_, fun _ q => ?_, fun n _ n0 hn _ => ?_⟩
  · show (0 : Int64) = R1.2.1 0 j
    rw [r2]; rfl
  · exact ⟨(h16 j hj).trans (r0 j hj).symm, Or.inl (h16 j hj)⟩
  · show (0 : Int32) = R1.1 1 j
    rw [z _ (by decide) (by decide) (by decide) (by decide)]; rfl
  · refine ⟨?_, (show (0 : Int) ≤ (0 : Int32).toInt by decide), (show (0 : Int32).toInt ≤ 3 by decide)⟩
    show (0 : Int32) = R1.1 2 j
    rw [z _ (by decide) (by decide) (by decide) (by decide)]; rfl
  · refine ⟨(h2001 j hj).trans (r3 j hj).symm, ?_, ?_⟩
    · show (-1 : Int) ≤ (f2001 j).toInt
      rw [h2001 j hj]; decide
    · show (f2001 j).toInt ≤ 2
      rw [h2001 j hj]; decide
  · refine Or.inl ⟨rfl, r4 j hj, ?_⟩
    rw [z _ (by decide) (by decide) (by decide) (by decide)]; rfl
  · show (0 : Int64) = R1.2.1 1 0
    rw [r2]; rfl
  · rw [z _ (by decide) (by decide) (by decide) (by decide)]; rfl
  · show (0 : Int32) = R1.1 28 0
    rw [z _ (by decide) (by decide) (by decide) (by decide)]; rfl
  · rcases j4 hj with rfl | rfl | rfl | rfl
    · exact ⟨r8.1.symm, (show (1 : Int) ≤ (10 : Int32).toInt by decide), (show (10 : Int32).toInt ≤ 1000 by decide)⟩
    · exact ⟨r8.2.1.symm, (show (1 : Int) ≤ (20 : Int32).toInt by decide), (show (20 : Int32).toInt ≤ 1000 by decide)⟩
    · exact ⟨r8.2.2.1.symm, (show (1 : Int) ≤ (50 : Int32).toInt by decide), (show (50 : Int32).toInt ≤ 1000 by decide)⟩
    · exact ⟨r8.2.2.2.symm, (show (1 : Int) ≤ (100 : Int32).toInt by decide), (show (100 : Int32).toInt ≤ 1000 by decide)⟩
  · refine ⟨?_, (show (0 : Int) ≤ (0 : Int32).toInt by decide), (show (0 : Int32).toInt ≤ 200 by decide)⟩
    show (0 : Int32) = R1.1 9 j
    rw [z _ (by decide) (by decide) (by decide) (by decide)]; rfl
  · refine ⟨?_, (show (0 : Int) ≤ (0 : Int32).toInt by decide), (show (0 : Int32).toInt ≤ ((40 * 0 : Nat) : Int) by decide)⟩
    show (0 : Int32) = R1.1 10 j
    rw [z _ (by decide) (by decide) (by decide) (by decide)]; rfl
  · show (0 : Int32) = R1.1 11 j
    rw [z _ (by decide) (by decide) (by decide) (by decide)]; rfl
  · show (0 : Int32) = R1.1 12 j
    rw [z _ (by decide) (by decide) (by decide) (by decide)]; rfl
  · show (0 : Int32).toInt64 = R1.2.1 2 0
    rw [r2]; rfl
  · show (0 : Int) ≤ (0 : Int32).toInt
    decide
  · show (0 : Int32).toInt ≤ ((40000 * 0 : Nat) : Int)
    decide
  · show (0 : Int32) = (R1.2.1 3 0).toInt32
    rw [r2]; rfl
  · show (0 : Int64) = R1.2.1 4 0
    rw [r2]; rfl
  · rw [z _ (by decide) (by decide) (by decide) (by decide)]; rfl
  · refine p01 rfl ?_
    rw [z _ (by decide) (by decide) (by decide) (by decide)]; rfl
  · refine ⟨?_, (show (0 : Int) ≤ (1 : Int32).toInt by decide), (show (1 : Int32).toInt ≤ 1 by decide)⟩
    show (1 : Int32) = R1.1 18 0
    rw [z _ (by decide) (by decide) (by decide) (by decide)]; rfl
  · show (-1 : Int32) = R1.1 19 0
    rw [z _ (by decide) (by decide) (by decide) (by decide)]; rfl
  · refine ⟨?_, (show (0 : Int) ≤ (0 : Int32).toInt by decide), (show (0 : Int32).toInt ≤ 5 by decide)⟩
    show (0 : Int32) = R1.1 20 0
    rw [z _ (by decide) (by decide) (by decide) (by decide)]; rfl
  · show (-1 : Int32) = R1.1 21 0
    rw [z _ (by decide) (by decide) (by decide) (by decide)]; rfl
  · refine ⟨?_, (show (1 : Int) ≤ (1 : Int32).toInt by decide), (show (1 : Int32).toInt ≤ 2001 by decide)⟩
    show (1 : Int32) = R1.1 16 0
    rw [z _ (by decide) (by decide) (by decide) (by decide)]; rfl
  · show (0 : Int32) = R1.1 17 0
    rw [z _ (by decide) (by decide) (by decide) (by decide)]; rfl
  · show (0 : Int32) + 0 = R1.1 27 0
    rw [z _ (by decide) (by decide) (by decide) (by decide)]; rfl
  · refine ⟨?_, (show (0 : Int) ≤ (0 : Int32).toInt by decide), (show (0 : Int32).toInt ≤ 2000 by decide)⟩
    show (0 : Int32) = R1.1 22 0
    rw [z _ (by decide) (by decide) (by decide) (by decide)]; rfl
  · show (-1 : Int32) = R1.1 23 0
    rw [z _ (by decide) (by decide) (by decide) (by decide)]; rfl
  · show (0 : Int32) = R1.1 24 0
    rw [z _ (by decide) (by decide) (by decide) (by decide)]; rfl
  · have q' : (0 : Int32) = 1 ∨ (0 : Int32) = 2 ∨ (0 : Int32) = 3 ∨ (0 : Int32) = 4 := q
    exact absurd q' (by decide)
  · have q' : (0 : Int32) = 2 ∨ (0 : Int32) = 4 ∨ (0 : Int32) = 5 := q
    exact absurd q' (by decide)
  · have q' : (0 : Int32) = 4 := q
    exact absurd q' (by decide)
  · exfalso
    have hn' : nI 0 = nI n := hn
    have := (nI_eq (by decide) (by omega)).mp hn'
    omega
/-- the whole claim's walk, with one hypothesis: the wanting premise -/
theorem whole_open {p : Program} {e : Env} {s : State} {m : MethodId} {below : List Frame} {meth : Method} {c : Code} (l : Launch) {b L : Nat} {xs : Nat → Int32} (hL : L ≤ 2048) (C0 : lw_At p s m meth c b L xs) (hO : Owed b s) : W p l e room_1 s m #[Value.ref b] below meth c s.heap [] 0 0 (lw_Z below #[Value.ref b] s) (entryFrame m ([Value.ref b] : List Value).toArray 4) := by
  obtain ⟨F16, a1, a2⟩ := start16 5000 (by decide)
  obtain ⟨F2001, b1, b2⟩ := start2001 5000 (by decide)
  obtain ⟨R1, c1, c2, c3, c4, c5, c6, c7⟩ := startR 5000 (by decide)
  obtain ⟨S9, h⟩ := l_law (g := 5000) (L := L) (xs := xs) (by decide) hL 512 0 5000 0 (S0c (F16.1 0) (F2001.1 0), R1) (by omega) (by omega) (by omega) (by omega) (rel0 a2 b2 c2 c3 c4 c5 c6 c7)
  refine whole_start_open l C0 hO 5000 a1 b1 c1 (S9 := S9) ?_
  unfold f_L_law
  rw [show (0 : Int32) = nI 0 from rfl, h]
  rfl
