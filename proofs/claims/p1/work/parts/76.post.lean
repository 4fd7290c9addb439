/-! a letter is written: both sides -/
theorem vu_eq {α : Type} {f : Nat → α} {k : Nat} {v : α} : va_up f k v k = v := if_pos rfl
theorem vu_ne {α : Type} {f : Nat → α} {k j : Nat} {v : α} (h : j ≠ k) : va_up f k v j = f j := if_neg h
theorem vu_two {α : Type} {f : Nat → α} {k : Nat} {v w : α} : va_up (va_up f k v) k w = va_up f k w := by
  funext j
  unfold va_up
  by_cases h : j = k
  · rw [if_pos h, if_pos h]
  · rw [if_neg h, if_neg h, if_neg h]
/-- the memory with other bytes for the letter j -/
def mB (S : Mem) (j : Nat) (f : Nat → Int32) : Mem := (S.1, S.2.1, S.2.2.1, S.2.2.2.1, va_up S.2.2.2.2 j f)
theorem mB_0 (S : Mem) (j k : Nat) (v : Int32) : sB S j k v = mB S j (upd (S.2.2.2.2 j) k v) := rfl
theorem mB_s (S : Mem) (j k : Nat) (f : Nat → Int32) (v : Int32) : sB (mB S j f) j k v = mB S j (upd f k v) := by
  show (S.1, S.2.1, S.2.2.1, S.2.2.2.1, va_up (va_up S.2.2.2.2 j f) j (upd (va_up S.2.2.2.2 j f j) k v)) = (S.1, S.2.1, S.2.2.1, S.2.2.2.1, va_up S.2.2.2.2 j (upd f k v))
  rw [vu_eq, vu_two]
theorem p_wnA {g j : Nat} {S : Mem} {y : Int64} {v : Int32} (hg : 400 < g) (hv : y.toInt32 = v) (f : Nat → Int32) : f_E_writeNumber g j (mB S j f) 1 y = some ((), mB S j (upd (upd (upd (upd f 1 (by4 v 0)) 2 (by4 v 1)) 3 (by4 v 2)) 4 (by4 v 3))) := by
  obtain ⟨m, hm⟩ : ∃ m, g = m + 5 := ⟨g - 5, by omega⟩
  have e : f_E_writeNumber_3 g j (m + 5) (mB S j f) 1 y 0 = some (sB (sB (sB (sB (mB S j f) j 1 (((y >>> (((24 : Int32) - ((8 : Int32) * nI 0)).toInt64 &&& 63)).toInt32) &&& 255)) j 2 (((y >>> (((24 : Int32) - ((8 : Int32) * nI 1)).toInt64 &&& 63)).toInt32) &&& 255)) j 3 (((y >>> (((24 : Int32) - ((8 : Int32) * nI 2)).toInt64 &&& 63)).toInt32) &&& 255)) j 4 (((y >>> (((24 : Int32) - ((8 : Int32) * nI 3)).toInt64 &&& 63)).toInt32) &&& 255), ()) := rfl
  rw [← hm, by4_long y v hv 0 (by decide), by4_long y v hv 1 (by decide), by4_long y v hv 2 (by decide), by4_long y v hv 3 (by decide), mB_s, mB_s, mB_s, mB_s] at e
  unfold f_E_writeNumber
  rw [e, seqM_some]
theorem p_wnB {g j : Nat} {S : Mem} {y : Int64} {v : Int32} (hg : 400 < g) (hv : y.toInt32 = v) (f : Nat → Int32) : f_E_writeNumber g j (mB S j f) 6 y = some ((), mB S j (upd (upd (upd (upd f 6 (by4 v 0)) 7 (by4 v 1)) 8 (by4 v 2)) 9 (by4 v 3))) := by
  obtain ⟨m, hm⟩ : ∃ m, g = m + 5 := ⟨g - 5, by omega⟩
  have e : f_E_writeNumber_3 g j (m + 5) (mB S j f) 6 y 0 = some (sB (sB (sB (sB (mB S j f) j 6 (((y >>> (((24 : Int32) - ((8 : Int32) * nI 0)).toInt64 &&& 63)).toInt32) &&& 255)) j 7 (((y >>> (((24 : Int32) - ((8 : Int32) * nI 1)).toInt64 &&& 63)).toInt32) &&& 255)) j 8 (((y >>> (((24 : Int32) - ((8 : Int32) * nI 2)).toInt64 &&& 63)).toInt32) &&& 255)) j 9 (((y >>> (((24 : Int32) - ((8 : Int32) * nI 3)).toInt64 &&& 63)).toInt32) &&& 255), ()) := rfl
  rw [← hm, by4_long y v hv 0 (by decide), by4_long y v hv 1 (by decide), by4_long y v hv 2 (by decide), by4_long y v hv 3 (by decide), mB_s, mB_s, mB_s, mB_s] at e
  unfold f_E_writeNumber
  rw [e, seqM_some]
/-- the first eleven bytes of a letter -/
def LB (kd tr cd v co : Int32) : Nat → Int32 := fun k => if k = 0 then kd else if k ≤ 4 then by4 tr (k - 1) else if k = 5 then cd else if k ≤ 9 then by4 v (k - 6) else co
def lb0 (f : Nat → Int32) (kd tr cd v co : Int32) : Nat → Int32 := upd (upd (upd (upd (upd (upd (upd (upd (upd (upd (upd f 0 kd) 1 (by4 tr 0)) 2 (by4 tr 1)) 3 (by4 tr 2)) 4 (by4 tr 3)) 5 cd) 6 (by4 v 0)) 7 (by4 v 1)) 8 (by4 v 2)) 9 (by4 v 3)) 10 co
theorem k11 {k : Nat} (hk : k < 11) : k = 0 ∨ k = 1 ∨ k = 2 ∨ k = 3 ∨ k = 4 ∨ k = 5 ∨ k = 6 ∨ k = 7 ∨ k = 8 ∨ k = 9 ∨ k = 10 := by omega
theorem lb0_eq (f : Nat → Int32) (kd tr cd v co : Int32) (k : Nat) (hk : k < 11) : lb0 f kd tr cd v co k = LB kd tr cd v co k := by
  rcases k11 hk with rfl | rfl | rfl | rfl | rfl | rfl | rfl | rfl | rfl | rfl | rfl <;> simp [lb0, LB, upd]
def ckS (kd tr cd v co : Int32) : Int32 := cN (LB kd tr cd v co) 0 11 65535
theorem p_write {g j : Nat} {S : Mem} (hg : 400 < g) (kd tr cd : Int32) (y : Int64) (v co : Int32) (hv : y.toInt32 = v) : f_E_write g j S kd tr cd y co = some ((), mB S j (upd (upd (lb0 (S.2.2.2.2 j) kd tr cd v co) 11 (ckS kd tr cd v co >>> ((8 : Int32) &&& 31))) 12 (ckS kd tr cd v co &&& 255))) := by
  have t0 : (0 : Int32).toNatClampNeg = 0 := by decide
  have t5 : (5 : Int32).toNatClampNeg = 5 := by decide
  have t10 : (10 : Int32).toNatClampNeg = 10 := by decide
  have t11 : (11 : Int32).toNatClampNeg = 11 := by decide
  have t12 : (12 : Int32).toNatClampNeg = 12 := by decide
  have er : f_E_reckonCheck g j (mB S j (lb0 (S.2.2.2.2 j) kd tr cd v co)) = some (ckS kd tr cd v co, mB S j (lb0 (S.2.2.2.2 j) kd tr cd v co)) := by
    rw [p_reckon hg, show (mB S j (lb0 (S.2.2.2.2 j) kd tr cd v co)).2.2.2.2 j = lb0 (S.2.2.2.2 j) kd tr cd v co from vu_eq, cN_congr (f2 := LB kd tr cd v co) 11 0 65535 (fun q _ h => lb0_eq _ kd tr cd v co q (by omega))]
    rfl
  unfold f_E_write
  simp only [lt_eq]
  rw [t0, t5, t10, t11, t12, mB_0, p_wnA hg (lg_l2i_i2l tr), bnd_some, mB_s, p_wnB hg hv, bnd_some, mB_s]
  unfold lb0 at er
  rw [er, bnd_some, mB_s, mB_s]
  rfl
theorem p_post {g n j : Nat} {S : Mem} (hg : 400 < g) (hn : n < 24) (hs : S.1 0 0 = nI n) (hj : S.2.2.1 n = j) (hj24 : j < 24) (fh kd tr cd : Int32) (y : Int64) (v co : Int32) (hv : y.toInt32 = v) (hf : fh = 0 ∨ fh = 1) : f_N_post g S fh kd tr cd y co = some ((), sI (mB (sF S j fh) j (upd (upd (lb0 (S.2.2.2.2 j) kd tr cd v co) 11 (ckS kd tr cd v co >>> ((8 : Int32) &&& 31))) 12 (ckS kd tr cd v co &&& 255))) 0 0 (nI (n + 1))) := by
  have hgn : ¬ (nI n < 0 ∨ 24 ≤ (nI n).toNatClampNeg) := nI_in hn (by decide)
  unfold f_N_post
  rw [hs, if_pos (show nI n < (24 : Int32) from nI_lt hn (by decide)), grd_pos hgn, nI_clamp (by omega), hj]
  simp only [lt_eq]
  rw [grd_pos (show j < 25 by omega), grd_pos hf, p_write hg kd tr cd y v co hv, bnd_some]
  show some ((), sI (mB (sF S j fh) j _) 0 0 (S.1 0 0 + 1)) = _
  rw [hs, add1]
  rfl
/-- the reference's memory with another line -/
def mL (T : Mem) (f : Nat → Int32) : Mem := (fun q => if q = 25 then f else T.1 q, T.2)
theorem mL_0 (T : Mem) (k : Nat) (v : Int32) : sI T 25 k v = mL T (upd (T.1 25) k v) := rfl
theorem mL_s (T : Mem) (f : Nat → Int32) (k : Nat) (v : Int32) : sI (mL T f) 25 k v = mL T (upd f k v) := by
  refine Prod.ext (funext fun q => ?_) rfl
  show (if q = 25 then upd f k v else if q = 25 then f else T.1 q) = if q = 25 then upd f k v else T.1 q
  by_cases h : q = 25
  · rw [if_pos h, if_pos h]
  · rw [if_neg h, if_neg h, if_neg h]
theorem l_send {g p : Nat} {T : Mem} {x2 x3 x4 x5 x6 : Int32} (hp : p ≤ 330) (f : Nat → Int32) (k n : Nat) (hk : k < 4) : f_R_send_44 g (n + 1) (mL T f) x2 x3 x4 x5 x6 (nI p) (nI k) = f_R_send_44 g n (mL T (upd (upd f (p + 1 + k) (by4 x2 k)) (p + 6 + k) (by4 x4 k))) x2 x3 x4 x5 x6 (nI p) (nI (k + 1)) := by
  have h1 : ¬ (nI (p + 1 + k) < 0 ∨ 350 ≤ (nI (p + 1 + k)).toNatClampNeg) := nI_in (by omega) (by decide)
  have h2 : ¬ (nI (p + 6 + k) < 0 ∨ 350 ≤ (nI (p + 6 + k)).toNatClampNeg) := nI_in (by omega) (by decide)
  have e1 : nI p + 1 + nI k = nI (p + 1 + k) := by rw [add1, nI_add]
  have e6 : nI p + 6 + nI k = nI (p + 6 + k) := by rw [show (6 : Int32) = nI 6 from rfl, nI_add, nI_add]
  rw [f_R_send_44, if_neg (show ¬ (4 : Int32) ≤ nI k from nI_ge (show k < 4 from hk) (by decide)), e1, e6, grd_pos h1]
  simp only [lt_eq]
  rw [nI_clamp (show p + 1 + k < 2 ^ 31 by omega), grd_pos h2, nI_clamp (show p + 6 + k < 2 ^ 31 by omega), mL_s, mL_s, add1]
  rfl
def sl4 (f : Nat → Int32) (p : Nat) (tr v : Int32) : Nat → Int32 := upd (upd (upd (upd (upd (upd (upd (upd f (p + 1) (by4 tr 0)) (p + 6) (by4 v 0)) (p + 2) (by4 tr 1)) (p + 7) (by4 v 1)) (p + 3) (by4 tr 2)) (p + 8) (by4 v 2)) (p + 4) (by4 tr 3)) (p + 9) (by4 v 3)
theorem l_send4 {g p : Nat} {T : Mem} {x2 x3 x4 x5 x6 : Int32} (hg : 400 < g) (hp : p ≤ 330) (f : Nat → Int32) : f_R_send_44 g g (mL T f) x2 x3 x4 x5 x6 (nI p) 0 = some (mL T (sl4 f p x2 x4), (x3, x5, x6, nI p)) := by
  obtain ⟨m, hm⟩ : ∃ m, g = m + 5 := ⟨g - 5, by omega⟩
  have e : f_R_send_44 g (m + 5) (mL T f) x2 x3 x4 x5 x6 (nI p) (nI 0) = some (mL T (sl4 f p x2 x4), (x3, x5, x6, nI p)) := by
    rw [l_send hp _ 0 (m + 4) (by decide), l_send hp _ 1 (m + 3) (by decide), l_send hp _ 2 (m + 2) (by decide), l_send hp _ 3 (m + 1) (by decide), f_R_send_44, if_pos (show (4 : Int32) ≤ nI 4 by decide)]
    rfl
  rw [← hm] at e
  exact e
/-- the line behind the sending -/
def slN (f : Nat → Int32) (p : Nat) (kd tr cd v co tm : Int32) : Nat → Int32 := upd (upd (upd (upd (upd (sl4 (upd f p kd) p tr v) (p + 5) cd) (p + 10) co) (p + 11) (ckS kd tr cd v co >>> ((8 : Int32) &&& 31))) (p + 12) (ckS kd tr cd v co &&& 255)) (p + 13) tm
theorem sl_eq (f : Nat → Int32) (p : Nat) (kd tr cd v co : Int32) (k : Nat) (hk : k < 11) : upd (upd (sl4 (upd f p kd) p tr v) (p + 5) cd) (p + 10) co (p + k) = LB kd tr cd v co k := by
  unfold sl4
  rcases k11 hk with rfl | rfl | rfl | rfl | rfl | rfl | rfl | rfl | rfl | rfl | rfl
  · repeat rw [upd_ne (by omega)]
    exact upd_eq
  · repeat rw [upd_ne (by omega)]
    exact upd_eq
  · repeat rw [upd_ne (by omega)]
    exact upd_eq
  · repeat rw [upd_ne (by omega)]
    exact upd_eq
  · repeat rw [upd_ne (by omega)]
    exact upd_eq
  · repeat rw [upd_ne (by omega)]
    exact upd_eq
  · repeat rw [upd_ne (by omega)]
    exact upd_eq
  · repeat rw [upd_ne (by omega)]
    exact upd_eq
  · repeat rw [upd_ne (by omega)]
    exact upd_eq
  · repeat rw [upd_ne (by omega)]
    exact upd_eq
  · repeat rw [upd_ne (by omega)]
    exact upd_eq
theorem p_send {g n : Nat} {T : Mem} (hg : 400 < g) (hn : n < 24) (hs : T.1 26 0 = nI n) (kd tr cd v co tm : Int32) (hcd : cd &&& 255 = cd) : f_R_send g T kd tr cd v co tm = some ((), sI (mL T (slN (T.1 25) (14 * n) kd tr cd v co tm)) 26 0 (nI (n + 1))) := by
  have gi : ∀ k, k < 14 → (¬ (nI (14 * n + k) < 0 ∨ 350 ≤ (nI (14 * n + k)).toNatClampNeg)) ∧ (nI (14 * n + k)).toNatClampNeg = 14 * n + k := fun k hk => ⟨nI_in (by omega) (by decide), nI_clamp (by omega)⟩
  have ek : ∀ k : Nat, nI (14 * n) + nI k = nI (14 * n + k) := fun k => nI_add _ _
  have hne : ¬ nI n = (24 : Int32) := fun z => by
    have := (nI_eq (show n < 2 ^ 31 by omega) (by decide)).mp (show nI n = nI 24 from z)
    omega
  have er : f_R_check_line g (mL T (upd (upd (sl4 (upd (T.1 25) (14 * n) kd) (14 * n) tr v) (14 * n + 5) cd) (14 * n + 10) co)) (nI (14 * n)) = some (ckS kd tr cd v co, mL T (upd (upd (sl4 (upd (T.1 25) (14 * n) kd) (14 * n) tr v) (14 * n + 5) cd) (14 * n + 10) co)) := by
    rw [p_checkLine hg (show 14 * n ≤ 330 by omega), cN_congr (f := fun q => (mL T (upd (upd (sl4 (upd (T.1 25) (14 * n) kd) (14 * n) tr v) (14 * n + 5) cd) (14 * n + 10) co)).1 25 (14 * n + q)) (f2 := LB kd tr cd v co) 11 0 65535 (fun q _ h => sl_eq (T.1 25) (14 * n) kd tr cd v co q (by omega))]
    rfl
  unfold f_R_send
  rw [hs, if_neg hne, show (14 : Int32) * nI n = nI (14 * n) from pk_mul 14 n]
  simp only [lt_eq]
  rw [grd_pos (show ¬ (nI (14 * n) < 0 ∨ 350 ≤ (nI (14 * n)).toNatClampNeg) from nI_in (by omega) (by decide)), nI_clamp (show 14 * n < 2 ^ 31 by omega), mL_0, l_send4 hg (show 14 * n ≤ 330 by omega), seqM_some]
  simp only []
  rw [show nI (14 * n) + 5 = nI (14 * n + 5) from ek 5, grd_pos (gi 5 (by decide)).1, (gi 5 (by decide)).2, mL_s, hcd, show nI (14 * n) + 10 = nI (14 * n + 10) from ek 10, grd_pos (gi 10 (by decide)).1, (gi 10 (by decide)).2, mL_s, er, bnd_some, show nI (14 * n) + 11 = nI (14 * n + 11) from ek 11, grd_pos (gi 11 (by decide)).1, (gi 11 (by decide)).2, mL_s, show nI (14 * n) + 12 = nI (14 * n + 12) from ek 12, grd_pos (gi 12 (by decide)).1, (gi 12 (by decide)).2, mL_s, show nI (14 * n) + 13 = nI (14 * n + 13) from ek 13, grd_pos (gi 13 (by decide)).1, (gi 13 (by decide)).2, mL_s]
  show some ((), sI (mL T _) 26 0 (T.1 26 0 + 1)) = _
  rw [hs, add1]
  rfl
theorem PIn_of {x : Int32} {a : Nat} (h : a ≤ 255) (e : x = nI a) : PIn 0 255 x x := by
  refine ⟨rfl, ?_, ?_⟩
  · rw [e, nI_toInt (by omega)]; omega
  · rw [e, nI_toInt (by omega)]; omega
theorem LB_in {kd tr cd v co : Int32} (hk : ∃ a : Nat, a ≤ 255 ∧ kd = nI a) (hc : ∃ a : Nat, a ≤ 255 ∧ cd = nI a) (ho : ∃ a : Nat, a ≤ 255 ∧ co = nI a) (k : Nat) : PIn 0 255 (LB kd tr cd v co k) (LB kd tr cd v co k) := by
  obtain ⟨a, ha, ea⟩ := hk
  obtain ⟨b, hb, eb⟩ := hc
  obtain ⟨d, hd, ed⟩ := ho
  obtain ⟨t, ht, et⟩ := by4_in tr (k - 1)
  obtain ⟨w, hw, ew⟩ := by4_in v (k - 6)
  unfold LB
  split
  · exact PIn_of ha ea
  · split
    · exact PIn_of ht et
    · split
      · exact PIn_of hb eb
      · split
        · exact PIn_of hw ew
        · exact PIn_of hd ed
theorem ck_in (kd tr cd v co : Int32) : PIn 0 255 (ckS kd tr cd v co >>> ((8 : Int32) &&& 31)) (ckS kd tr cd v co >>> ((8 : Int32) &&& 31)) ∧ PIn 0 255 (ckS kd tr cd v co &&& 255) (ckS kd tr cd v co &&& 255) := by
  obtain ⟨c, hc, ec⟩ := cN_in (LB kd tr cd v co) 11 0 65535 (by decide)
  have e : ckS kd tr cd v co = nI c := ec
  refine ⟨PIn_of (a := c / 2 ^ 8) (by omega) (by rw [e]; exact pk_shrN (by omega) _ 8 (by decide)), ?_⟩
  obtain ⟨a, ha, ea⟩ := and255 (ckS kd tr cd v co)
  exact PIn_of ha ea
/-- a letter is sent, and there is room in the line -/
theorem r_post1 {g n : Nat} {S T : Mem} (hg : 400 < g) (l1 : n < 24) (l2 : S.1 0 0 = nI n) (l3 : T.1 26 0 = nI n) (l4 : S.1 1 0 = T.1 28 0) (l5 : ∀ i, i < 24 → S.2.2.1 i < 24) (l6 : ∀ i j, i < 24 → j < 24 → S.2.2.1 i = S.2.2.1 j → i = j) (l7 : ∀ i, i < n → (∀ k, k < 13 → PIn 0 255 (S.2.2.2.2 (S.2.2.1 i) k) (T.1 25 (14 * i + k))) ∧ ((S.2.2.2.1 (S.2.2.1 i) = 1 ∧ T.1 25 (14 * i + 13) = 0) ∨ (S.2.2.2.1 (S.2.2.1 i) = 0 ∧ T.1 25 (14 * i + 13) = 1)))
    {fh tm kd tr cd v co : Int32} {y : Int64} (hv : y.toInt32 = v) (hft : (fh = 1 ∧ tm = 0) ∨ (fh = 0 ∧ tm = 1)) (hk : ∃ a : Nat, a ≤ 255 ∧ kd = nI a) (hc : ∃ a : Nat, a ≤ 255 ∧ cd = nI a) (ho : ∃ a : Nat, a ≤ 255 ∧ co = nI a) :
    ∃ S2 T2 : Mem, f_N_post g S fh kd tr cd y co = some ((), S2) ∧ f_R_send g T kd tr cd v co tm = some ((), T2) ∧ (∀ k, k ≠ 0 → S2.1 k = S.1 k) ∧ S2.2.1 = S.2.1 ∧ (∀ k, k ≠ 25 → k ≠ 26 → T2.1 k = T.1 k) ∧ T2.2 = T.2 ∧ RL S2 T2 := by
  have hcd : cd &&& 255 = cd := by
    obtain ⟨a, ha, ea⟩ := hc
    rw [ea, pk_andN (show a < 2 ^ 32 by omega) (m := 255) 8 (by decide), Nat.mod_eq_of_lt (show a < 2 ^ 8 by omega)]
  have hf : fh = 0 ∨ fh = 1 := by
    rcases hft with ⟨h, -⟩ | ⟨h, -⟩
    · exact Or.inr h
    · exact Or.inl h
  refine ⟨_, _, p_post hg l1 l2 rfl (l5 n l1) fh kd tr cd y v co hv hf, p_send hg l1 l3 kd tr cd v co tm hcd, fun k hk => sI_ne hk, rfl, fun k h1 h2 => ?_, rfl, ?_⟩
  · rw [sI_ne h2]
    exact if_neg h1
  · have fS : ∀ q, ¬ q = 0 → (sI (mB (sF S (S.2.2.1 n) fh) (S.2.2.1 n) (upd (upd (lb0 (S.2.2.2.2 (S.2.2.1 n)) kd tr cd v co) 11 (ckS kd tr cd v co >>> ((8 : Int32) &&& 31))) 12 (ckS kd tr cd v co &&& 255))) 0 0 (nI (n + 1))).1 q = S.1 q := fun q hq => sI_ne hq
    refine ⟨n + 1, by omega, rfl, rfl, l4, l5, l6, fun i hi => ?_⟩
    show (∀ k, k < 13 → PIn 0 255 (va_up S.2.2.2.2 (S.2.2.1 n) (upd (upd (lb0 (S.2.2.2.2 (S.2.2.1 n)) kd tr cd v co) 11 (ckS kd tr cd v co >>> ((8 : Int32) &&& 31))) 12 (ckS kd tr cd v co &&& 255)) (S.2.2.1 i) k) (slN (T.1 25) (14 * n) kd tr cd v co tm (14 * i + k))) ∧ ((upd S.2.2.2.1 (S.2.2.1 n) fh (S.2.2.1 i) = 1 ∧ slN (T.1 25) (14 * n) kd tr cd v co tm (14 * i + 13) = 0) ∨ (upd S.2.2.2.1 (S.2.2.1 n) fh (S.2.2.1 i) = 0 ∧ slN (T.1 25) (14 * n) kd tr cd v co tm (14 * i + 13) = 1))
    by_cases e : i = n
    · subst e
      rw [vu_eq, upd_eq]
      have t13 : slN (T.1 25) (14 * i) kd tr cd v co tm (14 * i + 13) = tm := upd_eq
      rw [t13]
      refine ⟨fun k hk13 => ?_, hft⟩
      by_cases k12 : k = 12
      · subst k12
        have t12 : slN (T.1 25) (14 * i) kd tr cd v co tm (14 * i + 12) = ckS kd tr cd v co &&& 255 := by
          unfold slN
          rw [upd_ne (by omega)]
          exact upd_eq
        rw [t12, upd_eq]
        exact (ck_in kd tr cd v co).2
      · by_cases k11' : k = 11
        · subst k11'
          have t11 : slN (T.1 25) (14 * i) kd tr cd v co tm (14 * i + 11) = ckS kd tr cd v co >>> ((8 : Int32) &&& 31) := by
            unfold slN
            rw [upd_ne (by omega), upd_ne (by omega)]
            exact upd_eq
          rw [t11, upd_ne (by decide), upd_eq]
          exact (ck_in kd tr cd v co).1
        · have tk : slN (T.1 25) (14 * i) kd tr cd v co tm (14 * i + k) = LB kd tr cd v co k := by
            unfold slN
            rw [upd_ne (by omega), upd_ne (by omega), upd_ne (by omega)]
            exact sl_eq _ _ kd tr cd v co k (by omega)
          rw [tk, upd_ne k12, upd_ne k11', lb0_eq _ kd tr cd v co k (by omega)]
          exact LB_in hk hc ho k
    · have hi2 : i < n := by omega
      have hid : S.2.2.1 i ≠ S.2.2.1 n := fun z => e (l6 i n (by omega) l1 z)
      have told : ∀ q, q < 14 * n → slN (T.1 25) (14 * n) kd tr cd v co tm q = T.1 25 q := by
        intro q hq
        unfold slN sl4
        rw [upd_ne (by omega), upd_ne (by omega), upd_ne (by omega), upd_ne (by omega), upd_ne (by omega), upd_ne (by omega), upd_ne (by omega), upd_ne (by omega), upd_ne (by omega), upd_ne (by omega), upd_ne (by omega), upd_ne (by omega), upd_ne (by omega), upd_ne (by omega)]
      rw [vu_ne hid, upd_ne hid, told _ (by omega)]
      exact ⟨fun k hk => by rw [told _ (by omega)]; exact (l7 i hi2).1 k hk, (l7 i hi2).2⟩
/-- a letter is sent; where the line is full, the first one is lost -/
theorem r_post {g : Nat} {S T : Mem} (hg : 400 < g) (h : RL S T) {fh tm kd tr cd v co : Int32} {y : Int64} (hv : y.toInt32 = v) (hft : (fh = 1 ∧ tm = 0) ∨ (fh = 0 ∧ tm = 1)) (hk : ∃ a : Nat, a ≤ 255 ∧ kd = nI a) (hc : ∃ a : Nat, a ≤ 255 ∧ cd = nI a) (ho : ∃ a : Nat, a ≤ 255 ∧ co = nI a) :
    ∃ S2 T2 : Mem, f_N_post g S fh kd tr cd y co = some ((), S2) ∧ f_R_send g T kd tr cd v co tm = some ((), T2) ∧ (∀ k, k ≠ 0 → k ≠ 1 → S2.1 k = S.1 k) ∧ S2.2.1 = S.2.1 ∧ (∀ k, k ≠ 25 → k ≠ 26 → k ≠ 28 → T2.1 k = T.1 k) ∧ T2.2 = T.2 ∧ RL S2 T2 := by
  obtain ⟨n, l1, l2, l3, l4, l5, l6, l7⟩ := h
  by_cases hn : n < 24
  · obtain ⟨S2, T2, a1, a2, a3, a4, a5, a6, a7⟩ := r_post1 hg hn l2 l3 l4 l5 l6 l7 hv hft hk hc ho
    exact ⟨S2, T2, a1, a2, fun k q _ => a3 k q, a4, fun k q1 q2 _ => a5 k q1 q2, a6, a7⟩
  · have h24 : n = 24 := by omega
    subst h24
    obtain ⟨A, B, k1, k2, k3, k4, k5, k6, k7, k8, k9, n', c1, c2, c3, c4, c5, c6, c7⟩ := r_remove (i := 0) hg l1 l2 l3 l4 l5 l6 l7 (by omega)
    have hn' : n' = 23 := (nI_eq (by omega) (by decide)).mp (c2.symm.trans k3)
    subst hn'
    have hA : (sI A 1 0 (A.1 1 0 + 1)).1 0 0 = nI 23 := c2
    have hB : (sI B 28 0 (B.1 28 0 + 1)).1 26 0 = nI 23 := c3
    obtain ⟨S2, T2, a1, a2, a3, a4, a5, a6, a7⟩ := r_post1 (S := sI A 1 0 (A.1 1 0 + 1)) (T := sI B 28 0 (B.1 28 0 + 1)) hg (show 23 < 24 by decide) hA hB (show A.1 1 0 + 1 = B.1 28 0 + 1 by rw [c4]) c5 c6 c7 hv hft hk hc ho
    refine ⟨S2, T2, ?_, ?_, fun k q1 q2 => ?_, a4.trans k6, fun k q1 q2 q3 => ?_, a6.trans k9, a7⟩
    · rw [← a1]
      unfold f_N_post
      rw [hA, l2, if_neg (show ¬ nI 24 < (24 : Int32) by decide), show f_N_remove g S 0 = some ((), A) from k1, bnd_some, if_pos (show nI 23 < (24 : Int32) by decide)]
      simp only [lt_eq]
      rw [hA]
    · rw [← a2]
      unfold f_R_send
      rw [hB, l3, if_pos (show nI 24 = (24 : Int32) by decide), show f_R_drop g T 0 = some ((), B) from k2, bnd_some, if_neg (show ¬ nI 23 = (24 : Int32) by decide)]
      simp only [lt_eq]
      rw [hB]
    · rw [a3 k q1, sI_ne q2]
      exact k5 k q1
    · rw [a5 k q1 q2, sI_ne q3]
      exact k8 k q1 q2
