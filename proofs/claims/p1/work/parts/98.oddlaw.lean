/-! the law at the odd start: it answers 0 -/
def KL0 {μ : Type} (z : Int32 × μ) : Option (Unit × μ) := if z.1 = 0 then some ((), z.2) else none
def lw_Z0 (below : List Frame) (a : Array Value) (s : State) : State → Prop := fun t => ∃ o, t.status = .running ∧ Ended t below o ∧ o = .returned (some (.int 0))
theorem nrw0 : narrow FieldType.boolean (Value.int 0) = Value.int 0 := by first | rfl | decide +kernel
theorem lw_ret0 {p : Program} {l : Launch} {e : Env} {s : State} {m : MethodId} {below : List Frame} {meth : Method} {c : Code} {b : Nat} (hx : p.tables.exec = Jvm.exec) (hb : c.code = code) (hr : meth.sig.returnType = ret) (hlocks : meth.locks = false) {pc : Nat} {H : Heap} {ls : Array Slot} (hdg : decode code pc = .ok (.ireturn, 1)) : W p l e room_1 s m #[Value.ref b] below meth c H [] 600000 7302250 (lw_Z0 below #[Value.ref b] s) (F0 m pc ls [.int 0]) := by
  intro T hT X
  obtain ⟨fs, hret, hrun, hended, hW, hframe⟩ := X.leave (v := some (.int 0)) (hlocks := hlocks) (fun h => by rw [hr] at h; cases h)
  have hmeth' : T.vm.method? m = some meth := X.method'
  refine ⟨T.setFrames fs, ?_, .returned (some (.int 0)), hrun, hended, rfl⟩
  jvm_step X.here [X.here.top, hx, hb, hdg, hmeth', hr, ret, nrw0]
  (try refine ⟨rfl, ?_⟩); (try refine ⟨rfl, ?_⟩)
  first | (intro acts; rw [hret _ acts rfl rfl rfl]) | rw [hret _ _ rfl rfl rfl]
  exact Steps.refl _
theorem j_lawret0 {p : Program} {l : Launch} {e : Env} {s : State} {m : MethodId} {below : List Frame} {meth : Method} {c : Code} {b : Nat} {D : va_G} {tys : List (ClassId × FieldType)} {wl wr : Mem → va_W} {β : Type} {K : β → Option (Unit × (Mem × Mem))} {S : Mem × Mem} {z : β} {pc : Nat} {lv : List (Nat × Value)} (C : Cx p s m #[Value.ref b] meth c "AutoTellerLaw" code 4 ret D tys (w2 wl wr) (fun q => s.heap.size ≤ q)) (d : decode code pc = .ok (.ireturn, 1)) : Tg p l e room_1 s m #[Value.ref b] below meth c D (w2 wl wr) (fun q => s.heap.size ≤ q) 4 600000 7302250 (fun _ _ => lw_Z0 below #[Value.ref b] s) K (some z) S pc lv [.int 0] := fun r S1 hb H locs ls hP hD hS hlv =>
  va_forget hS.2.2 (lw_ret0 C.hx C.hb C.hr C.hk d)
set_option maxRecDepth 100000 in
set_option maxHeartbeats 8000000 in
theorem lp0_L_law_18 {l : Launch} {D : va_G} {cI cJ cZ cL : ClassId} {a a2 : Nat → Nat} {p : Program} {e : Env} {s : State} {m : MethodId} {below : List Frame} {meth : Method} {c : Code} {b L : Nat} {xs : Nat → Int32} (C : Cx p s m #[Value.ref b] meth c "AutoTellerLaw" code 4 ret D (tyT cI cJ cZ cL) (w2 (wdC cI cJ cZ cL a) (wdR cI cJ cZ cL a2)) (fun q => s.heap.size ≤ q)) (hX : va_X b L xs s s.heap) (hbl : b < s.heap.size) (hbA : ¬ (fun q => s.heap.size ≤ q) b) (g : Nat) {K : (Int32 × (Mem × Mem)) ⊕ ((Mem × Mem) × Unit) → Option (Unit × (Mem × Mem))} (hret : ∀ t, K (.inl t) = KL0 t) (hx : ∀ (S : Mem × Mem) (y : Unit), Tg p l e room_1 s m #[Value.ref b] below meth c D (w2 (wdC cI cJ cZ cL a) (wdR cI cJ cZ cL a2)) (fun q => s.heap.size ≤ q) 4 600000 7302250 (fun (_ : Unit) (_ : Mem × Mem) => lw_Z0 below #[Value.ref b] s) K (some (.inr (S, y))) S 777 [] []) : ∀ (n : Nat) (S : Mem × Mem) (x3 : Int32), Tg p l e room_1 s m #[Value.ref b] below meth c D (w2 (wdC cI cJ cZ cL a) (wdR cI cJ cZ cL a2)) (fun q => s.heap.size ≤ q) 4 600000 7302250 (fun (_ : Unit) (_ : Mem × Mem) => lw_Z0 below #[Value.ref b] s) K (f_L_18 g L xs n S x3) S 18 [(0, .ref b), (1, .ref (a 0)), (2, .ref (a2 0)), (3, .int x3)] [] := by
  intro n
  induction n with
  | zero =>
    intro S x3
    exact j_none
  | succ n ih =>
    intro S x3
    rw [f_L_18]
    refine j_iload_n C 3 rfl rfl d_L_law_18 ?_
    refine j_aload_n C 0 rfl rfl d_L_law_19 ?_
    refine j_slen C hX hbl hbA d_L_law_20 ?_
    refine j_iconst (v := 4) C (by decide) d_L_law_21 ?_
    refine j_isub C d_L_law_22 ?_
    refine j_icmp_gt (tgt := 777) C d_L_law_23 (by decide) (fun h21 => ?_) (fun h21 => ?_)
    · refine j_sub [] rfl ?_
      exact hx S ()
    · refine j_aload_n C 0 rfl rfl d_L_law_26 ?_
      refine j_iload_n C 3 rfl rfl d_L_law_27 ?_
      refine j_grd (fun h22 => ?_)
      refine j_sld C hX hbl hbA h22 d_L_law_28 ?_
      refine j_bipush (v := 31) C (by decide) d_L_law_29 ?_
      refine j_iand C d_L_law_31 ?_
      refine j_lti (fun x23 => ?_)
      refine j_if (fun h24 => ?_) (fun h24 => ?_)
      · refine j_tabIn (off := 108) (tgt := 140) C d_L_law_32 (by rw [h24]; decide) (by rw [h24]; decide) (by rw [h24]; rfl) (by decide) ?_
        refine j_aload_n C 1 rfl rfl d_L_law_140 ?_
        refine j_aload_n C 0 rfl rfl d_L_law_141 ?_
        refine j_iload_n C 3 rfl rfl d_L_law_142 ?_
        refine j_iconst (v := 1) C (by decide) d_L_law_143 ?_
        refine j_iadd C d_L_law_144 ?_
        refine j_grd (fun h25 => ?_)
        refine j_sld C hX hbl hbA h25 d_L_law_145 ?_
        refine j_aload_n C 0 rfl rfl d_L_law_146 ?_
        refine j_iload_n C 3 rfl rfl d_L_law_147 ?_
        refine j_iconst (v := 2) C (by decide) d_L_law_148 ?_
        refine j_iadd C d_L_law_149 ?_
        refine j_grd (fun h26 => ?_)
        refine j_sld C hX hbl hbA h26 d_L_law_150 ?_
        refine j_i2l C d_L_law_151 ?_
        refine j_bipush (v := 32) C (by decide) d_L_law_152 ?_
        refine j_lshl C d_L_law_154 ?_
        refine j_aload_n C 0 rfl rfl d_L_law_155 ?_
        refine j_iload_n C 3 rfl rfl d_L_law_156 ?_
        refine j_iconst (v := 3) C (by decide) d_L_law_157 ?_
        refine j_iadd C d_L_law_158 ?_
        refine j_grd (fun h27 => ?_)
        refine j_sld C hX hbl hbA h27 d_L_law_159 ?_
        refine j_i2l C d_L_law_160 ?_
        refine j_ldc2 (v := 4294967295) C u_965 d_L_law_161 ?_
        refine j_land C d_L_law_164 ?_
        refine j_lor C d_L_law_165 ?_
        refine j_bnd2 (fun r28 S29 e30 => ?_)
        refine j_callLi (As := [.int (xs (x3 + (1 : Int32)).toNatClampNeg), .long ((((xs (x3 + (2 : Int32)).toNatClampNeg).toInt64) <<< ((32 : Int32).toInt64 &&& 63)) ||| (((xs (x3 + (3 : Int32)).toNatClampNeg).toInt64) &&& (4294967295 : Int64)))]) (rest := []) C 0 6 Y_A_account u_253 (c_A_account g S.1 (xs (x3 + (1 : Int32)).toNatClampNeg) ((((xs (x3 + (2 : Int32)).toNatClampNeg).toInt64) <<< ((32 : Int32).toInt64 &&& 63)) ||| (((xs (x3 + (3 : Int32)).toNatClampNeg).toInt64) &&& (4294967295 : Int64))) e30) rfl rfl ⟨by decide, by decide⟩ rfl rfl rfl rfl (Nat.le_of_ble_eq_true rfl) d_L_law_166 ⟨Nat.le_refl _, Nat.le_refl _⟩ ?_
        refine j_aload_n C 2 rfl rfl d_L_law_169 ?_
        refine j_aload_n C 0 rfl rfl d_L_law_170 ?_
        refine j_iload_n C 3 rfl rfl d_L_law_171 ?_
        refine j_iconst (v := 1) C (by decide) d_L_law_172 ?_
        refine j_iadd C d_L_law_173 ?_
        refine j_grd (fun h31 => ?_)
        refine j_sld C hX hbl hbA h31 d_L_law_174 ?_
        refine j_aload_n C 0 rfl rfl d_L_law_175 ?_
        refine j_iload_n C 3 rfl rfl d_L_law_176 ?_
        refine j_iconst (v := 2) C (by decide) d_L_law_177 ?_
        refine j_iadd C d_L_law_178 ?_
        refine j_grd (fun h32 => ?_)
        refine j_sld C hX hbl hbA h32 d_L_law_179 ?_
        refine j_i2l C d_L_law_180 ?_
        refine j_bipush (v := 32) C (by decide) d_L_law_181 ?_
        refine j_lshl C d_L_law_183 ?_
        refine j_aload_n C 0 rfl rfl d_L_law_184 ?_
        refine j_iload_n C 3 rfl rfl d_L_law_185 ?_
        refine j_iconst (v := 3) C (by decide) d_L_law_186 ?_
        refine j_iadd C d_L_law_187 ?_
        refine j_grd (fun h33 => ?_)
        refine j_sld C hX hbl hbA h33 d_L_law_188 ?_
        refine j_i2l C d_L_law_189 ?_
        refine j_ldc2 (v := 4294967295) C u_965 d_L_law_190 ?_
        refine j_land C d_L_law_193 ?_
        refine j_lor C d_L_law_194 ?_
        refine j_bnd2 (fun r34 S35 e36 => ?_)
        refine j_callRi (As := [.int (xs (x3 + (1 : Int32)).toNatClampNeg), .long ((((xs (x3 + (2 : Int32)).toNatClampNeg).toInt64) <<< ((32 : Int32).toInt64 &&& 63)) ||| (((xs (x3 + (3 : Int32)).toNatClampNeg).toInt64) &&& (4294967295 : Int64)))]) (rest := [.int r28]) C 0 7 Y_R_account u_794 (c_R_account g S.2 (xs (x3 + (1 : Int32)).toNatClampNeg) ((((xs (x3 + (2 : Int32)).toNatClampNeg).toInt64) <<< ((32 : Int32).toInt64 &&& 63)) ||| (((xs (x3 + (3 : Int32)).toNatClampNeg).toInt64) &&& (4294967295 : Int64))) e36) rfl rfl ⟨by decide, by decide⟩ rfl rfl rfl rfl (Nat.le_of_ble_eq_true rfl) d_L_law_195 ⟨Nat.le_refl _, Nat.le_refl _⟩ ?_
        refine j_icmp_eq (tgt := 771) C d_L_law_198 (by decide) (fun h37 => ?_) (fun h37 => ?_)
        · refine j_iincN (n2 := 4) (lv2 := fun x38 => [(3, .int x38), (0, .ref b), (1, .ref (a 0)), (2, .ref (a2 0))]) C 3 rfl (by decide) (by decide) (fun _ => rfl) d_L_law_771 (fun x38 => ?_)
          refine j_goto (tgt := 18) C d_L_law_774 (by decide) ?_
          refine j_sub [1, 2, 3, 0] rfl ?_
          exact ih (S29, S35) x38
        · refine j_iconst (v := 0) C (by decide) d_L_law_201 ?_
          exact j_lawret0 C d_L_law_202
      refine j_if (fun h39 => ?_) (fun h39 => ?_)
      · refine j_tabIn (off := 171) (tgt := 203) C d_L_law_32 (by rw [h39]; decide) (by rw [h39]; decide) (by rw [h39]; rfl) (by decide) ?_
        refine j_aload_n C 1 rfl rfl d_L_law_203 ?_
        refine j_aload_n C 0 rfl rfl d_L_law_204 ?_
        refine j_iload_n C 3 rfl rfl d_L_law_205 ?_
        refine j_iconst (v := 1) C (by decide) d_L_law_206 ?_
        refine j_iadd C d_L_law_207 ?_
        refine j_grd (fun h40 => ?_)
        refine j_sld C hX hbl hbA h40 d_L_law_208 ?_
        refine j_aload_n C 0 rfl rfl d_L_law_209 ?_
        refine j_iload_n C 3 rfl rfl d_L_law_210 ?_
        refine j_iconst (v := 2) C (by decide) d_L_law_211 ?_
        refine j_iadd C d_L_law_212 ?_
        refine j_grd (fun h41 => ?_)
        refine j_sld C hX hbl hbA h41 d_L_law_213 ?_
        refine j_aload_n C 0 rfl rfl d_L_law_214 ?_
        refine j_iload_n C 3 rfl rfl d_L_law_215 ?_
        refine j_iconst (v := 3) C (by decide) d_L_law_216 ?_
        refine j_iadd C d_L_law_217 ?_
        refine j_grd (fun h42 => ?_)
        refine j_sld C hX hbl hbA h42 d_L_law_218 ?_
        refine j_bnd2 (fun r43 S44 e45 => ?_)
        refine j_callLi (As := [.int (xs (x3 + (1 : Int32)).toNatClampNeg), .int (xs (x3 + (2 : Int32)).toNatClampNeg), .int (xs (x3 + (3 : Int32)).toNatClampNeg)]) (rest := []) C 0 6 Y_A_card u_269 (c_A_card g S.1 (xs (x3 + (1 : Int32)).toNatClampNeg) (xs (x3 + (2 : Int32)).toNatClampNeg) (xs (x3 + (3 : Int32)).toNatClampNeg) e45) rfl rfl ⟨by decide, by decide⟩ rfl rfl rfl rfl (Nat.le_of_ble_eq_true rfl) d_L_law_219 ⟨Nat.le_refl _, Nat.le_refl _⟩ ?_
        refine j_aload_n C 2 rfl rfl d_L_law_222 ?_
        refine j_aload_n C 0 rfl rfl d_L_law_223 ?_
        refine j_iload_n C 3 rfl rfl d_L_law_224 ?_
        refine j_iconst (v := 1) C (by decide) d_L_law_225 ?_
        refine j_iadd C d_L_law_226 ?_
        refine j_grd (fun h46 => ?_)
        refine j_sld C hX hbl hbA h46 d_L_law_227 ?_
        refine j_aload_n C 0 rfl rfl d_L_law_228 ?_
        refine j_iload_n C 3 rfl rfl d_L_law_229 ?_
        refine j_iconst (v := 2) C (by decide) d_L_law_230 ?_
        refine j_iadd C d_L_law_231 ?_
        refine j_grd (fun h47 => ?_)
        refine j_sld C hX hbl hbA h47 d_L_law_232 ?_
        refine j_aload_n C 0 rfl rfl d_L_law_233 ?_
        refine j_iload_n C 3 rfl rfl d_L_law_234 ?_
        refine j_iconst (v := 3) C (by decide) d_L_law_235 ?_
        refine j_iadd C d_L_law_236 ?_
        refine j_grd (fun h48 => ?_)
        refine j_sld C hX hbl hbA h48 d_L_law_237 ?_
        refine j_bnd2 (fun r49 S50 e51 => ?_)
        refine j_callRi (As := [.int (xs (x3 + (1 : Int32)).toNatClampNeg), .int (xs (x3 + (2 : Int32)).toNatClampNeg), .int (xs (x3 + (3 : Int32)).toNatClampNeg)]) (rest := [.int r43]) C 0 7 Y_R_card u_799 (c_R_card g S.2 (xs (x3 + (1 : Int32)).toNatClampNeg) (xs (x3 + (2 : Int32)).toNatClampNeg) (xs (x3 + (3 : Int32)).toNatClampNeg) e51) rfl rfl ⟨by decide, by decide⟩ rfl rfl rfl rfl (Nat.le_of_ble_eq_true rfl) d_L_law_238 ⟨Nat.le_refl _, Nat.le_refl _⟩ ?_
        refine j_icmp_eq (tgt := 771) C d_L_law_241 (by decide) (fun h52 => ?_) (fun h52 => ?_)
        · refine j_iincN (n2 := 4) (lv2 := fun x53 => [(3, .int x53), (0, .ref b), (1, .ref (a 0)), (2, .ref (a2 0))]) C 3 rfl (by decide) (by decide) (fun _ => rfl) d_L_law_771 (fun x53 => ?_)
          refine j_goto (tgt := 18) C d_L_law_774 (by decide) ?_
          refine j_sub [1, 2, 3, 0] rfl ?_
          exact ih (S44, S50) x53
        · refine j_iconst (v := 0) C (by decide) d_L_law_244 ?_
          exact j_lawret0 C d_L_law_245
      refine j_if (fun h54 => ?_) (fun h54 => ?_)
      · refine j_tabIn (off := 214) (tgt := 246) C d_L_law_32 (by rw [h54]; decide) (by rw [h54]; decide) (by rw [h54]; rfl) (by decide) ?_
        refine j_aload_n C 1 rfl rfl d_L_law_246 ?_
        refine j_aload_n C 0 rfl rfl d_L_law_247 ?_
        refine j_iload_n C 3 rfl rfl d_L_law_248 ?_
        refine j_iconst (v := 1) C (by decide) d_L_law_249 ?_
        refine j_iadd C d_L_law_250 ?_
        refine j_grd (fun h55 => ?_)
        refine j_sld C hX hbl hbA h55 d_L_law_251 ?_
        refine j_aload_n C 0 rfl rfl d_L_law_252 ?_
        refine j_iload_n C 3 rfl rfl d_L_law_253 ?_
        refine j_iconst (v := 2) C (by decide) d_L_law_254 ?_
        refine j_iadd C d_L_law_255 ?_
        refine j_grd (fun h56 => ?_)
        refine j_sld C hX hbl hbA h56 d_L_law_256 ?_
        refine j_aload_n C 0 rfl rfl d_L_law_257 ?_
        refine j_iload_n C 3 rfl rfl d_L_law_258 ?_
        refine j_iconst (v := 3) C (by decide) d_L_law_259 ?_
        refine j_iadd C d_L_law_260 ?_
        refine j_grd (fun h57 => ?_)
        refine j_sld C hX hbl hbA h57 d_L_law_261 ?_
        refine j_bnd2 (fun r58 S59 e60 => ?_)
        refine j_callLi (As := [.int (xs (x3 + (1 : Int32)).toNatClampNeg), .int (xs (x3 + (2 : Int32)).toNatClampNeg), .int (xs (x3 + (3 : Int32)).toNatClampNeg)]) (rest := []) C 0 6 Y_A_load u_286 (c_A_load g S.1 (xs (x3 + (1 : Int32)).toNatClampNeg) (xs (x3 + (2 : Int32)).toNatClampNeg) (xs (x3 + (3 : Int32)).toNatClampNeg) e60) rfl rfl ⟨by decide, by decide⟩ rfl rfl rfl rfl (Nat.le_of_ble_eq_true rfl) d_L_law_262 ⟨Nat.le_refl _, Nat.le_refl _⟩ ?_
        refine j_aload_n C 2 rfl rfl d_L_law_265 ?_
        refine j_aload_n C 0 rfl rfl d_L_law_266 ?_
        refine j_iload_n C 3 rfl rfl d_L_law_267 ?_
        refine j_iconst (v := 1) C (by decide) d_L_law_268 ?_
        refine j_iadd C d_L_law_269 ?_
        refine j_grd (fun h61 => ?_)
        refine j_sld C hX hbl hbA h61 d_L_law_270 ?_
        refine j_aload_n C 0 rfl rfl d_L_law_271 ?_
        refine j_iload_n C 3 rfl rfl d_L_law_272 ?_
        refine j_iconst (v := 2) C (by decide) d_L_law_273 ?_
        refine j_iadd C d_L_law_274 ?_
        refine j_grd (fun h62 => ?_)
        refine j_sld C hX hbl hbA h62 d_L_law_275 ?_
        refine j_aload_n C 0 rfl rfl d_L_law_276 ?_
        refine j_iload_n C 3 rfl rfl d_L_law_277 ?_
        refine j_iconst (v := 3) C (by decide) d_L_law_278 ?_
        refine j_iadd C d_L_law_279 ?_
        refine j_grd (fun h63 => ?_)
        refine j_sld C hX hbl hbA h63 d_L_law_280 ?_
        refine j_bnd2 (fun r64 S65 e66 => ?_)
        refine j_callRi (As := [.int (xs (x3 + (1 : Int32)).toNatClampNeg), .int (xs (x3 + (2 : Int32)).toNatClampNeg), .int (xs (x3 + (3 : Int32)).toNatClampNeg)]) (rest := [.int r58]) C 0 7 Y_R_load u_803 (c_R_load g S.2 (xs (x3 + (1 : Int32)).toNatClampNeg) (xs (x3 + (2 : Int32)).toNatClampNeg) (xs (x3 + (3 : Int32)).toNatClampNeg) e66) rfl rfl ⟨by decide, by decide⟩ rfl rfl rfl rfl (Nat.le_of_ble_eq_true rfl) d_L_law_281 ⟨Nat.le_refl _, Nat.le_refl _⟩ ?_
        refine j_icmp_eq (tgt := 771) C d_L_law_284 (by decide) (fun h67 => ?_) (fun h67 => ?_)
        · refine j_iincN (n2 := 4) (lv2 := fun x68 => [(3, .int x68), (0, .ref b), (1, .ref (a 0)), (2, .ref (a2 0))]) C 3 rfl (by decide) (by decide) (fun _ => rfl) d_L_law_771 (fun x68 => ?_)
          refine j_goto (tgt := 18) C d_L_law_774 (by decide) ?_
          refine j_sub [1, 2, 3, 0] rfl ?_
          exact ih (S59, S65) x68
        · refine j_iconst (v := 0) C (by decide) d_L_law_287 ?_
          exact j_lawret0 C d_L_law_288
      refine j_if (fun h69 => ?_) (fun h69 => ?_)
      · refine j_tabIn (off := 257) (tgt := 289) C d_L_law_32 (by rw [h69]; decide) (by rw [h69]; decide) (by rw [h69]; rfl) (by decide) ?_
        refine j_aload_n C 1 rfl rfl d_L_law_289 ?_
        refine j_aload_n C 0 rfl rfl d_L_law_290 ?_
        refine j_iload_n C 3 rfl rfl d_L_law_291 ?_
        refine j_iconst (v := 1) C (by decide) d_L_law_292 ?_
        refine j_iadd C d_L_law_293 ?_
        refine j_grd (fun h70 => ?_)
        refine j_sld C hX hbl hbA h70 d_L_law_294 ?_
        refine j_bnd2 (fun r71 S72 e73 => ?_)
        refine j_callLi (As := [.int (xs (x3 + (1 : Int32)).toNatClampNeg)]) (rest := []) C 0 6 Y_A_insert u_304 (c_A_insert g S.1 (xs (x3 + (1 : Int32)).toNatClampNeg) e73) rfl rfl ⟨by decide, by decide⟩ rfl rfl rfl rfl (Nat.le_of_ble_eq_true rfl) d_L_law_295 ⟨Nat.le_refl _, Nat.le_refl _⟩ ?_
        refine j_aload_n C 2 rfl rfl d_L_law_298 ?_
        refine j_aload_n C 0 rfl rfl d_L_law_299 ?_
        refine j_iload_n C 3 rfl rfl d_L_law_300 ?_
        refine j_iconst (v := 1) C (by decide) d_L_law_301 ?_
        refine j_iadd C d_L_law_302 ?_
        refine j_grd (fun h74 => ?_)
        refine j_sld C hX hbl hbA h74 d_L_law_303 ?_
        refine j_bnd2 (fun r75 S76 e77 => ?_)
        refine j_callRi (As := [.int (xs (x3 + (1 : Int32)).toNatClampNeg)]) (rest := [.int r71]) C 0 7 Y_R_insert u_807 (c_R_insert g S.2 (xs (x3 + (1 : Int32)).toNatClampNeg) e77) rfl rfl ⟨by decide, by decide⟩ rfl rfl rfl rfl (Nat.le_of_ble_eq_true rfl) d_L_law_304 ⟨Nat.le_refl _, Nat.le_refl _⟩ ?_
        refine j_icmp_eq (tgt := 771) C d_L_law_307 (by decide) (fun h78 => ?_) (fun h78 => ?_)
        · refine j_iincN (n2 := 4) (lv2 := fun x79 => [(3, .int x79), (0, .ref b), (1, .ref (a 0)), (2, .ref (a2 0))]) C 3 rfl (by decide) (by decide) (fun _ => rfl) d_L_law_771 (fun x79 => ?_)
          refine j_goto (tgt := 18) C d_L_law_774 (by decide) ?_
          refine j_sub [1, 2, 3, 0] rfl ?_
          exact ih (S72, S76) x79
        · refine j_iconst (v := 0) C (by decide) d_L_law_310 ?_
          exact j_lawret0 C d_L_law_311
      refine j_if (fun h80 => ?_) (fun h80 => ?_)
      · refine j_tabIn (off := 280) (tgt := 312) C d_L_law_32 (by rw [h80]; decide) (by rw [h80]; decide) (by rw [h80]; rfl) (by decide) ?_
        refine j_aload_n C 1 rfl rfl d_L_law_312 ?_
        refine j_aload_n C 0 rfl rfl d_L_law_313 ?_
        refine j_iload_n C 3 rfl rfl d_L_law_314 ?_
        refine j_iconst (v := 1) C (by decide) d_L_law_315 ?_
        refine j_iadd C d_L_law_316 ?_
        refine j_grd (fun h81 => ?_)
        refine j_sld C hX hbl hbA h81 d_L_law_317 ?_
        refine j_bnd2 (fun r82 S83 e84 => ?_)
        refine j_callLi (As := [.int (xs (x3 + (1 : Int32)).toNatClampNeg)]) (rest := []) C 0 6 Y_A_pin u_313 (c_A_pin g S.1 (xs (x3 + (1 : Int32)).toNatClampNeg) e84) rfl rfl ⟨by decide, by decide⟩ rfl rfl rfl rfl (Nat.le_of_ble_eq_true rfl) d_L_law_318 ⟨Nat.le_refl _, Nat.le_refl _⟩ ?_
        refine j_aload_n C 2 rfl rfl d_L_law_321 ?_
        refine j_aload_n C 0 rfl rfl d_L_law_322 ?_
        refine j_iload_n C 3 rfl rfl d_L_law_323 ?_
        refine j_iconst (v := 1) C (by decide) d_L_law_324 ?_
        refine j_iadd C d_L_law_325 ?_
        refine j_grd (fun h85 => ?_)
        refine j_sld C hX hbl hbA h85 d_L_law_326 ?_
        refine j_bnd2 (fun r86 S87 e88 => ?_)
        refine j_callRi (As := [.int (xs (x3 + (1 : Int32)).toNatClampNeg)]) (rest := [.int r82]) C 0 7 Y_R_pin u_811 (c_R_pin g S.2 (xs (x3 + (1 : Int32)).toNatClampNeg) e88) rfl rfl ⟨by decide, by decide⟩ rfl rfl rfl rfl (Nat.le_of_ble_eq_true rfl) d_L_law_327 ⟨Nat.le_refl _, Nat.le_refl _⟩ ?_
        refine j_icmp_eq (tgt := 771) C d_L_law_330 (by decide) (fun h89 => ?_) (fun h89 => ?_)
        · refine j_iincN (n2 := 4) (lv2 := fun x90 => [(3, .int x90), (0, .ref b), (1, .ref (a 0)), (2, .ref (a2 0))]) C 3 rfl (by decide) (by decide) (fun _ => rfl) d_L_law_771 (fun x90 => ?_)
          refine j_goto (tgt := 18) C d_L_law_774 (by decide) ?_
          refine j_sub [1, 2, 3, 0] rfl ?_
          exact ih (S83, S87) x90
        · refine j_iconst (v := 0) C (by decide) d_L_law_333 ?_
          exact j_lawret0 C d_L_law_334
      refine j_if (fun h91 => ?_) (fun h91 => ?_)
      · refine j_tabIn (off := 303) (tgt := 335) C d_L_law_32 (by rw [h91]; decide) (by rw [h91]; decide) (by rw [h91]; rfl) (by decide) ?_
        refine j_aload_n C 1 rfl rfl d_L_law_335 ?_
        refine j_aload_n C 0 rfl rfl d_L_law_336 ?_
        refine j_iload_n C 3 rfl rfl d_L_law_337 ?_
        refine j_iconst (v := 1) C (by decide) d_L_law_338 ?_
        refine j_iadd C d_L_law_339 ?_
        refine j_grd (fun h92 => ?_)
        refine j_sld C hX hbl hbA h92 d_L_law_340 ?_
        refine j_bnd2 (fun r93 S94 e95 => ?_)
        refine j_callLi (As := [.int (xs (x3 + (1 : Int32)).toNatClampNeg)]) (rest := []) C 0 6 Y_A_ask u_359 (c_A_ask g S.1 (xs (x3 + (1 : Int32)).toNatClampNeg) e95) rfl rfl ⟨by decide, by decide⟩ rfl rfl rfl rfl (Nat.le_of_ble_eq_true rfl) d_L_law_341 ⟨Nat.le_refl _, Nat.le_refl _⟩ ?_
        refine j_aload_n C 2 rfl rfl d_L_law_344 ?_
        refine j_aload_n C 0 rfl rfl d_L_law_345 ?_
        refine j_iload_n C 3 rfl rfl d_L_law_346 ?_
        refine j_iconst (v := 1) C (by decide) d_L_law_347 ?_
        refine j_iadd C d_L_law_348 ?_
        refine j_grd (fun h96 => ?_)
        refine j_sld C hX hbl hbA h96 d_L_law_349 ?_
        refine j_bnd2 (fun r97 S98 e99 => ?_)
        refine j_callRi (As := [.int (xs (x3 + (1 : Int32)).toNatClampNeg)]) (rest := [.int r93]) C 0 7 Y_R_ask u_839 (c_R_ask g S.2 (xs (x3 + (1 : Int32)).toNatClampNeg) e99) rfl rfl ⟨by decide, by decide⟩ rfl rfl rfl rfl (Nat.le_of_ble_eq_true rfl) d_L_law_350 ⟨Nat.le_refl _, Nat.le_refl _⟩ ?_
        refine j_icmp_eq (tgt := 771) C d_L_law_353 (by decide) (fun h100 => ?_) (fun h100 => ?_)
        · refine j_iincN (n2 := 4) (lv2 := fun x101 => [(3, .int x101), (0, .ref b), (1, .ref (a 0)), (2, .ref (a2 0))]) C 3 rfl (by decide) (by decide) (fun _ => rfl) d_L_law_771 (fun x101 => ?_)
          refine j_goto (tgt := 18) C d_L_law_774 (by decide) ?_
          refine j_sub [1, 2, 3, 0] rfl ?_
          exact ih (S94, S98) x101
        · refine j_iconst (v := 0) C (by decide) d_L_law_356 ?_
          exact j_lawret0 C d_L_law_357
      refine j_if (fun h102 => ?_) (fun h102 => ?_)
      · refine j_tabIn (off := 326) (tgt := 358) C d_L_law_32 (by rw [h102]; decide) (by rw [h102]; decide) (by rw [h102]; rfl) (by decide) ?_
        refine j_aload_n C 1 rfl rfl d_L_law_358 ?_
        refine j_bnd2 (fun r103 S104 e105 => ?_)
        refine j_callLi (As := []) (rest := []) C 0 6 Y_A_eject u_404 (c_A_eject g S.1  e105) rfl rfl ⟨by decide, by decide⟩ rfl rfl rfl rfl (Nat.le_of_ble_eq_true rfl) d_L_law_359 ⟨Nat.le_refl _, Nat.le_refl _⟩ ?_
        refine j_aload_n C 2 rfl rfl d_L_law_362 ?_
        refine j_bnd2 (fun r106 S107 e108 => ?_)
        refine j_callRi (As := []) (rest := [.int r103]) C 0 7 Y_R_eject u_852 (c_R_eject g S.2  e108) rfl rfl ⟨by decide, by decide⟩ rfl rfl rfl rfl (Nat.le_of_ble_eq_true rfl) d_L_law_363 ⟨Nat.le_refl _, Nat.le_refl _⟩ ?_
        refine j_icmp_eq (tgt := 771) C d_L_law_366 (by decide) (fun h109 => ?_) (fun h109 => ?_)
        · refine j_iincN (n2 := 4) (lv2 := fun x110 => [(3, .int x110), (0, .ref b), (1, .ref (a 0)), (2, .ref (a2 0))]) C 3 rfl (by decide) (by decide) (fun _ => rfl) d_L_law_771 (fun x110 => ?_)
          refine j_goto (tgt := 18) C d_L_law_774 (by decide) ?_
          refine j_sub [1, 2, 3, 0] rfl ?_
          exact ih (S104, S107) x110
        · refine j_iconst (v := 0) C (by decide) d_L_law_369 ?_
          exact j_lawret0 C d_L_law_370
      refine j_if (fun h111 => ?_) (fun h111 => ?_)
      · refine j_tabIn (off := 339) (tgt := 371) C d_L_law_32 (by rw [h111]; decide) (by rw [h111]; decide) (by rw [h111]; rfl) (by decide) ?_
        refine j_aload_n C 1 rfl rfl d_L_law_371 ?_
        refine j_bnd2 (fun r112 S113 e114 => ?_)
        refine j_callLi (As := []) (rest := []) C 0 6 Y_A_take u_416 (c_A_take g S.1  e114) rfl rfl ⟨by decide, by decide⟩ rfl rfl rfl rfl (Nat.le_of_ble_eq_true rfl) d_L_law_372 ⟨Nat.le_refl _, Nat.le_refl _⟩ ?_
        refine j_aload_n C 2 rfl rfl d_L_law_375 ?_
        refine j_bnd2 (fun r115 S116 e117 => ?_)
        refine j_callRi (As := []) (rest := [.int r112]) C 0 7 Y_R_take u_856 (c_R_take g S.2  e117) rfl rfl ⟨by decide, by decide⟩ rfl rfl rfl rfl (Nat.le_of_ble_eq_true rfl) d_L_law_376 ⟨Nat.le_refl _, Nat.le_refl _⟩ ?_
        refine j_icmp_eq (tgt := 771) C d_L_law_379 (by decide) (fun h118 => ?_) (fun h118 => ?_)
        · refine j_iincN (n2 := 4) (lv2 := fun x119 => [(3, .int x119), (0, .ref b), (1, .ref (a 0)), (2, .ref (a2 0))]) C 3 rfl (by decide) (by decide) (fun _ => rfl) d_L_law_771 (fun x119 => ?_)
          refine j_goto (tgt := 18) C d_L_law_774 (by decide) ?_
          refine j_sub [1, 2, 3, 0] rfl ?_
          exact ih (S113, S116) x119
        · refine j_iconst (v := 0) C (by decide) d_L_law_382 ?_
          exact j_lawret0 C d_L_law_383
      refine j_if (fun h120 => ?_) (fun h120 => ?_)
      · refine j_tabIn (off := 352) (tgt := 384) C d_L_law_32 (by rw [h120]; decide) (by rw [h120]; decide) (by rw [h120]; rfl) (by decide) ?_
        refine j_aload_n C 1 rfl rfl d_L_law_384 ?_
        refine j_bnd2 (fun r121 S122 e123 => ?_)
        refine j_callLi (As := []) (rest := []) C 0 6 Y_A_timeout u_425 (c_A_timeout g S.1  e123) rfl rfl ⟨by decide, by decide⟩ rfl rfl rfl rfl (Nat.le_of_ble_eq_true rfl) d_L_law_385 ⟨Nat.le_refl _, Nat.le_refl _⟩ ?_
        refine j_aload_n C 2 rfl rfl d_L_law_388 ?_
        refine j_bnd2 (fun r124 S125 e126 => ?_)
        refine j_callRi (As := []) (rest := [.int r121]) C 0 7 Y_R_timeout u_860 (c_R_timeout g S.2  e126) rfl rfl ⟨by decide, by decide⟩ rfl rfl rfl rfl (Nat.le_of_ble_eq_true rfl) d_L_law_389 ⟨Nat.le_refl _, Nat.le_refl _⟩ ?_
        refine j_icmp_eq (tgt := 771) C d_L_law_392 (by decide) (fun h127 => ?_) (fun h127 => ?_)
        · refine j_iincN (n2 := 4) (lv2 := fun x128 => [(3, .int x128), (0, .ref b), (1, .ref (a 0)), (2, .ref (a2 0))]) C 3 rfl (by decide) (by decide) (fun _ => rfl) d_L_law_771 (fun x128 => ?_)
          refine j_goto (tgt := 18) C d_L_law_774 (by decide) ?_
          refine j_sub [1, 2, 3, 0] rfl ?_
          exact ih (S122, S125) x128
        · refine j_iconst (v := 0) C (by decide) d_L_law_395 ?_
          exact j_lawret0 C d_L_law_396
      refine j_if (fun h129 => ?_) (fun h129 => ?_)
      · refine j_tabIn (off := 365) (tgt := 397) C d_L_law_32 (by rw [h129]; decide) (by rw [h129]; decide) (by rw [h129]; rfl) (by decide) ?_
        refine j_aload_n C 1 rfl rfl d_L_law_397 ?_
        refine j_aload_n C 0 rfl rfl d_L_law_398 ?_
        refine j_iload_n C 3 rfl rfl d_L_law_399 ?_
        refine j_iconst (v := 1) C (by decide) d_L_law_400 ?_
        refine j_iadd C d_L_law_401 ?_
        refine j_grd (fun h130 => ?_)
        refine j_sld C hX hbl hbA h130 d_L_law_402 ?_
        refine j_bnd2 (fun r131 S132 e133 => ?_)
        refine j_callLi (As := [.int (xs (x3 + (1 : Int32)).toNatClampNeg)]) (rest := []) C 0 6 Y_A_deliver u_449 (c_A_deliver g S.1 (xs (x3 + (1 : Int32)).toNatClampNeg) e133) rfl rfl ⟨by decide, by decide⟩ rfl rfl rfl rfl (Nat.le_of_ble_eq_true rfl) d_L_law_403 ⟨Nat.le_refl _, Nat.le_refl _⟩ ?_
        refine j_aload_n C 2 rfl rfl d_L_law_406 ?_
        refine j_aload_n C 0 rfl rfl d_L_law_407 ?_
        refine j_iload_n C 3 rfl rfl d_L_law_408 ?_
        refine j_iconst (v := 1) C (by decide) d_L_law_409 ?_
        refine j_iadd C d_L_law_410 ?_
        refine j_grd (fun h134 => ?_)
        refine j_sld C hX hbl hbA h134 d_L_law_411 ?_
        refine j_bnd2 (fun r135 S136 e137 => ?_)
        refine j_callRi (As := [.int (xs (x3 + (1 : Int32)).toNatClampNeg)]) (rest := [.int r131]) C 0 7 Y_R_deliver u_872 (c_R_deliver g S.2 (xs (x3 + (1 : Int32)).toNatClampNeg) e137) rfl rfl ⟨by decide, by decide⟩ rfl rfl rfl rfl (Nat.le_of_ble_eq_true rfl) d_L_law_412 ⟨Nat.le_refl _, Nat.le_refl _⟩ ?_
        refine j_icmp_eq (tgt := 771) C d_L_law_415 (by decide) (fun h138 => ?_) (fun h138 => ?_)
        · refine j_iincN (n2 := 4) (lv2 := fun x139 => [(3, .int x139), (0, .ref b), (1, .ref (a 0)), (2, .ref (a2 0))]) C 3 rfl (by decide) (by decide) (fun _ => rfl) d_L_law_771 (fun x139 => ?_)
          refine j_goto (tgt := 18) C d_L_law_774 (by decide) ?_
          refine j_sub [1, 2, 3, 0] rfl ?_
          exact ih (S132, S136) x139
        · refine j_iconst (v := 0) C (by decide) d_L_law_418 ?_
          exact j_lawret0 C d_L_law_419
      refine j_if (fun h140 => ?_) (fun h140 => ?_)
      · refine j_tabIn (off := 388) (tgt := 420) C d_L_law_32 (by rw [h140]; decide) (by rw [h140]; decide) (by rw [h140]; rfl) (by decide) ?_
        refine j_aload_n C 1 rfl rfl d_L_law_420 ?_
        refine j_aload_n C 0 rfl rfl d_L_law_421 ?_
        refine j_iload_n C 3 rfl rfl d_L_law_422 ?_
        refine j_iconst (v := 1) C (by decide) d_L_law_423 ?_
        refine j_iadd C d_L_law_424 ?_
        refine j_grd (fun h141 => ?_)
        refine j_sld C hX hbl hbA h141 d_L_law_425 ?_
        refine j_bnd2 (fun r142 S143 e144 => ?_)
        refine j_callLi (As := [.int (xs (x3 + (1 : Int32)).toNatClampNeg)]) (rest := []) C 0 6 Y_A_twice u_556 (c_A_twice g S.1 (xs (x3 + (1 : Int32)).toNatClampNeg) e144) rfl rfl ⟨by decide, by decide⟩ rfl rfl rfl rfl (Nat.le_of_ble_eq_true rfl) d_L_law_426 ⟨Nat.le_refl _, Nat.le_refl _⟩ ?_
        refine j_aload_n C 2 rfl rfl d_L_law_429 ?_
        refine j_aload_n C 0 rfl rfl d_L_law_430 ?_
        refine j_iload_n C 3 rfl rfl d_L_law_431 ?_
        refine j_iconst (v := 1) C (by decide) d_L_law_432 ?_
        refine j_iadd C d_L_law_433 ?_
        refine j_grd (fun h145 => ?_)
        refine j_sld C hX hbl hbA h145 d_L_law_434 ?_
        refine j_bnd2 (fun r146 S147 e148 => ?_)
        refine j_callRi (As := [.int (xs (x3 + (1 : Int32)).toNatClampNeg)]) (rest := [.int r142]) C 0 7 Y_R_twice u_912 (c_R_twice g S.2 (xs (x3 + (1 : Int32)).toNatClampNeg) e148) rfl rfl ⟨by decide, by decide⟩ rfl rfl rfl rfl (Nat.le_of_ble_eq_true rfl) d_L_law_435 ⟨Nat.le_refl _, Nat.le_refl _⟩ ?_
        refine j_icmp_eq (tgt := 771) C d_L_law_438 (by decide) (fun h149 => ?_) (fun h149 => ?_)
        · refine j_iincN (n2 := 4) (lv2 := fun x150 => [(3, .int x150), (0, .ref b), (1, .ref (a 0)), (2, .ref (a2 0))]) C 3 rfl (by decide) (by decide) (fun _ => rfl) d_L_law_771 (fun x150 => ?_)
          refine j_goto (tgt := 18) C d_L_law_774 (by decide) ?_
          refine j_sub [1, 2, 3, 0] rfl ?_
          exact ih (S143, S147) x150
        · refine j_iconst (v := 0) C (by decide) d_L_law_441 ?_
          exact j_lawret0 C d_L_law_442
      refine j_if (fun h151 => ?_) (fun h151 => ?_)
      · refine j_tabIn (off := 411) (tgt := 443) C d_L_law_32 (by rw [h151]; decide) (by rw [h151]; decide) (by rw [h151]; rfl) (by decide) ?_
        refine j_aload_n C 1 rfl rfl d_L_law_443 ?_
        refine j_aload_n C 0 rfl rfl d_L_law_444 ?_
        refine j_iload_n C 3 rfl rfl d_L_law_445 ?_
        refine j_iconst (v := 1) C (by decide) d_L_law_446 ?_
        refine j_iadd C d_L_law_447 ?_
        refine j_grd (fun h152 => ?_)
        refine j_sld C hX hbl hbA h152 d_L_law_448 ?_
        refine j_bnd2 (fun r153 S154 e155 => ?_)
        refine j_callLi (As := [.int (xs (x3 + (1 : Int32)).toNatClampNeg)]) (rest := []) C 0 6 Y_A_lose u_560 (c_A_lose g S.1 (xs (x3 + (1 : Int32)).toNatClampNeg) e155) rfl rfl ⟨by decide, by decide⟩ rfl rfl rfl rfl (Nat.le_of_ble_eq_true rfl) d_L_law_449 ⟨Nat.le_refl _, Nat.le_refl _⟩ ?_
        refine j_aload_n C 2 rfl rfl d_L_law_452 ?_
        refine j_aload_n C 0 rfl rfl d_L_law_453 ?_
        refine j_iload_n C 3 rfl rfl d_L_law_454 ?_
        refine j_iconst (v := 1) C (by decide) d_L_law_455 ?_
        refine j_iadd C d_L_law_456 ?_
        refine j_grd (fun h156 => ?_)
        refine j_sld C hX hbl hbA h156 d_L_law_457 ?_
        refine j_bnd2 (fun r157 S158 e159 => ?_)
        refine j_callRi (As := [.int (xs (x3 + (1 : Int32)).toNatClampNeg)]) (rest := [.int r153]) C 0 7 Y_R_lose u_916 (c_R_lose g S.2 (xs (x3 + (1 : Int32)).toNatClampNeg) e159) rfl rfl ⟨by decide, by decide⟩ rfl rfl rfl rfl (Nat.le_of_ble_eq_true rfl) d_L_law_458 ⟨Nat.le_refl _, Nat.le_refl _⟩ ?_
        refine j_icmp_eq (tgt := 771) C d_L_law_461 (by decide) (fun h160 => ?_) (fun h160 => ?_)
        · refine j_iincN (n2 := 4) (lv2 := fun x161 => [(3, .int x161), (0, .ref b), (1, .ref (a 0)), (2, .ref (a2 0))]) C 3 rfl (by decide) (by decide) (fun _ => rfl) d_L_law_771 (fun x161 => ?_)
          refine j_goto (tgt := 18) C d_L_law_774 (by decide) ?_
          refine j_sub [1, 2, 3, 0] rfl ?_
          exact ih (S154, S158) x161
        · refine j_iconst (v := 0) C (by decide) d_L_law_464 ?_
          exact j_lawret0 C d_L_law_465
      refine j_if (fun h162 => ?_) (fun h162 => ?_)
      · refine j_tabIn (off := 434) (tgt := 466) C d_L_law_32 (by rw [h162]; decide) (by rw [h162]; decide) (by rw [h162]; rfl) (by decide) ?_
        refine j_aload_n C 1 rfl rfl d_L_law_466 ?_
        refine j_aload_n C 0 rfl rfl d_L_law_467 ?_
        refine j_iload_n C 3 rfl rfl d_L_law_468 ?_
        refine j_iconst (v := 1) C (by decide) d_L_law_469 ?_
        refine j_iadd C d_L_law_470 ?_
        refine j_grd (fun h163 => ?_)
        refine j_sld C hX hbl hbA h163 d_L_law_471 ?_
        refine j_aload_n C 0 rfl rfl d_L_law_472 ?_
        refine j_iload_n C 3 rfl rfl d_L_law_473 ?_
        refine j_iconst (v := 2) C (by decide) d_L_law_474 ?_
        refine j_iadd C d_L_law_475 ?_
        refine j_grd (fun h164 => ?_)
        refine j_sld C hX hbl hbA h164 d_L_law_476 ?_
        refine j_aload_n C 0 rfl rfl d_L_law_477 ?_
        refine j_iload_n C 3 rfl rfl d_L_law_478 ?_
        refine j_iconst (v := 3) C (by decide) d_L_law_479 ?_
        refine j_iadd C d_L_law_480 ?_
        refine j_grd (fun h165 => ?_)
        refine j_sld C hX hbl hbA h165 d_L_law_481 ?_
        refine j_bnd2 (fun r166 S167 e168 => ?_)
        refine j_callLi (As := [.int (xs (x3 + (1 : Int32)).toNatClampNeg), .int (xs (x3 + (2 : Int32)).toNatClampNeg), .int (xs (x3 + (3 : Int32)).toNatClampNeg)]) (rest := []) C 0 6 Y_A_poke u_564 (c_A_poke g S.1 (xs (x3 + (1 : Int32)).toNatClampNeg) (xs (x3 + (2 : Int32)).toNatClampNeg) (xs (x3 + (3 : Int32)).toNatClampNeg) e168) rfl rfl ⟨by decide, by decide⟩ rfl rfl rfl rfl (Nat.le_of_ble_eq_true rfl) d_L_law_482 ⟨Nat.le_refl _, Nat.le_refl _⟩ ?_
        refine j_aload_n C 2 rfl rfl d_L_law_485 ?_
        refine j_aload_n C 0 rfl rfl d_L_law_486 ?_
        refine j_iload_n C 3 rfl rfl d_L_law_487 ?_
        refine j_iconst (v := 1) C (by decide) d_L_law_488 ?_
        refine j_iadd C d_L_law_489 ?_
        refine j_grd (fun h169 => ?_)
        refine j_sld C hX hbl hbA h169 d_L_law_490 ?_
        refine j_aload_n C 0 rfl rfl d_L_law_491 ?_
        refine j_iload_n C 3 rfl rfl d_L_law_492 ?_
        refine j_iconst (v := 2) C (by decide) d_L_law_493 ?_
        refine j_iadd C d_L_law_494 ?_
        refine j_grd (fun h170 => ?_)
        refine j_sld C hX hbl hbA h170 d_L_law_495 ?_
        refine j_aload_n C 0 rfl rfl d_L_law_496 ?_
        refine j_iload_n C 3 rfl rfl d_L_law_497 ?_
        refine j_iconst (v := 3) C (by decide) d_L_law_498 ?_
        refine j_iadd C d_L_law_499 ?_
        refine j_grd (fun h171 => ?_)
        refine j_sld C hX hbl hbA h171 d_L_law_500 ?_
        refine j_bnd2 (fun r172 S173 e174 => ?_)
        refine j_callRi (As := [.int (xs (x3 + (1 : Int32)).toNatClampNeg), .int (xs (x3 + (2 : Int32)).toNatClampNeg), .int (xs (x3 + (3 : Int32)).toNatClampNeg)]) (rest := [.int r166]) C 0 7 Y_R_poke u_920 (c_R_poke g S.2 (xs (x3 + (1 : Int32)).toNatClampNeg) (xs (x3 + (2 : Int32)).toNatClampNeg) (xs (x3 + (3 : Int32)).toNatClampNeg) e174) rfl rfl ⟨by decide, by decide⟩ rfl rfl rfl rfl (Nat.le_of_ble_eq_true rfl) d_L_law_501 ⟨Nat.le_refl _, Nat.le_refl _⟩ ?_
        refine j_icmp_eq (tgt := 771) C d_L_law_504 (by decide) (fun h175 => ?_) (fun h175 => ?_)
        · refine j_iincN (n2 := 4) (lv2 := fun x176 => [(3, .int x176), (0, .ref b), (1, .ref (a 0)), (2, .ref (a2 0))]) C 3 rfl (by decide) (by decide) (fun _ => rfl) d_L_law_771 (fun x176 => ?_)
          refine j_goto (tgt := 18) C d_L_law_774 (by decide) ?_
          refine j_sub [1, 2, 3, 0] rfl ?_
          exact ih (S167, S173) x176
        · refine j_iconst (v := 0) C (by decide) d_L_law_507 ?_
          exact j_lawret0 C d_L_law_508
      refine j_if (fun h177 => ?_) (fun h177 => ?_)
      · refine j_tabIn (off := 477) (tgt := 509) C d_L_law_32 (by rw [h177]; decide) (by rw [h177]; decide) (by rw [h177]; rfl) (by decide) ?_
        refine j_aload_n C 1 rfl rfl d_L_law_509 ?_
        refine j_aload_n C 0 rfl rfl d_L_law_510 ?_
        refine j_iload_n C 3 rfl rfl d_L_law_511 ?_
        refine j_iconst (v := 1) C (by decide) d_L_law_512 ?_
        refine j_iadd C d_L_law_513 ?_
        refine j_grd (fun h178 => ?_)
        refine j_sld C hX hbl hbA h178 d_L_law_514 ?_
        refine j_aload_n C 0 rfl rfl d_L_law_515 ?_
        refine j_iload_n C 3 rfl rfl d_L_law_516 ?_
        refine j_iconst (v := 2) C (by decide) d_L_law_517 ?_
        refine j_iadd C d_L_law_518 ?_
        refine j_grd (fun h179 => ?_)
        refine j_sld C hX hbl hbA h179 d_L_law_519 ?_
        refine j_bnd2 (fun r180 S181 e182 => ?_)
        refine j_callLi (As := [.int (xs (x3 + (1 : Int32)).toNatClampNeg), .int (xs (x3 + (2 : Int32)).toNatClampNeg)]) (rest := []) C 0 6 Y_A_letter u_575 (c_A_letter g S.1 (xs (x3 + (1 : Int32)).toNatClampNeg) (xs (x3 + (2 : Int32)).toNatClampNeg) e182) rfl rfl ⟨by decide, by decide⟩ rfl rfl rfl rfl (Nat.le_of_ble_eq_true rfl) d_L_law_520 ⟨Nat.le_refl _, Nat.le_refl _⟩ ?_
        refine j_aload_n C 2 rfl rfl d_L_law_523 ?_
        refine j_aload_n C 0 rfl rfl d_L_law_524 ?_
        refine j_iload_n C 3 rfl rfl d_L_law_525 ?_
        refine j_iconst (v := 1) C (by decide) d_L_law_526 ?_
        refine j_iadd C d_L_law_527 ?_
        refine j_grd (fun h183 => ?_)
        refine j_sld C hX hbl hbA h183 d_L_law_528 ?_
        refine j_aload_n C 0 rfl rfl d_L_law_529 ?_
        refine j_iload_n C 3 rfl rfl d_L_law_530 ?_
        refine j_iconst (v := 2) C (by decide) d_L_law_531 ?_
        refine j_iadd C d_L_law_532 ?_
        refine j_grd (fun h184 => ?_)
        refine j_sld C hX hbl hbA h184 d_L_law_533 ?_
        refine j_bnd2 (fun r185 S186 e187 => ?_)
        refine j_callRi (As := [.int (xs (x3 + (1 : Int32)).toNatClampNeg), .int (xs (x3 + (2 : Int32)).toNatClampNeg)]) (rest := [.int r180]) C 0 7 Y_R_letter u_924 (c_R_letter g S.2 (xs (x3 + (1 : Int32)).toNatClampNeg) (xs (x3 + (2 : Int32)).toNatClampNeg) e187) rfl rfl ⟨by decide, by decide⟩ rfl rfl rfl rfl (Nat.le_of_ble_eq_true rfl) d_L_law_534 ⟨Nat.le_refl _, Nat.le_refl _⟩ ?_
        refine j_icmp_eq (tgt := 771) C d_L_law_537 (by decide) (fun h188 => ?_) (fun h188 => ?_)
        · refine j_iincN (n2 := 4) (lv2 := fun x189 => [(3, .int x189), (0, .ref b), (1, .ref (a 0)), (2, .ref (a2 0))]) C 3 rfl (by decide) (by decide) (fun _ => rfl) d_L_law_771 (fun x189 => ?_)
          refine j_goto (tgt := 18) C d_L_law_774 (by decide) ?_
          refine j_sub [1, 2, 3, 0] rfl ?_
          exact ih (S181, S186) x189
        · refine j_iconst (v := 0) C (by decide) d_L_law_540 ?_
          exact j_lawret0 C d_L_law_541
      refine j_if (fun h190 => ?_) (fun h190 => ?_)
      · refine j_tabIn (off := 510) (tgt := 542) C d_L_law_32 (by rw [h190]; decide) (by rw [h190]; decide) (by rw [h190]; rfl) (by decide) ?_
        refine j_aload_n C 1 rfl rfl d_L_law_542 ?_
        refine j_bnd2 (fun r191 S192 e193 => ?_)
        refine j_callLi (As := []) (rest := []) C 0 6 Y_A_cut u_583 (c_A_cut g S.1  e193) rfl rfl ⟨by decide, by decide⟩ rfl rfl rfl rfl (Nat.le_of_ble_eq_true rfl) d_L_law_543 ⟨Nat.le_refl _, Nat.le_refl _⟩ ?_
        refine j_aload_n C 2 rfl rfl d_L_law_546 ?_
        refine j_bnd2 (fun r194 S195 e196 => ?_)
        refine j_callRi (As := []) (rest := [.int r191]) C 0 7 Y_R_cut u_928 (c_R_cut g S.2  e196) rfl rfl ⟨by decide, by decide⟩ rfl rfl rfl rfl (Nat.le_of_ble_eq_true rfl) d_L_law_547 ⟨Nat.le_refl _, Nat.le_refl _⟩ ?_
        refine j_icmp_eq (tgt := 771) C d_L_law_550 (by decide) (fun h197 => ?_) (fun h197 => ?_)
        · refine j_iincN (n2 := 4) (lv2 := fun x198 => [(3, .int x198), (0, .ref b), (1, .ref (a 0)), (2, .ref (a2 0))]) C 3 rfl (by decide) (by decide) (fun _ => rfl) d_L_law_771 (fun x198 => ?_)
          refine j_goto (tgt := 18) C d_L_law_774 (by decide) ?_
          refine j_sub [1, 2, 3, 0] rfl ?_
          exact ih (S192, S195) x198
        · refine j_iconst (v := 0) C (by decide) d_L_law_553 ?_
          exact j_lawret0 C d_L_law_554
      refine j_if (fun h199 => ?_) (fun h199 => ?_)
      · refine j_tabIn (off := 523) (tgt := 555) C d_L_law_32 (by rw [h199]; decide) (by rw [h199]; decide) (by rw [h199]; rfl) (by decide) ?_
        refine j_aload_n C 1 rfl rfl d_L_law_555 ?_
        refine j_aload_n C 0 rfl rfl d_L_law_556 ?_
        refine j_iload_n C 3 rfl rfl d_L_law_557 ?_
        refine j_iconst (v := 1) C (by decide) d_L_law_558 ?_
        refine j_iadd C d_L_law_559 ?_
        refine j_grd (fun h200 => ?_)
        refine j_sld C hX hbl hbA h200 d_L_law_560 ?_
        refine j_bnd2 (fun r201 S202 e203 => ?_)
        refine j_callLi (As := [.int (xs (x3 + (1 : Int32)).toNatClampNeg)]) (rest := []) C 0 6 Y_A_arm u_591 (c_A_arm g S.1 (xs (x3 + (1 : Int32)).toNatClampNeg) e203) rfl rfl ⟨by decide, by decide⟩ rfl rfl rfl rfl (Nat.le_of_ble_eq_true rfl) d_L_law_561 ⟨Nat.le_refl _, Nat.le_refl _⟩ ?_
        refine j_aload_n C 2 rfl rfl d_L_law_564 ?_
        refine j_aload_n C 0 rfl rfl d_L_law_565 ?_
        refine j_iload_n C 3 rfl rfl d_L_law_566 ?_
        refine j_iconst (v := 1) C (by decide) d_L_law_567 ?_
        refine j_iadd C d_L_law_568 ?_
        refine j_grd (fun h204 => ?_)
        refine j_sld C hX hbl hbA h204 d_L_law_569 ?_
        refine j_bnd2 (fun r205 S206 e207 => ?_)
        refine j_callRi (As := [.int (xs (x3 + (1 : Int32)).toNatClampNeg)]) (rest := [.int r201]) C 0 7 Y_R_arm u_932 (c_R_arm g S.2 (xs (x3 + (1 : Int32)).toNatClampNeg) e207) rfl rfl ⟨by decide, by decide⟩ rfl rfl rfl rfl (Nat.le_of_ble_eq_true rfl) d_L_law_570 ⟨Nat.le_refl _, Nat.le_refl _⟩ ?_
        refine j_icmp_eq (tgt := 771) C d_L_law_573 (by decide) (fun h208 => ?_) (fun h208 => ?_)
        · refine j_iincN (n2 := 4) (lv2 := fun x209 => [(3, .int x209), (0, .ref b), (1, .ref (a 0)), (2, .ref (a2 0))]) C 3 rfl (by decide) (by decide) (fun _ => rfl) d_L_law_771 (fun x209 => ?_)
          refine j_goto (tgt := 18) C d_L_law_774 (by decide) ?_
          refine j_sub [1, 2, 3, 0] rfl ?_
          exact ih (S202, S206) x209
        · refine j_iconst (v := 0) C (by decide) d_L_law_576 ?_
          exact j_lawret0 C d_L_law_577
      refine j_if (fun h210 => ?_) (fun h210 => ?_)
      · refine j_tabIn (off := 546) (tgt := 578) C d_L_law_32 (by rw [h210]; decide) (by rw [h210]; decide) (by rw [h210]; rfl) (by decide) ?_
        refine j_aload_n C 1 rfl rfl d_L_law_578 ?_
        refine j_bnd2 (fun r211 S212 e213 => ?_)
        refine j_callLi (As := []) (rest := []) C 0 6 Y_A_power u_601 (c_A_power g S.1  e213) rfl rfl ⟨by decide, by decide⟩ rfl rfl rfl rfl (Nat.le_of_ble_eq_true rfl) d_L_law_579 ⟨Nat.le_refl _, Nat.le_refl _⟩ ?_
        refine j_aload_n C 2 rfl rfl d_L_law_582 ?_
        refine j_bnd2 (fun r214 S215 e216 => ?_)
        refine j_callRi (As := []) (rest := [.int r211]) C 0 7 Y_R_power u_936 (c_R_power g S.2  e216) rfl rfl ⟨by decide, by decide⟩ rfl rfl rfl rfl (Nat.le_of_ble_eq_true rfl) d_L_law_583 ⟨Nat.le_refl _, Nat.le_refl _⟩ ?_
        refine j_icmp_eq (tgt := 771) C d_L_law_586 (by decide) (fun h217 => ?_) (fun h217 => ?_)
        · refine j_iincN (n2 := 4) (lv2 := fun x218 => [(3, .int x218), (0, .ref b), (1, .ref (a 0)), (2, .ref (a2 0))]) C 3 rfl (by decide) (by decide) (fun _ => rfl) d_L_law_771 (fun x218 => ?_)
          refine j_goto (tgt := 18) C d_L_law_774 (by decide) ?_
          refine j_sub [1, 2, 3, 0] rfl ?_
          exact ih (S212, S215) x218
        · refine j_iconst (v := 0) C (by decide) d_L_law_589 ?_
          exact j_lawret0 C d_L_law_590
      refine j_if (fun h219 => ?_) (fun h219 => ?_)
      · refine j_tabIn (off := 559) (tgt := 591) C d_L_law_32 (by rw [h219]; decide) (by rw [h219]; decide) (by rw [h219]; rfl) (by decide) ?_
        refine j_aload_n C 1 rfl rfl d_L_law_591 ?_
        refine j_aload_n C 0 rfl rfl d_L_law_592 ?_
        refine j_iload_n C 3 rfl rfl d_L_law_593 ?_
        refine j_iconst (v := 1) C (by decide) d_L_law_594 ?_
        refine j_iadd C d_L_law_595 ?_
        refine j_grd (fun h220 => ?_)
        refine j_sld C hX hbl hbA h220 d_L_law_596 ?_
        refine j_aload_n C 0 rfl rfl d_L_law_597 ?_
        refine j_iload_n C 3 rfl rfl d_L_law_598 ?_
        refine j_iconst (v := 2) C (by decide) d_L_law_599 ?_
        refine j_iadd C d_L_law_600 ?_
        refine j_grd (fun h221 => ?_)
        refine j_sld C hX hbl hbA h221 d_L_law_601 ?_
        refine j_bnd2 (fun r222 S223 e224 => ?_)
        refine j_callLi (As := [.int (xs (x3 + (1 : Int32)).toNatClampNeg), .int (xs (x3 + (2 : Int32)).toNatClampNeg)]) (rest := []) C 0 6 Y_A_cassette u_627 (c_A_cassette g S.1 (xs (x3 + (1 : Int32)).toNatClampNeg) (xs (x3 + (2 : Int32)).toNatClampNeg) e224) rfl rfl ⟨by decide, by decide⟩ rfl rfl rfl rfl (Nat.le_of_ble_eq_true rfl) d_L_law_602 ⟨Nat.le_refl _, Nat.le_refl _⟩ ?_
        refine j_aload_n C 2 rfl rfl d_L_law_605 ?_
        refine j_aload_n C 0 rfl rfl d_L_law_606 ?_
        refine j_iload_n C 3 rfl rfl d_L_law_607 ?_
        refine j_iconst (v := 1) C (by decide) d_L_law_608 ?_
        refine j_iadd C d_L_law_609 ?_
        refine j_grd (fun h225 => ?_)
        refine j_sld C hX hbl hbA h225 d_L_law_610 ?_
        refine j_aload_n C 0 rfl rfl d_L_law_611 ?_
        refine j_iload_n C 3 rfl rfl d_L_law_612 ?_
        refine j_iconst (v := 2) C (by decide) d_L_law_613 ?_
        refine j_iadd C d_L_law_614 ?_
        refine j_grd (fun h226 => ?_)
        refine j_sld C hX hbl hbA h226 d_L_law_615 ?_
        refine j_bnd2 (fun r227 S228 e229 => ?_)
        refine j_callRi (As := [.int (xs (x3 + (1 : Int32)).toNatClampNeg), .int (xs (x3 + (2 : Int32)).toNatClampNeg)]) (rest := [.int r222]) C 0 7 Y_R_cassette u_940 (c_R_cassette g S.2 (xs (x3 + (1 : Int32)).toNatClampNeg) (xs (x3 + (2 : Int32)).toNatClampNeg) e229) rfl rfl ⟨by decide, by decide⟩ rfl rfl rfl rfl (Nat.le_of_ble_eq_true rfl) d_L_law_616 ⟨Nat.le_refl _, Nat.le_refl _⟩ ?_
        refine j_icmp_eq (tgt := 771) C d_L_law_619 (by decide) (fun h230 => ?_) (fun h230 => ?_)
        · refine j_iincN (n2 := 4) (lv2 := fun x231 => [(3, .int x231), (0, .ref b), (1, .ref (a 0)), (2, .ref (a2 0))]) C 3 rfl (by decide) (by decide) (fun _ => rfl) d_L_law_771 (fun x231 => ?_)
          refine j_goto (tgt := 18) C d_L_law_774 (by decide) ?_
          refine j_sub [1, 2, 3, 0] rfl ?_
          exact ih (S223, S228) x231
        · refine j_iconst (v := 0) C (by decide) d_L_law_622 ?_
          exact j_lawret0 C d_L_law_623
      refine j_if (fun h232 => ?_) (fun h232 => ?_)
      · refine j_tabIn (off := 592) (tgt := 624) C d_L_law_32 (by rw [h232]; decide) (by rw [h232]; decide) (by rw [h232]; rfl) (by decide) ?_
        refine j_aload_n C 1 rfl rfl d_L_law_624 ?_
        refine j_aload_n C 0 rfl rfl d_L_law_625 ?_
        refine j_iload_n C 3 rfl rfl d_L_law_626 ?_
        refine j_iconst (v := 1) C (by decide) d_L_law_627 ?_
        refine j_iadd C d_L_law_628 ?_
        refine j_grd (fun h233 => ?_)
        refine j_sld C hX hbl hbA h233 d_L_law_629 ?_
        refine j_aload_n C 0 rfl rfl d_L_law_630 ?_
        refine j_iload_n C 3 rfl rfl d_L_law_631 ?_
        refine j_iconst (v := 2) C (by decide) d_L_law_632 ?_
        refine j_iadd C d_L_law_633 ?_
        refine j_grd (fun h234 => ?_)
        refine j_sld C hX hbl hbA h234 d_L_law_634 ?_
        refine j_bnd2 (fun r235 S236 e237 => ?_)
        refine j_callLi (As := [.int (xs (x3 + (1 : Int32)).toNatClampNeg), .int (xs (x3 + (2 : Int32)).toNatClampNeg)]) (rest := []) C 0 6 Y_A_mix u_635 (c_A_mix g S.1 (xs (x3 + (1 : Int32)).toNatClampNeg) (xs (x3 + (2 : Int32)).toNatClampNeg) e237) rfl rfl ⟨by decide, by decide⟩ rfl rfl rfl rfl (Nat.le_of_ble_eq_true rfl) d_L_law_635 ⟨Nat.le_refl _, Nat.le_refl _⟩ ?_
        refine j_aload_n C 2 rfl rfl d_L_law_638 ?_
        refine j_aload_n C 0 rfl rfl d_L_law_639 ?_
        refine j_iload_n C 3 rfl rfl d_L_law_640 ?_
        refine j_iconst (v := 1) C (by decide) d_L_law_641 ?_
        refine j_iadd C d_L_law_642 ?_
        refine j_grd (fun h238 => ?_)
        refine j_sld C hX hbl hbA h238 d_L_law_643 ?_
        refine j_aload_n C 0 rfl rfl d_L_law_644 ?_
        refine j_iload_n C 3 rfl rfl d_L_law_645 ?_
        refine j_iconst (v := 2) C (by decide) d_L_law_646 ?_
        refine j_iadd C d_L_law_647 ?_
        refine j_grd (fun h239 => ?_)
        refine j_sld C hX hbl hbA h239 d_L_law_648 ?_
        refine j_bnd2 (fun r240 S241 e242 => ?_)
        refine j_callRi (As := [.int (xs (x3 + (1 : Int32)).toNatClampNeg), .int (xs (x3 + (2 : Int32)).toNatClampNeg)]) (rest := [.int r235]) C 0 7 Y_R_mix u_944 (c_R_mix g S.2 (xs (x3 + (1 : Int32)).toNatClampNeg) (xs (x3 + (2 : Int32)).toNatClampNeg) e242) rfl rfl ⟨by decide, by decide⟩ rfl rfl rfl rfl (Nat.le_of_ble_eq_true rfl) d_L_law_649 ⟨Nat.le_refl _, Nat.le_refl _⟩ ?_
        refine j_icmp_eq (tgt := 771) C d_L_law_652 (by decide) (fun h243 => ?_) (fun h243 => ?_)
        · refine j_iincN (n2 := 4) (lv2 := fun x244 => [(3, .int x244), (0, .ref b), (1, .ref (a 0)), (2, .ref (a2 0))]) C 3 rfl (by decide) (by decide) (fun _ => rfl) d_L_law_771 (fun x244 => ?_)
          refine j_goto (tgt := 18) C d_L_law_774 (by decide) ?_
          refine j_sub [1, 2, 3, 0] rfl ?_
          exact ih (S236, S241) x244
        · refine j_iconst (v := 0) C (by decide) d_L_law_655 ?_
          exact j_lawret0 C d_L_law_656
      refine j_if (fun h245 => ?_) (fun h245 => ?_)
      · refine j_tabIn (off := 625) (tgt := 657) C d_L_law_32 (by rw [h245]; decide) (by rw [h245]; decide) (by rw [h245]; rfl) (by decide) ?_
        refine j_aload_n C 1 rfl rfl d_L_law_657 ?_
        refine j_aload_n C 0 rfl rfl d_L_law_658 ?_
        refine j_iload_n C 3 rfl rfl d_L_law_659 ?_
        refine j_iconst (v := 1) C (by decide) d_L_law_660 ?_
        refine j_iadd C d_L_law_661 ?_
        refine j_grd (fun h246 => ?_)
        refine j_sld C hX hbl hbA h246 d_L_law_662 ?_
        refine j_bnd2 (fun r247 S248 e249 => ?_)
        refine j_callLl (As := [.int (xs (x3 + (1 : Int32)).toNatClampNeg)]) (rest := []) C 0 6 Y_A_balance u_644 (c_A_balance g S.1 (xs (x3 + (1 : Int32)).toNatClampNeg) e249) rfl rfl ⟨by decide, by decide⟩ rfl rfl rfl rfl (Nat.le_of_ble_eq_true rfl) d_L_law_663 ⟨Nat.le_refl _, Nat.le_refl _⟩ ?_
        refine j_aload_n C 2 rfl rfl d_L_law_666 ?_
        refine j_aload_n C 0 rfl rfl d_L_law_667 ?_
        refine j_iload_n C 3 rfl rfl d_L_law_668 ?_
        refine j_iconst (v := 1) C (by decide) d_L_law_669 ?_
        refine j_iadd C d_L_law_670 ?_
        refine j_grd (fun h250 => ?_)
        refine j_sld C hX hbl hbA h250 d_L_law_671 ?_
        refine j_bnd2 (fun r251 S252 e253 => ?_)
        refine j_callRl (As := [.int (xs (x3 + (1 : Int32)).toNatClampNeg)]) (rest := [.long r247]) C 0 7 Y_R_balance u_948 (c_R_balance g S.2 (xs (x3 + (1 : Int32)).toNatClampNeg) e253) rfl rfl ⟨by decide, by decide⟩ rfl rfl rfl rfl (Nat.le_of_ble_eq_true rfl) d_L_law_672 ⟨Nat.le_refl _, Nat.le_refl _⟩ ?_
        refine j_lcmp C d_L_law_675 ?_
        refine j_if_eq (tgt := 771) C d_L_law_676 (by decide) (fun h254 => ?_) (fun h254 => ?_)
        · refine j_iincN (n2 := 4) (lv2 := fun x255 => [(3, .int x255), (0, .ref b), (1, .ref (a 0)), (2, .ref (a2 0))]) C 3 rfl (by decide) (by decide) (fun _ => rfl) d_L_law_771 (fun x255 => ?_)
          refine j_goto (tgt := 18) C d_L_law_774 (by decide) ?_
          refine j_sub [1, 2, 3, 0] rfl ?_
          exact ih (S248, S252) x255
        · refine j_iconst (v := 0) C (by decide) d_L_law_679 ?_
          exact j_lawret0 C d_L_law_680
      refine j_if (fun h256 => ?_) (fun h256 => ?_)
      · refine j_tabIn (off := 649) (tgt := 681) C d_L_law_32 (by rw [h256]; decide) (by rw [h256]; decide) (by rw [h256]; rfl) (by decide) ?_
        refine j_aload_n C 1 rfl rfl d_L_law_681 ?_
        refine j_aload_n C 0 rfl rfl d_L_law_682 ?_
        refine j_iload_n C 3 rfl rfl d_L_law_683 ?_
        refine j_iconst (v := 1) C (by decide) d_L_law_684 ?_
        refine j_iadd C d_L_law_685 ?_
        refine j_grd (fun h257 => ?_)
        refine j_sld C hX hbl hbA h257 d_L_law_686 ?_
        refine j_aload_n C 0 rfl rfl d_L_law_687 ?_
        refine j_iload_n C 3 rfl rfl d_L_law_688 ?_
        refine j_iconst (v := 2) C (by decide) d_L_law_689 ?_
        refine j_iadd C d_L_law_690 ?_
        refine j_grd (fun h258 => ?_)
        refine j_sld C hX hbl hbA h258 d_L_law_691 ?_
        refine j_bnd2 (fun r259 S260 e261 => ?_)
        refine j_callLi (As := [.int (xs (x3 + (1 : Int32)).toNatClampNeg), .int (xs (x3 + (2 : Int32)).toNatClampNeg)]) (rest := []) C 0 6 Y_A_ofCard u_653 (c_A_ofCard g S.1 (xs (x3 + (1 : Int32)).toNatClampNeg) (xs (x3 + (2 : Int32)).toNatClampNeg) e261) rfl rfl ⟨by decide, by decide⟩ rfl rfl rfl rfl (Nat.le_of_ble_eq_true rfl) d_L_law_692 ⟨Nat.le_refl _, Nat.le_refl _⟩ ?_
        refine j_aload_n C 2 rfl rfl d_L_law_695 ?_
        refine j_aload_n C 0 rfl rfl d_L_law_696 ?_
        refine j_iload_n C 3 rfl rfl d_L_law_697 ?_
        refine j_iconst (v := 1) C (by decide) d_L_law_698 ?_
        refine j_iadd C d_L_law_699 ?_
        refine j_grd (fun h262 => ?_)
        refine j_sld C hX hbl hbA h262 d_L_law_700 ?_
        refine j_aload_n C 0 rfl rfl d_L_law_701 ?_
        refine j_iload_n C 3 rfl rfl d_L_law_702 ?_
        refine j_iconst (v := 2) C (by decide) d_L_law_703 ?_
        refine j_iadd C d_L_law_704 ?_
        refine j_grd (fun h263 => ?_)
        refine j_sld C hX hbl hbA h263 d_L_law_705 ?_
        refine j_bnd2 (fun r264 S265 e266 => ?_)
        refine j_callRi (As := [.int (xs (x3 + (1 : Int32)).toNatClampNeg), .int (xs (x3 + (2 : Int32)).toNatClampNeg)]) (rest := [.int r259]) C 0 7 Y_R_ofCard u_953 (c_R_ofCard g S.2 (xs (x3 + (1 : Int32)).toNatClampNeg) (xs (x3 + (2 : Int32)).toNatClampNeg) e266) rfl rfl ⟨by decide, by decide⟩ rfl rfl rfl rfl (Nat.le_of_ble_eq_true rfl) d_L_law_706 ⟨Nat.le_refl _, Nat.le_refl _⟩ ?_
        refine j_icmp_eq (tgt := 771) C d_L_law_709 (by decide) (fun h267 => ?_) (fun h267 => ?_)
        · refine j_iincN (n2 := 4) (lv2 := fun x268 => [(3, .int x268), (0, .ref b), (1, .ref (a 0)), (2, .ref (a2 0))]) C 3 rfl (by decide) (by decide) (fun _ => rfl) d_L_law_771 (fun x268 => ?_)
          refine j_goto (tgt := 18) C d_L_law_774 (by decide) ?_
          refine j_sub [1, 2, 3, 0] rfl ?_
          exact ih (S260, S265) x268
        · refine j_iconst (v := 0) C (by decide) d_L_law_712 ?_
          exact j_lawret0 C d_L_law_713
      refine j_if (fun h269 => ?_) (fun h269 => ?_)
      · refine j_tabIn (off := 682) (tgt := 714) C d_L_law_32 (by rw [h269]; decide) (by rw [h269]; decide) (by rw [h269]; rfl) (by decide) ?_
        refine j_aload_n C 1 rfl rfl d_L_law_714 ?_
        refine j_aload_n C 0 rfl rfl d_L_law_715 ?_
        refine j_iload_n C 3 rfl rfl d_L_law_716 ?_
        refine j_iconst (v := 1) C (by decide) d_L_law_717 ?_
        refine j_iadd C d_L_law_718 ?_
        refine j_grd (fun h270 => ?_)
        refine j_sld C hX hbl hbA h270 d_L_law_719 ?_
        refine j_aload_n C 0 rfl rfl d_L_law_720 ?_
        refine j_iload_n C 3 rfl rfl d_L_law_721 ?_
        refine j_iconst (v := 2) C (by decide) d_L_law_722 ?_
        refine j_iadd C d_L_law_723 ?_
        refine j_grd (fun h271 => ?_)
        refine j_sld C hX hbl hbA h271 d_L_law_724 ?_
        refine j_bnd2 (fun r272 S273 e274 => ?_)
        refine j_callLi (As := [.int (xs (x3 + (1 : Int32)).toNatClampNeg), .int (xs (x3 + (2 : Int32)).toNatClampNeg)]) (rest := []) C 0 6 Y_A_record u_669 (c_A_record g S.1 (xs (x3 + (1 : Int32)).toNatClampNeg) (xs (x3 + (2 : Int32)).toNatClampNeg) e274) rfl rfl ⟨by decide, by decide⟩ rfl rfl rfl rfl (Nat.le_of_ble_eq_true rfl) d_L_law_725 ⟨Nat.le_refl _, Nat.le_refl _⟩ ?_
        refine j_aload_n C 2 rfl rfl d_L_law_728 ?_
        refine j_aload_n C 0 rfl rfl d_L_law_729 ?_
        refine j_iload_n C 3 rfl rfl d_L_law_730 ?_
        refine j_iconst (v := 1) C (by decide) d_L_law_731 ?_
        refine j_iadd C d_L_law_732 ?_
        refine j_grd (fun h275 => ?_)
        refine j_sld C hX hbl hbA h275 d_L_law_733 ?_
        refine j_aload_n C 0 rfl rfl d_L_law_734 ?_
        refine j_iload_n C 3 rfl rfl d_L_law_735 ?_
        refine j_iconst (v := 2) C (by decide) d_L_law_736 ?_
        refine j_iadd C d_L_law_737 ?_
        refine j_grd (fun h276 => ?_)
        refine j_sld C hX hbl hbA h276 d_L_law_738 ?_
        refine j_bnd2 (fun r277 S278 e279 => ?_)
        refine j_callRi (As := [.int (xs (x3 + (1 : Int32)).toNatClampNeg), .int (xs (x3 + (2 : Int32)).toNatClampNeg)]) (rest := [.int r272]) C 0 7 Y_R_recordOf u_957 (c_R_recordOf g S.2 (xs (x3 + (1 : Int32)).toNatClampNeg) (xs (x3 + (2 : Int32)).toNatClampNeg) e279) rfl rfl ⟨by decide, by decide⟩ rfl rfl rfl rfl (Nat.le_of_ble_eq_true rfl) d_L_law_739 ⟨Nat.le_refl _, Nat.le_refl _⟩ ?_
        refine j_icmp_eq (tgt := 771) C d_L_law_742 (by decide) (fun h280 => ?_) (fun h280 => ?_)
        · refine j_iincN (n2 := 4) (lv2 := fun x281 => [(3, .int x281), (0, .ref b), (1, .ref (a 0)), (2, .ref (a2 0))]) C 3 rfl (by decide) (by decide) (fun _ => rfl) d_L_law_771 (fun x281 => ?_)
          refine j_goto (tgt := 18) C d_L_law_774 (by decide) ?_
          refine j_sub [1, 2, 3, 0] rfl ?_
          exact ih (S273, S278) x281
        · refine j_iconst (v := 0) C (by decide) d_L_law_745 ?_
          exact j_lawret0 C d_L_law_746
      refine j_if (fun h282 => ?_) (fun h282 => ?_)
      · refine j_tabIn (off := 715) (tgt := 747) C d_L_law_32 (by rw [h282]; decide) (by rw [h282]; decide) (by rw [h282]; rfl) (by decide) ?_
        refine j_aload_n C 1 rfl rfl d_L_law_747 ?_
        refine j_aload_n C 0 rfl rfl d_L_law_748 ?_
        refine j_iload_n C 3 rfl rfl d_L_law_749 ?_
        refine j_iconst (v := 1) C (by decide) d_L_law_750 ?_
        refine j_iadd C d_L_law_751 ?_
        refine j_grd (fun h283 => ?_)
        refine j_sld C hX hbl hbA h283 d_L_law_752 ?_
        refine j_bnd2 (fun r284 S285 e286 => ?_)
        refine j_callLl (As := [.int (xs (x3 + (1 : Int32)).toNatClampNeg)]) (rest := []) C 0 6 Y_A_count u_674 (c_A_count g S.1 (xs (x3 + (1 : Int32)).toNatClampNeg) e286) rfl rfl ⟨by decide, by decide⟩ rfl rfl rfl rfl (Nat.le_of_ble_eq_true rfl) d_L_law_753 ⟨Nat.le_refl _, Nat.le_refl _⟩ ?_
        refine j_aload_n C 2 rfl rfl d_L_law_756 ?_
        refine j_aload_n C 0 rfl rfl d_L_law_757 ?_
        refine j_iload_n C 3 rfl rfl d_L_law_758 ?_
        refine j_iconst (v := 1) C (by decide) d_L_law_759 ?_
        refine j_iadd C d_L_law_760 ?_
        refine j_grd (fun h287 => ?_)
        refine j_sld C hX hbl hbA h287 d_L_law_761 ?_
        refine j_bnd2 (fun r288 S289 e290 => ?_)
        refine j_callRl (As := [.int (xs (x3 + (1 : Int32)).toNatClampNeg)]) (rest := [.long r284]) C 0 7 Y_R_count u_961 (c_R_count g S.2 (xs (x3 + (1 : Int32)).toNatClampNeg) e290) rfl rfl ⟨by decide, by decide⟩ rfl rfl rfl rfl (Nat.le_of_ble_eq_true rfl) d_L_law_762 ⟨Nat.le_refl _, Nat.le_refl _⟩ ?_
        refine j_lcmp C d_L_law_765 ?_
        refine j_if_eq (tgt := 771) C d_L_law_766 (by decide) (fun h291 => ?_) (fun h291 => ?_)
        · refine j_iincN (n2 := 4) (lv2 := fun x292 => [(3, .int x292), (0, .ref b), (1, .ref (a 0)), (2, .ref (a2 0))]) C 3 rfl (by decide) (by decide) (fun _ => rfl) d_L_law_771 (fun x292 => ?_)
          refine j_goto (tgt := 18) C d_L_law_774 (by decide) ?_
          refine j_sub [1, 2, 3, 0] rfl ?_
          exact ih (S285, S289) x292
        · refine j_iconst (v := 0) C (by decide) d_L_law_769 ?_
          exact j_lawret0 C d_L_law_770
      refine j_tabOut (tgt := 771) C d_L_law_32 (by have gh24 : x23.toInt ≠ 0 := fun z => h24 (Int32.toInt_inj.mp (z.trans (by decide))); have gh39 : x23.toInt ≠ 1 := fun z => h39 (Int32.toInt_inj.mp (z.trans (by decide))); have gh54 : x23.toInt ≠ 2 := fun z => h54 (Int32.toInt_inj.mp (z.trans (by decide))); have gh69 : x23.toInt ≠ 3 := fun z => h69 (Int32.toInt_inj.mp (z.trans (by decide))); have gh80 : x23.toInt ≠ 4 := fun z => h80 (Int32.toInt_inj.mp (z.trans (by decide))); have gh91 : x23.toInt ≠ 5 := fun z => h91 (Int32.toInt_inj.mp (z.trans (by decide))); have gh102 : x23.toInt ≠ 6 := fun z => h102 (Int32.toInt_inj.mp (z.trans (by decide))); have gh111 : x23.toInt ≠ 7 := fun z => h111 (Int32.toInt_inj.mp (z.trans (by decide))); have gh120 : x23.toInt ≠ 8 := fun z => h120 (Int32.toInt_inj.mp (z.trans (by decide))); have gh129 : x23.toInt ≠ 9 := fun z => h129 (Int32.toInt_inj.mp (z.trans (by decide))); have gh140 : x23.toInt ≠ 10 := fun z => h140 (Int32.toInt_inj.mp (z.trans (by decide))); have gh151 : x23.toInt ≠ 11 := fun z => h151 (Int32.toInt_inj.mp (z.trans (by decide))); have gh162 : x23.toInt ≠ 12 := fun z => h162 (Int32.toInt_inj.mp (z.trans (by decide))); have gh177 : x23.toInt ≠ 13 := fun z => h177 (Int32.toInt_inj.mp (z.trans (by decide))); have gh190 : x23.toInt ≠ 14 := fun z => h190 (Int32.toInt_inj.mp (z.trans (by decide))); have gh199 : x23.toInt ≠ 15 := fun z => h199 (Int32.toInt_inj.mp (z.trans (by decide))); have gh210 : x23.toInt ≠ 16 := fun z => h210 (Int32.toInt_inj.mp (z.trans (by decide))); have gh219 : x23.toInt ≠ 17 := fun z => h219 (Int32.toInt_inj.mp (z.trans (by decide))); have gh232 : x23.toInt ≠ 18 := fun z => h232 (Int32.toInt_inj.mp (z.trans (by decide))); have gh245 : x23.toInt ≠ 19 := fun z => h245 (Int32.toInt_inj.mp (z.trans (by decide))); have gh256 : x23.toInt ≠ 20 := fun z => h256 (Int32.toInt_inj.mp (z.trans (by decide))); have gh269 : x23.toInt ≠ 21 := fun z => h269 (Int32.toInt_inj.mp (z.trans (by decide))); have gh282 : x23.toInt ≠ 22 := fun z => h282 (Int32.toInt_inj.mp (z.trans (by decide))); omega) (by decide) ?_
      refine j_iincN (n2 := 4) (lv2 := fun x293 => [(3, .int x293), (0, .ref b), (1, .ref (a 0)), (2, .ref (a2 0))]) C 3 rfl (by decide) (by decide) (fun _ => rfl) d_L_law_771 (fun x293 => ?_)
      refine j_goto (tgt := 18) C d_L_law_774 (by decide) ?_
      refine j_sub [1, 2, 3, 0] rfl ?_
      exact ih S x293
set_option maxRecDepth 100000 in
set_option maxHeartbeats 4000000 in
theorem law_run0 {l : Launch} {D : va_G} {cI cJ cZ cL : ClassId} {a a2 : Nat → Nat} {p : Program} {e : Env} {s : State} {m : MethodId} {below : List Frame} {meth : Method} {c : Code} {b L : Nat} {xs : Nat → Int32} (C : Cx p s m #[Value.ref b] meth c "AutoTellerLaw" code 4 ret D (tyT cI cJ cZ cL) (w2 (wdC cI cJ cZ cL a) (wdR cI cJ cZ cL a2)) (fun q => s.heap.size ≤ q)) (hX : va_X b L xs s s.heap) (hbl : b < s.heap.size) (hbA : ¬ (fun q => s.heap.size ≤ q) b) (g : Nat) (S : Mem × Mem) : Tg p l e room_1 s m #[Value.ref b] below meth c D (w2 (wdC cI cJ cZ cL a) (wdR cI cJ cZ cL a2)) (fun q => s.heap.size ≤ q) 4 600000 7302250 (fun (_ : Unit) (_ : Mem × Mem) => lw_Z0 below #[Value.ref b] s) KL0 (f_L_law g L xs S) S 16 [(2, .ref (a2 0)), (1, .ref (a 0)), (0, .ref b)] [] := by
  unfold f_L_law
  refine j_iconst (v := 0) C (by decide) d_L_law_16 ?_
  refine j_istore_n (i := 3) (lv2 := [(3, .int (0 : Int32)), (2, .ref (a2 0)), (1, .ref (a 0)), (0, .ref b)]) C rfl (by decide) rfl d_L_law_17 ?_
  refine j_sub [3, 2, 1, 0] rfl ?_
  refine j_seqR ?_
  refine lp0_L_law_18 C hX hbl hbA g (fun _ => rfl) (fun S2 y => ?_) g S (0 : Int32)
  refine j_outR ?_
  refine j_iconst (v := 1) C (by decide) d_L_law_777 ?_
  exact j_kn rfl
