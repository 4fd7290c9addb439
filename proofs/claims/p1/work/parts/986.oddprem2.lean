theorem od_ws1 : ∀ c ∈ tables_1_1, c.before start1.args0 od = true := List.all_eq_true.mp (start1.su_all_split _ 40 tables_1_1 od_w1_0 (start1.su_all_split _ 40 (tables_1_1.drop 40) od_w1_1 (start1.su_all_split _ 40 ((tables_1_1.drop 40).drop 40) od_w1_2 (start1.su_all_split _ 40 (((tables_1_1.drop 40).drop 40).drop 40) od_w1_3 (start1.su_all_split _ 40 ((((tables_1_1.drop 40).drop 40).drop 40).drop 40) od_w1_4 (od_w1_5))))))
theorem od_ws2 : ∀ c ∈ tables_1_2, c.before start1.args0 od = true := List.all_eq_true.mp (start1.su_all_split _ 40 tables_1_2 od_w2_0 (start1.su_all_split _ 40 (tables_1_2.drop 40) od_w2_1 (start1.su_all_split _ 40 ((tables_1_2.drop 40).drop 40) od_w2_2 (start1.su_all_split _ 40 (((tables_1_2.drop 40).drop 40).drop 40) od_w2_3 (start1.su_all_split _ 40 ((((tables_1_2.drop 40).drop 40).drop 40).drop 40) od_w2_4 (od_w2_5))))))
theorem od_ws3 : ∀ c ∈ tables_1_3, c.before start1.args0 od = true := List.all_eq_true.mp (start1.su_all_split _ 40 tables_1_3 od_w3_0 (start1.su_all_split _ 40 (tables_1_3.drop 40) od_w3_1 (start1.su_all_split _ 40 ((tables_1_3.drop 40).drop 40) od_w3_2 (start1.su_all_split _ 40 (((tables_1_3.drop 40).drop 40).drop 40) od_w3_3 (start1.su_all_split _ 40 ((((tables_1_3.drop 40).drop 40).drop 40).drop 40) od_w3_4 (od_w3_5))))))
theorem od_ws4 : ∀ c ∈ tables_1_4, c.before start1.args0 od = true := List.all_eq_true.mp (start1.su_all_split _ 40 tables_1_4 od_w4_0 (start1.su_all_split _ 40 (tables_1_4.drop 40) od_w4_1 (start1.su_all_split _ 40 ((tables_1_4.drop 40).drop 40) od_w4_2 (start1.su_all_split _ 40 (((tables_1_4.drop 40).drop 40).drop 40) od_w4_3 (start1.su_all_split _ 40 ((((tables_1_4.drop 40).drop 40).drop 40).drop 40) od_w4_4 (od_w4_5))))))
theorem od_ws5 : ∀ c ∈ tables_1_5, c.before start1.args0 od = true := List.all_eq_true.mp (od_w5_0)
theorem od_wc : (Cond.code x code maxLocals ret).before start1.args0 od = true := su_hand_word (m := ⟨0, 0⟩) (by decide +kernel) rfl (by decide +kernel) (by decide +kernel)
theorem od_words : ∀ c ∈ (Cond.code x code maxLocals ret :: tables_1), c.before start1.args0 od = true := by
  intro c hc
  rcases List.mem_cons.mp hc with h | h
  · rw [h]; exact od_wc
  · have h1 : c ∈ tables_1_1 ++ (tables_1_2 ++ (tables_1_3 ++ (tables_1_4 ++ (tables_1_5)))) := h
    rcases List.mem_append.mp h1 with h2 | h1
    · exact od_ws1 c h2
    rcases List.mem_append.mp h1 with h2 | h1
    · exact od_ws2 c h2
    rcases List.mem_append.mp h1 with h2 | h1
    · exact od_ws3 c h2
    rcases List.mem_append.mp h1 with h2 | h1
    · exact od_ws4 c h2
    exact od_ws5 c h1
set_option maxRecDepth 16384 in
theorem od_start : AtStart classFile x code maxLocals ret World_1 tables_1 room_1 Calls_1 rest_1 Pre_1 launch0 start1.p0 start1.e0 od ⟨0, 0⟩ start1.args0 Lib.HandBits.below0 :=
  ⟨lists_1, trivial, launch0.admits_env _ _ _, launch0.least_env, fairChoices_fair.cas, fairChoices_fair.clock, rfl, by decide +kernel, by decide +kernel,
    (Spec.applies_iff rfl).mpr ⟨rfl, rfl, rfl, by decide +kernel, by decide +kernel, by decide +kernel, launch0.hasRoom_least _ room_1 (by decide +kernel) (by decide +kernel) (by decide +kernel) (by decide +kernel) (by decide +kernel) (by decide +kernel), atoms_intro od_words⟩,
    trivial, (show rest_1_c.before start1.args0 od = true by decide +kernel), (show (Cond.and given_1 narrow_1).before start1.args0 od = true by decide +kernel)⟩
theorem od_not : ¬ Owed 0 od := by
  intro h
  have h1 := (h 2 od_cell (by decide +kernel) rfl).1
  have h2 : od.vm.findClass "[I" = some 15 := by decide +kernel
  rw [h2] at h1
  exact absurd (Option.some.inj h1) (by decide)

