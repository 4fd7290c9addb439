abbrev y_E_init : MethodName := ⟨"AutoTeller$Letter", "<init>", "()V"⟩
abbrev y_J_init : MethodName := ⟨"AutoTeller$Journal", "<init>", "()V"⟩
abbrev y_O_init : MethodName := ⟨"AutoTeller$Notes", "<init>", "()V"⟩
abbrev y_N_init : MethodName := ⟨"AutoTeller$Line", "<init>", "()V"⟩
abbrev y_H_init : MethodName := ⟨"AutoTeller$Host", "<init>", "(LAutoTeller$Line;)V"⟩
abbrev y_M_init : MethodName := ⟨"AutoTeller$Machine", "<init>", "(LAutoTeller$Line;)V"⟩
abbrev y_A_init : MethodName := ⟨"AutoTeller", "<init>", "()V"⟩
abbrev y_R_init : MethodName := ⟨"AutoTellerModel", "<init>", "()V"⟩
theorem u_15 : Cond.instanceMethod ⟨"AutoTeller", "<init>", "()V"⟩ ∈ wU := mU 15 (by decide +kernel) (by decide +kernel)
theorem u_16 : Cond.code ⟨"AutoTeller", "<init>", "()V"⟩ prog_1_method_1_code 1 (Option.none : Option Jvm.ClassFile.FieldType) ∈ wU := mU 16 (by decide +kernel) (by decide +kernel)
theorem u_17 : Cond.methodLink "AutoTeller" 1 ⟨"java/lang/Object", "<init>", "()V"⟩ ∈ wU := mU 17 (by decide +kernel) (by decide +kernel)
theorem u_18 : Cond.instanceMethod ⟨"java/lang/Object", "<init>", "()V"⟩ ∈ wU := mU 18 (by decide +kernel) (by decide +kernel)
theorem u_19 : Cond.code ⟨"java/lang/Object", "<init>", "()V"⟩ object_method_1_code 1 (Option.none : Option Jvm.ClassFile.FieldType) ∈ wU := mU 19 (by decide +kernel) (by decide +kernel)
theorem u_20 : Cond.classLink "AutoTeller" 7 "AutoTeller$Line" ∈ wU := mU 20 (by decide +kernel) (by decide +kernel)
theorem u_21 : Cond.instantiable "AutoTeller$Line" 3 ∈ wU := mU 21 (by decide +kernel) (by decide +kernel)
theorem u_22 : Cond.methodLink "AutoTeller" 9 ⟨"AutoTeller$Line", "<init>", "()V"⟩ ∈ wU := mU 22 (by decide +kernel) (by decide +kernel)
theorem u_23 : Cond.instanceMethod ⟨"AutoTeller$Line", "<init>", "()V"⟩ ∈ wU := mU 23 (by decide +kernel) (by decide +kernel)
theorem u_24 : Cond.code ⟨"AutoTeller$Line", "<init>", "()V"⟩ prog_5_method_1_code 2 (Option.none : Option Jvm.ClassFile.FieldType) ∈ wU := mU 24 (by decide +kernel) (by decide +kernel)
theorem u_25 : Cond.methodLink "AutoTeller$Line" 3 ⟨"java/lang/Object", "<init>", "()V"⟩ ∈ wU := mU 25 (by decide +kernel) (by decide +kernel)
theorem u_26 : Cond.classLink "AutoTeller$Line" 9 "AutoTeller$Letter" ∈ wU := mU 26 (by decide +kernel) (by decide +kernel)
theorem u_28 : Cond.instantiable "AutoTeller$Letter" 2 ∈ wU := mU 28 (by decide +kernel) (by decide +kernel)
theorem n_29 : Cond.methodLinkNest "AutoTeller$Line" 17 ⟨"AutoTeller$Letter", "<init>", "()V"⟩ "AutoTeller" ∈ wN := mN 29 (by decide +kernel) (by decide +kernel)
theorem u_30 : Cond.instanceMethod ⟨"AutoTeller$Letter", "<init>", "()V"⟩ ∈ wU := mU 30 (by decide +kernel) (by decide +kernel)
theorem u_31 : Cond.code ⟨"AutoTeller$Letter", "<init>", "()V"⟩ prog_4_method_1_code 1 (Option.none : Option Jvm.ClassFile.FieldType) ∈ wU := mU 31 (by decide +kernel) (by decide +kernel)
theorem u_32 : Cond.methodLink "AutoTeller$Letter" 3 ⟨"java/lang/Object", "<init>", "()V"⟩ ∈ wU := mU 32 (by decide +kernel) (by decide +kernel)
theorem u_43 : Cond.arrayClass Jvm.ClassFile.FieldType.int ∈ wU := mU 43 (by decide +kernel) (by decide +kernel)
theorem u_56 : Cond.classLink "AutoTeller" 16 "AutoTeller$Host" ∈ wU := mU 56 (by decide +kernel) (by decide +kernel)
theorem u_57 : Cond.instantiable "AutoTeller$Host" 11 ∈ wU := mU 57 (by decide +kernel) (by decide +kernel)
theorem u_58 : Cond.methodLink "AutoTeller" 18 ⟨"AutoTeller$Host", "<init>", "(LAutoTeller$Line;)V"⟩ ∈ wU := mU 58 (by decide +kernel) (by decide +kernel)
theorem u_59 : Cond.instanceMethod ⟨"AutoTeller$Host", "<init>", "(LAutoTeller$Line;)V"⟩ ∈ wU := mU 59 (by decide +kernel) (by decide +kernel)
theorem u_60 : Cond.code ⟨"AutoTeller$Host", "<init>", "(LAutoTeller$Line;)V"⟩ prog_2_method_1_code 2 (Option.none : Option Jvm.ClassFile.FieldType) ∈ wU := mU 60 (by decide +kernel) (by decide +kernel)
theorem u_61 : Cond.methodLink "AutoTeller$Host" 3 ⟨"java/lang/Object", "<init>", "()V"⟩ ∈ wU := mU 61 (by decide +kernel) (by decide +kernel)
theorem u_62 : Cond.methodLink "AutoTeller$Host" 41 ⟨"java/util/Arrays", "fill", "([II)V"⟩ ∈ wU := mU 62 (by decide +kernel) (by decide +kernel)
theorem u_101 : Cond.arrayClass Jvm.ClassFile.FieldType.long ∈ wU := mU 101 (by decide +kernel) (by decide +kernel)
theorem u_102 : Cond.classLink "AutoTeller" 25 "AutoTeller$Machine" ∈ wU := mU 102 (by decide +kernel) (by decide +kernel)
theorem u_103 : Cond.instantiable "AutoTeller$Machine" 15 ∈ wU := mU 103 (by decide +kernel) (by decide +kernel)
theorem u_104 : Cond.methodLink "AutoTeller" 27 ⟨"AutoTeller$Machine", "<init>", "(LAutoTeller$Line;)V"⟩ ∈ wU := mU 104 (by decide +kernel) (by decide +kernel)
theorem u_105 : Cond.instanceMethod ⟨"AutoTeller$Machine", "<init>", "(LAutoTeller$Line;)V"⟩ ∈ wU := mU 105 (by decide +kernel) (by decide +kernel)
theorem u_106 : Cond.code ⟨"AutoTeller$Machine", "<init>", "(LAutoTeller$Line;)V"⟩ prog_6_method_1_code 2 (Option.none : Option Jvm.ClassFile.FieldType) ∈ wU := mU 106 (by decide +kernel) (by decide +kernel)
theorem u_107 : Cond.methodLink "AutoTeller$Machine" 3 ⟨"java/lang/Object", "<init>", "()V"⟩ ∈ wU := mU 107 (by decide +kernel) (by decide +kernel)
theorem u_108 : Cond.classLink "AutoTeller$Machine" 9 "AutoTeller$Notes" ∈ wU := mU 108 (by decide +kernel) (by decide +kernel)
theorem u_109 : Cond.instantiable "AutoTeller$Notes" 11 ∈ wU := mU 109 (by decide +kernel) (by decide +kernel)
theorem n_110 : Cond.methodLinkNest "AutoTeller$Machine" 11 ⟨"AutoTeller$Notes", "<init>", "()V"⟩ "AutoTeller" ∈ wN := mN 110 (by decide +kernel) (by decide +kernel)
theorem u_111 : Cond.instanceMethod ⟨"AutoTeller$Notes", "<init>", "()V"⟩ ∈ wU := mU 111 (by decide +kernel) (by decide +kernel)
theorem u_112 : Cond.code ⟨"AutoTeller$Notes", "<init>", "()V"⟩ prog_7_method_1_code 1 (Option.none : Option Jvm.ClassFile.FieldType) ∈ wU := mU 112 (by decide +kernel) (by decide +kernel)
theorem u_113 : Cond.methodLink "AutoTeller$Notes" 3 ⟨"java/lang/Object", "<init>", "()V"⟩ ∈ wU := mU 113 (by decide +kernel) (by decide +kernel)
theorem n_114 : Cond.fieldLinkNest "AutoTeller$Notes" 9 "AutoTeller" "FIRST_DENOMINATIONS" "[I" "AutoTeller" ∈ wN := mN 114 (by decide +kernel) (by decide +kernel)
theorem u_116 : Cond.methodLink "AutoTeller$Notes" 13 ⟨"[I", "clone", "()Ljava/lang/Object;"⟩ ∈ wU := mU 116 (by decide +kernel) (by decide +kernel)
theorem u_117 : Cond.sameMethod "[I" "java/lang/Object" "clone" "()Ljava/lang/Object;" ∈ wU := mU 117 (by decide +kernel) (by decide +kernel)
theorem u_118 : Cond.native ⟨"java/lang/Object", "clone", "()Ljava/lang/Object;"⟩ ∈ wU := mU 118 (by decide +kernel) (by decide +kernel)
theorem u_119 : Cond.instanceMethod ⟨"java/lang/Object", "clone", "()Ljava/lang/Object;"⟩ ∈ wU := mU 119 (by decide +kernel) (by decide +kernel)
theorem u_120 : Cond.selects "[I" ⟨"[I", "clone", "()Ljava/lang/Object;"⟩ ⟨"java/lang/Object", "clone", "()Ljava/lang/Object;"⟩ ∈ wU := mU 120 (by decide +kernel) (by decide +kernel)
theorem u_122 : Cond.classLink "AutoTeller$Notes" 14 "[I" ∈ wU := mU 122 (by decide +kernel) (by decide +kernel)
theorem u_159 : Cond.classLink "AutoTeller$Machine" 18 "AutoTeller$Journal" ∈ wU := mU 159 (by decide +kernel) (by decide +kernel)
theorem u_160 : Cond.instantiable "AutoTeller$Journal" 5 ∈ wU := mU 160 (by decide +kernel) (by decide +kernel)
theorem n_161 : Cond.methodLinkNest "AutoTeller$Machine" 20 ⟨"AutoTeller$Journal", "<init>", "()V"⟩ "AutoTeller" ∈ wN := mN 161 (by decide +kernel) (by decide +kernel)
theorem u_162 : Cond.instanceMethod ⟨"AutoTeller$Journal", "<init>", "()V"⟩ ∈ wU := mU 162 (by decide +kernel) (by decide +kernel)
theorem u_163 : Cond.code ⟨"AutoTeller$Journal", "<init>", "()V"⟩ prog_3_method_1_code 1 (Option.none : Option Jvm.ClassFile.FieldType) ∈ wU := mU 163 (by decide +kernel) (by decide +kernel)
theorem u_164 : Cond.methodLink "AutoTeller$Journal" 3 ⟨"java/lang/Object", "<init>", "()V"⟩ ∈ wU := mU 164 (by decide +kernel) (by decide +kernel)
theorem u_237 : Cond.arrayClass Jvm.ClassFile.FieldType.boolean ∈ wU := mU 237 (by decide +kernel) (by decide +kernel)
theorem u_238 : Cond.classLink "AutoTeller" 32 "AutoTeller$Letter" ∈ wU := mU 238 (by decide +kernel) (by decide +kernel)
theorem n_239 : Cond.methodLinkNest "AutoTeller" 34 ⟨"AutoTeller$Letter", "<init>", "()V"⟩ "AutoTeller" ∈ wN := mN 239 (by decide +kernel) (by decide +kernel)
theorem u_682 : Cond.instanceMethod ⟨"AutoTellerModel", "<init>", "()V"⟩ ∈ wU := mU 682 (by decide +kernel) (by decide +kernel)
theorem u_683 : Cond.code ⟨"AutoTellerModel", "<init>", "()V"⟩ prog_9_method_1_code 2 (Option.none : Option Jvm.ClassFile.FieldType) ∈ wU := mU 683 (by decide +kernel) (by decide +kernel)
theorem u_684 : Cond.methodLink "AutoTellerModel" 1 ⟨"java/lang/Object", "<init>", "()V"⟩ ∈ wU := mU 684 (by decide +kernel) (by decide +kernel)
theorem Y_E_init : Yi y_E_init prog_4_method_1_code 1 0 := ⟨u_30, u_3, u_31, rfl, by decide, by decide, by decide +kernel⟩
theorem Y_J_init : Yi y_J_init prog_3_method_1_code 1 0 := ⟨u_162, u_8, u_163, rfl, by decide, by decide, by decide +kernel⟩
theorem Y_O_init : Yi y_O_init prog_7_method_1_code 1 0 := ⟨u_111, u_7, u_112, rfl, by decide, by decide, by decide +kernel⟩
theorem Y_N_init : Yi y_N_init prog_5_method_1_code 2 0 := ⟨u_23, u_2, u_24, rfl, by decide, by decide, by decide +kernel⟩
theorem Y_H_init : Yi y_H_init prog_2_method_1_code 2 1 := ⟨u_59, u_4, u_60, rfl, by decide, by decide, by decide +kernel⟩
theorem Y_M_init : Yi y_M_init prog_6_method_1_code 2 1 := ⟨u_105, u_6, u_106, rfl, by decide, by decide, by decide +kernel⟩
theorem Y_A_init : Yi y_A_init prog_1_method_1_code 1 0 := ⟨u_15, u_1, u_16, rfl, by decide, by decide, by decide +kernel⟩
theorem Y_R_init : Yi y_R_init prog_9_method_1_code 2 0 := ⟨u_682, u_9, u_683, rfl, by decide, by decide, by decide +kernel⟩
theorem d_E_init_0 : decode prog_4_method_1_code 0 = .ok (.aload_n 0, 1) := by decide +kernel
theorem d_E_init_1 : decode prog_4_method_1_code 1 = .ok (.invokespecial 3, 3) := by decide +kernel
theorem d_E_init_4 : decode prog_4_method_1_code 4 = .ok (.aload_n 0, 1) := by decide +kernel
theorem d_E_init_5 : decode prog_4_method_1_code 5 = .ok (.bipush 13, 2) := by decide +kernel
theorem d_E_init_7 : decode prog_4_method_1_code 7 = .ok (.newarray .int, 2) := by decide +kernel
theorem d_E_init_9 : decode prog_4_method_1_code 9 = .ok (.putfield 9, 3) := by decide +kernel
theorem d_E_init_12 : decode prog_4_method_1_code 12 = .ok (.return_, 1) := by decide +kernel
theorem d_J_init_0 : decode prog_3_method_1_code 0 = .ok (.aload_n 0, 1) := by decide +kernel
theorem d_J_init_1 : decode prog_3_method_1_code 1 = .ok (.invokespecial 3, 3) := by decide +kernel
theorem d_J_init_4 : decode prog_3_method_1_code 4 = .ok (.aload_n 0, 1) := by decide +kernel
theorem d_J_init_5 : decode prog_3_method_1_code 5 = .ok (.sipush 300, 3) := by decide +kernel
theorem d_J_init_8 : decode prog_3_method_1_code 8 = .ok (.newarray .int, 2) := by decide +kernel
theorem d_J_init_10 : decode prog_3_method_1_code 10 = .ok (.putfield 9, 3) := by decide +kernel
theorem d_J_init_13 : decode prog_3_method_1_code 13 = .ok (.aload_n 0, 1) := by decide +kernel
theorem d_J_init_14 : decode prog_3_method_1_code 14 = .ok (.sipush 300, 3) := by decide +kernel
theorem d_J_init_17 : decode prog_3_method_1_code 17 = .ok (.newarray .int, 2) := by decide +kernel
theorem d_J_init_19 : decode prog_3_method_1_code 19 = .ok (.putfield 15, 3) := by decide +kernel
theorem d_J_init_22 : decode prog_3_method_1_code 22 = .ok (.aload_n 0, 1) := by decide +kernel
theorem d_J_init_23 : decode prog_3_method_1_code 23 = .ok (.sipush 300, 3) := by decide +kernel
theorem d_J_init_26 : decode prog_3_method_1_code 26 = .ok (.newarray .int, 2) := by decide +kernel
theorem d_J_init_28 : decode prog_3_method_1_code 28 = .ok (.putfield 18, 3) := by decide +kernel
theorem d_J_init_31 : decode prog_3_method_1_code 31 = .ok (.aload_n 0, 1) := by decide +kernel
theorem d_J_init_32 : decode prog_3_method_1_code 32 = .ok (.sipush 300, 3) := by decide +kernel
theorem d_J_init_35 : decode prog_3_method_1_code 35 = .ok (.newarray .int, 2) := by decide +kernel
theorem d_J_init_37 : decode prog_3_method_1_code 37 = .ok (.putfield 21, 3) := by decide +kernel
theorem d_J_init_40 : decode prog_3_method_1_code 40 = .ok (.return_, 1) := by decide +kernel
theorem d_O_init_0 : decode prog_7_method_1_code 0 = .ok (.aload_n 0, 1) := by decide +kernel
theorem d_O_init_1 : decode prog_7_method_1_code 1 = .ok (.invokespecial 3, 3) := by decide +kernel
theorem d_O_init_4 : decode prog_7_method_1_code 4 = .ok (.aload_n 0, 1) := by decide +kernel
theorem d_O_init_5 : decode prog_7_method_1_code 5 = .ok (.getstatic 9, 3) := by decide +kernel
theorem d_O_init_8 : decode prog_7_method_1_code 8 = .ok (.invokevirtual 13, 3) := by decide +kernel
theorem d_O_init_11 : decode prog_7_method_1_code 11 = .ok (.checkcast 14, 3) := by decide +kernel
theorem d_O_init_14 : decode prog_7_method_1_code 14 = .ok (.putfield 18, 3) := by decide +kernel
theorem d_O_init_17 : decode prog_7_method_1_code 17 = .ok (.aload_n 0, 1) := by decide +kernel
theorem d_O_init_18 : decode prog_7_method_1_code 18 = .ok (.iconst 4, 1) := by decide +kernel
theorem d_O_init_19 : decode prog_7_method_1_code 19 = .ok (.newarray .int, 2) := by decide +kernel
theorem d_O_init_21 : decode prog_7_method_1_code 21 = .ok (.putfield 23, 3) := by decide +kernel
theorem d_O_init_24 : decode prog_7_method_1_code 24 = .ok (.aload_n 0, 1) := by decide +kernel
theorem d_O_init_25 : decode prog_7_method_1_code 25 = .ok (.iconst 4, 1) := by decide +kernel
theorem d_O_init_26 : decode prog_7_method_1_code 26 = .ok (.newarray .int, 2) := by decide +kernel
theorem d_O_init_28 : decode prog_7_method_1_code 28 = .ok (.putfield 26, 3) := by decide +kernel
theorem d_O_init_31 : decode prog_7_method_1_code 31 = .ok (.aload_n 0, 1) := by decide +kernel
theorem d_O_init_32 : decode prog_7_method_1_code 32 = .ok (.iconst 4, 1) := by decide +kernel
theorem d_O_init_33 : decode prog_7_method_1_code 33 = .ok (.newarray .int, 2) := by decide +kernel
theorem d_O_init_35 : decode prog_7_method_1_code 35 = .ok (.putfield 29, 3) := by decide +kernel
theorem d_O_init_38 : decode prog_7_method_1_code 38 = .ok (.aload_n 0, 1) := by decide +kernel
theorem d_O_init_39 : decode prog_7_method_1_code 39 = .ok (.iconst 4, 1) := by decide +kernel
theorem d_O_init_40 : decode prog_7_method_1_code 40 = .ok (.newarray .int, 2) := by decide +kernel
theorem d_O_init_42 : decode prog_7_method_1_code 42 = .ok (.putfield 32, 3) := by decide +kernel
theorem d_O_init_45 : decode prog_7_method_1_code 45 = .ok (.aload_n 0, 1) := by decide +kernel
theorem d_O_init_46 : decode prog_7_method_1_code 46 = .ok (.iconst 4, 1) := by decide +kernel
theorem d_O_init_47 : decode prog_7_method_1_code 47 = .ok (.newarray .int, 2) := by decide +kernel
theorem d_O_init_49 : decode prog_7_method_1_code 49 = .ok (.putfield 35, 3) := by decide +kernel
theorem d_O_init_52 : decode prog_7_method_1_code 52 = .ok (.return_, 1) := by decide +kernel
theorem d_N_init_0 : decode prog_5_method_1_code 0 = .ok (.aload_n 0, 1) := by decide +kernel
theorem d_N_init_1 : decode prog_5_method_1_code 1 = .ok (.invokespecial 3, 3) := by decide +kernel
theorem d_N_init_4 : decode prog_5_method_1_code 4 = .ok (.aload_n 0, 1) := by decide +kernel
theorem d_N_init_5 : decode prog_5_method_1_code 5 = .ok (.bipush 24, 2) := by decide +kernel
theorem d_N_init_7 : decode prog_5_method_1_code 7 = .ok (.anewarray 9, 3) := by decide +kernel
theorem d_N_init_10 : decode prog_5_method_1_code 10 = .ok (.putfield 11, 3) := by decide +kernel
theorem d_N_init_13 : decode prog_5_method_1_code 13 = .ok (.iconst 0, 1) := by decide +kernel
theorem d_N_init_14 : decode prog_5_method_1_code 14 = .ok (.istore_n 1, 1) := by decide +kernel
theorem d_N_init_15 : decode prog_5_method_1_code 15 = .ok (.iload_n 1, 1) := by decide +kernel
theorem d_N_init_16 : decode prog_5_method_1_code 16 = .ok (.bipush 24, 2) := by decide +kernel
theorem d_N_init_18 : decode prog_5_method_1_code 18 = .ok (.if_icmp .ge 22, 3) := by decide +kernel
theorem d_N_init_21 : decode prog_5_method_1_code 21 = .ok (.aload_n 0, 1) := by decide +kernel
theorem d_N_init_22 : decode prog_5_method_1_code 22 = .ok (.getfield 11, 3) := by decide +kernel
theorem d_N_init_25 : decode prog_5_method_1_code 25 = .ok (.iload_n 1, 1) := by decide +kernel
theorem d_N_init_26 : decode prog_5_method_1_code 26 = .ok (.new 9, 3) := by decide +kernel
theorem d_N_init_29 : decode prog_5_method_1_code 29 = .ok (.dup, 1) := by decide +kernel
theorem d_N_init_30 : decode prog_5_method_1_code 30 = .ok (.invokespecial 17, 3) := by decide +kernel
theorem d_N_init_33 : decode prog_5_method_1_code 33 = .ok (.aastore, 1) := by decide +kernel
theorem d_N_init_34 : decode prog_5_method_1_code 34 = .ok (.iinc 1 1, 3) := by decide +kernel
theorem d_N_init_37 : decode prog_5_method_1_code 37 = .ok (.goto (-22), 3) := by decide +kernel
theorem d_N_init_40 : decode prog_5_method_1_code 40 = .ok (.return_, 1) := by decide +kernel
theorem d_H_init_0 : decode prog_2_method_1_code 0 = .ok (.aload_n 0, 1) := by decide +kernel
theorem d_H_init_1 : decode prog_2_method_1_code 1 = .ok (.invokespecial 3, 3) := by decide +kernel
theorem d_H_init_4 : decode prog_2_method_1_code 4 = .ok (.aload_n 0, 1) := by decide +kernel
theorem d_H_init_5 : decode prog_2_method_1_code 5 = .ok (.bipush 8, 2) := by decide +kernel
theorem d_H_init_7 : decode prog_2_method_1_code 7 = .ok (.newarray .long, 2) := by decide +kernel
theorem d_H_init_9 : decode prog_2_method_1_code 9 = .ok (.putfield 9, 3) := by decide +kernel
theorem d_H_init_12 : decode prog_2_method_1_code 12 = .ok (.aload_n 0, 1) := by decide +kernel
theorem d_H_init_13 : decode prog_2_method_1_code 13 = .ok (.bipush 16, 2) := by decide +kernel
theorem d_H_init_15 : decode prog_2_method_1_code 15 = .ok (.newarray .int, 2) := by decide +kernel
theorem d_H_init_17 : decode prog_2_method_1_code 17 = .ok (.putfield 15, 3) := by decide +kernel
theorem d_H_init_20 : decode prog_2_method_1_code 20 = .ok (.aload_n 0, 1) := by decide +kernel
theorem d_H_init_21 : decode prog_2_method_1_code 21 = .ok (.bipush 16, 2) := by decide +kernel
theorem d_H_init_23 : decode prog_2_method_1_code 23 = .ok (.newarray .int, 2) := by decide +kernel
theorem d_H_init_25 : decode prog_2_method_1_code 25 = .ok (.putfield 19, 3) := by decide +kernel
theorem d_H_init_28 : decode prog_2_method_1_code 28 = .ok (.aload_n 0, 1) := by decide +kernel
theorem d_H_init_29 : decode prog_2_method_1_code 29 = .ok (.bipush 16, 2) := by decide +kernel
theorem d_H_init_31 : decode prog_2_method_1_code 31 = .ok (.newarray .int, 2) := by decide +kernel
theorem d_H_init_33 : decode prog_2_method_1_code 33 = .ok (.putfield 22, 3) := by decide +kernel
theorem d_H_init_36 : decode prog_2_method_1_code 36 = .ok (.aload_n 0, 1) := by decide +kernel
theorem d_H_init_37 : decode prog_2_method_1_code 37 = .ok (.sipush 2001, 3) := by decide +kernel
theorem d_H_init_40 : decode prog_2_method_1_code 40 = .ok (.newarray .int, 2) := by decide +kernel
theorem d_H_init_42 : decode prog_2_method_1_code 42 = .ok (.putfield 25, 3) := by decide +kernel
theorem d_H_init_45 : decode prog_2_method_1_code 45 = .ok (.aload_n 0, 1) := by decide +kernel
theorem d_H_init_46 : decode prog_2_method_1_code 46 = .ok (.sipush 2001, 3) := by decide +kernel
theorem d_H_init_49 : decode prog_2_method_1_code 49 = .ok (.newarray .int, 2) := by decide +kernel
theorem d_H_init_51 : decode prog_2_method_1_code 51 = .ok (.putfield 28, 3) := by decide +kernel
theorem d_H_init_54 : decode prog_2_method_1_code 54 = .ok (.aload_n 0, 1) := by decide +kernel
theorem d_H_init_55 : decode prog_2_method_1_code 55 = .ok (.sipush 2001, 3) := by decide +kernel
theorem d_H_init_58 : decode prog_2_method_1_code 58 = .ok (.newarray .int, 2) := by decide +kernel
theorem d_H_init_60 : decode prog_2_method_1_code 60 = .ok (.putfield 31, 3) := by decide +kernel
theorem d_H_init_63 : decode prog_2_method_1_code 63 = .ok (.aload_n 0, 1) := by decide +kernel
theorem d_H_init_64 : decode prog_2_method_1_code 64 = .ok (.sipush 2001, 3) := by decide +kernel
theorem d_H_init_67 : decode prog_2_method_1_code 67 = .ok (.newarray .int, 2) := by decide +kernel
theorem d_H_init_69 : decode prog_2_method_1_code 69 = .ok (.putfield 34, 3) := by decide +kernel
theorem d_H_init_72 : decode prog_2_method_1_code 72 = .ok (.aload_n 0, 1) := by decide +kernel
theorem d_H_init_73 : decode prog_2_method_1_code 73 = .ok (.aload_n 1, 1) := by decide +kernel
theorem d_H_init_74 : decode prog_2_method_1_code 74 = .ok (.putfield 37, 3) := by decide +kernel
theorem d_H_init_77 : decode prog_2_method_1_code 77 = .ok (.aload_n 0, 1) := by decide +kernel
theorem d_H_init_78 : decode prog_2_method_1_code 78 = .ok (.getfield 15, 3) := by decide +kernel
theorem d_H_init_81 : decode prog_2_method_1_code 81 = .ok (.iconst (-1), 1) := by decide +kernel
theorem d_H_init_82 : decode prog_2_method_1_code 82 = .ok (.invokestatic 41, 3) := by decide +kernel
theorem d_H_init_85 : decode prog_2_method_1_code 85 = .ok (.aload_n 0, 1) := by decide +kernel
theorem d_H_init_86 : decode prog_2_method_1_code 86 = .ok (.getfield 25, 3) := by decide +kernel
theorem d_H_init_89 : decode prog_2_method_1_code 89 = .ok (.iconst (-1), 1) := by decide +kernel
theorem d_H_init_90 : decode prog_2_method_1_code 90 = .ok (.invokestatic 41, 3) := by decide +kernel
theorem d_H_init_93 : decode prog_2_method_1_code 93 = .ok (.return_, 1) := by decide +kernel
theorem d_M_init_0 : decode prog_6_method_1_code 0 = .ok (.aload_n 0, 1) := by decide +kernel
theorem d_M_init_1 : decode prog_6_method_1_code 1 = .ok (.invokespecial 3, 3) := by decide +kernel
theorem d_M_init_4 : decode prog_6_method_1_code 4 = .ok (.aload_n 0, 1) := by decide +kernel
theorem d_M_init_5 : decode prog_6_method_1_code 5 = .ok (.new 9, 3) := by decide +kernel
theorem d_M_init_8 : decode prog_6_method_1_code 8 = .ok (.dup, 1) := by decide +kernel
theorem d_M_init_9 : decode prog_6_method_1_code 9 = .ok (.invokespecial 11, 3) := by decide +kernel
theorem d_M_init_12 : decode prog_6_method_1_code 12 = .ok (.putfield 12, 3) := by decide +kernel
theorem d_M_init_15 : decode prog_6_method_1_code 15 = .ok (.aload_n 0, 1) := by decide +kernel
theorem d_M_init_16 : decode prog_6_method_1_code 16 = .ok (.new 18, 3) := by decide +kernel
theorem d_M_init_19 : decode prog_6_method_1_code 19 = .ok (.dup, 1) := by decide +kernel
theorem d_M_init_20 : decode prog_6_method_1_code 20 = .ok (.invokespecial 20, 3) := by decide +kernel
theorem d_M_init_23 : decode prog_6_method_1_code 23 = .ok (.putfield 21, 3) := by decide +kernel
theorem d_M_init_26 : decode prog_6_method_1_code 26 = .ok (.aload_n 0, 1) := by decide +kernel
theorem d_M_init_27 : decode prog_6_method_1_code 27 = .ok (.bipush 16, 2) := by decide +kernel
theorem d_M_init_29 : decode prog_6_method_1_code 29 = .ok (.newarray .boolean, 2) := by decide +kernel
theorem d_M_init_31 : decode prog_6_method_1_code 31 = .ok (.putfield 25, 3) := by decide +kernel
theorem d_M_init_34 : decode prog_6_method_1_code 34 = .ok (.aload_n 0, 1) := by decide +kernel
theorem d_M_init_35 : decode prog_6_method_1_code 35 = .ok (.iconst 1, 1) := by decide +kernel
theorem d_M_init_36 : decode prog_6_method_1_code 36 = .ok (.putfield 29, 3) := by decide +kernel
theorem d_M_init_39 : decode prog_6_method_1_code 39 = .ok (.aload_n 0, 1) := by decide +kernel
theorem d_M_init_40 : decode prog_6_method_1_code 40 = .ok (.iconst (-1), 1) := by decide +kernel
theorem d_M_init_41 : decode prog_6_method_1_code 41 = .ok (.putfield 33, 3) := by decide +kernel
theorem d_M_init_44 : decode prog_6_method_1_code 44 = .ok (.aload_n 0, 1) := by decide +kernel
theorem d_M_init_45 : decode prog_6_method_1_code 45 = .ok (.iconst 0, 1) := by decide +kernel
theorem d_M_init_46 : decode prog_6_method_1_code 46 = .ok (.putfield 37, 3) := by decide +kernel
theorem d_M_init_49 : decode prog_6_method_1_code 49 = .ok (.aload_n 0, 1) := by decide +kernel
theorem d_M_init_50 : decode prog_6_method_1_code 50 = .ok (.iconst (-1), 1) := by decide +kernel
theorem d_M_init_51 : decode prog_6_method_1_code 51 = .ok (.putfield 40, 3) := by decide +kernel
theorem d_M_init_54 : decode prog_6_method_1_code 54 = .ok (.aload_n 0, 1) := by decide +kernel
theorem d_M_init_55 : decode prog_6_method_1_code 55 = .ok (.iconst 1, 1) := by decide +kernel
theorem d_M_init_56 : decode prog_6_method_1_code 56 = .ok (.putfield 43, 3) := by decide +kernel
theorem d_M_init_59 : decode prog_6_method_1_code 59 = .ok (.aload_n 0, 1) := by decide +kernel
theorem d_M_init_60 : decode prog_6_method_1_code 60 = .ok (.iconst (-1), 1) := by decide +kernel
theorem d_M_init_61 : decode prog_6_method_1_code 61 = .ok (.putfield 46, 3) := by decide +kernel
theorem d_M_init_64 : decode prog_6_method_1_code 64 = .ok (.aload_n 0, 1) := by decide +kernel
theorem d_M_init_65 : decode prog_6_method_1_code 65 = .ok (.aload_n 1, 1) := by decide +kernel
theorem d_M_init_66 : decode prog_6_method_1_code 66 = .ok (.putfield 49, 3) := by decide +kernel
theorem d_M_init_69 : decode prog_6_method_1_code 69 = .ok (.return_, 1) := by decide +kernel
theorem d_A_init_0 : decode prog_1_method_1_code 0 = .ok (.aload_n 0, 1) := by decide +kernel
theorem d_A_init_1 : decode prog_1_method_1_code 1 = .ok (.invokespecial 1, 3) := by decide +kernel
theorem d_A_init_4 : decode prog_1_method_1_code 4 = .ok (.aload_n 0, 1) := by decide +kernel
theorem d_A_init_5 : decode prog_1_method_1_code 5 = .ok (.new 7, 3) := by decide +kernel
theorem d_A_init_8 : decode prog_1_method_1_code 8 = .ok (.dup, 1) := by decide +kernel
theorem d_A_init_9 : decode prog_1_method_1_code 9 = .ok (.invokespecial 9, 3) := by decide +kernel
theorem d_A_init_12 : decode prog_1_method_1_code 12 = .ok (.putfield 10, 3) := by decide +kernel
theorem d_A_init_15 : decode prog_1_method_1_code 15 = .ok (.aload_n 0, 1) := by decide +kernel
theorem d_A_init_16 : decode prog_1_method_1_code 16 = .ok (.new 16, 3) := by decide +kernel
theorem d_A_init_19 : decode prog_1_method_1_code 19 = .ok (.dup, 1) := by decide +kernel
theorem d_A_init_20 : decode prog_1_method_1_code 20 = .ok (.aload_n 0, 1) := by decide +kernel
theorem d_A_init_21 : decode prog_1_method_1_code 21 = .ok (.getfield 10, 3) := by decide +kernel
theorem d_A_init_24 : decode prog_1_method_1_code 24 = .ok (.invokespecial 18, 3) := by decide +kernel
theorem d_A_init_27 : decode prog_1_method_1_code 27 = .ok (.putfield 21, 3) := by decide +kernel
theorem d_A_init_30 : decode prog_1_method_1_code 30 = .ok (.aload_n 0, 1) := by decide +kernel
theorem d_A_init_31 : decode prog_1_method_1_code 31 = .ok (.new 25, 3) := by decide +kernel
theorem d_A_init_34 : decode prog_1_method_1_code 34 = .ok (.dup, 1) := by decide +kernel
theorem d_A_init_35 : decode prog_1_method_1_code 35 = .ok (.aload_n 0, 1) := by decide +kernel
theorem d_A_init_36 : decode prog_1_method_1_code 36 = .ok (.getfield 10, 3) := by decide +kernel
theorem d_A_init_39 : decode prog_1_method_1_code 39 = .ok (.invokespecial 27, 3) := by decide +kernel
theorem d_A_init_42 : decode prog_1_method_1_code 42 = .ok (.putfield 28, 3) := by decide +kernel
theorem d_A_init_45 : decode prog_1_method_1_code 45 = .ok (.aload_n 0, 1) := by decide +kernel
theorem d_A_init_46 : decode prog_1_method_1_code 46 = .ok (.new 32, 3) := by decide +kernel
theorem d_A_init_49 : decode prog_1_method_1_code 49 = .ok (.dup, 1) := by decide +kernel
theorem d_A_init_50 : decode prog_1_method_1_code 50 = .ok (.invokespecial 34, 3) := by decide +kernel
theorem d_A_init_53 : decode prog_1_method_1_code 53 = .ok (.putfield 35, 3) := by decide +kernel
theorem d_A_init_56 : decode prog_1_method_1_code 56 = .ok (.return_, 1) := by decide +kernel
theorem d_R_init_0 : decode prog_9_method_1_code 0 = .ok (.aload_n 0, 1) := by decide +kernel
theorem d_R_init_1 : decode prog_9_method_1_code 1 = .ok (.invokespecial 1, 3) := by decide +kernel
theorem d_R_init_4 : decode prog_9_method_1_code 4 = .ok (.aload_n 0, 1) := by decide +kernel
theorem d_R_init_5 : decode prog_9_method_1_code 5 = .ok (.bipush 8, 2) := by decide +kernel
theorem d_R_init_7 : decode prog_9_method_1_code 7 = .ok (.newarray .long, 2) := by decide +kernel
theorem d_R_init_9 : decode prog_9_method_1_code 9 = .ok (.putfield 7, 3) := by decide +kernel
theorem d_R_init_12 : decode prog_9_method_1_code 12 = .ok (.aload_n 0, 1) := by decide +kernel
theorem d_R_init_13 : decode prog_9_method_1_code 13 = .ok (.bipush 16, 2) := by decide +kernel
theorem d_R_init_15 : decode prog_9_method_1_code 15 = .ok (.newarray .int, 2) := by decide +kernel
theorem d_R_init_17 : decode prog_9_method_1_code 17 = .ok (.putfield 13, 3) := by decide +kernel
theorem d_R_init_20 : decode prog_9_method_1_code 20 = .ok (.aload_n 0, 1) := by decide +kernel
theorem d_R_init_21 : decode prog_9_method_1_code 21 = .ok (.bipush 16, 2) := by decide +kernel
theorem d_R_init_23 : decode prog_9_method_1_code 23 = .ok (.newarray .int, 2) := by decide +kernel
theorem d_R_init_25 : decode prog_9_method_1_code 25 = .ok (.putfield 17, 3) := by decide +kernel
theorem d_R_init_28 : decode prog_9_method_1_code 28 = .ok (.aload_n 0, 1) := by decide +kernel
theorem d_R_init_29 : decode prog_9_method_1_code 29 = .ok (.bipush 16, 2) := by decide +kernel
theorem d_R_init_31 : decode prog_9_method_1_code 31 = .ok (.newarray .int, 2) := by decide +kernel
theorem d_R_init_33 : decode prog_9_method_1_code 33 = .ok (.putfield 20, 3) := by decide +kernel
theorem d_R_init_36 : decode prog_9_method_1_code 36 = .ok (.aload_n 0, 1) := by decide +kernel
theorem d_R_init_37 : decode prog_9_method_1_code 37 = .ok (.sipush 2001, 3) := by decide +kernel
theorem d_R_init_40 : decode prog_9_method_1_code 40 = .ok (.newarray .int, 2) := by decide +kernel
theorem d_R_init_42 : decode prog_9_method_1_code 42 = .ok (.putfield 23, 3) := by decide +kernel
theorem d_R_init_45 : decode prog_9_method_1_code 45 = .ok (.aload_n 0, 1) := by decide +kernel
theorem d_R_init_46 : decode prog_9_method_1_code 46 = .ok (.sipush 2001, 3) := by decide +kernel
theorem d_R_init_49 : decode prog_9_method_1_code 49 = .ok (.newarray .int, 2) := by decide +kernel
theorem d_R_init_51 : decode prog_9_method_1_code 51 = .ok (.putfield 26, 3) := by decide +kernel
theorem d_R_init_54 : decode prog_9_method_1_code 54 = .ok (.aload_n 0, 1) := by decide +kernel
theorem d_R_init_55 : decode prog_9_method_1_code 55 = .ok (.sipush 2001, 3) := by decide +kernel
theorem d_R_init_58 : decode prog_9_method_1_code 58 = .ok (.newarray .int, 2) := by decide +kernel
theorem d_R_init_60 : decode prog_9_method_1_code 60 = .ok (.putfield 29, 3) := by decide +kernel
theorem d_R_init_63 : decode prog_9_method_1_code 63 = .ok (.aload_n 0, 1) := by decide +kernel
theorem d_R_init_64 : decode prog_9_method_1_code 64 = .ok (.sipush 2001, 3) := by decide +kernel
theorem d_R_init_67 : decode prog_9_method_1_code 67 = .ok (.newarray .int, 2) := by decide +kernel
theorem d_R_init_69 : decode prog_9_method_1_code 69 = .ok (.putfield 32, 3) := by decide +kernel
theorem d_R_init_72 : decode prog_9_method_1_code 72 = .ok (.aload_n 0, 1) := by decide +kernel
theorem d_R_init_73 : decode prog_9_method_1_code 73 = .ok (.sipush 2001, 3) := by decide +kernel
theorem d_R_init_76 : decode prog_9_method_1_code 76 = .ok (.newarray .boolean, 2) := by decide +kernel
theorem d_R_init_78 : decode prog_9_method_1_code 78 = .ok (.putfield 35, 3) := by decide +kernel
theorem d_R_init_81 : decode prog_9_method_1_code 81 = .ok (.aload_n 0, 1) := by decide +kernel
theorem d_R_init_82 : decode prog_9_method_1_code 82 = .ok (.iconst 4, 1) := by decide +kernel
theorem d_R_init_83 : decode prog_9_method_1_code 83 = .ok (.newarray .int, 2) := by decide +kernel
theorem d_R_init_85 : decode prog_9_method_1_code 85 = .ok (.putfield 39, 3) := by decide +kernel
theorem d_R_init_88 : decode prog_9_method_1_code 88 = .ok (.aload_n 0, 1) := by decide +kernel
theorem d_R_init_89 : decode prog_9_method_1_code 89 = .ok (.iconst 4, 1) := by decide +kernel
theorem d_R_init_90 : decode prog_9_method_1_code 90 = .ok (.newarray .int, 2) := by decide +kernel
theorem d_R_init_92 : decode prog_9_method_1_code 92 = .ok (.putfield 42, 3) := by decide +kernel
theorem d_R_init_95 : decode prog_9_method_1_code 95 = .ok (.aload_n 0, 1) := by decide +kernel
theorem d_R_init_96 : decode prog_9_method_1_code 96 = .ok (.iconst 4, 1) := by decide +kernel
theorem d_R_init_97 : decode prog_9_method_1_code 97 = .ok (.newarray .int, 2) := by decide +kernel
theorem d_R_init_99 : decode prog_9_method_1_code 99 = .ok (.putfield 45, 3) := by decide +kernel
theorem d_R_init_102 : decode prog_9_method_1_code 102 = .ok (.aload_n 0, 1) := by decide +kernel
theorem d_R_init_103 : decode prog_9_method_1_code 103 = .ok (.iconst 4, 1) := by decide +kernel
theorem d_R_init_104 : decode prog_9_method_1_code 104 = .ok (.newarray .int, 2) := by decide +kernel
theorem d_R_init_106 : decode prog_9_method_1_code 106 = .ok (.putfield 48, 3) := by decide +kernel
theorem d_R_init_109 : decode prog_9_method_1_code 109 = .ok (.aload_n 0, 1) := by decide +kernel
theorem d_R_init_110 : decode prog_9_method_1_code 110 = .ok (.iconst 4, 1) := by decide +kernel
theorem d_R_init_111 : decode prog_9_method_1_code 111 = .ok (.newarray .int, 2) := by decide +kernel
theorem d_R_init_113 : decode prog_9_method_1_code 113 = .ok (.putfield 51, 3) := by decide +kernel
theorem d_R_init_116 : decode prog_9_method_1_code 116 = .ok (.aload_n 0, 1) := by decide +kernel
theorem d_R_init_117 : decode prog_9_method_1_code 117 = .ok (.bipush 16, 2) := by decide +kernel
theorem d_R_init_119 : decode prog_9_method_1_code 119 = .ok (.newarray .boolean, 2) := by decide +kernel
theorem d_R_init_121 : decode prog_9_method_1_code 121 = .ok (.putfield 54, 3) := by decide +kernel
theorem d_R_init_124 : decode prog_9_method_1_code 124 = .ok (.aload_n 0, 1) := by decide +kernel
theorem d_R_init_125 : decode prog_9_method_1_code 125 = .ok (.sipush 1500, 3) := by decide +kernel
theorem d_R_init_128 : decode prog_9_method_1_code 128 = .ok (.newarray .int, 2) := by decide +kernel
theorem d_R_init_130 : decode prog_9_method_1_code 130 = .ok (.putfield 57, 3) := by decide +kernel
theorem d_R_init_133 : decode prog_9_method_1_code 133 = .ok (.aload_n 0, 1) := by decide +kernel
theorem d_R_init_134 : decode prog_9_method_1_code 134 = .ok (.iconst 1, 1) := by decide +kernel
theorem d_R_init_135 : decode prog_9_method_1_code 135 = .ok (.putfield 60, 3) := by decide +kernel
theorem d_R_init_138 : decode prog_9_method_1_code 138 = .ok (.aload_n 0, 1) := by decide +kernel
theorem d_R_init_139 : decode prog_9_method_1_code 139 = .ok (.iconst 1, 1) := by decide +kernel
theorem d_R_init_140 : decode prog_9_method_1_code 140 = .ok (.putfield 64, 3) := by decide +kernel
theorem d_R_init_143 : decode prog_9_method_1_code 143 = .ok (.aload_n 0, 1) := by decide +kernel
theorem d_R_init_144 : decode prog_9_method_1_code 144 = .ok (.iconst (-1), 1) := by decide +kernel
theorem d_R_init_145 : decode prog_9_method_1_code 145 = .ok (.putfield 68, 3) := by decide +kernel
theorem d_R_init_148 : decode prog_9_method_1_code 148 = .ok (.aload_n 0, 1) := by decide +kernel
theorem d_R_init_149 : decode prog_9_method_1_code 149 = .ok (.iconst (-1), 1) := by decide +kernel
theorem d_R_init_150 : decode prog_9_method_1_code 150 = .ok (.putfield 71, 3) := by decide +kernel
theorem d_R_init_153 : decode prog_9_method_1_code 153 = .ok (.aload_n 0, 1) := by decide +kernel
theorem d_R_init_154 : decode prog_9_method_1_code 154 = .ok (.iconst (-1), 1) := by decide +kernel
theorem d_R_init_155 : decode prog_9_method_1_code 155 = .ok (.putfield 74, 3) := by decide +kernel
theorem d_R_init_158 : decode prog_9_method_1_code 158 = .ok (.aload_n 0, 1) := by decide +kernel
theorem d_R_init_159 : decode prog_9_method_1_code 159 = .ok (.sipush 350, 3) := by decide +kernel
theorem d_R_init_162 : decode prog_9_method_1_code 162 = .ok (.newarray .int, 2) := by decide +kernel
theorem d_R_init_164 : decode prog_9_method_1_code 164 = .ok (.putfield 77, 3) := by decide +kernel
theorem d_R_init_167 : decode prog_9_method_1_code 167 = .ok (.aload_n 0, 1) := by decide +kernel
theorem d_R_init_168 : decode prog_9_method_1_code 168 = .ok (.bipush 14, 2) := by decide +kernel
theorem d_R_init_170 : decode prog_9_method_1_code 170 = .ok (.newarray .int, 2) := by decide +kernel
theorem d_R_init_172 : decode prog_9_method_1_code 172 = .ok (.putfield 80, 3) := by decide +kernel
theorem d_R_init_175 : decode prog_9_method_1_code 175 = .ok (.aload_n 0, 1) := by decide +kernel
theorem d_R_init_176 : decode prog_9_method_1_code 176 = .ok (.iconst 4, 1) := by decide +kernel
theorem d_R_init_177 : decode prog_9_method_1_code 177 = .ok (.newarray .int, 2) := by decide +kernel
theorem d_R_init_179 : decode prog_9_method_1_code 179 = .ok (.putfield 83, 3) := by decide +kernel
theorem d_R_init_182 : decode prog_9_method_1_code 182 = .ok (.iconst 0, 1) := by decide +kernel
theorem d_R_init_183 : decode prog_9_method_1_code 183 = .ok (.istore_n 1, 1) := by decide +kernel
theorem d_R_init_184 : decode prog_9_method_1_code 184 = .ok (.iload_n 1, 1) := by decide +kernel
theorem d_R_init_185 : decode prog_9_method_1_code 185 = .ok (.bipush 16, 2) := by decide +kernel
theorem d_R_init_187 : decode prog_9_method_1_code 187 = .ok (.if_icmp .ge 16, 3) := by decide +kernel
theorem d_R_init_190 : decode prog_9_method_1_code 190 = .ok (.aload_n 0, 1) := by decide +kernel
theorem d_R_init_191 : decode prog_9_method_1_code 191 = .ok (.getfield 13, 3) := by decide +kernel
theorem d_R_init_194 : decode prog_9_method_1_code 194 = .ok (.iload_n 1, 1) := by decide +kernel
theorem d_R_init_195 : decode prog_9_method_1_code 195 = .ok (.iconst (-1), 1) := by decide +kernel
theorem d_R_init_196 : decode prog_9_method_1_code 196 = .ok (.iastore, 1) := by decide +kernel
theorem d_R_init_197 : decode prog_9_method_1_code 197 = .ok (.iinc 1 1, 3) := by decide +kernel
theorem d_R_init_200 : decode prog_9_method_1_code 200 = .ok (.goto (-16), 3) := by decide +kernel
theorem d_R_init_203 : decode prog_9_method_1_code 203 = .ok (.iconst 0, 1) := by decide +kernel
theorem d_R_init_204 : decode prog_9_method_1_code 204 = .ok (.istore_n 1, 1) := by decide +kernel
theorem d_R_init_205 : decode prog_9_method_1_code 205 = .ok (.iload_n 1, 1) := by decide +kernel
theorem d_R_init_206 : decode prog_9_method_1_code 206 = .ok (.sipush 2000, 3) := by decide +kernel
theorem d_R_init_209 : decode prog_9_method_1_code 209 = .ok (.if_icmp .gt 23, 3) := by decide +kernel
theorem d_R_init_212 : decode prog_9_method_1_code 212 = .ok (.aload_n 0, 1) := by decide +kernel
theorem d_R_init_213 : decode prog_9_method_1_code 213 = .ok (.getfield 23, 3) := by decide +kernel
theorem d_R_init_216 : decode prog_9_method_1_code 216 = .ok (.iload_n 1, 1) := by decide +kernel
theorem d_R_init_217 : decode prog_9_method_1_code 217 = .ok (.iconst (-1), 1) := by decide +kernel
theorem d_R_init_218 : decode prog_9_method_1_code 218 = .ok (.iastore, 1) := by decide +kernel
theorem d_R_init_219 : decode prog_9_method_1_code 219 = .ok (.aload_n 0, 1) := by decide +kernel
theorem d_R_init_220 : decode prog_9_method_1_code 220 = .ok (.getfield 26, 3) := by decide +kernel
theorem d_R_init_223 : decode prog_9_method_1_code 223 = .ok (.iload_n 1, 1) := by decide +kernel
theorem d_R_init_224 : decode prog_9_method_1_code 224 = .ok (.iconst (-1), 1) := by decide +kernel
theorem d_R_init_225 : decode prog_9_method_1_code 225 = .ok (.iastore, 1) := by decide +kernel
theorem d_R_init_226 : decode prog_9_method_1_code 226 = .ok (.iinc 1 1, 3) := by decide +kernel
theorem d_R_init_229 : decode prog_9_method_1_code 229 = .ok (.goto (-24), 3) := by decide +kernel
theorem d_R_init_232 : decode prog_9_method_1_code 232 = .ok (.aload_n 0, 1) := by decide +kernel
theorem d_R_init_233 : decode prog_9_method_1_code 233 = .ok (.getfield 39, 3) := by decide +kernel
theorem d_R_init_236 : decode prog_9_method_1_code 236 = .ok (.iconst 0, 1) := by decide +kernel
theorem d_R_init_237 : decode prog_9_method_1_code 237 = .ok (.bipush 10, 2) := by decide +kernel
theorem d_R_init_239 : decode prog_9_method_1_code 239 = .ok (.iastore, 1) := by decide +kernel
theorem d_R_init_240 : decode prog_9_method_1_code 240 = .ok (.aload_n 0, 1) := by decide +kernel
theorem d_R_init_241 : decode prog_9_method_1_code 241 = .ok (.getfield 39, 3) := by decide +kernel
theorem d_R_init_244 : decode prog_9_method_1_code 244 = .ok (.iconst 1, 1) := by decide +kernel
theorem d_R_init_245 : decode prog_9_method_1_code 245 = .ok (.bipush 20, 2) := by decide +kernel
theorem d_R_init_247 : decode prog_9_method_1_code 247 = .ok (.iastore, 1) := by decide +kernel
theorem d_R_init_248 : decode prog_9_method_1_code 248 = .ok (.aload_n 0, 1) := by decide +kernel
theorem d_R_init_249 : decode prog_9_method_1_code 249 = .ok (.getfield 39, 3) := by decide +kernel
theorem d_R_init_252 : decode prog_9_method_1_code 252 = .ok (.iconst 2, 1) := by decide +kernel
theorem d_R_init_253 : decode prog_9_method_1_code 253 = .ok (.bipush 50, 2) := by decide +kernel
theorem d_R_init_255 : decode prog_9_method_1_code 255 = .ok (.iastore, 1) := by decide +kernel
theorem d_R_init_256 : decode prog_9_method_1_code 256 = .ok (.aload_n 0, 1) := by decide +kernel
theorem d_R_init_257 : decode prog_9_method_1_code 257 = .ok (.getfield 39, 3) := by decide +kernel
theorem d_R_init_260 : decode prog_9_method_1_code 260 = .ok (.iconst 3, 1) := by decide +kernel
theorem d_R_init_261 : decode prog_9_method_1_code 261 = .ok (.bipush 100, 2) := by decide +kernel
theorem d_R_init_263 : decode prog_9_method_1_code 263 = .ok (.iastore, 1) := by decide +kernel
theorem d_R_init_264 : decode prog_9_method_1_code 264 = .ok (.return_, 1) := by decide +kernel
def rm_E_init : Room := { frames := 1, cells := 1, slots := 13, locals := 12 }
def rm_J_init : Room := { frames := 1, cells := 4, slots := 1200, locals := 12 }
def rm_O_init : Room := { frames := 1, cells := 6, slots := 24, locals := 15 }
def rm_N_init : Room := { frames := 2, cells := 49, slots := 384, locals := 32 }
def rm_H_init : Room := { frames := 1, cells := 8, slots := 8060, locals := 23 }
def rm_M_init : Room := { frames := 2, cells := 13, slots := 1256, locals := 35 }
def rm_A_init : Room := { frames := 3, cells := 75, slots := 9744, locals := 56 }
def rm_R_init : Room := { frames := 1, cells := 19, slots := 11965, locals := 12 }
def rm_F_fill_a16F16 : Room := { frames := 0, cells := 0, slots := 0, locals := 0 }
def rm_F_fill_a2001F2001 : Room := { frames := 0, cells := 0, slots := 0, locals := 0 }
/-! starting memories, and small rows for the constructors -/
def sM (f : Nat → Int32) : Mem := (fun _ => f, fun _ _ => 0, fun _ => 0, fun _ => 0, fun _ _ => 0)
theorem P_arr {D : va_G} {pre post : va_W} {q : Nat} {cA : ClassId} {n : Nat} {f f2 : Nat → Option Nat} {H : Heap} (hf : ∀ i, i < n → f i = f2 i) (h : va_P D vwCl (pre ++ (q, .inl (cA, n, .inr (.inr (.inr (.inr f))))) :: post) H) : va_P D vwCl (pre ++ (q, .inl (cA, n, .inr (.inr (.inr (.inr f2))))) :: post) H := by
  have hr := app_right h
  refine va_P.app (app_left h) (fun k x hk => ?_)
  cases k with
  | zero =>
    cases hk
    have h0 : H[q]? = some (vp_cell cA (n, .inr (.inr (.inr (.inr f))))) := hr 0 _ rfl
    have e1 : vp_cell cA (n, .inr (.inr (.inr (.inr f)))) = vp_cell cA (n, .inr (.inr (.inr (.inr f2)))) := by
      show arrV cA n (fun j => va_rf (f j)) = arrV cA n (fun j => va_rf (f2 j))
      unfold arrV
      congr 1
      apply congrArg
      funext j
      show va_rf (f j.val) = va_rf (f2 j.val)
      rw [hf j.val j.isLt]
    rw [e1] at h0
    exact h0
  | succ k => exact hr (k + 1) x hk
section CT3
variable {μ : Type} {p : Program} {l : Launch} {e : Env} {R : Room} {s : State} {m : MethodId} {args : Array Value} {below : List Frame} {meth : Method} {c : Code}
variable {own : String} {cc : ByteArray} {nL : Nat} {rt : Option FieldType} {D : va_G} {tys : List (ClassId × FieldType)} {w : μ → va_W} {A : Nat → Prop}
variable {ce sl : Nat} {Q : State → Prop} {ws : va_W} {pc : Nat} {lv : List (Nat × Value)} {rest st : List Value}
theorem i_toT {ν : Type} {α : Type} {wn : ν → va_W} (C : Cx p s m args meth c own cc nL rt D tys w A) (hw : ∀ S S' : ν, (wn S).map Prod.fst = (wn S').map Prod.fst) {S : ν} {prog : Option (α × ν)} {QQ : α → ν → State → Prop} {r : α} {S1 : ν} (hp : prog = some (r, S1)) (hws : ws = wn S) (h : Cx p s m args meth c own cc nL rt D tys wn A → Tg p l e R s m args below meth c D wn A nL ce sl QQ some prog S pc lv st) : Gj p l e R s m args below meth c D A nL ce sl (QQ r S1) ws pc lv st := by
  intro H locs ls hP hD hS hlv
  subst hws
  exact h ⟨C.hx, C.hb, C.hml, C.hown, C.hts, C.hN, C.hK, fun S' => w_D hw hD S', C.hA, C.hr, C.hk⟩ r S1 (by rw [hp]; rfl) H locs ls hP hD hS hlv
theorem j_nret {ν : Type} {wn : ν → va_W} (C : Cx p s m args meth c own cc nL none D tys wn A) {post : ν → (Nat → Nat) → va_W} {S : ν} (b : Nat → Nat) (hp : wn S = post S b) (d : decode cc pc = .ok (.return_, 1)) : Tg p l e R s m args below meth c D wn A nL ce sl (fun (_ : Unit) (S1 : ν) => MQ below (QN D A (post S1)) args s ce sl A) some (some ((), S)) S pc lv [] := by
  intro r S1 hb
  cases hb
  exact i_vret C b hp d
end CT3

def wdF16 (cI cJ cZ cL : ClassId) (a : Nat → Nat) (S : Mem) : va_W := [(a 0, .inl (cI, 16, .inl (S.1 0)))]
theorem wdF16_fst (cI cJ cZ cL : ClassId) (a : Nat → Nat) (S S2 : Mem) : (wdF16 cI cJ cZ cL a S).map Prod.fst = (wdF16 cI cJ cZ cL a S2).map Prod.fst := rfl
section WF16
variable {p : Program} {l : Launch} {e : Env} {R : Room} {s : State} {m : MethodId} {args : Array Value} {below : List Frame} {meth : Method} {c : Code}
variable {own : String} {cc : ByteArray} {nL : Nat} {rt : Option FieldType} {D : va_G} {A : Nat → Prop}
variable {α β γ δ : Type} {vv : α → Option Value} {ce sl : Nat} {QQ : α → Mem → State → Prop} {K : β → Option (α × Mem)} {prog progA progB : Option β} {S : Mem} {pc : Nat} {lv : List (Nat × Value)} {rest st : List Value}
variable {cI cJ cZ cL : ClassId} {a : Nat → Nat}
theorem zF16_X_a16 (C : Cx p s m args meth c own cc nL rt D (tyT cI cJ cZ cL) (wdF16 cI cJ cZ cL a) A) (d : decode cc pc = .ok (.arraylength, 1)) (h : Tg p l e R s m args below meth c D (wdF16 cI cJ cZ cL a) A nL ce sl QQ K prog S (pc + 1) lv (.int 16 :: rest)) : Tg p l e R s m args below meth c D (wdF16 cI cJ cZ cL a) A nL ce sl QQ K prog S pc lv (.ref (a 0) :: rest) := j_alen C 0 0 rfl rfl rfl d h
theorem lF16_X_a16 (C : Cx p s m args meth c own cc nL rt D (tyT cI cJ cZ cL) (wdF16 cI cJ cZ cL a) A) {i : Int32} (hin : ¬ (i < 0 ∨ 16 ≤ i.toNatClampNeg)) (d : decode cc pc = .ok (.iaload, 1)) (h : Tg p l e R s m args below meth c D (wdF16 cI cJ cZ cL a) A nL ce sl QQ K prog S (pc + 1) lv (.int (S.1 0 i.toNatClampNeg) :: rest)) : Tg p l e R s m args below meth c D (wdF16 cI cJ cZ cL a) A nL ce sl QQ K prog S pc lv (.int i :: .ref (a 0) :: rest) := j_iald C 0 0 rfl rfl hin d h
theorem sF16_X_a16 (C : Cx p s m args meth c own cc nL rt D (tyT cI cJ cZ cL) (wdF16 cI cJ cZ cL a) A) {i v : Int32} (hin : ¬ (i < 0 ∨ 16 ≤ i.toNatClampNeg)) (d : decode cc pc = .ok (.iastore, 1)) (h : Tg p l e R s m args below meth c D (wdF16 cI cJ cZ cL a) A nL ce sl QQ K prog (sI S 0 i.toNatClampNeg v) (pc + 1) lv rest) : Tg p l e R s m args below meth c D (wdF16 cI cJ cZ cL a) A nL ce sl QQ K prog S pc lv (.int v :: .int i :: .ref (a 0) :: rest) := j_iast C 0 0 rfl rfl rfl hin d h
end WF16
def wdF2001 (cI cJ cZ cL : ClassId) (a : Nat → Nat) (S : Mem) : va_W := [(a 0, .inl (cI, 2001, .inl (S.1 0)))]
theorem wdF2001_fst (cI cJ cZ cL : ClassId) (a : Nat → Nat) (S S2 : Mem) : (wdF2001 cI cJ cZ cL a S).map Prod.fst = (wdF2001 cI cJ cZ cL a S2).map Prod.fst := rfl
section WF2001
variable {p : Program} {l : Launch} {e : Env} {R : Room} {s : State} {m : MethodId} {args : Array Value} {below : List Frame} {meth : Method} {c : Code}
variable {own : String} {cc : ByteArray} {nL : Nat} {rt : Option FieldType} {D : va_G} {A : Nat → Prop}
variable {α β γ δ : Type} {vv : α → Option Value} {ce sl : Nat} {QQ : α → Mem → State → Prop} {K : β → Option (α × Mem)} {prog progA progB : Option β} {S : Mem} {pc : Nat} {lv : List (Nat × Value)} {rest st : List Value}
variable {cI cJ cZ cL : ClassId} {a : Nat → Nat}
theorem zF2001_X_a2001 (C : Cx p s m args meth c own cc nL rt D (tyT cI cJ cZ cL) (wdF2001 cI cJ cZ cL a) A) (d : decode cc pc = .ok (.arraylength, 1)) (h : Tg p l e R s m args below meth c D (wdF2001 cI cJ cZ cL a) A nL ce sl QQ K prog S (pc + 1) lv (.int 2001 :: rest)) : Tg p l e R s m args below meth c D (wdF2001 cI cJ cZ cL a) A nL ce sl QQ K prog S pc lv (.ref (a 0) :: rest) := j_alen C 0 0 rfl rfl rfl d h
theorem lF2001_X_a2001 (C : Cx p s m args meth c own cc nL rt D (tyT cI cJ cZ cL) (wdF2001 cI cJ cZ cL a) A) {i : Int32} (hin : ¬ (i < 0 ∨ 2001 ≤ i.toNatClampNeg)) (d : decode cc pc = .ok (.iaload, 1)) (h : Tg p l e R s m args below meth c D (wdF2001 cI cJ cZ cL a) A nL ce sl QQ K prog S (pc + 1) lv (.int (S.1 0 i.toNatClampNeg) :: rest)) : Tg p l e R s m args below meth c D (wdF2001 cI cJ cZ cL a) A nL ce sl QQ K prog S pc lv (.int i :: .ref (a 0) :: rest) := j_iald C 0 0 rfl rfl hin d h
theorem sF2001_X_a2001 (C : Cx p s m args meth c own cc nL rt D (tyT cI cJ cZ cL) (wdF2001 cI cJ cZ cL a) A) {i v : Int32} (hin : ¬ (i < 0 ∨ 2001 ≤ i.toNatClampNeg)) (d : decode cc pc = .ok (.iastore, 1)) (h : Tg p l e R s m args below meth c D (wdF2001 cI cJ cZ cL a) A nL ce sl QQ K prog (sI S 0 i.toNatClampNeg v) (pc + 1) lv rest) : Tg p l e R s m args below meth c D (wdF2001 cI cJ cZ cL a) A nL ce sl QQ K prog S pc lv (.int v :: .int i :: .ref (a 0) :: rest) := j_iast C 0 0 rfl rfl rfl hin d h
end WF2001
def f_F_fill_a16F16_5 (g : Nat) : Nat → Mem → Int32 → Int32 → Int32 → Option (Mem × (Unit))
  | 0, _, _, _, _ => none
  | n + 1, S, x1, x2, x3 => if x3 ≤ x2 then (some (S, ())) else (grd (¬ (x2 < 0 ∨ 16 ≤ x2.toNatClampNeg)) (lt (sI S 0 x2.toNatClampNeg x1) (fun S23 => lt (x2 + (1 : Int32)) (fun x24 => f_F_fill_a16F16_5 g n S23 x1 x24 x3))))
set_option maxRecDepth 100000 in
set_option maxHeartbeats 4000000 in
theorem lp_F_fill_a16F16_5 {l : Launch} {D : va_G} {cI cJ cZ cL : ClassId} {a : Nat → Nat} {p : Program} {e : Env} {s : State} {m : MethodId} {args : Array Value} {below : List Frame} {meth : Method} {c : Code} {A : Nat → Prop} (C : Cx p s m args meth c "java/util/Arrays" prog_13_method_103_code 4 none D (tyT cI cJ cZ cL) (wdF16 cI cJ cZ cL a) A) (g : Nat) {K : (Mem × (Unit)) → Option (Unit × Mem)} (hx : ∀ (S : Mem) (y : Unit), Tj p l e rm_F_fill_a16F16 s m args below meth c D (wdF16 cI cJ cZ cL a) A 4 vV K (some (S, y)) S 20 [] []) : ∀ (n : Nat) (S : Mem) (x1 : Int32) (x2 : Int32) (x3 : Int32), Tj p l e rm_F_fill_a16F16 s m args below meth c D (wdF16 cI cJ cZ cL a) A 4 vV K (f_F_fill_a16F16_5 g n S x1 x2 x3) S 5 [(0, .ref (a 0)), (1, .int x1), (2, .int x2), (3, .int x3)] [] := by
  intro n
  induction n with
  | zero =>
    intro S x1 x2 x3
    exact j_none
  | succ n ih =>
    intro S x1 x2 x3
    rw [f_F_fill_a16F16_5]
    refine j_iload_n C 2 rfl rfl d_F_fill_5 ?_
    refine j_iload_n C 3 rfl rfl d_F_fill_6 ?_
    refine j_icmp_ge (tgt := 20) C d_F_fill_7 (by decide) (fun h21 => ?_) (fun h21 => ?_)
    · refine j_sub [] rfl ?_
      exact hx S ()
    · refine j_aload_n C 0 rfl rfl d_F_fill_10 ?_
      refine j_iload_n C 2 rfl rfl d_F_fill_11 ?_
      refine j_iload_n C 1 rfl rfl d_F_fill_12 ?_
      refine j_grd (fun h22 => ?_)
      refine sF16_X_a16 C h22 d_F_fill_13 ?_
      refine j_ltS (fun S23 => ?_)
      refine j_iincN (n2 := 1) (lv2 := fun x24 => [(2, .int x24), (0, .ref (a 0)), (1, .int x1), (3, .int x3)]) C 2 rfl (by decide) (by decide) (fun _ => rfl) d_F_fill_14 (fun x24 => ?_)
      refine j_goto (tgt := 5) C d_F_fill_17 (by decide) ?_
      refine j_sub [1, 2, 0, 3] rfl ?_
      exact ih S23 x1 x24 x3
def f_F_fill_a16F16 (g : Nat) (S : Mem) (x1 : Int32) : Option (Unit × Mem) := seqM (f_F_fill_a16F16_5 g g S x1 (0 : Int32) (16 : Int32)) (fun S25 y26 => some ((), S25))
set_option maxRecDepth 100000 in
set_option maxHeartbeats 4000000 in
theorem c_F_fill_a16F16 {l : Launch} {D : va_G} {cI cJ cZ cL : ClassId} {a : Nat → Nat} (g : Nat) (S : Mem) (x1 : Int32) {r : Unit} {S9 : Mem} (h : f_F_fill_a16F16 g S x1 = some (r, S9)) : Ctr l y_F_fill prog_13_method_103_code 4 none rm_F_fill_a16F16 D (tyT cI cJ cZ cL) (wdF16 cI cJ cZ cL a) [.ref (a 0), .int x1] S (vV r, S9) := by
  refine Ctr.of (lv0 := [(0, .ref (a 0)), (1, .int x1)]) (vv := vV) (by decide) rfl (wdF16_fst cI cJ cZ cL a) (Nat.le_of_ble_eq_true rfl) rfl (fun p e s m args below meth c A C => ?_) r S9 h
  unfold f_F_fill_a16F16
  refine j_iconst (v := 0) C (by decide) d_F_fill_0 ?_
  refine j_istore_n (i := 2) (lv2 := [(2, .int (0 : Int32)), (0, .ref (a 0)), (1, .int x1)]) C rfl (by decide) rfl d_F_fill_1 ?_
  refine j_aload_n C 1 rfl rfl d_F_fill_2 ?_
  refine zF16_X_a16 C d_F_fill_3 ?_
  refine j_istore_n (i := 3) (lv2 := [(3, .int (16 : Int32)), (2, .int (0 : Int32)), (0, .ref (a 0)), (1, .int x1)]) C rfl (by decide) rfl d_F_fill_4 ?_
  refine j_sub [2, 3, 1, 0] rfl ?_
  refine j_seqM ?_
  refine lp_F_fill_a16F16_5 C g  (fun S25 y26 => ?_) g S x1 (0 : Int32) (16 : Int32)
  refine j_outM ?_
  exact j_vret C rfl rfl d_F_fill_20
def f_F_fill_a2001F2001_5 (g : Nat) : Nat → Mem → Int32 → Int32 → Int32 → Option (Mem × (Unit))
  | 0, _, _, _, _ => none
  | n + 1, S, x1, x2, x3 => if x3 ≤ x2 then (some (S, ())) else (grd (¬ (x2 < 0 ∨ 2001 ≤ x2.toNatClampNeg)) (lt (sI S 0 x2.toNatClampNeg x1) (fun S23 => lt (x2 + (1 : Int32)) (fun x24 => f_F_fill_a2001F2001_5 g n S23 x1 x24 x3))))
set_option maxRecDepth 100000 in
set_option maxHeartbeats 4000000 in
theorem lp_F_fill_a2001F2001_5 {l : Launch} {D : va_G} {cI cJ cZ cL : ClassId} {a : Nat → Nat} {p : Program} {e : Env} {s : State} {m : MethodId} {args : Array Value} {below : List Frame} {meth : Method} {c : Code} {A : Nat → Prop} (C : Cx p s m args meth c "java/util/Arrays" prog_13_method_103_code 4 none D (tyT cI cJ cZ cL) (wdF2001 cI cJ cZ cL a) A) (g : Nat) {K : (Mem × (Unit)) → Option (Unit × Mem)} (hx : ∀ (S : Mem) (y : Unit), Tj p l e rm_F_fill_a2001F2001 s m args below meth c D (wdF2001 cI cJ cZ cL a) A 4 vV K (some (S, y)) S 20 [] []) : ∀ (n : Nat) (S : Mem) (x1 : Int32) (x2 : Int32) (x3 : Int32), Tj p l e rm_F_fill_a2001F2001 s m args below meth c D (wdF2001 cI cJ cZ cL a) A 4 vV K (f_F_fill_a2001F2001_5 g n S x1 x2 x3) S 5 [(0, .ref (a 0)), (1, .int x1), (2, .int x2), (3, .int x3)] [] := by
  intro n
  induction n with
  | zero =>
    intro S x1 x2 x3
    exact j_none
  | succ n ih =>
    intro S x1 x2 x3
    rw [f_F_fill_a2001F2001_5]
    refine j_iload_n C 2 rfl rfl d_F_fill_5 ?_
    refine j_iload_n C 3 rfl rfl d_F_fill_6 ?_
    refine j_icmp_ge (tgt := 20) C d_F_fill_7 (by decide) (fun h21 => ?_) (fun h21 => ?_)
    · refine j_sub [] rfl ?_
      exact hx S ()
    · refine j_aload_n C 0 rfl rfl d_F_fill_10 ?_
      refine j_iload_n C 2 rfl rfl d_F_fill_11 ?_
      refine j_iload_n C 1 rfl rfl d_F_fill_12 ?_
      refine j_grd (fun h22 => ?_)
      refine sF2001_X_a2001 C h22 d_F_fill_13 ?_
      refine j_ltS (fun S23 => ?_)
      refine j_iincN (n2 := 1) (lv2 := fun x24 => [(2, .int x24), (0, .ref (a 0)), (1, .int x1), (3, .int x3)]) C 2 rfl (by decide) (by decide) (fun _ => rfl) d_F_fill_14 (fun x24 => ?_)
      refine j_goto (tgt := 5) C d_F_fill_17 (by decide) ?_
      refine j_sub [1, 2, 0, 3] rfl ?_
      exact ih S23 x1 x24 x3
def f_F_fill_a2001F2001 (g : Nat) (S : Mem) (x1 : Int32) : Option (Unit × Mem) := seqM (f_F_fill_a2001F2001_5 g g S x1 (0 : Int32) (2001 : Int32)) (fun S25 y26 => some ((), S25))
set_option maxRecDepth 100000 in
set_option maxHeartbeats 4000000 in
theorem c_F_fill_a2001F2001 {l : Launch} {D : va_G} {cI cJ cZ cL : ClassId} {a : Nat → Nat} (g : Nat) (S : Mem) (x1 : Int32) {r : Unit} {S9 : Mem} (h : f_F_fill_a2001F2001 g S x1 = some (r, S9)) : Ctr l y_F_fill prog_13_method_103_code 4 none rm_F_fill_a2001F2001 D (tyT cI cJ cZ cL) (wdF2001 cI cJ cZ cL a) [.ref (a 0), .int x1] S (vV r, S9) := by
  refine Ctr.of (lv0 := [(0, .ref (a 0)), (1, .int x1)]) (vv := vV) (by decide) rfl (wdF2001_fst cI cJ cZ cL a) (Nat.le_of_ble_eq_true rfl) rfl (fun p e s m args below meth c A C => ?_) r S9 h
  unfold f_F_fill_a2001F2001
  refine j_iconst (v := 0) C (by decide) d_F_fill_0 ?_
  refine j_istore_n (i := 2) (lv2 := [(2, .int (0 : Int32)), (0, .ref (a 0)), (1, .int x1)]) C rfl (by decide) rfl d_F_fill_1 ?_
  refine j_aload_n C 1 rfl rfl d_F_fill_2 ?_
  refine zF2001_X_a2001 C d_F_fill_3 ?_
  refine j_istore_n (i := 3) (lv2 := [(3, .int (2001 : Int32)), (2, .int (0 : Int32)), (0, .ref (a 0)), (1, .int x1)]) C rfl (by decide) rfl d_F_fill_4 ?_
  refine j_sub [2, 3, 1, 0] rfl ?_
  refine j_seqM ?_
  refine lp_F_fill_a2001F2001_5 C g  (fun S25 y26 => ?_) g S x1 (0 : Int32) (2001 : Int32)
  refine j_outM ?_
  exact j_vret C rfl rfl d_F_fill_20
def aCi (k : Nat) : Nat := if k < 100 then [0, 0, 50, 59, 60, 67, 1, 51, 52, 53, 54, 55, 56, 57, 58, 72, 61, 62, 63, 64, 65, 66, 68, 69, 70, 71].getD k 0 else if k < 200 then (if k = 124 then 73 else 2 + 2 * (k - 100)) else (if k = 224 then 74 else 3 + 2 * (k - 200))
def aC (h0 : Nat) (b : Nat → Nat) (k : Nat) : Nat := if k = 0 then h0 else b (aCi k)
def S0c (f16 f2001 : Nat → Int32) : Mem := (fun k => if k = 2 then f16 else if k = 5 then f2001 else if k = 22 then dn0 else if k = 11 then (fun _ => 1) else if k = 15 then (fun _ => 1) else if k = 12 then (fun _ => -1) else if k = 14 then (fun _ => -1) else if k = 20 then (fun _ => -1) else (fun _ => 0), fun _ _ => 0, fun i => i, fun _ => 0, fun _ _ => 0)
def aR (h0 : Nat) (b : Nat → Nat) (k : Nat) : Nat := if k = 0 then h0 else b (k - 1)
def S0r : Mem := (fun k => if k = 16 then (fun _ => 1) else if k = 18 then (fun _ => 1) else if k = 19 then (fun _ => -1) else if k = 21 then (fun _ => -1) else if k = 23 then (fun _ => -1) else (fun _ => 0), fun _ _ => 0, fun _ => 0, fun _ => 0, fun _ _ => 0)
