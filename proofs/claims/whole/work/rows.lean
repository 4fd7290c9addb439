section
-- ===== PART A: goes FIRST, ahead of the names: the tables' words, and 'selects' of the private methods out of them =====
/-- a private method of a class that the tables say can be made, by its rows of tables_1 -/
def lw_okq (q : MethodName × Nat) : Prop := (q.1.cls ≠ "java/lang/invoke/MethodHandle" ∧ q.1.cls ≠ "java/lang/invoke/VarHandle") ∧ Cond.instantiable q.1.cls q.2 ∈ tables_1 ∧ Cond.privateMethod q.1 ∈ tables_1 ∧ Cond.instanceMethod q.1 ∈ tables_1
theorem lw_p0 : lw_okq (⟨"AutoTeller$Machine", "takeTrace", "()V"⟩, 15) := ⟨⟨by decide +kernel, by decide +kernel⟩, List.mem_of_getElem? (i := 103) (by decide +kernel), List.mem_of_getElem? (i := 323) (by decide +kernel), List.mem_of_getElem? (i := 324) (by decide +kernel)⟩
theorem lw_p1 : lw_okq (⟨"AutoTeller$Machine", "send", "(II)Z"⟩, 15) := ⟨⟨by decide +kernel, by decide +kernel⟩, List.mem_of_getElem? (i := 103) (by decide +kernel), List.mem_of_getElem? (i := 327) (by decide +kernel), List.mem_of_getElem? (i := 328) (by decide +kernel)⟩
theorem lw_p2 : lw_okq (⟨"AutoTeller$Machine", "mayStep", "()Z"⟩, 15) := ⟨⟨by decide +kernel, by decide +kernel⟩, List.mem_of_getElem? (i := 103) (by decide +kernel), List.mem_of_getElem? (i := 331) (by decide +kernel), List.mem_of_getElem? (i := 332) (by decide +kernel)⟩
theorem lw_p3 : lw_okq (⟨"AutoTeller$Letter", "writeNumber", "(IJ)V"⟩, 2) := ⟨⟨by decide +kernel, by decide +kernel⟩, List.mem_of_getElem? (i := 28) (by decide +kernel), List.mem_of_getElem? (i := 351) (by decide +kernel), List.mem_of_getElem? (i := 352) (by decide +kernel)⟩
theorem lw_p4 : lw_okq (⟨"AutoTeller$Letter", "reckonCheck", "()I"⟩, 2) := ⟨⟨by decide +kernel, by decide +kernel⟩, List.mem_of_getElem? (i := 28) (by decide +kernel), List.mem_of_getElem? (i := 355) (by decide +kernel), List.mem_of_getElem? (i := 356) (by decide +kernel)⟩
theorem lw_p5 : lw_okq (⟨"AutoTeller$Notes", "findLargest", "()V"⟩, 11) := ⟨⟨by decide +kernel, by decide +kernel⟩, List.mem_of_getElem? (i := 109) (by decide +kernel), List.mem_of_getElem? (i := 377) (by decide +kernel), List.mem_of_getElem? (i := 378) (by decide +kernel)⟩
theorem lw_p6 : lw_okq (⟨"AutoTeller$Notes", "mostOf", "(III)I"⟩, 11) := ⟨⟨by decide +kernel, by decide +kernel⟩, List.mem_of_getElem? (i := 109) (by decide +kernel), List.mem_of_getElem? (i := 384) (by decide +kernel), List.mem_of_getElem? (i := 385) (by decide +kernel)⟩
theorem lw_p7 : lw_okq (⟨"AutoTeller$Notes", "mixRest", "(III)V"⟩, 11) := ⟨⟨by decide +kernel, by decide +kernel⟩, List.mem_of_getElem? (i := 109) (by decide +kernel), List.mem_of_getElem? (i := 388) (by decide +kernel), List.mem_of_getElem? (i := 389) (by decide +kernel)⟩
theorem lw_p8 : lw_okq (⟨"AutoTeller$Machine", "write", "(I)Z"⟩, 15) := ⟨⟨by decide +kernel, by decide +kernel⟩, List.mem_of_getElem? (i := 103) (by decide +kernel), List.mem_of_getElem? (i := 392) (by decide +kernel), List.mem_of_getElem? (i := 393) (by decide +kernel)⟩
theorem lw_p9 : lw_okq (⟨"AutoTeller$Machine", "endWithoutCard", "()V"⟩, 15) := ⟨⟨by decide +kernel, by decide +kernel⟩, List.mem_of_getElem? (i := 103) (by decide +kernel), List.mem_of_getElem? (i := 413) (by decide +kernel), List.mem_of_getElem? (i := 414) (by decide +kernel)⟩
theorem lw_p10 : lw_okq (⟨"AutoTeller$Machine", "reverse", "(Z)V"⟩, 15) := ⟨⟨by decide +kernel, by decide +kernel⟩, List.mem_of_getElem? (i := 103) (by decide +kernel), List.mem_of_getElem? (i := 434) (by decide +kernel), List.mem_of_getElem? (i := 435) (by decide +kernel)⟩
theorem lw_p11 : lw_okq (⟨"AutoTeller$Notes", "emptyStackerInto", "([I)V"⟩, 11) := ⟨⟨by decide +kernel, by decide +kernel⟩, List.mem_of_getElem? (i := 109) (by decide +kernel), List.mem_of_getElem? (i := 446) (by decide +kernel), List.mem_of_getElem? (i := 447) (by decide +kernel)⟩
theorem lw_p12 : lw_okq (⟨"AutoTeller", "handOver", "()V"⟩, 4) := ⟨⟨by decide +kernel, by decide +kernel⟩, List.mem_of_getElem? (i := 13) (by decide +kernel), List.mem_of_getElem? (i := 467) (by decide +kernel), List.mem_of_getElem? (i := 468) (by decide +kernel)⟩
theorem lw_p13 : lw_okq (⟨"AutoTeller$Letter", "readNumber", "(I)J"⟩, 2) := ⟨⟨by decide +kernel, by decide +kernel⟩, List.mem_of_getElem? (i := 28) (by decide +kernel), List.mem_of_getElem? (i := 486) (by decide +kernel), List.mem_of_getElem? (i := 487) (by decide +kernel)⟩
theorem lw_p14 : lw_okq (⟨"AutoTeller$Host", "decide", "(IIIJ)I"⟩, 11) := ⟨⟨by decide +kernel, by decide +kernel⟩, List.mem_of_getElem? (i := 57) (by decide +kernel), List.mem_of_getElem? (i := 505) (by decide +kernel), List.mem_of_getElem? (i := 506) (by decide +kernel)⟩
theorem lw_p15 : lw_okq (⟨"AutoTeller$Host", "tryPin", "(IJ)I"⟩, 11) := ⟨⟨by decide +kernel, by decide +kernel⟩, List.mem_of_getElem? (i := 57) (by decide +kernel), List.mem_of_getElem? (i := 509) (by decide +kernel), List.mem_of_getElem? (i := 510) (by decide +kernel)⟩
def lw_privs_1 : List (MethodName × Nat) := [(⟨"AutoTeller$Machine", "takeTrace", "()V"⟩, 15), (⟨"AutoTeller$Machine", "send", "(II)Z"⟩, 15), (⟨"AutoTeller$Machine", "mayStep", "()Z"⟩, 15), (⟨"AutoTeller$Letter", "writeNumber", "(IJ)V"⟩, 2), (⟨"AutoTeller$Letter", "reckonCheck", "()I"⟩, 2), (⟨"AutoTeller$Notes", "findLargest", "()V"⟩, 11), (⟨"AutoTeller$Notes", "mostOf", "(III)I"⟩, 11), (⟨"AutoTeller$Notes", "mixRest", "(III)V"⟩, 11), (⟨"AutoTeller$Machine", "write", "(I)Z"⟩, 15), (⟨"AutoTeller$Machine", "endWithoutCard", "()V"⟩, 15), (⟨"AutoTeller$Machine", "reverse", "(Z)V"⟩, 15), (⟨"AutoTeller$Notes", "emptyStackerInto", "([I)V"⟩, 11), (⟨"AutoTeller", "handOver", "()V"⟩, 4), (⟨"AutoTeller$Letter", "readNumber", "(I)J"⟩, 2), (⟨"AutoTeller$Host", "decide", "(IIIJ)I"⟩, 11), (⟨"AutoTeller$Host", "tryPin", "(IJ)I"⟩, 11)]
theorem lw_r1 : ∀ q ∈ lw_privs_1, lw_okq q := List.forall_mem_cons.mpr ⟨lw_p0, List.forall_mem_cons.mpr ⟨lw_p1, List.forall_mem_cons.mpr ⟨lw_p2, List.forall_mem_cons.mpr ⟨lw_p3, List.forall_mem_cons.mpr ⟨lw_p4, List.forall_mem_cons.mpr ⟨lw_p5, List.forall_mem_cons.mpr ⟨lw_p6, List.forall_mem_cons.mpr ⟨lw_p7, List.forall_mem_cons.mpr ⟨lw_p8, List.forall_mem_cons.mpr ⟨lw_p9, List.forall_mem_cons.mpr ⟨lw_p10, List.forall_mem_cons.mpr ⟨lw_p11, List.forall_mem_cons.mpr ⟨lw_p12, List.forall_mem_cons.mpr ⟨lw_p13, List.forall_mem_cons.mpr ⟨lw_p14, List.forall_mem_cons.mpr ⟨lw_p15, fun _ h => absurd h List.not_mem_nil⟩⟩⟩⟩⟩⟩⟩⟩⟩⟩⟩⟩⟩⟩⟩⟩
theorem lw_p16 : lw_okq (⟨"AutoTeller$Host", "takeOff", "(III)V"⟩, 11) := ⟨⟨by decide +kernel, by decide +kernel⟩, List.mem_of_getElem? (i := 57) (by decide +kernel), List.mem_of_getElem? (i := 513) (by decide +kernel), List.mem_of_getElem? (i := 514) (by decide +kernel)⟩
theorem lw_p17 : lw_okq (⟨"AutoTeller$Host", "giveBack", "(I)V"⟩, 11) := ⟨⟨by decide +kernel, by decide +kernel⟩, List.mem_of_getElem? (i := 57) (by decide +kernel), List.mem_of_getElem? (i := 517) (by decide +kernel), List.mem_of_getElem? (i := 518) (by decide +kernel)⟩
theorem lw_p18 : lw_okq (⟨"AutoTeller$Machine", "isAwaited", "(LAutoTeller$Letter;)Z"⟩, 15) := ⟨⟨by decide +kernel, by decide +kernel⟩, List.mem_of_getElem? (i := 103) (by decide +kernel), List.mem_of_getElem? (i := 527) (by decide +kernel), List.mem_of_getElem? (i := 528) (by decide +kernel)⟩
theorem lw_p19 : lw_okq (⟨"AutoTeller$Machine", "endPinCheck", "(I)V"⟩, 15) := ⟨⟨by decide +kernel, by decide +kernel⟩, List.mem_of_getElem? (i := 103) (by decide +kernel), List.mem_of_getElem? (i := 537) (by decide +kernel), List.mem_of_getElem? (i := 538) (by decide +kernel)⟩
theorem lw_p20 : lw_okq (⟨"AutoTeller$Machine", "payOut", "()V"⟩, 15) := ⟨⟨by decide +kernel, by decide +kernel⟩, List.mem_of_getElem? (i := 103) (by decide +kernel), List.mem_of_getElem? (i := 541) (by decide +kernel), List.mem_of_getElem? (i := 542) (by decide +kernel)⟩
theorem lw_p21 : lw_okq (⟨"AutoTeller$Machine", "stackMix", "()Z"⟩, 15) := ⟨⟨by decide +kernel, by decide +kernel⟩, List.mem_of_getElem? (i := 103) (by decide +kernel), List.mem_of_getElem? (i := 545) (by decide +kernel), List.mem_of_getElem? (i := 546) (by decide +kernel)⟩
theorem lw_p22 : lw_okq (⟨"AutoTeller$Machine", "recallLastBegun", "()V"⟩, 15) := ⟨⟨by decide +kernel, by decide +kernel⟩, List.mem_of_getElem? (i := 103) (by decide +kernel), List.mem_of_getElem? (i := 610) (by decide +kernel), List.mem_of_getElem? (i := 611) (by decide +kernel)⟩
theorem lw_p23 : lw_okq (⟨"AutoTellerModel", "sendStep", "(II)Z"⟩, 36) := ⟨⟨by decide +kernel, by decide +kernel⟩, List.mem_of_getElem? (i := 680) (by decide +kernel), List.mem_of_getElem? (i := 816) (by decide +kernel), List.mem_of_getElem? (i := 817) (by decide +kernel)⟩
theorem lw_p24 : lw_okq (⟨"AutoTellerModel", "step", "()Z"⟩, 36) := ⟨⟨by decide +kernel, by decide +kernel⟩, List.mem_of_getElem? (i := 680) (by decide +kernel), List.mem_of_getElem? (i := 820) (by decide +kernel), List.mem_of_getElem? (i := 821) (by decide +kernel)⟩
theorem lw_p25 : lw_okq (⟨"AutoTellerModel", "goOff", "()V"⟩, 36) := ⟨⟨by decide +kernel, by decide +kernel⟩, List.mem_of_getElem? (i := 680) (by decide +kernel), List.mem_of_getElem? (i := 824) (by decide +kernel), List.mem_of_getElem? (i := 825) (by decide +kernel)⟩
theorem lw_p26 : lw_okq (⟨"AutoTellerModel", "send", "(IIIIII)V"⟩, 36) := ⟨⟨by decide +kernel, by decide +kernel⟩, List.mem_of_getElem? (i := 680) (by decide +kernel), List.mem_of_getElem? (i := 828) (by decide +kernel), List.mem_of_getElem? (i := 829) (by decide +kernel)⟩
theorem lw_p27 : lw_okq (⟨"AutoTellerModel", "drop", "(I)V"⟩, 36) := ⟨⟨by decide +kernel, by decide +kernel⟩, List.mem_of_getElem? (i := 680) (by decide +kernel), List.mem_of_getElem? (i := 832) (by decide +kernel), List.mem_of_getElem? (i := 833) (by decide +kernel)⟩
theorem lw_p28 : lw_okq (⟨"AutoTellerModel", "findMix", "(I)Z"⟩, 36) := ⟨⟨by decide +kernel, by decide +kernel⟩, List.mem_of_getElem? (i := 680) (by decide +kernel), List.mem_of_getElem? (i := 845) (by decide +kernel), List.mem_of_getElem? (i := 846) (by decide +kernel)⟩
theorem lw_p29 : lw_okq (⟨"AutoTellerModel", "record", "(I)Z"⟩, 36) := ⟨⟨by decide +kernel, by decide +kernel⟩, List.mem_of_getElem? (i := 680) (by decide +kernel), List.mem_of_getElem? (i := 849) (by decide +kernel), List.mem_of_getElem? (i := 850) (by decide +kernel)⟩
theorem lw_p30 : lw_okq (⟨"AutoTellerModel", "reverse", "(Z)V"⟩, 36) := ⟨⟨by decide +kernel, by decide +kernel⟩, List.mem_of_getElem? (i := 680) (by decide +kernel), List.mem_of_getElem? (i := 865) (by decide +kernel), List.mem_of_getElem? (i := 866) (by decide +kernel)⟩
theorem lw_p31 : lw_okq (⟨"AutoTellerModel", "hasStacked", "()Z"⟩, 36) := ⟨⟨by decide +kernel, by decide +kernel⟩, List.mem_of_getElem? (i := 680) (by decide +kernel), List.mem_of_getElem? (i := 869) (by decide +kernel), List.mem_of_getElem? (i := 870) (by decide +kernel)⟩
def lw_privs_2 : List (MethodName × Nat) := [(⟨"AutoTeller$Host", "takeOff", "(III)V"⟩, 11), (⟨"AutoTeller$Host", "giveBack", "(I)V"⟩, 11), (⟨"AutoTeller$Machine", "isAwaited", "(LAutoTeller$Letter;)Z"⟩, 15), (⟨"AutoTeller$Machine", "endPinCheck", "(I)V"⟩, 15), (⟨"AutoTeller$Machine", "payOut", "()V"⟩, 15), (⟨"AutoTeller$Machine", "stackMix", "()Z"⟩, 15), (⟨"AutoTeller$Machine", "recallLastBegun", "()V"⟩, 15), (⟨"AutoTellerModel", "sendStep", "(II)Z"⟩, 36), (⟨"AutoTellerModel", "step", "()Z"⟩, 36), (⟨"AutoTellerModel", "goOff", "()V"⟩, 36), (⟨"AutoTellerModel", "send", "(IIIIII)V"⟩, 36), (⟨"AutoTellerModel", "drop", "(I)V"⟩, 36), (⟨"AutoTellerModel", "findMix", "(I)Z"⟩, 36), (⟨"AutoTellerModel", "record", "(I)Z"⟩, 36), (⟨"AutoTellerModel", "reverse", "(Z)V"⟩, 36), (⟨"AutoTellerModel", "hasStacked", "()Z"⟩, 36)]
theorem lw_r2 : ∀ q ∈ lw_privs_2, lw_okq q := List.forall_mem_cons.mpr ⟨lw_p16, List.forall_mem_cons.mpr ⟨lw_p17, List.forall_mem_cons.mpr ⟨lw_p18, List.forall_mem_cons.mpr ⟨lw_p19, List.forall_mem_cons.mpr ⟨lw_p20, List.forall_mem_cons.mpr ⟨lw_p21, List.forall_mem_cons.mpr ⟨lw_p22, List.forall_mem_cons.mpr ⟨lw_p23, List.forall_mem_cons.mpr ⟨lw_p24, List.forall_mem_cons.mpr ⟨lw_p25, List.forall_mem_cons.mpr ⟨lw_p26, List.forall_mem_cons.mpr ⟨lw_p27, List.forall_mem_cons.mpr ⟨lw_p28, List.forall_mem_cons.mpr ⟨lw_p29, List.forall_mem_cons.mpr ⟨lw_p30, List.forall_mem_cons.mpr ⟨lw_p31, fun _ h => absurd h List.not_mem_nil⟩⟩⟩⟩⟩⟩⟩⟩⟩⟩⟩⟩⟩⟩⟩⟩
theorem lw_p32 : lw_okq (⟨"AutoTellerModel", "isLetter", "(I)Z"⟩, 36) := ⟨⟨by decide +kernel, by decide +kernel⟩, List.mem_of_getElem? (i := 680) (by decide +kernel), List.mem_of_getElem? (i := 877) (by decide +kernel), List.mem_of_getElem? (i := 878) (by decide +kernel)⟩
theorem lw_p33 : lw_okq (⟨"AutoTellerModel", "come", "(IZ)V"⟩, 36) := ⟨⟨by decide +kernel, by decide +kernel⟩, List.mem_of_getElem? (i := 680) (by decide +kernel), List.mem_of_getElem? (i := 881) (by decide +kernel), List.mem_of_getElem? (i := 882) (by decide +kernel)⟩
theorem lw_p34 : lw_okq (⟨"AutoTellerModel", "machineTakes", "()Z"⟩, 36) := ⟨⟨by decide +kernel, by decide +kernel⟩, List.mem_of_getElem? (i := 680) (by decide +kernel), List.mem_of_getElem? (i := 885) (by decide +kernel), List.mem_of_getElem? (i := 886) (by decide +kernel)⟩
theorem lw_p35 : lw_okq (⟨"AutoTellerModel", "numberAt", "(I)I"⟩, 36) := ⟨⟨by decide +kernel, by decide +kernel⟩, List.mem_of_getElem? (i := 680) (by decide +kernel), List.mem_of_getElem? (i := 889) (by decide +kernel), List.mem_of_getElem? (i := 890) (by decide +kernel)⟩
theorem lw_p36 : lw_okq (⟨"AutoTellerModel", "giveOut", "()V"⟩, 36) := ⟨⟨by decide +kernel, by decide +kernel⟩, List.mem_of_getElem? (i := 680) (by decide +kernel), List.mem_of_getElem? (i := 893) (by decide +kernel), List.mem_of_getElem? (i := 894) (by decide +kernel)⟩
theorem lw_p37 : lw_okq (⟨"AutoTellerModel", "hostTakes", "()Z"⟩, 36) := ⟨⟨by decide +kernel, by decide +kernel⟩, List.mem_of_getElem? (i := 680) (by decide +kernel), List.mem_of_getElem? (i := 897) (by decide +kernel), List.mem_of_getElem? (i := 898) (by decide +kernel)⟩
theorem lw_p38 : lw_okq (⟨"AutoTellerModel", "onPin", "(III)I"⟩, 36) := ⟨⟨by decide +kernel, by decide +kernel⟩, List.mem_of_getElem? (i := 680) (by decide +kernel), List.mem_of_getElem? (i := 901) (by decide +kernel), List.mem_of_getElem? (i := 902) (by decide +kernel)⟩
theorem lw_p39 : lw_okq (⟨"AutoTellerModel", "onDebit", "(III)I"⟩, 36) := ⟨⟨by decide +kernel, by decide +kernel⟩, List.mem_of_getElem? (i := 680) (by decide +kernel), List.mem_of_getElem? (i := 905) (by decide +kernel), List.mem_of_getElem? (i := 906) (by decide +kernel)⟩
theorem lw_p40 : lw_okq (⟨"AutoTellerModel", "onReversal", "(I)I"⟩, 36) := ⟨⟨by decide +kernel, by decide +kernel⟩, List.mem_of_getElem? (i := 680) (by decide +kernel), List.mem_of_getElem? (i := 909) (by decide +kernel), List.mem_of_getElem? (i := 910) (by decide +kernel)⟩
def lw_privs_3 : List (MethodName × Nat) := [(⟨"AutoTellerModel", "isLetter", "(I)Z"⟩, 36), (⟨"AutoTellerModel", "come", "(IZ)V"⟩, 36), (⟨"AutoTellerModel", "machineTakes", "()Z"⟩, 36), (⟨"AutoTellerModel", "numberAt", "(I)I"⟩, 36), (⟨"AutoTellerModel", "giveOut", "()V"⟩, 36), (⟨"AutoTellerModel", "hostTakes", "()Z"⟩, 36), (⟨"AutoTellerModel", "onPin", "(III)I"⟩, 36), (⟨"AutoTellerModel", "onDebit", "(III)I"⟩, 36), (⟨"AutoTellerModel", "onReversal", "(I)I"⟩, 36)]
theorem lw_r3 : ∀ q ∈ lw_privs_3, lw_okq q := List.forall_mem_cons.mpr ⟨lw_p32, List.forall_mem_cons.mpr ⟨lw_p33, List.forall_mem_cons.mpr ⟨lw_p34, List.forall_mem_cons.mpr ⟨lw_p35, List.forall_mem_cons.mpr ⟨lw_p36, List.forall_mem_cons.mpr ⟨lw_p37, List.forall_mem_cons.mpr ⟨lw_p38, List.forall_mem_cons.mpr ⟨lw_p39, List.forall_mem_cons.mpr ⟨lw_p40, fun _ h => absurd h List.not_mem_nil⟩⟩⟩⟩⟩⟩⟩⟩⟩
def lw_privs : List (MethodName × Nat) := lw_privs_1 ++ (lw_privs_2 ++ (lw_privs_3))
def lw_tbl : List Cond := k2_sels lw_privs ++ tables_1
theorem lw_privs_ok : ∀ q ∈ lw_privs, lw_okq q := by
  show ∀ q ∈ lw_privs_1 ++ (lw_privs_2 ++ (lw_privs_3)), lw_okq q
  exact List.forall_mem_append.mpr ⟨lw_r1, List.forall_mem_append.mpr ⟨lw_r2, lw_r3⟩⟩
end
section
/-! the classes: fields in the order of their slots -/
def T_H : u_T := fun k => match k with
  | 0 => ("AutoTeller$Host", "line", "LAutoTeller$Line;", true)
  | 1 => ("AutoTeller$Host", "balances", "[J", true)
  | 2 => ("AutoTeller$Host", "accountOfCard", "[I", true)
  | 3 => ("AutoTeller$Host", "pinOfCard", "[I", true)
  | 4 => ("AutoTeller$Host", "triesOfCard", "[I", true)
  | 5 => ("AutoTeller$Host", "pinCodes", "[I", true)
  | 6 => ("AutoTeller$Host", "debits", "[I", true)
  | 7 => ("AutoTeller$Host", "debitAmounts", "[I", true)
  | 8 => ("AutoTeller$Host", "debitAccounts", "[I", true)
  | 9 => ("AutoTeller$Host", "takenOff", "J", false)
  | _ => ("AutoTeller$Host", "dropped", "I", false)
def ty_H : Nat → FieldType := fun k => match k with
  | 0 => .object "AutoTeller$Line"
  | 1 => .array .long
  | 2 => .array .int
  | 3 => .array .int
  | 4 => .array .int
  | 5 => .array .int
  | 6 => .array .int
  | 7 => .array .int
  | 8 => .array .int
  | 9 => .long
  | _ => .int
theorem nm_H : ∀ a, a < 11 → ∀ b, b < 11 → a ≠ b → (T_H a).2.1 ≠ (T_H b).2.1 := by decide +kernel
theorem tk_H : ∀ k, k < 11 → parseFieldDescriptor (T_H k).2.2.1 = some (ty_H k) := by decide +kernel
def T_J : u_T := fun k => match k with
  | 0 => ("AutoTeller$Journal", "kinds", "[I", true)
  | 1 => ("AutoTeller$Journal", "traces", "[I", true)
  | 2 => ("AutoTeller$Journal", "amounts", "[I", true)
  | 3 => ("AutoTeller$Journal", "cards", "[I", true)
  | _ => ("AutoTeller$Journal", "size", "I", false)
def ty_J : Nat → FieldType := fun k => match k with
  | 0 => .array .int
  | 1 => .array .int
  | 2 => .array .int
  | 3 => .array .int
  | _ => .int
theorem nm_J : ∀ a, a < 5 → ∀ b, b < 5 → a ≠ b → (T_J a).2.1 ≠ (T_J b).2.1 := by decide +kernel
theorem tk_J : ∀ k, k < 5 → parseFieldDescriptor (T_J k).2.2.1 = some (ty_J k) := by decide +kernel
def T_E : u_T := fun k => match k with
  | 0 => ("AutoTeller$Letter", "bytes", "[I", true)
  | _ => ("AutoTeller$Letter", "forHost", "Z", false)
def ty_E : Nat → FieldType := fun k => match k with
  | 0 => .array .int
  | _ => .boolean
theorem nm_E : ∀ a, a < 2 → ∀ b, b < 2 → a ≠ b → (T_E a).2.1 ≠ (T_E b).2.1 := by decide +kernel
theorem tk_E : ∀ k, k < 2 → parseFieldDescriptor (T_E k).2.2.1 = some (ty_E k) := by decide +kernel
def T_N : u_T := fun k => match k with
  | 0 => ("AutoTeller$Line", "letters", "[LAutoTeller$Letter;", true)
  | 1 => ("AutoTeller$Line", "inFlight", "I", false)
  | _ => ("AutoTeller$Line", "lostForRoom", "I", false)
def ty_N : Nat → FieldType := fun k => match k with
  | 0 => .array (.object "AutoTeller$Letter")
  | 1 => .int
  | _ => .int
theorem nm_N : ∀ a, a < 3 → ∀ b, b < 3 → a ≠ b → (T_N a).2.1 ≠ (T_N b).2.1 := by decide +kernel
theorem tk_N : ∀ k, k < 3 → parseFieldDescriptor (T_N k).2.2.1 = some (ty_N k) := by decide +kernel
def T_M : u_T := fun k => match k with
  | 0 => ("AutoTeller$Machine", "line", "LAutoTeller$Line;", true)
  | 1 => ("AutoTeller$Machine", "notes", "LAutoTeller$Notes;", true)
  | 2 => ("AutoTeller$Machine", "journal", "LAutoTeller$Journal;", true)
  | 3 => ("AutoTeller$Machine", "kept", "[Z", true)
  | 4 => ("AutoTeller$Machine", "on", "Z", false)
  | 5 => ("AutoTeller$Machine", "stepsLeft", "I", false)
  | 6 => ("AutoTeller$Machine", "phase", "I", false)
  | 7 => ("AutoTeller$Machine", "slot", "I", false)
  | 8 => ("AutoTeller$Machine", "nextTrace", "I", false)
  | 9 => ("AutoTeller$Machine", "openings", "I", false)
  | 10 => ("AutoTeller$Machine", "openingsWhenBegun", "I", false)
  | 11 => ("AutoTeller$Machine", "dropped", "I", false)
  | 12 => ("AutoTeller$Machine", "traceAtHand", "I", false)
  | 13 => ("AutoTeller$Machine", "cardAtHand", "I", false)
  | _ => ("AutoTeller$Machine", "amountAtHand", "I", false)
def ty_M : Nat → FieldType := fun k => match k with
  | 0 => .object "AutoTeller$Line"
  | 1 => .object "AutoTeller$Notes"
  | 2 => .object "AutoTeller$Journal"
  | 3 => .array .boolean
  | 4 => .boolean
  | 5 => .int
  | 6 => .int
  | 7 => .int
  | 8 => .int
  | 9 => .int
  | 10 => .int
  | 11 => .int
  | 12 => .int
  | 13 => .int
  | _ => .int
theorem nm_M : ∀ a, a < 15 → ∀ b, b < 15 → a ≠ b → (T_M a).2.1 ≠ (T_M b).2.1 := by decide +kernel
theorem tk_M : ∀ k, k < 15 → parseFieldDescriptor (T_M k).2.2.1 = some (ty_M k) := by decide +kernel
def T_O : u_T := fun k => match k with
  | 0 => ("AutoTeller$Notes", "denominations", "[I", true)
  | 1 => ("AutoTeller$Notes", "inCassette", "[I", true)
  | 2 => ("AutoTeller$Notes", "inStacker", "[I", true)
  | 3 => ("AutoTeller$Notes", "inTray", "[I", true)
  | 4 => ("AutoTeller$Notes", "inBin", "[I", true)
  | 5 => ("AutoTeller$Notes", "stackerWorth", "I", false)
  | 6 => ("AutoTeller$Notes", "trayWorth", "I", false)
  | 7 => ("AutoTeller$Notes", "everInTray", "J", false)
  | 8 => ("AutoTeller$Notes", "mixed", "[I", true)
  | 9 => ("AutoTeller$Notes", "fewest", "I", false)
  | _ => ("AutoTeller$Notes", "largest", "I", false)
def ty_O : Nat → FieldType := fun k => match k with
  | 0 => .array .int
  | 1 => .array .int
  | 2 => .array .int
  | 3 => .array .int
  | 4 => .array .int
  | 5 => .int
  | 6 => .int
  | 7 => .long
  | 8 => .array .int
  | 9 => .int
  | _ => .int
theorem nm_O : ∀ a, a < 11 → ∀ b, b < 11 → a ≠ b → (T_O a).2.1 ≠ (T_O b).2.1 := by decide +kernel
theorem tk_O : ∀ k, k < 11 → parseFieldDescriptor (T_O k).2.2.1 = some (ty_O k) := by decide +kernel
def T_A : u_T := fun k => match k with
  | 0 => ("AutoTeller", "line", "LAutoTeller$Line;", true)
  | 1 => ("AutoTeller", "host", "LAutoTeller$Host;", true)
  | 2 => ("AutoTeller", "machine", "LAutoTeller$Machine;", true)
  | _ => ("AutoTeller", "arriving", "LAutoTeller$Letter;", true)
def ty_A : Nat → FieldType := fun k => match k with
  | 0 => .object "AutoTeller$Line"
  | 1 => .object "AutoTeller$Host"
  | 2 => .object "AutoTeller$Machine"
  | _ => .object "AutoTeller$Letter"
theorem nm_A : ∀ a, a < 4 → ∀ b, b < 4 → a ≠ b → (T_A a).2.1 ≠ (T_A b).2.1 := by decide +kernel
theorem tk_A : ∀ k, k < 4 → parseFieldDescriptor (T_A k).2.2.1 = some (ty_A k) := by decide +kernel
def T_R : u_T := fun k => match k with
  | 0 => ("AutoTellerModel", "balances", "[J", true)
  | 1 => ("AutoTellerModel", "accountOf", "[I", true)
  | 2 => ("AutoTellerModel", "pinOf", "[I", true)
  | 3 => ("AutoTellerModel", "tries", "[I", true)
  | 4 => ("AutoTellerModel", "pinCode", "[I", true)
  | 5 => ("AutoTellerModel", "debitCode", "[I", true)
  | 6 => ("AutoTellerModel", "debitAccount", "[I", true)
  | 7 => ("AutoTellerModel", "debitAmount", "[I", true)
  | 8 => ("AutoTellerModel", "isReversed", "[Z", true)
  | 9 => ("AutoTellerModel", "off", "J", false)
  | 10 => ("AutoTellerModel", "denomination", "[I", true)
  | 11 => ("AutoTellerModel", "notes", "[I", true)
  | 12 => ("AutoTellerModel", "stacked", "[I", true)
  | 13 => ("AutoTellerModel", "inTray", "[I", true)
  | 14 => ("AutoTellerModel", "inBin", "[I", true)
  | 15 => ("AutoTellerModel", "stackedWorth", "J", false)
  | 16 => ("AutoTellerModel", "trayWorth", "J", false)
  | 17 => ("AutoTellerModel", "everWorth", "J", false)
  | 18 => ("AutoTellerModel", "isKept", "[Z", true)
  | 19 => ("AutoTellerModel", "records", "[I", true)
  | 20 => ("AutoTellerModel", "recordCount", "I", false)
  | 21 => ("AutoTellerModel", "nextTrace", "I", false)
  | 22 => ("AutoTellerModel", "openings", "I", false)
  | 23 => ("AutoTellerModel", "isOn", "Z", false)
  | 24 => ("AutoTellerModel", "armed", "I", false)
  | 25 => ("AutoTellerModel", "phase", "I", false)
  | 26 => ("AutoTellerModel", "slotCard", "I", false)
  | 27 => ("AutoTellerModel", "trace", "I", false)
  | 28 => ("AutoTellerModel", "cardAtHand", "I", false)
  | 29 => ("AutoTellerModel", "amount", "I", false)
  | 30 => ("AutoTellerModel", "line", "[I", true)
  | 31 => ("AutoTellerModel", "flying", "I", false)
  | 32 => ("AutoTellerModel", "dropped", "I", false)
  | 33 => ("AutoTellerModel", "lost", "I", false)
  | 34 => ("AutoTellerModel", "letter", "[I", true)
  | _ => ("AutoTellerModel", "mixed", "[I", true)
def ty_R : Nat → FieldType := fun k => match k with
  | 0 => .array .long
  | 1 => .array .int
  | 2 => .array .int
  | 3 => .array .int
  | 4 => .array .int
  | 5 => .array .int
  | 6 => .array .int
  | 7 => .array .int
  | 8 => .array .boolean
  | 9 => .long
  | 10 => .array .int
  | 11 => .array .int
  | 12 => .array .int
  | 13 => .array .int
  | 14 => .array .int
  | 15 => .long
  | 16 => .long
  | 17 => .long
  | 18 => .array .boolean
  | 19 => .array .int
  | 20 => .int
  | 21 => .int
  | 22 => .int
  | 23 => .boolean
  | 24 => .int
  | 25 => .int
  | 26 => .int
  | 27 => .int
  | 28 => .int
  | 29 => .int
  | 30 => .array .int
  | 31 => .int
  | 32 => .int
  | 33 => .int
  | 34 => .array .int
  | _ => .array .int
theorem nm_R : ∀ a, a < 36 → ∀ b, b < 36 → a ≠ b → (T_R a).2.1 ≠ (T_R b).2.1 := by decide +kernel
theorem tk_R : ∀ k, k < 36 → parseFieldDescriptor (T_R k).2.2.1 = some (ty_R k) := by decide +kernel
abbrev vwCl : List vw_C := [("AutoTeller$Host", T_H, 11), ("AutoTeller$Journal", T_J, 5), ("AutoTeller$Letter", T_E, 2), ("AutoTeller$Line", T_N, 3), ("AutoTeller$Machine", T_M, 15), ("AutoTeller$Notes", T_O, 11), ("AutoTeller", T_A, 4), ("AutoTellerModel", T_R, 36)]
end
section
/-! The machine's steps as a judgement over a pure program: Tj says that from this place the method ends, and ends as the pure program says. -/
abbrev Mem : Type := (Nat → Nat → Int32) × (Nat → Nat → Int64) × (Nat → Nat) × (Nat → Int32) × (Nat → Nat → Int32)
def sI (S : Mem) (f j : Nat) (v : Int32) : Mem := (fun g => if g = f then upd (S.1 f) j v else S.1 g, S.2)
def sL (S : Mem) (f j : Nat) (v : Int64) : Mem := (S.1, fun g => if g = f then vp_updL (S.2.1 f) j v else S.2.1 g, S.2.2)
def sG (S : Mem) (j v : Nat) : Mem := (S.1, S.2.1, va_up S.2.2.1 j v, S.2.2.2)
def sF (S : Mem) (j : Nat) (v : Int32) : Mem := (S.1, S.2.1, S.2.2.1, upd S.2.2.2.1 j v, S.2.2.2.2)
def sB (S : Mem) (j k : Nat) (v : Int32) : Mem := (S.1, S.2.1, S.2.2.1, S.2.2.2.1, va_up S.2.2.2.2 j (upd (S.2.2.2.2 j) k v))
def lt {γ : Type} {δ : Type} (e : γ) (k : γ → δ) : δ := k e
def grd {β : Type} (P : Prop) [Decidable P] (q : Option β) : Option β := if P then q else none
def vI (r : Int32) : Option Value := some (.int r)
def vL (r : Int64) : Option Value := some (.long r)
def vV (_ : Unit) : Option Value := none
/-- words that stay, and words of nest mates -/
def wU : List Cond := lw_tbl.filter goodWord
def isNest : Cond → Bool
  | .fieldLinkNest .. => true
  | .methodLinkNest .. => true
  | _ => false
def wN : List Cond := tables_1.filter isNest
theorem mU {q : Cond} (i : Nat) (h : tables_1[i]? = some q) (g : goodWord q = true) : q ∈ wU := List.mem_filter.mpr ⟨List.mem_append_right _ (List.mem_of_getElem? h), g⟩
theorem mUs {q : MethodName} (i : Nat) (h : (lw_privs[i]?).map (fun z => z.1) = some q) (g : goodWord (.selects q.cls q q) = true) : Cond.selects q.cls q q ∈ wU := by
  refine List.mem_filter.mpr ⟨List.mem_append_left _ ?_, g⟩
  cases hz : lw_privs[i]? with
  | none => rw [hz] at h; cases h
  | some z =>
    rw [hz] at h
    cases h
    exact List.mem_map.mpr ⟨z, List.mem_of_getElem? hz, rfl⟩
theorem mN {q : Cond} (i : Nat) (h : tables_1[i]? = some q) (g : isNest q = true) : q ∈ wN := List.mem_filter.mpr ⟨List.mem_of_getElem? h, g⟩
theorem wU_good : GoodIn wU wU := fun q h => ⟨h, good_of_word (List.mem_filter.mp h).2⟩
theorem goodIn_cons {big ws : List Cond} {q : Cond} (hq : q ∈ big) (hg : GoodIn big big) (h : GoodIn big ws) : GoodIn big (q :: ws) := fun z hz => by
  rcases List.mem_cons.mp hz with rfl | hz
  · exact hg _ hq
  · exact h _ hz
theorem wN_warm {s U : State} (hW : s.WarmedH U.vm) (h : ∀ q ∈ wN, va_Nw q s) : ∀ q ∈ wN, va_Nw q U := by
  intro q hq
  have h1 := h q hq
  have h2 := (List.mem_filter.mp hq).2
  cases q <;> first | exact va_Nw.warmF hW h1 | exact va_Nw.warmM hW h1 | (simp [isNest] at h2; done)
theorem wN_same {s U : State} (hW : s.vm = U.vm) (h : ∀ q ∈ wN, va_Nw q s) : ∀ q ∈ wN, va_Nw q U := by
  intro q hq
  have h1 := h q hq
  have h2 := (List.mem_filter.mp hq).2
  cases q <;> first | exact va_Nw.same rfl hW h1 | (simp [isNest] at h2; done)
/-- a method's end: its answer, and the world behind it -/
def Qg {μ : Type} (D : va_G) (w : μ → va_W) (A : Nat → Prop) (tgt : Option Value × μ) : Array Value → State → Outcome → State → Prop := fun _ st oc t => oc = .returned tgt.1 ∧ va_P D vwCl (w tgt.2) t.heap ∧ va_F A st t
/-- a method's contract, for one start and one end -/
def Ctr {μ : Type} (l : Launch) (y : MethodName) (cc : ByteArray) (nL : Nat) (rt : Option FieldType) (rm : Room) (D : va_G) (tys : List (ClassId × FieldType)) (w : μ → va_W) (av : List Value) (S : μ) (tgt : Option Value × μ) : Prop :=
  ∀ sz : Nat, Met l y (.code y cc nL rt :: wU) rm (va_Pc av (fun U => U.heap.size = sz ∧ va_P D vwCl (w S) U.heap ∧ va_K D vwCl tys U ∧ (∀ q ∈ wN, va_Nw q U) ∧ va_D (fun _ => True) (w S))) (Qg D w (va_A (w S) sz) tgt) 0 0 (va_A (w S) sz)
/-- what holds all through a method's body -/
def Cx {μ : Type} (p : Program) (s : State) (m : MethodId) (args : Array Value) (meth : Method) (c : Code) (own : String) (cc : ByteArray) (nL : Nat) (rt : Option FieldType) (D : va_G) (tys : List (ClassId × FieldType)) (w : μ → va_W) (A : Nat → Prop) : Prop :=
  p.tables.exec = Jvm.exec ∧ c.code = cc ∧ c.maxLocals = nL ∧ s.vm.findClass own = some m.cls ∧ (∀ q ∈ wU, q.before args s = true) ∧ (∀ q ∈ wN, va_Nw q s) ∧ va_K D vwCl tys s ∧ (∀ S, va_D A (w S)) ∧ (∀ q, s.heap.size ≤ q → A q) ∧ meth.sig.returnType = rt ∧ meth.locks = false
def Tj {μ : Type} (p : Program) (l : Launch) (e : Env) (R : Room) (s : State) (m : MethodId) (args : Array Value) (below : List Frame) (meth : Method) (c : Code) (D : va_G) (w : μ → va_W) (A : Nat → Prop) (nL : Nat) {α β : Type} (vv : α → Option Value) (K : β → Option (α × μ)) (prog : Option β) (S : μ) (pc : Nat) (lv : List (Nat × Value)) (st : List Value) : Prop :=
  ∀ (r : α) (S1 : μ), prog.bind K = some (r, S1) → ∀ (H : Heap) (locs : List Loc) (ls : Array Slot), va_P D vwCl (w S) H → va_S A s.heap H locs → lv_has ls nL lv → W p l e R s m args below meth c H locs 0 0 (MQ below (Qg D w A (vv r, S1)) args s 0 0 A) (F0 m pc ls st)
theorem w_D {μ : Type} {w : μ → va_W} {A : Nat → Prop} (hw : ∀ S S' : μ, (w S).map Prod.fst = (w S').map Prod.fst) {S : μ} (h : va_D A (w S)) (S' : μ) : va_D A (w S') := by
  have key : ∀ (k : Nat) (q : Nat × va_E), (w S')[k]? = some q → ∃ q', (w S)[k]? = some q' ∧ q'.1 = q.1 := by
    intro k q hk
    have h1 : ((w S').map Prod.fst)[k]? = some q.1 := by rw [List.getElem?_map, hk]; rfl
    rw [hw S' S, List.getElem?_map] at h1
    cases hz : (w S)[k]? with
    | none => rw [hz] at h1; cases h1
    | some z => rw [hz] at h1; exact ⟨z, rfl, Option.some.inj h1⟩
  refine ⟨fun i j p q hi hj hpq => ?_, fun k q hk => ?_⟩
  · obtain ⟨a1, b1, c1⟩ := key i p hi
    obtain ⟨a2, b2, c2⟩ := key j q hj
    exact h.1 i j a1 a2 b1 b2 (by rw [c1, c2, hpq])
  · obtain ⟨a1, b1, c1⟩ := key k q hk
    rw [← c1]
    exact h.2 k a1 b1
section GO
variable {p : Program} {l : Launch} {e : Env} {R : Room} {s : State} {m : MethodId} {args : Array Value} {below : List Frame} {meth : Method} {c : Code}
variable {μ : Type} {own : String} {cc : ByteArray} {nL : Nat} {rt : Option FieldType} {D : va_G} {tys : List (ClassId × FieldType)} {w : μ → va_W} {A : Nat → Prop}
variable {α β γ δ : Type} {vv : α → Option Value} {K : β → Option (α × μ)} {prog progA progB : Option β} {S : μ} {pc : Nat} {lv : List (Nat × Value)} {rest st : List Value}
theorem Cx.hx (C : Cx p s m args meth c own cc nL rt D tys w A) : p.tables.exec = Jvm.exec := C.1
theorem Cx.hb (C : Cx p s m args meth c own cc nL rt D tys w A) : c.code = cc := C.2.1
theorem Cx.hml (C : Cx p s m args meth c own cc nL rt D tys w A) : c.maxLocals = nL := C.2.2.1
theorem Cx.hown (C : Cx p s m args meth c own cc nL rt D tys w A) : s.vm.findClass own = some m.cls := C.2.2.2.1
theorem Cx.hts (C : Cx p s m args meth c own cc nL rt D tys w A) : ∀ q ∈ wU, q.before args s = true := C.2.2.2.2.1
theorem Cx.hN (C : Cx p s m args meth c own cc nL rt D tys w A) : ∀ q ∈ wN, va_Nw q s := C.2.2.2.2.2.1
theorem Cx.hK (C : Cx p s m args meth c own cc nL rt D tys w A) : va_K D vwCl tys s := C.2.2.2.2.2.2.1
theorem Cx.hD (C : Cx p s m args meth c own cc nL rt D tys w A) : ∀ S, va_D A (w S) := C.2.2.2.2.2.2.2.1
theorem Cx.hA (C : Cx p s m args meth c own cc nL rt D tys w A) : ∀ q, s.heap.size ≤ q → A q := C.2.2.2.2.2.2.2.2.1
theorem Cx.hr (C : Cx p s m args meth c own cc nL rt D tys w A) : meth.sig.returnType = rt := C.2.2.2.2.2.2.2.2.2.1
theorem Cx.hk (C : Cx p s m args meth c own cc nL rt D tys w A) : meth.locks = false := C.2.2.2.2.2.2.2.2.2.2
-- the program's own steps
theorem j_lt {e0 : γ} {k : γ → Option β} {f : γ → Value} (h : ∀ x : γ, Tj p l e R s m args below meth c D w A nL vv K (k x) S pc lv (f x :: rest)) : Tj p l e R s m args below meth c D w A nL vv K (lt e0 k) S pc lv (f e0 :: rest) := h e0
theorem j_lti {e0 : Int32} {k : Int32 → Option β} (h : ∀ x : Int32, Tj p l e R s m args below meth c D w A nL vv K (k x) S pc lv (.int x :: rest)) : Tj p l e R s m args below meth c D w A nL vv K (lt e0 k) S pc lv (.int e0 :: rest) := h e0
theorem j_ltl {e0 : Int64} {k : Int64 → Option β} (h : ∀ x : Int64, Tj p l e R s m args below meth c D w A nL vv K (k x) S pc lv (.long x :: rest)) : Tj p l e R s m args below meth c D w A nL vv K (lt e0 k) S pc lv (.long e0 :: rest) := h e0
theorem j_ltS {S0 : μ} {k : μ → Option β} (h : ∀ x : μ, Tj p l e R s m args below meth c D w A nL vv K (k x) x pc lv st) : Tj p l e R s m args below meth c D w A nL vv K (lt S0 k) S0 pc lv st := h S0
theorem j_grd {P : Prop} {iP : Decidable P} (h : P → Tj p l e R s m args below meth c D w A nL vv K prog S pc lv st) : Tj p l e R s m args below meth c D w A nL vv K (@grd β P iP prog) S pc lv st := by
  intro r S1 hb
  by_cases hP : P
  · exact h hP r S1 (by rw [grd, if_pos hP] at hb; exact hb)
  · rw [grd, if_neg hP] at hb
    cases hb
theorem j_if {P : Prop} {iP : Decidable P} (ht : P → Tj p l e R s m args below meth c D w A nL vv K progA S pc lv st) (hf : ¬ P → Tj p l e R s m args below meth c D w A nL vv K progB S pc lv st) : Tj p l e R s m args below meth c D w A nL vv K (@ite _ P iP progA progB) S pc lv st := by
  intro r S1 hb
  by_cases hP : P
  · exact ht hP r S1 (by rw [if_pos hP] at hb; exact hb)
  · exact hf hP r S1 (by rw [if_neg hP] at hb; exact hb)
theorem j_sub {lv' : List (Nat × Value)} (ks : List Nat) (hl : lv_pick lv ks = lv') (h : Tj p l e R s m args below meth c D w A nL vv K prog S pc lv' st) : Tj p l e R s m args below meth c D w A nL vv K prog S pc lv st := fun r S1 hb H locs ls hP hS hv => h r S1 hb H locs ls hP hS (lv_sub hv ks hl)
/-- a piece, and what follows it -/
theorem j_seq {β' : Type} {q : Option β'} {F : β' → Option β} (h : Tj p l e R s m args below meth c D w A nL vv (fun z => (F z).bind K) q S pc lv st) : Tj p l e R s m args below meth c D w A nL vv K (q.bind F) S pc lv st := by
  intro r S1 hb
  exact h r S1 (by rw [Option.bind_assoc] at hb; exact hb)
theorem j_out {β' : Type} {z : β'} {F : β' → Option β} (h : Tj p l e R s m args below meth c D w A nL vv K (F z) S pc lv st) : Tj p l e R s m args below meth c D w A nL vv (fun z => (F z).bind K) (some z) S pc lv st := fun r S1 hb => h r S1 hb
theorem j_iret (C : Cx p s m args meth c own cc nL (some .int) D tys w A) {b : β} {r : α} {v : Int32} (hk : K b = some (r, S)) (hv : vv r = some (.int v)) (d : decode cc pc = .ok (.ireturn, 1)) : Tj p l e R s m args below meth c D w A nL vv K (some b) S pc lv [.int v] := by
  intro r' S1 hb H locs ls hP hS hl
  have h1 : some (r, S) = some (r', S1) := hk.symm.trans hb
  cases h1
  have hlk := C.hk
  exact W.iret C.hx C.hb C.hr (fun t ht hW => ⟨by rw [hv], by rw [ht]; exact hP, hS.F ht⟩) hS.2.2 d
theorem j_zret (C : Cx p s m args meth c own cc nL (some .boolean) D tys w A) {b : β} {r : α} {v : Int32} (hz : v = 0 ∨ v = 1) (hk : K b = some (r, S)) (hv : vv r = some (.int v)) (d : decode cc pc = .ok (.ireturn, 1)) : Tj p l e R s m args below meth c D w A nL vv K (some b) S pc lv [.int v] := by
  intro r' S1 hb H locs ls hP hS hl
  have h1 : some (r, S) = some (r', S1) := hk.symm.trans hb
  cases h1
  have hlk := C.hk
  exact W.zret (ty := .boolean) C.hx C.hb C.hr (by rcases hz with rfl | rfl <;> rfl) (fun t ht hW => ⟨by rw [hv], by rw [ht]; exact hP, hS.F ht⟩) hS.2.2 d
theorem j_lret (C : Cx p s m args meth c own cc nL (some .long) D tys w A) {b : β} {r : α} {v : Int64} (hk : K b = some (r, S)) (hv : vv r = some (.long v)) (d : decode cc pc = .ok (.lreturn, 1)) : Tj p l e R s m args below meth c D w A nL vv K (some b) S pc lv [.long v] := by
  intro r' S1 hb H locs ls hP hS hl
  have h1 : some (r, S) = some (r', S1) := hk.symm.trans hb
  cases h1
  have hlk := C.hk
  exact W.lret C.hx C.hb C.hr (fun t ht hW => ⟨by rw [hv], by rw [ht]; exact hP, hS.F ht⟩) hS.2.2 d
theorem j_vret (C : Cx p s m args meth c own cc nL none D tys w A) {b : β} {r : α} (hk : K b = some (r, S)) (hv : vv r = none) (d : decode cc pc = .ok (.return_, 1)) : Tj p l e R s m args below meth c D w A nL vv K (some b) S pc lv [] := by
  intro r' S1 hb H locs ls hP hS hl
  have h1 : some (r, S) = some (r', S1) := hk.symm.trans hb
  cases h1
  have hlk := C.hk
  exact W.vret C.hx C.hb C.hr (fun t ht hW => ⟨by rw [hv], by rw [ht]; exact hP, hS.F ht⟩) hS.2.2 d
-- fields
theorem j_get (C : Cx p s m args meth c own cc nL rt D tys w A) {Cn ref : String} {T : u_T} {N ci index a : Nat} {fs : List Value} {v : Value} (q0 k : Nat) (hin : ∀ q ∈ u_ws Cn T N, q ∈ wU) (hc : vwCl[ci]? = some (Cn, T, N)) (he : (w S)[q0]? = some (a, .inr (ci, fs))) (hv : fs[k]? = some v) (hk : k < N) (hrf : (T k).1 = ref) (hl : Cond.fieldLink own index ref (T k).2.1 (T k).2.2.1 ∈ wU) (d : decode cc pc = .ok (.getfield index, 3))
    (h : Tj p l e R s m args below meth c D w A nL vv K prog S (pc + 3) lv (v :: rest)) : Tj p l e R s m args below meth c D w A nL vv K prog S pc lv (.ref a :: rest) := fun r S1 hb H locs ls hP hS hlv =>
  va_get (ref := ref) C.hx C.hb C.hts hin C.hown C.hK hP q0 he hc k hk (C.hts _ hl) (fun z hz => by rw [← hrf]; exact hz) hv d (h r S1 hb H locs ls hP hS hlv)
theorem j_getN (C : Cx p s m args meth c own cc nL rt D tys w A) {Cn ref host : String} {T : u_T} {N ci index a : Nat} {fs : List Value} {v : Value} (q0 k : Nat) (hin : ∀ q ∈ u_ws Cn T N, q ∈ wU) (hc : vwCl[ci]? = some (Cn, T, N)) (he : (w S)[q0]? = some (a, .inr (ci, fs))) (hv : fs[k]? = some v) (hk : k < N) (hrf : (T k).1 = ref) (hl : Cond.fieldLinkNest own index ref (T k).2.1 (T k).2.2.1 host ∈ wN) (d : decode cc pc = .ok (.getfield index, 3))
    (h : Tj p l e R s m args below meth c D w A nL vv K prog S (pc + 3) lv (v :: rest)) : Tj p l e R s m args below meth c D w A nL vv K prog S pc lv (.ref a :: rest) := fun r S1 hb H locs ls hP hS hlv =>
  va_getN (ref := ref) C.hx C.hb C.hts hin C.hown C.hK hP q0 he hc k hk (va_Nw.use rfl (C.hN _ hl)) (fun z hz => by rw [← hrf]; exact hz) hv d (h r S1 hb H locs ls hP hS hlv)
theorem j_put (C : Cx p s m args meth c own cc nL rt D tys w A) {Cn ref : String} {T : u_T} {ty0 : Nat → FieldType} {N ci index a : Nat} {fs : List Value} {v : Value} {S2 : μ} {ty : FieldType} (q0 k : Nat) (hin : ∀ q ∈ u_ws Cn T N, q ∈ wU) (hty : ∀ k, k < N → parseFieldDescriptor (T k).2.2.1 = some (ty0 k)) (hnm : ∀ a, a < N → ∀ b, b < N → a ≠ b → (T a).2.1 ≠ (T b).2.1) (hc : vwCl[ci]? = some (Cn, T, N)) (he : (w S)[q0]? = some (a, .inr (ci, fs))) (hfs : k < fs.length) (hset : (w S).set q0 (a, .inr (ci, fs.set k v)) = w S2) (hk : k < N) (hrf : (T k).1 = ref) (hfin : (T k).2.2.2 = false) (hd : parseFieldDescriptor (T k).2.2.1 = some ty) (hn : narrow ty v = v) (hfit : fits ty v = true) (hl : Cond.fieldLink own index ref (T k).2.1 (T k).2.2.1 ∈ wU) (d : decode cc pc = .ok (.putfield index, 3))
    (h : Tj p l e R s m args below meth c D w A nL vv K prog S2 (pc + 3) lv rest) : Tj p l e R s m args below meth c D w A nL vv K prog S pc lv (v :: .ref a :: rest) := fun r S1 hb H locs ls hP hS hlv =>
  va_put (ref := ref) C.hx C.hb C.hts hin ty0 hty hnm C.hown C.hK hP (C.hD S) hS q0 he hc k hk (C.hts _ hl) (fun z hz => by rw [← hrf]; exact hz) hfin hd hn hfit hfs d (fun H1 locs1 hP1 _ hS1 => h r S1 hb H1 locs1 ls (by rw [hset] at hP1; exact hP1) hS1 hlv)
theorem j_putN (C : Cx p s m args meth c own cc nL rt D tys w A) {Cn ref host : String} {T : u_T} {ty0 : Nat → FieldType} {N ci index a : Nat} {fs : List Value} {v : Value} {S2 : μ} {ty : FieldType} (q0 k : Nat) (hin : ∀ q ∈ u_ws Cn T N, q ∈ wU) (hty : ∀ k, k < N → parseFieldDescriptor (T k).2.2.1 = some (ty0 k)) (hnm : ∀ a, a < N → ∀ b, b < N → a ≠ b → (T a).2.1 ≠ (T b).2.1) (hc : vwCl[ci]? = some (Cn, T, N)) (he : (w S)[q0]? = some (a, .inr (ci, fs))) (hfs : k < fs.length) (hset : (w S).set q0 (a, .inr (ci, fs.set k v)) = w S2) (hk : k < N) (hrf : (T k).1 = ref) (hfin : (T k).2.2.2 = false) (hd : parseFieldDescriptor (T k).2.2.1 = some ty) (hn : narrow ty v = v) (hfit : fits ty v = true) (hl : Cond.fieldLinkNest own index ref (T k).2.1 (T k).2.2.1 host ∈ wN) (d : decode cc pc = .ok (.putfield index, 3))
    (h : Tj p l e R s m args below meth c D w A nL vv K prog S2 (pc + 3) lv rest) : Tj p l e R s m args below meth c D w A nL vv K prog S pc lv (v :: .ref a :: rest) := fun r S1 hb H locs ls hP hS hlv =>
  va_putN (ref := ref) C.hx C.hb C.hts hin ty0 hty hnm C.hown C.hK hP (C.hD S) hS q0 he hc k hk (va_Nw.use rfl (C.hN _ hl)) (fun z hz => by rw [← hrf]; exact hz) hfin hd hn hfit hfs d (fun H1 locs1 hP1 _ hS1 => h r S1 hb H1 locs1 ls (by rw [hset] at hP1; exact hP1) hS1 hlv)
-- arrays
theorem j_iald (C : Cx p s m args meth c own cc nL rt D tys w A) (q0 t0 : Nat) {cA : ClassId} {n a : Nat} {f : Nat → Int32} {i : Int32} (ht : tys[t0]? = some (cA, .int)) (ha : (w S)[q0]? = some (a, .inl (cA, n, .inl f))) (hin : ¬ (i < 0 ∨ n ≤ i.toNatClampNeg)) (d : decode cc pc = .ok (.iaload, 1))
    (h : Tj p l e R s m args below meth c D w A nL vv K prog S (pc + 1) lv (.int (f i.toNatClampNeg) :: rest)) : Tj p l e R s m args below meth c D w A nL vv K prog S pc lv (.int i :: .ref a :: rest) := fun r S1 hb H locs ls hP hS hlv =>
  va_iald C.hx C.hb C.hK hP q0 t0 ha ht hin d (h r S1 hb H locs ls hP hS hlv)
theorem j_zald (C : Cx p s m args meth c own cc nL rt D tys w A) (q0 t0 : Nat) {cA : ClassId} {n a : Nat} {f : Nat → Int32} {i : Int32} (ht : tys[t0]? = some (cA, .boolean)) (ha : (w S)[q0]? = some (a, .inl (cA, n, .inl f))) (hin : ¬ (i < 0 ∨ n ≤ i.toNatClampNeg)) (d : decode cc pc = .ok (.baload, 1))
    (h : Tj p l e R s m args below meth c D w A nL vv K prog S (pc + 1) lv (.int (f i.toNatClampNeg) :: rest)) : Tj p l e R s m args below meth c D w A nL vv K prog S pc lv (.int i :: .ref a :: rest) := fun r S1 hb H locs ls hP hS hlv =>
  va_zald C.hx C.hb C.hK hP q0 t0 ha ht hin d (h r S1 hb H locs ls hP hS hlv)
theorem j_lald (C : Cx p s m args meth c own cc nL rt D tys w A) (q0 t0 : Nat) {cA : ClassId} {n a : Nat} {f : Nat → Int64} {i : Int32} (ht : tys[t0]? = some (cA, .long)) (ha : (w S)[q0]? = some (a, .inl (cA, n, .inr (.inl f)))) (hin : ¬ (i < 0 ∨ n ≤ i.toNatClampNeg)) (d : decode cc pc = .ok (.laload, 1))
    (h : Tj p l e R s m args below meth c D w A nL vv K prog S (pc + 1) lv (.long (f i.toNatClampNeg) :: rest)) : Tj p l e R s m args below meth c D w A nL vv K prog S pc lv (.int i :: .ref a :: rest) := fun r S1 hb H locs ls hP hS hlv =>
  va_lald C.hx C.hb C.hK hP q0 t0 ha ht hin d (h r S1 hb H locs ls hP hS hlv)
theorem j_iast (C : Cx p s m args meth c own cc nL rt D tys w A) (q0 t0 : Nat) {cA : ClassId} {n a : Nat} {f : Nat → Int32} {i v : Int32} {S2 : μ} (ht : tys[t0]? = some (cA, .int)) (ha : (w S)[q0]? = some (a, .inl (cA, n, .inl f))) (hset : (w S).set q0 (a, .inl (cA, n, .inl (upd f i.toNatClampNeg v))) = w S2) (hin : ¬ (i < 0 ∨ n ≤ i.toNatClampNeg)) (d : decode cc pc = .ok (.iastore, 1))
    (h : Tj p l e R s m args below meth c D w A nL vv K prog S2 (pc + 1) lv rest) : Tj p l e R s m args below meth c D w A nL vv K prog S pc lv (.int v :: .int i :: .ref a :: rest) := fun r S1 hb H locs ls hP hS hlv =>
  va_iast C.hx C.hb C.hK hP (C.hD S) hS q0 t0 ha ht hin d (fun H1 locs1 hP1 _ hS1 => h r S1 hb H1 locs1 ls (by rw [← hset]; exact hP1) hS1 hlv)
theorem j_zast (C : Cx p s m args meth c own cc nL rt D tys w A) (q0 t0 : Nat) {cA : ClassId} {n a : Nat} {f : Nat → Int32} {i v : Int32} {S2 : μ} (hz : v = 0 ∨ v = 1) (ht : tys[t0]? = some (cA, .boolean)) (ha : (w S)[q0]? = some (a, .inl (cA, n, .inl f))) (hset : (w S).set q0 (a, .inl (cA, n, .inl (upd f i.toNatClampNeg v))) = w S2) (hin : ¬ (i < 0 ∨ n ≤ i.toNatClampNeg)) (d : decode cc pc = .ok (.bastore, 1))
    (h : Tj p l e R s m args below meth c D w A nL vv K prog S2 (pc + 1) lv rest) : Tj p l e R s m args below meth c D w A nL vv K prog S pc lv (.int v :: .int i :: .ref a :: rest) := fun r S1 hb H locs ls hP hS hlv =>
  va_zast C.hx C.hb C.hK hP (C.hD S) hS q0 t0 ha ht hin d (fun H1 locs1 hP1 _ hS1 => h r S1 hb H1 locs1 ls (by rw [← hset]; rw [show vp_nar .boolean v = v by rcases hz with rfl | rfl <;> rfl] at hP1; exact hP1) hS1 hlv)
theorem j_last (C : Cx p s m args meth c own cc nL rt D tys w A) (q0 t0 : Nat) {cA : ClassId} {n a : Nat} {f : Nat → Int64} {i : Int32} {v : Int64} {S2 : μ} (ht : tys[t0]? = some (cA, .long)) (ha : (w S)[q0]? = some (a, .inl (cA, n, .inr (.inl f)))) (hset : (w S).set q0 (a, .inl (cA, n, .inr (.inl (vp_updL f i.toNatClampNeg v)))) = w S2) (hin : ¬ (i < 0 ∨ n ≤ i.toNatClampNeg)) (d : decode cc pc = .ok (.lastore, 1))
    (h : Tj p l e R s m args below meth c D w A nL vv K prog S2 (pc + 1) lv rest) : Tj p l e R s m args below meth c D w A nL vv K prog S pc lv (.long v :: .int i :: .ref a :: rest) := fun r S1 hb H locs ls hP hS hlv =>
  va_last C.hx C.hb C.hK hP (C.hD S) hS q0 t0 ha ht hin d (fun H1 locs1 hP1 _ hS1 => h r S1 hb H1 locs1 ls (by rw [← hset]; exact hP1) hS1 hlv)
theorem j_alen (C : Cx p s m args meth c own cc nL rt D tys w A) (q0 t0 : Nat) {cA : ClassId} {a : Nat} {z : vp_A} {ty : FieldType} {v : Int32} (ht : tys[t0]? = some (cA, ty)) (ha : (w S)[q0]? = some (a, .inl (cA, z))) (hv : Int32.ofNat z.1 = v) (d : decode cc pc = .ok (.arraylength, 1))
    (h : Tj p l e R s m args below meth c D w A nL vv K prog S (pc + 1) lv (.int v :: rest)) : Tj p l e R s m args below meth c D w A nL vv K prog S pc lv (.ref a :: rest) := fun r S1 hb H locs ls hP hS hlv =>
  va_alen C.hx C.hb C.hK hP q0 t0 ha ht hv d (h r S1 hb H locs ls hP hS hlv)
theorem j_aald (C : Cx p s m args meth c own cc nL rt D tys w A) (q0 t0 : Nat) {cA : ClassId} {Cn : String} {n a b : Nat} {f : Nat → Option Nat} {i : Int32} (ht : tys[t0]? = some (cA, .object Cn)) (ha : (w S)[q0]? = some (a, .inl (cA, n, .inr (.inr (.inr (.inr f)))))) (hin : ¬ (i < 0 ∨ n ≤ i.toNatClampNeg)) (hf : f i.toNatClampNeg = some b) (d : decode cc pc = .ok (.aaload, 1))
    (h : Tj p l e R s m args below meth c D w A nL vv K prog S (pc + 1) lv (.ref b :: rest)) : Tj p l e R s m args below meth c D w A nL vv K prog S pc lv (.int i :: .ref a :: rest) := fun r S1 hb H locs ls hP hS hlv =>
  va_aldq C.hx C.hb C.hK hP q0 t0 ha ht hin d (by rw [hf]; exact h r S1 hb H locs ls hP hS hlv)
theorem j_aast (C : Cx p s m args meth c own cc nL rt D tys w A) (q0 t0 qk ci : Nat) {cA : ClassId} {r0 : vw_C} {n a b : Nat} {vs : List Value} {f : Nat → Option Nat} {i : Int32} {S2 : μ} (ht : tys[t0]? = some (cA, .object r0.1)) (ha : (w S)[q0]? = some (a, .inl (cA, n, .inr (.inr (.inr (.inr f)))))) (hb0 : (w S)[qk]? = some (b, .inr (ci, vs))) (hc : vwCl[ci]? = some r0) (hset : (w S).set q0 (a, .inl (cA, n, .inr (.inr (.inr (.inr (va_up f i.toNatClampNeg (some b))))))) = w S2) (hin : ¬ (i < 0 ∨ n ≤ i.toNatClampNeg)) (d : decode cc pc = .ok (.aastore, 1))
    (h : Tj p l e R s m args below meth c D w A nL vv K prog S2 (pc + 1) lv rest) : Tj p l e R s m args below meth c D w A nL vv K prog S pc lv (.ref b :: .int i :: .ref a :: rest) := fun r S1 hb H locs ls hP hS hlv =>
  va_astq C.hx C.hb C.hK hP (C.hD S) hS q0 t0 qk ci ha ht hb0 hc hin d (fun H1 locs1 hP1 _ hS1 => h r S1 hb H1 locs1 ls (by rw [← hset]; exact hP1) hS1 hlv)
-- calls
theorem j_run {tgt : Option Value × μ} {ar : Array Value} {st0 : List Value} (C : Cx p s m args meth c own cc nL rt D tys w A) (hr : ∀ (H : Heap) (locs : List Loc) (ls : Array Slot), va_P D vwCl (w S) H → va_S A s.heap H locs → lv_has ls nL lv → va_Run p l e R s m args below meth c H locs 0 0 0 0 (F0 m pc ls st0) rest (Qg D w (va_A (w S) H.size) tgt ar) (va_A (w S) H.size))
    (h : Tj p l e R s m args below meth c D w A nL vv K prog tgt.2 (pc + 3) lv (tgt.1.toList ++ rest)) : Tj p l e R s m args below meth c D w A nL vv K prog S pc lv st0 := by
  intro r S1 hb H locs ls hP hS hlv T hT X
  have hsub : ∀ q, va_A (w S) H.size q → A q := fun q hq => by
    rcases hq with ⟨k, e0, hk⟩ | hq
    · exact (C.hD S).2 k _ hk
    · exact C.hA q (Nat.le_trans hS.1 hq)
  obtain ⟨v, st₀, t, T', L, h0, X', hL, e1, e2, ⟨hv, hP1, hz, hk⟩, stp⟩ := hr H locs ls hP hS hlv T hT X
  have hv' : v = tgt.1 := Outcome.returned.inj hv
  rw [h0] at hz hk
  have hS' : va_S A s.heap T'.heap (locs ++ L) := by
    refine ⟨Nat.le_trans hS.1 (by rw [e1]; exact hz), fun q h1 h2 => ?_, fun q hq => ?_⟩
    · rw [e1, hk q (Nat.lt_of_lt_of_le h1 hS.1) (fun z => h2 (hsub q z))]
      exact hS.2.1 q h1 h2
    · rcases List.mem_append.mp hq with h | h
      · exact hS.2.2 q h
      · exact hsub _ (hL q h)
  obtain ⟨t2, a1, b1⟩ := h r S1 hb T'.heap (locs ++ L) ls (by rw [e1]; exact hP1) hS' hlv T' rfl X'
  exact ⟨t2, stp t2 (by rw [hv']; exact a1), b1⟩
def Yv (y : MethodName) (bytes : ByteArray) (maxL : Nat) (ry : Option FieldType) (n : Nat) : Prop := Cond.instanceMethod y ∈ wU ∧ Cond.selects y.cls y y ∈ wU ∧ Cond.initialized y.cls ∈ wU ∧ Cond.code y bytes maxL ry ∈ wU ∧ y.cls ≠ "java/lang/invoke/MethodHandle" ∧ y.cls ≠ "java/lang/invoke/VarHandle" ∧ (parseMethodDescriptor y.desc).map (fun d => d.parameters.length) = some n
def Ys (y : MethodName) (bytes : ByteArray) (maxL : Nat) (ry : Option FieldType) (n : Nat) : Prop := Cond.static y ∈ wU ∧ Cond.initialized y.cls ∈ wU ∧ Cond.code y bytes maxL ry ∈ wU ∧ y.cls ≠ "java/lang/invoke/MethodHandle" ∧ y.cls ≠ "java/lang/invoke/VarHandle" ∧ (parseMethodDescriptor y.desc).map (fun d => d.parameters.length) = some n
theorem c_blind {av : List Value} {sz : Nat} : FrameBlind (va_Pc av (fun U => U.heap.size = sz ∧ va_P D vwCl (w S) U.heap ∧ va_K D vwCl tys U ∧ (∀ q ∈ wN, va_Nw q U) ∧ va_D (fun _ => True) (w S))) := fun a U g mk q => by
  obtain ⟨q0, q1, qP, qK, qN, qD⟩ := q
  exact ⟨q0, q1, qP, va_K.moved (u := U) (U := U.calling g mk a) (Vm.Alike.refl U.vm) qK, wN_same (s := U) (U := U.calling g mk a) rfl qN, qD⟩
theorem c_pre (C : Cx p s m args meth c own cc nL rt D tys w A) {H : Heap} (hP : va_P D vwCl (w S) H) {av : List Value} : ∀ U : State, U.heap = H → s.WarmedH U.vm → va_Pc av (fun U => U.heap.size = H.size ∧ va_P D vwCl (w S) U.heap ∧ va_K D vwCl tys U ∧ (∀ q ∈ wN, va_Nw q U) ∧ va_D (fun _ => True) (w S)) av.toArray U := fun U hU hW => ⟨rfl, by rw [hU], by rw [hU]; exact hP, va_K.moved hW.alike C.hK, wN_warm hW C.hN, (C.hD S).weaken (fun _ _ _ _ => trivial)⟩
theorem j_callV (C : Cx p s m args meth c own cc nL rt D tys w A) {y : MethodName} {bytes : ByteArray} {maxL n index b : Nat} {ry : Option FieldType} {rm : Room} {As : List Value} {tgt : Option Value × μ} {fs : List Value} {N : Nat} {T : u_T} (q0 ci : Nat) (Y : Yv y bytes maxL ry n) (hl : Cond.methodLink own index y ∈ wU) (hM : Ctr l y bytes maxL ry rm D tys w (.ref b :: As) S tgt) (hrc : rm.cells = 0) (hrs : rm.slots = 0) (hR : rm.frames + 1 ≤ R.frames ∧ 8 + (maxL + 11) + rm.locals ≤ R.locals) (hc : vwCl[ci]? = some (y.cls, T, N)) (he : (w S)[q0]? = some (b, .inr (ci, fs))) (hn : As.length = n) (hst : st = As.reverse ++ .ref b :: rest) (hW : (rest.map fun v => v.category).sum ≤ 8) (d : decode cc pc = .ok (.invokevirtual index, 3))
    (h : Tj p l e R s m args below meth c D w A nL vv K prog tgt.2 (pc + 3) lv (tgt.1.toList ++ rest)) : Tj p l e R s m args below meth c D w A nL vv K prog S pc lv st := by
  obtain ⟨y1, y2, y3, y4, y5⟩ := Y
  refine j_run (ar := (.ref b :: As).toArray) C (fun H locs ls hP hS hlv => ?_) h
  exact va_runV (C := y.cls) (n := n) ⟨C.hx, C.hb, C.hml, C.hown, C.hts⟩ (hM H.size) (cwV n C.hts (goodIn_cons hl wU_good (goodIn_cons y1 wU_good (goodIn_cons y2 wU_good (goodIn_cons y3 wU_good (goodIn_cons y4 wU_good wU_good))))) rfl hrc hrs ⟨rfl, y5⟩ hR) ⟨c_blind, va_recv C.hK hP hc he, c_pre C hP⟩ rfl hn hlv.1 hst (lv_room hW) d ⟨Nat.zero_le _, Nat.zero_le _⟩
theorem j_callVN (C : Cx p s m args meth c own cc nL rt D tys w A) {y : MethodName} {host : String} {bytes : ByteArray} {maxL n index b : Nat} {ry : Option FieldType} {rm : Room} {As : List Value} {tgt : Option Value × μ} {fs : List Value} {N : Nat} {T : u_T} (q0 ci : Nat) (Y : Yv y bytes maxL ry n) (hl : Cond.methodLinkNest own index y host ∈ wN) (hM : Ctr l y bytes maxL ry rm D tys w (.ref b :: As) S tgt) (hrc : rm.cells = 0) (hrs : rm.slots = 0) (hR : rm.frames + 1 ≤ R.frames ∧ 8 + (maxL + 11) + rm.locals ≤ R.locals) (hc : vwCl[ci]? = some (y.cls, T, N)) (he : (w S)[q0]? = some (b, .inr (ci, fs))) (hn : As.length = n) (hst : st = As.reverse ++ .ref b :: rest) (hW : (rest.map fun v => v.category).sum ≤ 8) (d : decode cc pc = .ok (.invokevirtual index, 3))
    (h : Tj p l e R s m args below meth c D w A nL vv K prog tgt.2 (pc + 3) lv (tgt.1.toList ++ rest)) : Tj p l e R s m args below meth c D w A nL vv K prog S pc lv st := by
  obtain ⟨y1, y2, y3, y4, y5⟩ := Y
  refine j_run (ar := (.ref b :: As).toArray) C (fun H locs ls hP hS hlv => ?_) h
  exact va_runVN (C := y.cls) (n := n) ⟨C.hx, C.hb, C.hml, C.hown, C.hts⟩ (hM H.size) ⟨va_cnB n C.hts (goodIn_cons y4 wU_good wU_good) rfl hrc hrs (C.hN _ hl) (C.hts _ y3) y5 hR, C.hts _ y1, C.hts _ y2⟩ ⟨c_blind, va_recv C.hK hP hc he, c_pre C hP⟩ rfl hn hlv.1 hst (lv_room hW) d ⟨Nat.zero_le _, Nat.zero_le _⟩
theorem j_callS (C : Cx p s m args meth c own cc nL rt D tys w A) {y : MethodName} {bytes : ByteArray} {maxL n index : Nat} {ry : Option FieldType} {rm : Room} {As : List Value} {tgt : Option Value × μ} (Y : Ys y bytes maxL ry n) (hl : Cond.methodLink own index y ∈ wU) (hM : Ctr l y bytes maxL ry rm D tys w As S tgt) (hrc : rm.cells = 0) (hrs : rm.slots = 0) (hR : rm.frames + 1 ≤ R.frames ∧ 8 + (maxL + 11) + rm.locals ≤ R.locals) (hn : As.length = n) (hst : st = As.reverse ++ rest) (hW : (rest.map fun v => v.category).sum ≤ 8) (d : decode cc pc = .ok (.invokestatic index, 3))
    (h : Tj p l e R s m args below meth c D w A nL vv K prog tgt.2 (pc + 3) lv (tgt.1.toList ++ rest)) : Tj p l e R s m args below meth c D w A nL vv K prog S pc lv st := by
  obtain ⟨y1, y3, y4, y5⟩ := Y
  refine j_run (ar := As.toArray) C (fun H locs ls hP hS hlv => ?_) h
  exact va_runS (n := n) ⟨C.hx, C.hb, C.hml, C.hown, C.hts⟩ (hM H.size) ⟨callB_of n C.hts (goodIn_cons y4 wU_good wU_good) rfl hrc hrs (C.hts _ y3) (C.hts _ hl) y5 hR, C.hts _ y1⟩ ⟨c_blind, c_pre C hP⟩ rfl hn hlv.1 hst (lv_room hW) d ⟨Nat.zero_le _, Nat.zero_le _⟩
theorem j_callSN (C : Cx p s m args meth c own cc nL rt D tys w A) {y : MethodName} {host : String} {bytes : ByteArray} {maxL n index : Nat} {ry : Option FieldType} {rm : Room} {As : List Value} {tgt : Option Value × μ} (Y : Ys y bytes maxL ry n) (hl : Cond.methodLinkNest own index y host ∈ wN) (hM : Ctr l y bytes maxL ry rm D tys w As S tgt) (hrc : rm.cells = 0) (hrs : rm.slots = 0) (hR : rm.frames + 1 ≤ R.frames ∧ 8 + (maxL + 11) + rm.locals ≤ R.locals) (hn : As.length = n) (hst : st = As.reverse ++ rest) (hW : (rest.map fun v => v.category).sum ≤ 8) (d : decode cc pc = .ok (.invokestatic index, 3))
    (h : Tj p l e R s m args below meth c D w A nL vv K prog tgt.2 (pc + 3) lv (tgt.1.toList ++ rest)) : Tj p l e R s m args below meth c D w A nL vv K prog S pc lv st := by
  obtain ⟨y1, y3, y4, y5⟩ := Y
  refine j_run (ar := As.toArray) C (fun H locs ls hP hS hlv => ?_) h
  exact va_runSN (n := n) ⟨C.hx, C.hb, C.hml, C.hown, C.hts⟩ (hM H.size) ⟨va_cnB n C.hts (goodIn_cons y4 wU_good wU_good) rfl hrc hrs (C.hN _ hl) (C.hts _ y3) y5 hR, C.hts _ y1, trivial⟩ ⟨c_blind, c_pre C hP⟩ rfl hn hlv.1 hst (lv_room hW) d ⟨Nat.zero_le _, Nat.zero_le _⟩
/-- a call's answer out of the callee's pure program -/
theorem j_bind {γ : Type} {g : Option (γ × μ)} {F : γ × μ → Option β} (h : ∀ (r : γ) (S' : μ), g = some (r, S') → Tj p l e R s m args below meth c D w A nL vv K (F (r, S')) S pc lv st) : Tj p l e R s m args below meth c D w A nL vv K (g.bind F) S pc lv st := by
  intro r S1 hb
  cases hg : g with
  | none => rw [hg] at hb; cases hb
  | some z => exact h z.1 z.2 hg r S1 (by rw [hg] at hb; exact hb)
theorem j_callVi (C : Cx p s m args meth c own cc nL rt D tys w A) {y : MethodName} {bytes : ByteArray} {maxL n index b : Nat} {ry : Option FieldType} {rm : Room} {As : List Value} {rr : Int32} {S2 : μ} {fs : List Value} {N : Nat} {T : u_T} (q0 ci : Nat) (Y : Yv y bytes maxL ry n) (hl : Cond.methodLink own index y ∈ wU) (hM : Ctr l y bytes maxL ry rm D tys w (.ref b :: As) S (vI rr, S2)) (hrc : rm.cells = 0) (hrs : rm.slots = 0) (hR : rm.frames + 1 ≤ R.frames ∧ 8 + (maxL + 11) + rm.locals ≤ R.locals) (hc : vwCl[ci]? = some (y.cls, T, N)) (he : (w S)[q0]? = some (b, .inr (ci, fs))) (hn : As.length = n) (hst : st = As.reverse ++ .ref b :: rest) (hW : (rest.map fun v => v.category).sum ≤ 8) (d : decode cc pc = .ok (.invokevirtual index, 3))
    (h : Tj p l e R s m args below meth c D w A nL vv K prog S2 (pc + 3) lv (.int rr :: rest)) : Tj p l e R s m args below meth c D w A nL vv K prog S pc lv st := j_callV C q0 ci Y hl hM hrc hrs hR hc he hn hst hW d h
theorem j_callVl (C : Cx p s m args meth c own cc nL rt D tys w A) {y : MethodName} {bytes : ByteArray} {maxL n index b : Nat} {ry : Option FieldType} {rm : Room} {As : List Value} {rr : Int64} {S2 : μ} {fs : List Value} {N : Nat} {T : u_T} (q0 ci : Nat) (Y : Yv y bytes maxL ry n) (hl : Cond.methodLink own index y ∈ wU) (hM : Ctr l y bytes maxL ry rm D tys w (.ref b :: As) S (vL rr, S2)) (hrc : rm.cells = 0) (hrs : rm.slots = 0) (hR : rm.frames + 1 ≤ R.frames ∧ 8 + (maxL + 11) + rm.locals ≤ R.locals) (hc : vwCl[ci]? = some (y.cls, T, N)) (he : (w S)[q0]? = some (b, .inr (ci, fs))) (hn : As.length = n) (hst : st = As.reverse ++ .ref b :: rest) (hW : (rest.map fun v => v.category).sum ≤ 8) (d : decode cc pc = .ok (.invokevirtual index, 3))
    (h : Tj p l e R s m args below meth c D w A nL vv K prog S2 (pc + 3) lv (.long rr :: rest)) : Tj p l e R s m args below meth c D w A nL vv K prog S pc lv st := j_callV C q0 ci Y hl hM hrc hrs hR hc he hn hst hW d h
theorem j_callVv (C : Cx p s m args meth c own cc nL rt D tys w A) {y : MethodName} {bytes : ByteArray} {maxL n index b : Nat} {ry : Option FieldType} {rm : Room} {As : List Value} {rr : Unit} {S2 : μ} {fs : List Value} {N : Nat} {T : u_T} (q0 ci : Nat) (Y : Yv y bytes maxL ry n) (hl : Cond.methodLink own index y ∈ wU) (hM : Ctr l y bytes maxL ry rm D tys w (.ref b :: As) S (vV rr, S2)) (hrc : rm.cells = 0) (hrs : rm.slots = 0) (hR : rm.frames + 1 ≤ R.frames ∧ 8 + (maxL + 11) + rm.locals ≤ R.locals) (hc : vwCl[ci]? = some (y.cls, T, N)) (he : (w S)[q0]? = some (b, .inr (ci, fs))) (hn : As.length = n) (hst : st = As.reverse ++ .ref b :: rest) (hW : (rest.map fun v => v.category).sum ≤ 8) (d : decode cc pc = .ok (.invokevirtual index, 3))
    (h : Tj p l e R s m args below meth c D w A nL vv K prog S2 (pc + 3) lv (rest)) : Tj p l e R s m args below meth c D w A nL vv K prog S pc lv st := j_callV C q0 ci Y hl hM hrc hrs hR hc he hn hst hW d h
theorem j_callVNi (C : Cx p s m args meth c own cc nL rt D tys w A) {y : MethodName} {host : String} {bytes : ByteArray} {maxL n index b : Nat} {ry : Option FieldType} {rm : Room} {As : List Value} {rr : Int32} {S2 : μ} {fs : List Value} {N : Nat} {T : u_T} (q0 ci : Nat) (Y : Yv y bytes maxL ry n) (hl : Cond.methodLinkNest own index y host ∈ wN) (hM : Ctr l y bytes maxL ry rm D tys w (.ref b :: As) S (vI rr, S2)) (hrc : rm.cells = 0) (hrs : rm.slots = 0) (hR : rm.frames + 1 ≤ R.frames ∧ 8 + (maxL + 11) + rm.locals ≤ R.locals) (hc : vwCl[ci]? = some (y.cls, T, N)) (he : (w S)[q0]? = some (b, .inr (ci, fs))) (hn : As.length = n) (hst : st = As.reverse ++ .ref b :: rest) (hW : (rest.map fun v => v.category).sum ≤ 8) (d : decode cc pc = .ok (.invokevirtual index, 3))
    (h : Tj p l e R s m args below meth c D w A nL vv K prog S2 (pc + 3) lv (.int rr :: rest)) : Tj p l e R s m args below meth c D w A nL vv K prog S pc lv st := j_callVN C q0 ci Y hl hM hrc hrs hR hc he hn hst hW d h
theorem j_callVNl (C : Cx p s m args meth c own cc nL rt D tys w A) {y : MethodName} {host : String} {bytes : ByteArray} {maxL n index b : Nat} {ry : Option FieldType} {rm : Room} {As : List Value} {rr : Int64} {S2 : μ} {fs : List Value} {N : Nat} {T : u_T} (q0 ci : Nat) (Y : Yv y bytes maxL ry n) (hl : Cond.methodLinkNest own index y host ∈ wN) (hM : Ctr l y bytes maxL ry rm D tys w (.ref b :: As) S (vL rr, S2)) (hrc : rm.cells = 0) (hrs : rm.slots = 0) (hR : rm.frames + 1 ≤ R.frames ∧ 8 + (maxL + 11) + rm.locals ≤ R.locals) (hc : vwCl[ci]? = some (y.cls, T, N)) (he : (w S)[q0]? = some (b, .inr (ci, fs))) (hn : As.length = n) (hst : st = As.reverse ++ .ref b :: rest) (hW : (rest.map fun v => v.category).sum ≤ 8) (d : decode cc pc = .ok (.invokevirtual index, 3))
    (h : Tj p l e R s m args below meth c D w A nL vv K prog S2 (pc + 3) lv (.long rr :: rest)) : Tj p l e R s m args below meth c D w A nL vv K prog S pc lv st := j_callVN C q0 ci Y hl hM hrc hrs hR hc he hn hst hW d h
theorem j_callVNv (C : Cx p s m args meth c own cc nL rt D tys w A) {y : MethodName} {host : String} {bytes : ByteArray} {maxL n index b : Nat} {ry : Option FieldType} {rm : Room} {As : List Value} {rr : Unit} {S2 : μ} {fs : List Value} {N : Nat} {T : u_T} (q0 ci : Nat) (Y : Yv y bytes maxL ry n) (hl : Cond.methodLinkNest own index y host ∈ wN) (hM : Ctr l y bytes maxL ry rm D tys w (.ref b :: As) S (vV rr, S2)) (hrc : rm.cells = 0) (hrs : rm.slots = 0) (hR : rm.frames + 1 ≤ R.frames ∧ 8 + (maxL + 11) + rm.locals ≤ R.locals) (hc : vwCl[ci]? = some (y.cls, T, N)) (he : (w S)[q0]? = some (b, .inr (ci, fs))) (hn : As.length = n) (hst : st = As.reverse ++ .ref b :: rest) (hW : (rest.map fun v => v.category).sum ≤ 8) (d : decode cc pc = .ok (.invokevirtual index, 3))
    (h : Tj p l e R s m args below meth c D w A nL vv K prog S2 (pc + 3) lv (rest)) : Tj p l e R s m args below meth c D w A nL vv K prog S pc lv st := j_callVN C q0 ci Y hl hM hrc hrs hR hc he hn hst hW d h
theorem j_callSi (C : Cx p s m args meth c own cc nL rt D tys w A) {y : MethodName} {bytes : ByteArray} {maxL n index : Nat} {ry : Option FieldType} {rm : Room} {As : List Value} {rr : Int32} {S2 : μ} (Y : Ys y bytes maxL ry n) (hl : Cond.methodLink own index y ∈ wU) (hM : Ctr l y bytes maxL ry rm D tys w As S (vI rr, S2)) (hrc : rm.cells = 0) (hrs : rm.slots = 0) (hR : rm.frames + 1 ≤ R.frames ∧ 8 + (maxL + 11) + rm.locals ≤ R.locals) (hn : As.length = n) (hst : st = As.reverse ++ rest) (hW : (rest.map fun v => v.category).sum ≤ 8) (d : decode cc pc = .ok (.invokestatic index, 3))
    (h : Tj p l e R s m args below meth c D w A nL vv K prog S2 (pc + 3) lv (.int rr :: rest)) : Tj p l e R s m args below meth c D w A nL vv K prog S pc lv st := j_callS C Y hl hM hrc hrs hR hn hst hW d h
theorem j_callSl (C : Cx p s m args meth c own cc nL rt D tys w A) {y : MethodName} {bytes : ByteArray} {maxL n index : Nat} {ry : Option FieldType} {rm : Room} {As : List Value} {rr : Int64} {S2 : μ} (Y : Ys y bytes maxL ry n) (hl : Cond.methodLink own index y ∈ wU) (hM : Ctr l y bytes maxL ry rm D tys w As S (vL rr, S2)) (hrc : rm.cells = 0) (hrs : rm.slots = 0) (hR : rm.frames + 1 ≤ R.frames ∧ 8 + (maxL + 11) + rm.locals ≤ R.locals) (hn : As.length = n) (hst : st = As.reverse ++ rest) (hW : (rest.map fun v => v.category).sum ≤ 8) (d : decode cc pc = .ok (.invokestatic index, 3))
    (h : Tj p l e R s m args below meth c D w A nL vv K prog S2 (pc + 3) lv (.long rr :: rest)) : Tj p l e R s m args below meth c D w A nL vv K prog S pc lv st := j_callS C Y hl hM hrc hrs hR hn hst hW d h
theorem j_callSv (C : Cx p s m args meth c own cc nL rt D tys w A) {y : MethodName} {bytes : ByteArray} {maxL n index : Nat} {ry : Option FieldType} {rm : Room} {As : List Value} {rr : Unit} {S2 : μ} (Y : Ys y bytes maxL ry n) (hl : Cond.methodLink own index y ∈ wU) (hM : Ctr l y bytes maxL ry rm D tys w As S (vV rr, S2)) (hrc : rm.cells = 0) (hrs : rm.slots = 0) (hR : rm.frames + 1 ≤ R.frames ∧ 8 + (maxL + 11) + rm.locals ≤ R.locals) (hn : As.length = n) (hst : st = As.reverse ++ rest) (hW : (rest.map fun v => v.category).sum ≤ 8) (d : decode cc pc = .ok (.invokestatic index, 3))
    (h : Tj p l e R s m args below meth c D w A nL vv K prog S2 (pc + 3) lv (rest)) : Tj p l e R s m args below meth c D w A nL vv K prog S pc lv st := j_callS C Y hl hM hrc hrs hR hn hst hW d h
theorem j_callSNi (C : Cx p s m args meth c own cc nL rt D tys w A) {y : MethodName} {host : String} {bytes : ByteArray} {maxL n index : Nat} {ry : Option FieldType} {rm : Room} {As : List Value} {rr : Int32} {S2 : μ} (Y : Ys y bytes maxL ry n) (hl : Cond.methodLinkNest own index y host ∈ wN) (hM : Ctr l y bytes maxL ry rm D tys w As S (vI rr, S2)) (hrc : rm.cells = 0) (hrs : rm.slots = 0) (hR : rm.frames + 1 ≤ R.frames ∧ 8 + (maxL + 11) + rm.locals ≤ R.locals) (hn : As.length = n) (hst : st = As.reverse ++ rest) (hW : (rest.map fun v => v.category).sum ≤ 8) (d : decode cc pc = .ok (.invokestatic index, 3))
    (h : Tj p l e R s m args below meth c D w A nL vv K prog S2 (pc + 3) lv (.int rr :: rest)) : Tj p l e R s m args below meth c D w A nL vv K prog S pc lv st := j_callSN C Y hl hM hrc hrs hR hn hst hW d h
theorem j_callSNl (C : Cx p s m args meth c own cc nL rt D tys w A) {y : MethodName} {host : String} {bytes : ByteArray} {maxL n index : Nat} {ry : Option FieldType} {rm : Room} {As : List Value} {rr : Int64} {S2 : μ} (Y : Ys y bytes maxL ry n) (hl : Cond.methodLinkNest own index y host ∈ wN) (hM : Ctr l y bytes maxL ry rm D tys w As S (vL rr, S2)) (hrc : rm.cells = 0) (hrs : rm.slots = 0) (hR : rm.frames + 1 ≤ R.frames ∧ 8 + (maxL + 11) + rm.locals ≤ R.locals) (hn : As.length = n) (hst : st = As.reverse ++ rest) (hW : (rest.map fun v => v.category).sum ≤ 8) (d : decode cc pc = .ok (.invokestatic index, 3))
    (h : Tj p l e R s m args below meth c D w A nL vv K prog S2 (pc + 3) lv (.long rr :: rest)) : Tj p l e R s m args below meth c D w A nL vv K prog S pc lv st := j_callSN C Y hl hM hrc hrs hR hn hst hW d h
theorem j_callSNv (C : Cx p s m args meth c own cc nL rt D tys w A) {y : MethodName} {host : String} {bytes : ByteArray} {maxL n index : Nat} {ry : Option FieldType} {rm : Room} {As : List Value} {rr : Unit} {S2 : μ} (Y : Ys y bytes maxL ry n) (hl : Cond.methodLinkNest own index y host ∈ wN) (hM : Ctr l y bytes maxL ry rm D tys w As S (vV rr, S2)) (hrc : rm.cells = 0) (hrs : rm.slots = 0) (hR : rm.frames + 1 ≤ R.frames ∧ 8 + (maxL + 11) + rm.locals ≤ R.locals) (hn : As.length = n) (hst : st = As.reverse ++ rest) (hW : (rest.map fun v => v.category).sum ≤ 8) (d : decode cc pc = .ok (.invokestatic index, 3))
    (h : Tj p l e R s m args below meth c D w A nL vv K prog S2 (pc + 3) lv (rest)) : Tj p l e R s m args below meth c D w A nL vv K prog S pc lv st := j_callSN C Y hl hM hrc hrs hR hn hst hW d h
/-- a loop, and what follows it -/
def seqM {μ γ β : Type} (o : Option (μ × γ)) (F : μ → γ → Option β) : Option β := o.bind (fun z => F z.1 z.2)
def rsel {ρ μ γ β : Type} (E : ρ → Option β) (F : μ → γ → Option β) (z : ρ ⊕ (μ × γ)) : Option β := match z with
  | .inl t => E t
  | .inr q => F q.1 q.2
def seqR {ρ μ γ β : Type} (o : Option (ρ ⊕ (μ × γ))) (E : ρ → Option β) (F : μ → γ → Option β) : Option β := o.bind (rsel E F)
def kM {μ α β γ : Type} (F : μ → γ → Option β) (K : β → Option (α × μ)) : μ × γ → Option (α × μ) := fun z => (F z.1 z.2).bind K
def kR {ρ μ α β γ : Type} (E : ρ → Option β) (F : μ → γ → Option β) (K : β → Option (α × μ)) : ρ ⊕ (μ × γ) → Option (α × μ) := fun z => (rsel E F z).bind K
theorem j_seqM {o : Option (μ × γ)} {F : μ → γ → Option β} (h : Tj p l e R s m args below meth c D w A nL vv (kM F K) o S pc lv st) : Tj p l e R s m args below meth c D w A nL vv K (seqM o F) S pc lv st := j_seq h
theorem j_outM {F : μ → γ → Option β} {S' : μ} {y : γ} {S0 : μ} (h : Tj p l e R s m args below meth c D w A nL vv K (F S' y) S0 pc lv st) : Tj p l e R s m args below meth c D w A nL vv (kM F K) (some (S', y)) S0 pc lv st := fun r S1 hb => h r S1 hb
theorem j_seqR {ρ : Type} {o : Option (ρ ⊕ (μ × γ))} {E : ρ → Option β} {F : μ → γ → Option β} (h : Tj p l e R s m args below meth c D w A nL vv (kR E F K) o S pc lv st) : Tj p l e R s m args below meth c D w A nL vv K (seqR o E F) S pc lv st := j_seq h
theorem j_outR {ρ : Type} {E : ρ → Option β} {F : μ → γ → Option β} {S' : μ} {y : γ} {S0 : μ} (h : Tj p l e R s m args below meth c D w A nL vv K (F S' y) S0 pc lv st) : Tj p l e R s m args below meth c D w A nL vv (kR E F K) (some (.inr (S', y))) S0 pc lv st := fun r S1 hb => h r S1 hb
theorem j_none : Tj p l e R s m args below meth c D w A nL vv K none S pc lv st := fun r S1 hb => by cases hb
theorem Ctr.of {y : MethodName} {av : List Value} {lv0 : List (Nat × Value)} {rm : Room} {prog : Option (α × μ)} (hy : plainName y.cls = true) (hrc : rm.cells = 0) (hw : ∀ S S' : μ, (w S).map Prod.fst = (w S').map Prod.fst) (hlen : (lg_sl av).length ≤ nL) (hl0 : lv_args 0 av = lv0)
    (body : ∀ (p : Program) (e : Env) (s : State) (m : MethodId) (args : Array Value) (below : List Frame) (meth : Method) (c : Code) (A : Nat → Prop), Cx p s m args meth c y.cls cc nL rt D tys w A → Tj p l e rm s m args below meth c D w A nL vv some prog S 0 lv0 []) (r : α) (S1 : μ) (hp : prog = some (r, S1)) : Ctr l y cc nL rt rm D tys w av S (vv r, S1) := by
  intro sz
  refine Met.ofW (cc := cc) (maxL := nL) (ret := rt) hy rfl ?_
  intro p e s m args below meth c s₁ B hml hv
  obtain ⟨rfl, hsz, hP, hK, hN, hD0⟩ := hv
  subst hsz
  have hts := atoms_spec (ws := .code y cc nL rt :: wU) B.pre
  have hD := hD0.self (sz := s.heap.size)
  have C : Cx p s m av.toArray meth c y.cls cc nL rt D tys w (va_A (w S) s.heap.size) := ⟨B.exec, B.bytes, hml, findClass_of_methodNamed B.named, fun q hq => hts q (List.mem_cons_of_mem _ hq), hN, hK, fun S' => w_D hw hD S', fun q hq => Or.inr hq, B.returns, B.notSynchronized⟩
  have hl := lv_entry av (n := nL) hlen
  rw [lg_entry_eq]
  exact body p e s m av.toArray below meth c _ C r S1 (by rw [hp]; rfl) s.heap [] _ hP va_S.rf (by rw [← hl0]; exact hl)
end GO
end
section
/-! rows of single instructions, written by gen/base2.py -/
section GO2
variable {p : Program} {l : Launch} {e : Env} {R : Room} {s : State} {m : MethodId} {args : Array Value} {below : List Frame} {meth : Method} {c : Code}
variable {μ : Type} {own : String} {cc : ByteArray} {nL : Nat} {rt : Option FieldType} {D : va_G} {tys : List (ClassId × FieldType)} {w : μ → va_W} {A : Nat → Prop}
variable {α β γ δ : Type} {vv : α → Option Value} {K : β → Option (α × μ)} {prog progA progB : Option β} {S : μ} {pc : Nat} {lv : List (Nat × Value)} {rest st : List Value}
theorem j_iadd (C : Cx p s m args meth c own cc nL rt D tys w A) {x y : Int32} (d : decode cc pc = .ok (.iadd, 1))
    (h : Tj p l e R s m args below meth c D w A nL vv K prog S (pc + 1) lv (.int (x + y) :: rest)) : Tj p l e R s m args below meth c D w A nL vv K prog S pc lv (.int y :: .int x :: rest) := fun r S1 hb H locs ls hP hS hlv => lv_iadd C.hx C.hb d (h r S1 hb H locs ls hP hS hlv)
theorem j_isub (C : Cx p s m args meth c own cc nL rt D tys w A) {x y : Int32} (d : decode cc pc = .ok (.isub, 1))
    (h : Tj p l e R s m args below meth c D w A nL vv K prog S (pc + 1) lv (.int (x - y) :: rest)) : Tj p l e R s m args below meth c D w A nL vv K prog S pc lv (.int y :: .int x :: rest) := fun r S1 hb H locs ls hP hS hlv => lv_isub C.hx C.hb d (h r S1 hb H locs ls hP hS hlv)
theorem j_imul (C : Cx p s m args meth c own cc nL rt D tys w A) {x y : Int32} (d : decode cc pc = .ok (.imul, 1))
    (h : Tj p l e R s m args below meth c D w A nL vv K prog S (pc + 1) lv (.int (x * y) :: rest)) : Tj p l e R s m args below meth c D w A nL vv K prog S pc lv (.int y :: .int x :: rest) := fun r S1 hb H locs ls hP hS hlv => lv_imul C.hx C.hb d (h r S1 hb H locs ls hP hS hlv)
theorem j_iand (C : Cx p s m args meth c own cc nL rt D tys w A) {x y : Int32} (d : decode cc pc = .ok (.iand, 1))
    (h : Tj p l e R s m args below meth c D w A nL vv K prog S (pc + 1) lv (.int (x &&& y) :: rest)) : Tj p l e R s m args below meth c D w A nL vv K prog S pc lv (.int y :: .int x :: rest) := fun r S1 hb H locs ls hP hS hlv => lv_iand C.hx C.hb d (h r S1 hb H locs ls hP hS hlv)
theorem j_ior (C : Cx p s m args meth c own cc nL rt D tys w A) {x y : Int32} (d : decode cc pc = .ok (.ior, 1))
    (h : Tj p l e R s m args below meth c D w A nL vv K prog S (pc + 1) lv (.int (x ||| y) :: rest)) : Tj p l e R s m args below meth c D w A nL vv K prog S pc lv (.int y :: .int x :: rest) := fun r S1 hb H locs ls hP hS hlv => lv_ior C.hx C.hb d (h r S1 hb H locs ls hP hS hlv)
theorem j_ixor (C : Cx p s m args meth c own cc nL rt D tys w A) {x y : Int32} (d : decode cc pc = .ok (.ixor, 1))
    (h : Tj p l e R s m args below meth c D w A nL vv K prog S (pc + 1) lv (.int (x ^^^ y) :: rest)) : Tj p l e R s m args below meth c D w A nL vv K prog S pc lv (.int y :: .int x :: rest) := fun r S1 hb H locs ls hP hS hlv => lv_ixor C.hx C.hb d (h r S1 hb H locs ls hP hS hlv)
theorem j_ishl (C : Cx p s m args meth c own cc nL rt D tys w A) {x y : Int32} (d : decode cc pc = .ok (.ishl, 1))
    (h : Tj p l e R s m args below meth c D w A nL vv K prog S (pc + 1) lv (.int (x <<< (y &&& 31)) :: rest)) : Tj p l e R s m args below meth c D w A nL vv K prog S pc lv (.int y :: .int x :: rest) := fun r S1 hb H locs ls hP hS hlv => lv_ishl C.hx C.hb d (h r S1 hb H locs ls hP hS hlv)
theorem j_ishr (C : Cx p s m args meth c own cc nL rt D tys w A) {x y : Int32} (d : decode cc pc = .ok (.ishr, 1))
    (h : Tj p l e R s m args below meth c D w A nL vv K prog S (pc + 1) lv (.int (x >>> (y &&& 31)) :: rest)) : Tj p l e R s m args below meth c D w A nL vv K prog S pc lv (.int y :: .int x :: rest) := fun r S1 hb H locs ls hP hS hlv => lv_ishr C.hx C.hb d (h r S1 hb H locs ls hP hS hlv)
theorem j_ladd (C : Cx p s m args meth c own cc nL rt D tys w A) {x y : Int64} (d : decode cc pc = .ok (.ladd, 1))
    (h : Tj p l e R s m args below meth c D w A nL vv K prog S (pc + 1) lv (.long (x + y) :: rest)) : Tj p l e R s m args below meth c D w A nL vv K prog S pc lv (.long y :: .long x :: rest) := fun r S1 hb H locs ls hP hS hlv => lv_ladd C.hx C.hb d (h r S1 hb H locs ls hP hS hlv)
theorem j_lsub (C : Cx p s m args meth c own cc nL rt D tys w A) {x y : Int64} (d : decode cc pc = .ok (.lsub, 1))
    (h : Tj p l e R s m args below meth c D w A nL vv K prog S (pc + 1) lv (.long (x - y) :: rest)) : Tj p l e R s m args below meth c D w A nL vv K prog S pc lv (.long y :: .long x :: rest) := fun r S1 hb H locs ls hP hS hlv => lv_lsub C.hx C.hb d (h r S1 hb H locs ls hP hS hlv)
theorem j_lmul (C : Cx p s m args meth c own cc nL rt D tys w A) {x y : Int64} (d : decode cc pc = .ok (.lmul, 1))
    (h : Tj p l e R s m args below meth c D w A nL vv K prog S (pc + 1) lv (.long (x * y) :: rest)) : Tj p l e R s m args below meth c D w A nL vv K prog S pc lv (.long y :: .long x :: rest) := fun r S1 hb H locs ls hP hS hlv => lv_lmul C.hx C.hb d (h r S1 hb H locs ls hP hS hlv)
theorem j_land (C : Cx p s m args meth c own cc nL rt D tys w A) {x y : Int64} (d : decode cc pc = .ok (.land, 1))
    (h : Tj p l e R s m args below meth c D w A nL vv K prog S (pc + 1) lv (.long (x &&& y) :: rest)) : Tj p l e R s m args below meth c D w A nL vv K prog S pc lv (.long y :: .long x :: rest) := fun r S1 hb H locs ls hP hS hlv => lv_land C.hx C.hb d (h r S1 hb H locs ls hP hS hlv)
theorem j_lor (C : Cx p s m args meth c own cc nL rt D tys w A) {x y : Int64} (d : decode cc pc = .ok (.lor, 1))
    (h : Tj p l e R s m args below meth c D w A nL vv K prog S (pc + 1) lv (.long (x ||| y) :: rest)) : Tj p l e R s m args below meth c D w A nL vv K prog S pc lv (.long y :: .long x :: rest) := fun r S1 hb H locs ls hP hS hlv => lv_lor C.hx C.hb d (h r S1 hb H locs ls hP hS hlv)
theorem j_lxor (C : Cx p s m args meth c own cc nL rt D tys w A) {x y : Int64} (d : decode cc pc = .ok (.lxor, 1))
    (h : Tj p l e R s m args below meth c D w A nL vv K prog S (pc + 1) lv (.long (x ^^^ y) :: rest)) : Tj p l e R s m args below meth c D w A nL vv K prog S pc lv (.long y :: .long x :: rest) := fun r S1 hb H locs ls hP hS hlv => lv_lxor C.hx C.hb d (h r S1 hb H locs ls hP hS hlv)
theorem j_idiv (C : Cx p s m args meth c own cc nL rt D tys w A) {x y : Int32} (hne : ¬ y = 0) (d : decode cc pc = .ok (.idiv, 1))
    (h : Tj p l e R s m args below meth c D w A nL vv K prog S (pc + 1) lv (.int (x / y) :: rest)) : Tj p l e R s m args below meth c D w A nL vv K prog S pc lv (.int y :: .int x :: rest) := fun r S1 hb H locs ls hP hS hlv => lv_idiv C.hx C.hb d hne (h r S1 hb H locs ls hP hS hlv)
theorem j_irem (C : Cx p s m args meth c own cc nL rt D tys w A) {x y : Int32} (hne : ¬ y = 0) (d : decode cc pc = .ok (.irem, 1))
    (h : Tj p l e R s m args below meth c D w A nL vv K prog S (pc + 1) lv (.int (x - x / y * y) :: rest)) : Tj p l e R s m args below meth c D w A nL vv K prog S pc lv (.int y :: .int x :: rest) := fun r S1 hb H locs ls hP hS hlv => lv_irem C.hx C.hb d hne (h r S1 hb H locs ls hP hS hlv)
theorem j_lshl (C : Cx p s m args meth c own cc nL rt D tys w A) {x : Int64} {y : Int32} (d : decode cc pc = .ok (.lshl, 1))
    (h : Tj p l e R s m args below meth c D w A nL vv K prog S (pc + 1) lv (.long (x <<< (y.toInt64 &&& 63)) :: rest)) : Tj p l e R s m args below meth c D w A nL vv K prog S pc lv (.int y :: .long x :: rest) := fun r S1 hb H locs ls hP hS hlv => lv_lshl C.hx C.hb d rfl (h r S1 hb H locs ls hP hS hlv)
theorem j_lshr (C : Cx p s m args meth c own cc nL rt D tys w A) {x : Int64} {y : Int32} (d : decode cc pc = .ok (.lshr, 1))
    (h : Tj p l e R s m args below meth c D w A nL vv K prog S (pc + 1) lv (.long (x >>> (y.toInt64 &&& 63)) :: rest)) : Tj p l e R s m args below meth c D w A nL vv K prog S pc lv (.int y :: .long x :: rest) := fun r S1 hb H locs ls hP hS hlv => lv_lshr C.hx C.hb d rfl (h r S1 hb H locs ls hP hS hlv)
theorem j_i2l (C : Cx p s m args meth c own cc nL rt D tys w A) {x : Int32} (d : decode cc pc = .ok (.i2l, 1))
    (h : Tj p l e R s m args below meth c D w A nL vv K prog S (pc + 1) lv (.long (x.toInt64) :: rest)) : Tj p l e R s m args below meth c D w A nL vv K prog S pc lv (.int x :: rest) := fun r S1 hb H locs ls hP hS hlv => lv_i2l C.hx C.hb d rfl (h r S1 hb H locs ls hP hS hlv)
theorem j_l2i (C : Cx p s m args meth c own cc nL rt D tys w A) {x : Int64} (d : decode cc pc = .ok (.l2i, 1))
    (h : Tj p l e R s m args below meth c D w A nL vv K prog S (pc + 1) lv (.int (x.toInt32) :: rest)) : Tj p l e R s m args below meth c D w A nL vv K prog S pc lv (.long x :: rest) := fun r S1 hb H locs ls hP hS hlv => lv_l2i C.hx C.hb d rfl (h r S1 hb H locs ls hP hS hlv)
theorem j_lcmp (C : Cx p s m args meth c own cc nL rt D tys w A) {x y : Int64} (d : decode cc pc = .ok (.lcmp, 1))
    (h : Tj p l e R s m args below meth c D w A nL vv K prog S (pc + 1) lv (.int (lg_cmp x y) :: rest)) : Tj p l e R s m args below meth c D w A nL vv K prog S pc lv (.long y :: .long x :: rest) := fun r S1 hb H locs ls hP hS hlv => W.lcmp C.hx C.hb d (h r S1 hb H locs ls hP hS hlv)
theorem j_iconst (C : Cx p s m args meth c own cc nL rt D tys w A) {n : Int} {v : Int32} (hv : Int32.ofInt n = v) (d : decode cc pc = .ok (.iconst n, 1))
    (h : Tj p l e R s m args below meth c D w A nL vv K prog S (pc + 1) lv (.int v :: rest)) : Tj p l e R s m args below meth c D w A nL vv K prog S pc lv (rest) := fun r S1 hb H locs ls hP hS hlv => lv_iconst C.hx C.hb d hv (h r S1 hb H locs ls hP hS hlv)
theorem j_bipush (C : Cx p s m args meth c own cc nL rt D tys w A) {n : Int} {v : Int32} (hv : (Int8.ofInt n).toInt32 = v) (d : decode cc pc = .ok (.bipush n, 2))
    (h : Tj p l e R s m args below meth c D w A nL vv K prog S (pc + 2) lv (.int v :: rest)) : Tj p l e R s m args below meth c D w A nL vv K prog S pc lv (rest) := fun r S1 hb H locs ls hP hS hlv => lv_bipush C.hx C.hb d hv (h r S1 hb H locs ls hP hS hlv)
theorem j_sipush (C : Cx p s m args meth c own cc nL rt D tys w A) {n : Int} {v : Int32} (hv : (Int16.ofInt n).toInt32 = v) (d : decode cc pc = .ok (.sipush n, 3))
    (h : Tj p l e R s m args below meth c D w A nL vv K prog S (pc + 3) lv (.int v :: rest)) : Tj p l e R s m args below meth c D w A nL vv K prog S pc lv (rest) := fun r S1 hb H locs ls hP hS hlv => lv_sipush C.hx C.hb d hv (h r S1 hb H locs ls hP hS hlv)
theorem j_lconst (C : Cx p s m args meth c own cc nL rt D tys w A) {n : Fin 2} {v : Int64} (hv : Int64.ofNat (n : Nat) = v) (d : decode cc pc = .ok (.lconst n, 1))
    (h : Tj p l e R s m args below meth c D w A nL vv K prog S (pc + 1) lv (.long v :: rest)) : Tj p l e R s m args below meth c D w A nL vv K prog S pc lv (rest) := fun r S1 hb H locs ls hP hS hlv => lv_lconst C.hx C.hb d hv (h r S1 hb H locs ls hP hS hlv)
theorem j_ldc (C : Cx p s m args meth c own cc nL rt D tys w A) {v : Int32} {index : Nat} (hc : Jvm.Cond.constant own index v ∈ wU) (d : decode cc pc = .ok (.ldc index, 2))
    (h : Tj p l e R s m args below meth c D w A nL vv K prog S (pc + 2) lv (.int v :: rest)) : Tj p l e R s m args below meth c D w A nL vv K prog S pc lv (rest) := fun r S1 hb H locs ls hP hS hlv => lv_ldc C.hx C.hb C.hown (C.hts _ hc) d (h r S1 hb H locs ls hP hS hlv)
theorem j_ldc2 (C : Cx p s m args meth c own cc nL rt D tys w A) {v : Int64} {index : Nat} (hc : Jvm.Cond.constantLong own index v ∈ wU) (d : decode cc pc = .ok (.ldc2_w index, 3))
    (h : Tj p l e R s m args below meth c D w A nL vv K prog S (pc + 3) lv (.long v :: rest)) : Tj p l e R s m args below meth c D w A nL vv K prog S pc lv (rest) := fun r S1 hb H locs ls hP hS hlv => lv_ldc2 C.hx C.hb C.hown (C.hts _ hc) d (h r S1 hb H locs ls hP hS hlv)
theorem j_iload_n (C : Cx p s m args meth c own cc nL rt D tys w A) {x : Int32} {k : Fin 4} {i : Nat} (q : Nat) (hi : (k : Nat) = i) (hq : lv[q]? = some (i, .int x)) (d : decode cc pc = .ok (.iload_n k, 1))
    (h : Tj p l e R s m args below meth c D w A nL vv K prog S (pc + 1) lv (.int x :: rest)) : Tj p l e R s m args below meth c D w A nL vv K prog S pc lv (rest) := fun r S1 hb H locs ls hP hS hlv => lv_iload_n C.hx C.hb d hi (lv_at hlv q hq) (h r S1 hb H locs ls hP hS hlv)
theorem j_iload (C : Cx p s m args meth c own cc nL rt D tys w A) {x : Int32} {i : Nat} (q : Nat) (hq : lv[q]? = some (i, .int x)) (d : decode cc pc = .ok (.iload i, 2))
    (h : Tj p l e R s m args below meth c D w A nL vv K prog S (pc + 2) lv (.int x :: rest)) : Tj p l e R s m args below meth c D w A nL vv K prog S pc lv (rest) := fun r S1 hb H locs ls hP hS hlv => lv_iload C.hx C.hb d (lv_at hlv q hq) (h r S1 hb H locs ls hP hS hlv)
theorem j_istore_n (C : Cx p s m args meth c own cc nL rt D tys w A) {x : Int32} {k : Fin 4} {i : Nat} {lv2 : List (Nat × Value)} (hi : (k : Nat) = i) (hn : i < nL) (hl : (i, Value.int x) :: lv.filter (fun q => !(q.1 == i) && !(q.1 + 1 == i && q.2.category == 2)) = lv2) (d : decode cc pc = .ok (.istore_n k, 1))
    (h : Tj p l e R s m args below meth c D w A nL vv K prog S (pc + 1) lv2 rest) : Tj p l e R s m args below meth c D w A nL vv K prog S pc lv (.int x :: rest) := fun r S1 hb H locs ls hP hS hlv => lv_istore_n C.hx C.hb d hi hlv hn hl (fun ls2 hl2 => h r S1 hb H locs ls2 hP hS hl2)
theorem j_istore (C : Cx p s m args meth c own cc nL rt D tys w A) {x : Int32} {i : Nat} {lv2 : List (Nat × Value)} (hn : i < nL) (hl : (i, Value.int x) :: lv.filter (fun q => !(q.1 == i) && !(q.1 + 1 == i && q.2.category == 2)) = lv2) (d : decode cc pc = .ok (.istore i, 2))
    (h : Tj p l e R s m args below meth c D w A nL vv K prog S (pc + 2) lv2 rest) : Tj p l e R s m args below meth c D w A nL vv K prog S pc lv (.int x :: rest) := fun r S1 hb H locs ls hP hS hlv => lv_istore C.hx C.hb d hlv hn hl (fun ls2 hl2 => h r S1 hb H locs ls2 hP hS hl2)
theorem j_lload_n (C : Cx p s m args meth c own cc nL rt D tys w A) {x : Int64} {k : Fin 4} {i : Nat} (q : Nat) (hi : (k : Nat) = i) (hq : lv[q]? = some (i, .long x)) (d : decode cc pc = .ok (.lload_n k, 1))
    (h : Tj p l e R s m args below meth c D w A nL vv K prog S (pc + 1) lv (.long x :: rest)) : Tj p l e R s m args below meth c D w A nL vv K prog S pc lv (rest) := fun r S1 hb H locs ls hP hS hlv => lv_lload_n C.hx C.hb d hi (lv_at hlv q hq) (h r S1 hb H locs ls hP hS hlv)
theorem j_lload (C : Cx p s m args meth c own cc nL rt D tys w A) {x : Int64} {i : Nat} (q : Nat) (hq : lv[q]? = some (i, .long x)) (d : decode cc pc = .ok (.lload i, 2))
    (h : Tj p l e R s m args below meth c D w A nL vv K prog S (pc + 2) lv (.long x :: rest)) : Tj p l e R s m args below meth c D w A nL vv K prog S pc lv (rest) := fun r S1 hb H locs ls hP hS hlv => lv_lload C.hx C.hb d (lv_at hlv q hq) (h r S1 hb H locs ls hP hS hlv)
theorem j_lstore_n (C : Cx p s m args meth c own cc nL rt D tys w A) {x : Int64} {k : Fin 4} {i : Nat} {lv2 : List (Nat × Value)} (hi : (k : Nat) = i) (hn : i + 1 < nL) (hl : (i, Value.long x) :: lv.filter (fun q => !(q.1 == i) && (!(q.1 == i + 1) && !(q.1 + 1 == i && q.2.category == 2))) = lv2) (d : decode cc pc = .ok (.lstore_n k, 1))
    (h : Tj p l e R s m args below meth c D w A nL vv K prog S (pc + 1) lv2 rest) : Tj p l e R s m args below meth c D w A nL vv K prog S pc lv (.long x :: rest) := fun r S1 hb H locs ls hP hS hlv => lv_lstore_n C.hx C.hb d hi hlv hn hl (fun ls2 hl2 => h r S1 hb H locs ls2 hP hS hl2)
theorem j_lstore (C : Cx p s m args meth c own cc nL rt D tys w A) {x : Int64} {i : Nat} {lv2 : List (Nat × Value)} (hn : i + 1 < nL) (hl : (i, Value.long x) :: lv.filter (fun q => !(q.1 == i) && (!(q.1 == i + 1) && !(q.1 + 1 == i && q.2.category == 2))) = lv2) (d : decode cc pc = .ok (.lstore i, 2))
    (h : Tj p l e R s m args below meth c D w A nL vv K prog S (pc + 2) lv2 rest) : Tj p l e R s m args below meth c D w A nL vv K prog S pc lv (.long x :: rest) := fun r S1 hb H locs ls hP hS hlv => lv_lstore C.hx C.hb d hlv hn hl (fun ls2 hl2 => h r S1 hb H locs ls2 hP hS hl2)
theorem j_aload_n (C : Cx p s m args meth c own cc nL rt D tys w A) {x : Nat} {k : Fin 4} {i : Nat} (q : Nat) (hi : (k : Nat) = i) (hq : lv[q]? = some (i, .ref x)) (d : decode cc pc = .ok (.aload_n k, 1))
    (h : Tj p l e R s m args below meth c D w A nL vv K prog S (pc + 1) lv (.ref x :: rest)) : Tj p l e R s m args below meth c D w A nL vv K prog S pc lv (rest) := fun r S1 hb H locs ls hP hS hlv => lv_aload_n C.hx C.hb d hi (lv_at hlv q hq) (h r S1 hb H locs ls hP hS hlv)
theorem j_aload (C : Cx p s m args meth c own cc nL rt D tys w A) {x : Nat} {i : Nat} (q : Nat) (hq : lv[q]? = some (i, .ref x)) (d : decode cc pc = .ok (.aload i, 2))
    (h : Tj p l e R s m args below meth c D w A nL vv K prog S (pc + 2) lv (.ref x :: rest)) : Tj p l e R s m args below meth c D w A nL vv K prog S pc lv (rest) := fun r S1 hb H locs ls hP hS hlv => lv_aload C.hx C.hb d (lv_at hlv q hq) (h r S1 hb H locs ls hP hS hlv)
theorem j_astore_n (C : Cx p s m args meth c own cc nL rt D tys w A) {x : Nat} {k : Fin 4} {i : Nat} {lv2 : List (Nat × Value)} (hi : (k : Nat) = i) (hn : i < nL) (hl : (i, Value.ref x) :: lv.filter (fun q => !(q.1 == i) && !(q.1 + 1 == i && q.2.category == 2)) = lv2) (d : decode cc pc = .ok (.astore_n k, 1))
    (h : Tj p l e R s m args below meth c D w A nL vv K prog S (pc + 1) lv2 rest) : Tj p l e R s m args below meth c D w A nL vv K prog S pc lv (.ref x :: rest) := fun r S1 hb H locs ls hP hS hlv => lv_astore_n C.hx C.hb d hi hlv hn hl (fun ls2 hl2 => h r S1 hb H locs ls2 hP hS hl2)
theorem j_astore (C : Cx p s m args meth c own cc nL rt D tys w A) {x : Nat} {i : Nat} {lv2 : List (Nat × Value)} (hn : i < nL) (hl : (i, Value.ref x) :: lv.filter (fun q => !(q.1 == i) && !(q.1 + 1 == i && q.2.category == 2)) = lv2) (d : decode cc pc = .ok (.astore i, 2))
    (h : Tj p l e R s m args below meth c D w A nL vv K prog S (pc + 2) lv2 rest) : Tj p l e R s m args below meth c D w A nL vv K prog S pc lv (.ref x :: rest) := fun r S1 hb H locs ls hP hS hlv => lv_astore C.hx C.hb d hlv hn hl (fun ls2 hl2 => h r S1 hb H locs ls2 hP hS hl2)
theorem j_iinc (C : Cx p s m args meth c own cc nL rt D tys w A) {i : Nat} {n : Int} {x v : Int32} {lv2 : List (Nat × Value)} (q : Nat) (hq : lv[q]? = some (i, .int x)) (hv : x + Int32.ofInt n = v) (hn : i < nL) (hl : (i, Value.int v) :: lv.filter (fun q => !(q.1 == i) && !(q.1 + 1 == i && q.2.category == 2)) = lv2) (d : decode cc pc = .ok (.iinc i n, 3))
    (h : Tj p l e R s m args below meth c D w A nL vv K prog S (pc + 3) lv2 rest) : Tj p l e R s m args below meth c D w A nL vv K prog S pc lv rest := fun r S1 hb H locs ls hP hS hlv => lv_iinc C.hx C.hb d hlv hq hv hn hl (fun ls2 hl2 => h r S1 hb H locs ls2 hP hS hl2)
theorem j_dup (C : Cx p s m args meth c own cc nL rt D tys w A) {va : Value} (hva : va.category = 1) (d : decode cc pc = .ok (.dup, 1))
    (h : Tj p l e R s m args below meth c D w A nL vv K prog S (pc + 1) lv (va :: va :: rest)) : Tj p l e R s m args below meth c D w A nL vv K prog S pc lv (va :: rest) := fun r S1 hb H locs ls hP hS hlv => lv_dup C.hx C.hb d hva (h r S1 hb H locs ls hP hS hlv)
theorem j_pop (C : Cx p s m args meth c own cc nL rt D tys w A) {va : Value} (hva : va.category = 1) (d : decode cc pc = .ok (.pop, 1))
    (h : Tj p l e R s m args below meth c D w A nL vv K prog S (pc + 1) lv (rest)) : Tj p l e R s m args below meth c D w A nL vv K prog S pc lv (va :: rest) := fun r S1 hb H locs ls hP hS hlv => lv_pop C.hx C.hb d hva (h r S1 hb H locs ls hP hS hlv)
theorem j_dup2 (C : Cx p s m args meth c own cc nL rt D tys w A) {va vb : Value} (hva : va.category = 1) (hvb : vb.category = 1) (d : decode cc pc = .ok (.dup2, 1))
    (h : Tj p l e R s m args below meth c D w A nL vv K prog S (pc + 1) lv (va :: vb :: va :: vb :: rest)) : Tj p l e R s m args below meth c D w A nL vv K prog S pc lv (va :: vb :: rest) := fun r S1 hb H locs ls hP hS hlv => lv_dup2_11 C.hx C.hb d hva hvb (h r S1 hb H locs ls hP hS hlv)
theorem j_goto (C : Cx p s m args meth c own cc nL rt D tys w A) {off : Int} {tgt : Nat} (d : decode cc pc = .ok (.goto off, 3)) (ht : (pc : Int) + off = (tgt : Int)) (h : Tj p l e R s m args below meth c D w A nL vv K prog S tgt lv rest) : Tj p l e R s m args below meth c D w A nL vv K prog S pc lv rest := fun r S1 hb H locs ls hP hS hlv => lv_goto C.hx C.hb d ht (h r S1 hb H locs ls hP hS hlv)
theorem j_if_eq (C : Cx p s m args meth c own cc nL rt D tys w A) {x : Int32} {off : Int} {tgt : Nat} {iP : Decidable (x = 0)} (d : decode cc pc = .ok (.ifCond .eq off, 3)) (ht : (pc : Int) + off = (tgt : Int)) (kt : x = 0 → Tj p l e R s m args below meth c D w A nL vv K progA S tgt lv rest) (kf : ¬ x = 0 → Tj p l e R s m args below meth c D w A nL vv K progB S (pc + 3) lv rest) : Tj p l e R s m args below meth c D w A nL vv K (@ite _ (x = 0) iP progA progB) S pc lv (.int x :: rest) := by
  refine j_if (fun hQ => ?_) (fun hQ => ?_)
  · exact fun r S1 hb H locs ls hP hS hlv => lv_if_eq C.hx C.hb d ht (fun _ => (kt hQ r S1 hb H locs ls hP hS hlv)) (fun z => absurd hQ z)
  · exact fun r S1 hb H locs ls hP hS hlv => lv_if_eq C.hx C.hb d ht (fun z => absurd z hQ) (fun _ => (kf hQ r S1 hb H locs ls hP hS hlv))
theorem j_if_eq_T (C : Cx p s m args meth c own cc nL rt D tys w A) {x : Int32} {off : Int} {tgt : Nat} (d : decode cc pc = .ok (.ifCond .eq off, 3)) (ht : (pc : Int) + off = (tgt : Int)) (hQ : x = 0) (h : Tj p l e R s m args below meth c D w A nL vv K prog S tgt lv rest) : Tj p l e R s m args below meth c D w A nL vv K prog S pc lv (.int x :: rest) := fun r S1 hb H locs ls hP hS hlv => lv_if_eq C.hx C.hb d ht (fun _ => (h r S1 hb H locs ls hP hS hlv)) (fun z => absurd hQ z)
theorem j_if_eq_F (C : Cx p s m args meth c own cc nL rt D tys w A) {x : Int32} {off : Int} {tgt : Nat} (d : decode cc pc = .ok (.ifCond .eq off, 3)) (ht : (pc : Int) + off = (tgt : Int)) (hQ : ¬ x = 0) (h : Tj p l e R s m args below meth c D w A nL vv K prog S (pc + 3) lv rest) : Tj p l e R s m args below meth c D w A nL vv K prog S pc lv (.int x :: rest) := fun r S1 hb H locs ls hP hS hlv => lv_if_eq C.hx C.hb d ht (fun z => absurd z hQ) (fun _ => (h r S1 hb H locs ls hP hS hlv))
theorem j_if_ne (C : Cx p s m args meth c own cc nL rt D tys w A) {x : Int32} {off : Int} {tgt : Nat} {iP : Decidable (x = 0)} (d : decode cc pc = .ok (.ifCond .ne off, 3)) (ht : (pc : Int) + off = (tgt : Int)) (kf : x = 0 → Tj p l e R s m args below meth c D w A nL vv K progA S (pc + 3) lv rest) (kt : ¬ x = 0 → Tj p l e R s m args below meth c D w A nL vv K progB S tgt lv rest) : Tj p l e R s m args below meth c D w A nL vv K (@ite _ (x = 0) iP progA progB) S pc lv (.int x :: rest) := by
  refine j_if (fun hQ => ?_) (fun hQ => ?_)
  · exact fun r S1 hb H locs ls hP hS hlv => lv_if_ne C.hx C.hb d ht (fun z => absurd hQ z) (fun _ => (kf hQ r S1 hb H locs ls hP hS hlv))
  · exact fun r S1 hb H locs ls hP hS hlv => lv_if_ne C.hx C.hb d ht (fun _ => (kt hQ r S1 hb H locs ls hP hS hlv)) (fun z => absurd z hQ)
theorem j_if_ne_T (C : Cx p s m args meth c own cc nL rt D tys w A) {x : Int32} {off : Int} {tgt : Nat} (d : decode cc pc = .ok (.ifCond .ne off, 3)) (ht : (pc : Int) + off = (tgt : Int)) (hQ : ¬ x = 0) (h : Tj p l e R s m args below meth c D w A nL vv K prog S tgt lv rest) : Tj p l e R s m args below meth c D w A nL vv K prog S pc lv (.int x :: rest) := fun r S1 hb H locs ls hP hS hlv => lv_if_ne C.hx C.hb d ht (fun _ => (h r S1 hb H locs ls hP hS hlv)) (fun z => absurd z hQ)
theorem j_if_ne_F (C : Cx p s m args meth c own cc nL rt D tys w A) {x : Int32} {off : Int} {tgt : Nat} (d : decode cc pc = .ok (.ifCond .ne off, 3)) (ht : (pc : Int) + off = (tgt : Int)) (hQ : x = 0) (h : Tj p l e R s m args below meth c D w A nL vv K prog S (pc + 3) lv rest) : Tj p l e R s m args below meth c D w A nL vv K prog S pc lv (.int x :: rest) := fun r S1 hb H locs ls hP hS hlv => lv_if_ne C.hx C.hb d ht (fun z => absurd hQ z) (fun _ => (h r S1 hb H locs ls hP hS hlv))
theorem j_if_lt (C : Cx p s m args meth c own cc nL rt D tys w A) {x : Int32} {off : Int} {tgt : Nat} {iP : Decidable (x < 0)} (d : decode cc pc = .ok (.ifCond .lt off, 3)) (ht : (pc : Int) + off = (tgt : Int)) (kt : x < 0 → Tj p l e R s m args below meth c D w A nL vv K progA S tgt lv rest) (kf : ¬ x < 0 → Tj p l e R s m args below meth c D w A nL vv K progB S (pc + 3) lv rest) : Tj p l e R s m args below meth c D w A nL vv K (@ite _ (x < 0) iP progA progB) S pc lv (.int x :: rest) := by
  refine j_if (fun hQ => ?_) (fun hQ => ?_)
  · exact fun r S1 hb H locs ls hP hS hlv => lv_if_lt C.hx C.hb d ht (fun _ => (kt hQ r S1 hb H locs ls hP hS hlv)) (fun z => absurd hQ z)
  · exact fun r S1 hb H locs ls hP hS hlv => lv_if_lt C.hx C.hb d ht (fun z => absurd z hQ) (fun _ => (kf hQ r S1 hb H locs ls hP hS hlv))
theorem j_if_lt_T (C : Cx p s m args meth c own cc nL rt D tys w A) {x : Int32} {off : Int} {tgt : Nat} (d : decode cc pc = .ok (.ifCond .lt off, 3)) (ht : (pc : Int) + off = (tgt : Int)) (hQ : x < 0) (h : Tj p l e R s m args below meth c D w A nL vv K prog S tgt lv rest) : Tj p l e R s m args below meth c D w A nL vv K prog S pc lv (.int x :: rest) := fun r S1 hb H locs ls hP hS hlv => lv_if_lt C.hx C.hb d ht (fun _ => (h r S1 hb H locs ls hP hS hlv)) (fun z => absurd hQ z)
theorem j_if_lt_F (C : Cx p s m args meth c own cc nL rt D tys w A) {x : Int32} {off : Int} {tgt : Nat} (d : decode cc pc = .ok (.ifCond .lt off, 3)) (ht : (pc : Int) + off = (tgt : Int)) (hQ : ¬ x < 0) (h : Tj p l e R s m args below meth c D w A nL vv K prog S (pc + 3) lv rest) : Tj p l e R s m args below meth c D w A nL vv K prog S pc lv (.int x :: rest) := fun r S1 hb H locs ls hP hS hlv => lv_if_lt C.hx C.hb d ht (fun z => absurd z hQ) (fun _ => (h r S1 hb H locs ls hP hS hlv))
theorem j_if_ge (C : Cx p s m args meth c own cc nL rt D tys w A) {x : Int32} {off : Int} {tgt : Nat} {iP : Decidable (0 ≤ x)} (d : decode cc pc = .ok (.ifCond .ge off, 3)) (ht : (pc : Int) + off = (tgt : Int)) (kt : 0 ≤ x → Tj p l e R s m args below meth c D w A nL vv K progA S tgt lv rest) (kf : ¬ 0 ≤ x → Tj p l e R s m args below meth c D w A nL vv K progB S (pc + 3) lv rest) : Tj p l e R s m args below meth c D w A nL vv K (@ite _ (0 ≤ x) iP progA progB) S pc lv (.int x :: rest) := by
  refine j_if (fun hQ => ?_) (fun hQ => ?_)
  · exact fun r S1 hb H locs ls hP hS hlv => lv_if_ge C.hx C.hb d ht (fun _ => (kt hQ r S1 hb H locs ls hP hS hlv)) (fun z => absurd hQ z)
  · exact fun r S1 hb H locs ls hP hS hlv => lv_if_ge C.hx C.hb d ht (fun z => absurd z hQ) (fun _ => (kf hQ r S1 hb H locs ls hP hS hlv))
theorem j_if_ge_T (C : Cx p s m args meth c own cc nL rt D tys w A) {x : Int32} {off : Int} {tgt : Nat} (d : decode cc pc = .ok (.ifCond .ge off, 3)) (ht : (pc : Int) + off = (tgt : Int)) (hQ : 0 ≤ x) (h : Tj p l e R s m args below meth c D w A nL vv K prog S tgt lv rest) : Tj p l e R s m args below meth c D w A nL vv K prog S pc lv (.int x :: rest) := fun r S1 hb H locs ls hP hS hlv => lv_if_ge C.hx C.hb d ht (fun _ => (h r S1 hb H locs ls hP hS hlv)) (fun z => absurd hQ z)
theorem j_if_ge_F (C : Cx p s m args meth c own cc nL rt D tys w A) {x : Int32} {off : Int} {tgt : Nat} (d : decode cc pc = .ok (.ifCond .ge off, 3)) (ht : (pc : Int) + off = (tgt : Int)) (hQ : ¬ 0 ≤ x) (h : Tj p l e R s m args below meth c D w A nL vv K prog S (pc + 3) lv rest) : Tj p l e R s m args below meth c D w A nL vv K prog S pc lv (.int x :: rest) := fun r S1 hb H locs ls hP hS hlv => lv_if_ge C.hx C.hb d ht (fun z => absurd z hQ) (fun _ => (h r S1 hb H locs ls hP hS hlv))
theorem j_if_gt (C : Cx p s m args meth c own cc nL rt D tys w A) {x : Int32} {off : Int} {tgt : Nat} {iP : Decidable (0 < x)} (d : decode cc pc = .ok (.ifCond .gt off, 3)) (ht : (pc : Int) + off = (tgt : Int)) (kt : 0 < x → Tj p l e R s m args below meth c D w A nL vv K progA S tgt lv rest) (kf : ¬ 0 < x → Tj p l e R s m args below meth c D w A nL vv K progB S (pc + 3) lv rest) : Tj p l e R s m args below meth c D w A nL vv K (@ite _ (0 < x) iP progA progB) S pc lv (.int x :: rest) := by
  refine j_if (fun hQ => ?_) (fun hQ => ?_)
  · exact fun r S1 hb H locs ls hP hS hlv => lv_if_gt C.hx C.hb d ht (fun _ => (kt hQ r S1 hb H locs ls hP hS hlv)) (fun z => absurd hQ z)
  · exact fun r S1 hb H locs ls hP hS hlv => lv_if_gt C.hx C.hb d ht (fun z => absurd z hQ) (fun _ => (kf hQ r S1 hb H locs ls hP hS hlv))
theorem j_if_gt_T (C : Cx p s m args meth c own cc nL rt D tys w A) {x : Int32} {off : Int} {tgt : Nat} (d : decode cc pc = .ok (.ifCond .gt off, 3)) (ht : (pc : Int) + off = (tgt : Int)) (hQ : 0 < x) (h : Tj p l e R s m args below meth c D w A nL vv K prog S tgt lv rest) : Tj p l e R s m args below meth c D w A nL vv K prog S pc lv (.int x :: rest) := fun r S1 hb H locs ls hP hS hlv => lv_if_gt C.hx C.hb d ht (fun _ => (h r S1 hb H locs ls hP hS hlv)) (fun z => absurd hQ z)
theorem j_if_gt_F (C : Cx p s m args meth c own cc nL rt D tys w A) {x : Int32} {off : Int} {tgt : Nat} (d : decode cc pc = .ok (.ifCond .gt off, 3)) (ht : (pc : Int) + off = (tgt : Int)) (hQ : ¬ 0 < x) (h : Tj p l e R s m args below meth c D w A nL vv K prog S (pc + 3) lv rest) : Tj p l e R s m args below meth c D w A nL vv K prog S pc lv (.int x :: rest) := fun r S1 hb H locs ls hP hS hlv => lv_if_gt C.hx C.hb d ht (fun z => absurd z hQ) (fun _ => (h r S1 hb H locs ls hP hS hlv))
theorem j_if_le (C : Cx p s m args meth c own cc nL rt D tys w A) {x : Int32} {off : Int} {tgt : Nat} {iP : Decidable (x ≤ 0)} (d : decode cc pc = .ok (.ifCond .le off, 3)) (ht : (pc : Int) + off = (tgt : Int)) (kt : x ≤ 0 → Tj p l e R s m args below meth c D w A nL vv K progA S tgt lv rest) (kf : ¬ x ≤ 0 → Tj p l e R s m args below meth c D w A nL vv K progB S (pc + 3) lv rest) : Tj p l e R s m args below meth c D w A nL vv K (@ite _ (x ≤ 0) iP progA progB) S pc lv (.int x :: rest) := by
  refine j_if (fun hQ => ?_) (fun hQ => ?_)
  · exact fun r S1 hb H locs ls hP hS hlv => lv_if_le C.hx C.hb d ht (fun _ => (kt hQ r S1 hb H locs ls hP hS hlv)) (fun z => absurd hQ z)
  · exact fun r S1 hb H locs ls hP hS hlv => lv_if_le C.hx C.hb d ht (fun z => absurd z hQ) (fun _ => (kf hQ r S1 hb H locs ls hP hS hlv))
theorem j_if_le_T (C : Cx p s m args meth c own cc nL rt D tys w A) {x : Int32} {off : Int} {tgt : Nat} (d : decode cc pc = .ok (.ifCond .le off, 3)) (ht : (pc : Int) + off = (tgt : Int)) (hQ : x ≤ 0) (h : Tj p l e R s m args below meth c D w A nL vv K prog S tgt lv rest) : Tj p l e R s m args below meth c D w A nL vv K prog S pc lv (.int x :: rest) := fun r S1 hb H locs ls hP hS hlv => lv_if_le C.hx C.hb d ht (fun _ => (h r S1 hb H locs ls hP hS hlv)) (fun z => absurd hQ z)
theorem j_if_le_F (C : Cx p s m args meth c own cc nL rt D tys w A) {x : Int32} {off : Int} {tgt : Nat} (d : decode cc pc = .ok (.ifCond .le off, 3)) (ht : (pc : Int) + off = (tgt : Int)) (hQ : ¬ x ≤ 0) (h : Tj p l e R s m args below meth c D w A nL vv K prog S (pc + 3) lv rest) : Tj p l e R s m args below meth c D w A nL vv K prog S pc lv (.int x :: rest) := fun r S1 hb H locs ls hP hS hlv => lv_if_le C.hx C.hb d ht (fun z => absurd z hQ) (fun _ => (h r S1 hb H locs ls hP hS hlv))
theorem j_icmp_eq (C : Cx p s m args meth c own cc nL rt D tys w A) {x y : Int32} {off : Int} {tgt : Nat} {iP : Decidable (x = y)} (d : decode cc pc = .ok (.if_icmp .eq off, 3)) (ht : (pc : Int) + off = (tgt : Int)) (kt : x = y → Tj p l e R s m args below meth c D w A nL vv K progA S tgt lv rest) (kf : ¬ x = y → Tj p l e R s m args below meth c D w A nL vv K progB S (pc + 3) lv rest) : Tj p l e R s m args below meth c D w A nL vv K (@ite _ (x = y) iP progA progB) S pc lv (.int y :: .int x :: rest) := by
  refine j_if (fun hQ => ?_) (fun hQ => ?_)
  · exact fun r S1 hb H locs ls hP hS hlv => lv_icmp_eq C.hx C.hb d ht (fun _ => (kt hQ r S1 hb H locs ls hP hS hlv)) (fun z => absurd hQ z)
  · exact fun r S1 hb H locs ls hP hS hlv => lv_icmp_eq C.hx C.hb d ht (fun z => absurd z hQ) (fun _ => (kf hQ r S1 hb H locs ls hP hS hlv))
theorem j_icmp_eq_T (C : Cx p s m args meth c own cc nL rt D tys w A) {x y : Int32} {off : Int} {tgt : Nat} (d : decode cc pc = .ok (.if_icmp .eq off, 3)) (ht : (pc : Int) + off = (tgt : Int)) (hQ : x = y) (h : Tj p l e R s m args below meth c D w A nL vv K prog S tgt lv rest) : Tj p l e R s m args below meth c D w A nL vv K prog S pc lv (.int y :: .int x :: rest) := fun r S1 hb H locs ls hP hS hlv => lv_icmp_eq C.hx C.hb d ht (fun _ => (h r S1 hb H locs ls hP hS hlv)) (fun z => absurd hQ z)
theorem j_icmp_eq_F (C : Cx p s m args meth c own cc nL rt D tys w A) {x y : Int32} {off : Int} {tgt : Nat} (d : decode cc pc = .ok (.if_icmp .eq off, 3)) (ht : (pc : Int) + off = (tgt : Int)) (hQ : ¬ x = y) (h : Tj p l e R s m args below meth c D w A nL vv K prog S (pc + 3) lv rest) : Tj p l e R s m args below meth c D w A nL vv K prog S pc lv (.int y :: .int x :: rest) := fun r S1 hb H locs ls hP hS hlv => lv_icmp_eq C.hx C.hb d ht (fun z => absurd z hQ) (fun _ => (h r S1 hb H locs ls hP hS hlv))
theorem j_icmp_ne (C : Cx p s m args meth c own cc nL rt D tys w A) {x y : Int32} {off : Int} {tgt : Nat} {iP : Decidable (x = y)} (d : decode cc pc = .ok (.if_icmp .ne off, 3)) (ht : (pc : Int) + off = (tgt : Int)) (kf : x = y → Tj p l e R s m args below meth c D w A nL vv K progA S (pc + 3) lv rest) (kt : ¬ x = y → Tj p l e R s m args below meth c D w A nL vv K progB S tgt lv rest) : Tj p l e R s m args below meth c D w A nL vv K (@ite _ (x = y) iP progA progB) S pc lv (.int y :: .int x :: rest) := by
  refine j_if (fun hQ => ?_) (fun hQ => ?_)
  · exact fun r S1 hb H locs ls hP hS hlv => lv_icmp_ne C.hx C.hb d ht (fun z => absurd hQ z) (fun _ => (kf hQ r S1 hb H locs ls hP hS hlv))
  · exact fun r S1 hb H locs ls hP hS hlv => lv_icmp_ne C.hx C.hb d ht (fun _ => (kt hQ r S1 hb H locs ls hP hS hlv)) (fun z => absurd z hQ)
theorem j_icmp_ne_T (C : Cx p s m args meth c own cc nL rt D tys w A) {x y : Int32} {off : Int} {tgt : Nat} (d : decode cc pc = .ok (.if_icmp .ne off, 3)) (ht : (pc : Int) + off = (tgt : Int)) (hQ : ¬ x = y) (h : Tj p l e R s m args below meth c D w A nL vv K prog S tgt lv rest) : Tj p l e R s m args below meth c D w A nL vv K prog S pc lv (.int y :: .int x :: rest) := fun r S1 hb H locs ls hP hS hlv => lv_icmp_ne C.hx C.hb d ht (fun _ => (h r S1 hb H locs ls hP hS hlv)) (fun z => absurd z hQ)
theorem j_icmp_ne_F (C : Cx p s m args meth c own cc nL rt D tys w A) {x y : Int32} {off : Int} {tgt : Nat} (d : decode cc pc = .ok (.if_icmp .ne off, 3)) (ht : (pc : Int) + off = (tgt : Int)) (hQ : x = y) (h : Tj p l e R s m args below meth c D w A nL vv K prog S (pc + 3) lv rest) : Tj p l e R s m args below meth c D w A nL vv K prog S pc lv (.int y :: .int x :: rest) := fun r S1 hb H locs ls hP hS hlv => lv_icmp_ne C.hx C.hb d ht (fun z => absurd hQ z) (fun _ => (h r S1 hb H locs ls hP hS hlv))
theorem j_icmp_lt (C : Cx p s m args meth c own cc nL rt D tys w A) {x y : Int32} {off : Int} {tgt : Nat} {iP : Decidable (x < y)} (d : decode cc pc = .ok (.if_icmp .lt off, 3)) (ht : (pc : Int) + off = (tgt : Int)) (kt : x < y → Tj p l e R s m args below meth c D w A nL vv K progA S tgt lv rest) (kf : ¬ x < y → Tj p l e R s m args below meth c D w A nL vv K progB S (pc + 3) lv rest) : Tj p l e R s m args below meth c D w A nL vv K (@ite _ (x < y) iP progA progB) S pc lv (.int y :: .int x :: rest) := by
  refine j_if (fun hQ => ?_) (fun hQ => ?_)
  · exact fun r S1 hb H locs ls hP hS hlv => lv_icmp_lt C.hx C.hb d ht (fun _ => (kt hQ r S1 hb H locs ls hP hS hlv)) (fun z => absurd hQ z)
  · exact fun r S1 hb H locs ls hP hS hlv => lv_icmp_lt C.hx C.hb d ht (fun z => absurd z hQ) (fun _ => (kf hQ r S1 hb H locs ls hP hS hlv))
theorem j_icmp_lt_T (C : Cx p s m args meth c own cc nL rt D tys w A) {x y : Int32} {off : Int} {tgt : Nat} (d : decode cc pc = .ok (.if_icmp .lt off, 3)) (ht : (pc : Int) + off = (tgt : Int)) (hQ : x < y) (h : Tj p l e R s m args below meth c D w A nL vv K prog S tgt lv rest) : Tj p l e R s m args below meth c D w A nL vv K prog S pc lv (.int y :: .int x :: rest) := fun r S1 hb H locs ls hP hS hlv => lv_icmp_lt C.hx C.hb d ht (fun _ => (h r S1 hb H locs ls hP hS hlv)) (fun z => absurd hQ z)
theorem j_icmp_lt_F (C : Cx p s m args meth c own cc nL rt D tys w A) {x y : Int32} {off : Int} {tgt : Nat} (d : decode cc pc = .ok (.if_icmp .lt off, 3)) (ht : (pc : Int) + off = (tgt : Int)) (hQ : ¬ x < y) (h : Tj p l e R s m args below meth c D w A nL vv K prog S (pc + 3) lv rest) : Tj p l e R s m args below meth c D w A nL vv K prog S pc lv (.int y :: .int x :: rest) := fun r S1 hb H locs ls hP hS hlv => lv_icmp_lt C.hx C.hb d ht (fun z => absurd z hQ) (fun _ => (h r S1 hb H locs ls hP hS hlv))
theorem j_icmp_ge (C : Cx p s m args meth c own cc nL rt D tys w A) {x y : Int32} {off : Int} {tgt : Nat} {iP : Decidable (y ≤ x)} (d : decode cc pc = .ok (.if_icmp .ge off, 3)) (ht : (pc : Int) + off = (tgt : Int)) (kt : y ≤ x → Tj p l e R s m args below meth c D w A nL vv K progA S tgt lv rest) (kf : ¬ y ≤ x → Tj p l e R s m args below meth c D w A nL vv K progB S (pc + 3) lv rest) : Tj p l e R s m args below meth c D w A nL vv K (@ite _ (y ≤ x) iP progA progB) S pc lv (.int y :: .int x :: rest) := by
  refine j_if (fun hQ => ?_) (fun hQ => ?_)
  · exact fun r S1 hb H locs ls hP hS hlv => lv_icmp_ge C.hx C.hb d ht (fun _ => (kt hQ r S1 hb H locs ls hP hS hlv)) (fun z => absurd hQ z)
  · exact fun r S1 hb H locs ls hP hS hlv => lv_icmp_ge C.hx C.hb d ht (fun z => absurd z hQ) (fun _ => (kf hQ r S1 hb H locs ls hP hS hlv))
theorem j_icmp_ge_T (C : Cx p s m args meth c own cc nL rt D tys w A) {x y : Int32} {off : Int} {tgt : Nat} (d : decode cc pc = .ok (.if_icmp .ge off, 3)) (ht : (pc : Int) + off = (tgt : Int)) (hQ : y ≤ x) (h : Tj p l e R s m args below meth c D w A nL vv K prog S tgt lv rest) : Tj p l e R s m args below meth c D w A nL vv K prog S pc lv (.int y :: .int x :: rest) := fun r S1 hb H locs ls hP hS hlv => lv_icmp_ge C.hx C.hb d ht (fun _ => (h r S1 hb H locs ls hP hS hlv)) (fun z => absurd hQ z)
theorem j_icmp_ge_F (C : Cx p s m args meth c own cc nL rt D tys w A) {x y : Int32} {off : Int} {tgt : Nat} (d : decode cc pc = .ok (.if_icmp .ge off, 3)) (ht : (pc : Int) + off = (tgt : Int)) (hQ : ¬ y ≤ x) (h : Tj p l e R s m args below meth c D w A nL vv K prog S (pc + 3) lv rest) : Tj p l e R s m args below meth c D w A nL vv K prog S pc lv (.int y :: .int x :: rest) := fun r S1 hb H locs ls hP hS hlv => lv_icmp_ge C.hx C.hb d ht (fun z => absurd z hQ) (fun _ => (h r S1 hb H locs ls hP hS hlv))
theorem j_icmp_gt (C : Cx p s m args meth c own cc nL rt D tys w A) {x y : Int32} {off : Int} {tgt : Nat} {iP : Decidable (y < x)} (d : decode cc pc = .ok (.if_icmp .gt off, 3)) (ht : (pc : Int) + off = (tgt : Int)) (kt : y < x → Tj p l e R s m args below meth c D w A nL vv K progA S tgt lv rest) (kf : ¬ y < x → Tj p l e R s m args below meth c D w A nL vv K progB S (pc + 3) lv rest) : Tj p l e R s m args below meth c D w A nL vv K (@ite _ (y < x) iP progA progB) S pc lv (.int y :: .int x :: rest) := by
  refine j_if (fun hQ => ?_) (fun hQ => ?_)
  · exact fun r S1 hb H locs ls hP hS hlv => lv_icmp_gt C.hx C.hb d ht (fun _ => (kt hQ r S1 hb H locs ls hP hS hlv)) (fun z => absurd hQ z)
  · exact fun r S1 hb H locs ls hP hS hlv => lv_icmp_gt C.hx C.hb d ht (fun z => absurd z hQ) (fun _ => (kf hQ r S1 hb H locs ls hP hS hlv))
theorem j_icmp_gt_T (C : Cx p s m args meth c own cc nL rt D tys w A) {x y : Int32} {off : Int} {tgt : Nat} (d : decode cc pc = .ok (.if_icmp .gt off, 3)) (ht : (pc : Int) + off = (tgt : Int)) (hQ : y < x) (h : Tj p l e R s m args below meth c D w A nL vv K prog S tgt lv rest) : Tj p l e R s m args below meth c D w A nL vv K prog S pc lv (.int y :: .int x :: rest) := fun r S1 hb H locs ls hP hS hlv => lv_icmp_gt C.hx C.hb d ht (fun _ => (h r S1 hb H locs ls hP hS hlv)) (fun z => absurd hQ z)
theorem j_icmp_gt_F (C : Cx p s m args meth c own cc nL rt D tys w A) {x y : Int32} {off : Int} {tgt : Nat} (d : decode cc pc = .ok (.if_icmp .gt off, 3)) (ht : (pc : Int) + off = (tgt : Int)) (hQ : ¬ y < x) (h : Tj p l e R s m args below meth c D w A nL vv K prog S (pc + 3) lv rest) : Tj p l e R s m args below meth c D w A nL vv K prog S pc lv (.int y :: .int x :: rest) := fun r S1 hb H locs ls hP hS hlv => lv_icmp_gt C.hx C.hb d ht (fun z => absurd z hQ) (fun _ => (h r S1 hb H locs ls hP hS hlv))
theorem j_icmp_le (C : Cx p s m args meth c own cc nL rt D tys w A) {x y : Int32} {off : Int} {tgt : Nat} {iP : Decidable (x ≤ y)} (d : decode cc pc = .ok (.if_icmp .le off, 3)) (ht : (pc : Int) + off = (tgt : Int)) (kt : x ≤ y → Tj p l e R s m args below meth c D w A nL vv K progA S tgt lv rest) (kf : ¬ x ≤ y → Tj p l e R s m args below meth c D w A nL vv K progB S (pc + 3) lv rest) : Tj p l e R s m args below meth c D w A nL vv K (@ite _ (x ≤ y) iP progA progB) S pc lv (.int y :: .int x :: rest) := by
  refine j_if (fun hQ => ?_) (fun hQ => ?_)
  · exact fun r S1 hb H locs ls hP hS hlv => lv_icmp_le C.hx C.hb d ht (fun _ => (kt hQ r S1 hb H locs ls hP hS hlv)) (fun z => absurd hQ z)
  · exact fun r S1 hb H locs ls hP hS hlv => lv_icmp_le C.hx C.hb d ht (fun z => absurd z hQ) (fun _ => (kf hQ r S1 hb H locs ls hP hS hlv))
theorem j_icmp_le_T (C : Cx p s m args meth c own cc nL rt D tys w A) {x y : Int32} {off : Int} {tgt : Nat} (d : decode cc pc = .ok (.if_icmp .le off, 3)) (ht : (pc : Int) + off = (tgt : Int)) (hQ : x ≤ y) (h : Tj p l e R s m args below meth c D w A nL vv K prog S tgt lv rest) : Tj p l e R s m args below meth c D w A nL vv K prog S pc lv (.int y :: .int x :: rest) := fun r S1 hb H locs ls hP hS hlv => lv_icmp_le C.hx C.hb d ht (fun _ => (h r S1 hb H locs ls hP hS hlv)) (fun z => absurd hQ z)
theorem j_icmp_le_F (C : Cx p s m args meth c own cc nL rt D tys w A) {x y : Int32} {off : Int} {tgt : Nat} (d : decode cc pc = .ok (.if_icmp .le off, 3)) (ht : (pc : Int) + off = (tgt : Int)) (hQ : ¬ x ≤ y) (h : Tj p l e R s m args below meth c D w A nL vv K prog S (pc + 3) lv rest) : Tj p l e R s m args below meth c D w A nL vv K prog S pc lv (.int y :: .int x :: rest) := fun r S1 hb H locs ls hP hS hlv => lv_icmp_le C.hx C.hb d ht (fun z => absurd z hQ) (fun _ => (h r S1 hb H locs ls hP hS hlv))
theorem j_tabIn (C : Cx p s m args meth c own cc nL rt D tys w A) {dflt lo hi : Int} {offs : Array Int} {len : Nat} {x : Int32} {off : Int} {tgt : Nat} (d : decode cc pc = .ok (.tableswitch dflt lo hi offs, len)) (h1 : ¬ x.toInt < lo) (h2 : ¬ hi < x.toInt) (ho : offs[(x.toInt - lo).toNat]? = some off) (ht : (pc : Int) + off = (tgt : Int)) (h : Tj p l e R s m args below meth c D w A nL vv K prog S tgt lv rest) : Tj p l e R s m args below meth c D w A nL vv K prog S pc lv (.int x :: rest) := fun r S1 hb H locs ls hP hS hlv => lv_tableIn C.hx C.hb d h1 h2 ho ht (h r S1 hb H locs ls hP hS hlv)
theorem j_tabOut (C : Cx p s m args meth c own cc nL rt D tys w A) {dflt lo hi : Int} {offs : Array Int} {len : Nat} {x : Int32} {tgt : Nat} (d : decode cc pc = .ok (.tableswitch dflt lo hi offs, len)) (h1 : x.toInt < lo ∨ hi < x.toInt) (ht : (pc : Int) + dflt = (tgt : Int)) (h : Tj p l e R s m args below meth c D w A nL vv K prog S tgt lv rest) : Tj p l e R s m args below meth c D w A nL vv K prog S pc lv (.int x :: rest) := fun r S1 hb H locs ls hP hS hlv => lv_tableOut C.hx C.hb d h1 ht (h r S1 hb H locs ls hP hS hlv)
theorem j_look (C : Cx p s m args meth c own cc nL rt D tys w A) {dflt : Int} {ps : Array (Int × Int)} {len : Nat} {x : Int32} {off : Int} {tgt : Nat} (d : decode cc pc = .ok (.lookupswitch dflt ps, len)) (hp : (ps.toList.zip (ps.toList.drop 1)).all (fun (a, next) => a.1 < next.1) = true) (ho : Op.lookupswitch.offset ps.toList dflt x.toInt = off) (ht : (pc : Int) + off = (tgt : Int)) (h : Tj p l e R s m args below meth c D w A nL vv K prog S tgt lv rest) : Tj p l e R s m args below meth c D w A nL vv K prog S pc lv (.int x :: rest) := fun r S1 hb H locs ls hP hS hlv => lv_lookup C.hx C.hb d hp ho ht (h r S1 hb H locs ls hP hS hlv)
theorem j_max (C : Cx p s m args meth c own cc nL rt D tys w A) {index : Nat} {x y : Int32} (hl : Cond.methodLink own index Lib.Math.max.name ∈ wU) (h2 : Cond.static Lib.Math.max.name ∈ wU) (h3 : Cond.initialized "java/lang/Math" ∈ wU) (h4 : Cond.code Lib.Math.max.name Lib.Math.max.code 2 (some .int) ∈ wU) (hf : 1 ≤ R.frames) (hlo : (rest.map fun v => v.category).sum + 13 ≤ R.locals) (d : decode cc pc = .ok (.invokestatic index, 3))
    (h : Tj p l e R s m args below meth c D w A nL vv K prog S (pc + 3) lv (.int (if x < y then y else x) :: rest)) : Tj p l e R s m args below meth c D w A nL vv K prog S pc lv (.int y :: .int x :: rest) := fun r S1 hb H locs ls hP hS hlv => va_mmax C.hx C.hb (C.hml.trans hlv.1.symm) C.hown (C.hts _ hl) (C.hts _ h2) (C.hts _ h3) (C.hts _ h4) hf hlo (Nat.zero_le _) (Nat.zero_le _) d (h r S1 hb H locs ls hP hS hlv)
end GO2
end
section
/-! the two worlds -/
theorem in_H : ∀ q ∈ u_ws "AutoTeller$Host" T_H 11, q ∈ wU := by decide +kernel
theorem in_J : ∀ q ∈ u_ws "AutoTeller$Journal" T_J 5, q ∈ wU := by decide +kernel
theorem in_E : ∀ q ∈ u_ws "AutoTeller$Letter" T_E 2, q ∈ wU := by decide +kernel
theorem in_N : ∀ q ∈ u_ws "AutoTeller$Line" T_N 3, q ∈ wU := by decide +kernel
theorem in_M : ∀ q ∈ u_ws "AutoTeller$Machine" T_M 15, q ∈ wU := by decide +kernel
theorem in_O : ∀ q ∈ u_ws "AutoTeller$Notes" T_O 11, q ∈ wU := by decide +kernel
theorem in_A : ∀ q ∈ u_ws "AutoTeller" T_A 4, q ∈ wU := by decide +kernel
theorem in_R : ∀ q ∈ u_ws "AutoTellerModel" T_R 36, q ∈ wU := by decide +kernel
def tyT (cI cJ cZ cL : ClassId) : List (ClassId × FieldType) := [(cI, .int), (cJ, .long), (cZ, .boolean), (cL, .object "AutoTeller$Letter")]
def wdCb (cI cJ cZ cL : ClassId) (a : Nat → Nat) (S : Mem) : va_W := [(a 0, .inr (6, [.ref (a 1), .ref (a 2), .ref (a 3), .ref (a (100 + 24))])),
  (a 1, .inr (3, [.ref (a 6), .int (S.1 0 0), .int (S.1 1 0)])),
  (a 2, .inr (0, [.ref (a 1), .ref (a 7), .ref (a 8), .ref (a 9), .ref (a 10), .ref (a 11), .ref (a 12), .ref (a 13), .ref (a 14), .long (S.2.1 1 0), .int (S.1 9 0)])),
  (a 3, .inr (4, [.ref (a 1), .ref (a 4), .ref (a 5), .ref (a 15), .int (S.1 11 0), .int (S.1 12 0), .int (S.1 13 0), .int (S.1 14 0), .int (S.1 15 0), .int (S.1 16 0), .int (S.1 17 0), .int (S.1 18 0), .int (S.1 19 0), .int (S.1 20 0), .int (S.1 21 0)])),
  (a 4, .inr (5, [.ref (a 16), .ref (a 17), .ref (a 18), .ref (a 19), .ref (a 20), .int (S.1 27 0), .int (S.1 28 0), .long (S.2.1 2 0), .ref (a 21), .int (S.1 30 0), .int (S.1 31 0)])),
  (a 5, .inr (1, [.ref (a 22), .ref (a 23), .ref (a 24), .ref (a 25), .int (S.1 36 0)])),
  (a 6, .inl (cL, 24, .inr (.inr (.inr (.inr (fun i => some (a (100 + S.2.2.1 i)))))))),
  (a 7, .inl (cJ, 8, .inr (.inl (S.2.1 0)))),
  (a 8, .inl (cI, 16, .inl (S.1 2))),
  (a 9, .inl (cI, 16, .inl (S.1 3))),
  (a 10, .inl (cI, 16, .inl (S.1 4))),
  (a 11, .inl (cI, 2001, .inl (S.1 5))),
  (a 12, .inl (cI, 2001, .inl (S.1 6))),
  (a 13, .inl (cI, 2001, .inl (S.1 7))),
  (a 14, .inl (cI, 2001, .inl (S.1 8))),
  (a 15, .inl (cZ, 16, .inl (S.1 10))),
  (a 16, .inl (cI, 4, .inl (S.1 22))),
  (a 17, .inl (cI, 4, .inl (S.1 23))),
  (a 18, .inl (cI, 4, .inl (S.1 24))),
  (a 19, .inl (cI, 4, .inl (S.1 25))),
  (a 20, .inl (cI, 4, .inl (S.1 26))),
  (a 21, .inl (cI, 4, .inl (S.1 29))),
  (a 22, .inl (cI, 300, .inl (S.1 32))),
  (a 23, .inl (cI, 300, .inl (S.1 33))),
  (a 24, .inl (cI, 300, .inl (S.1 34))),
  (a 25, .inl (cI, 300, .inl (S.1 35)))]
def wdCe (a : Nat → Nat) (S : Mem) : va_W := (List.range 25).map (fun j => (a (100 + j), .inr (2, [.ref (a (200 + j)), .int (S.2.2.2.1 j)])))
def wdCy (cI : ClassId) (a : Nat → Nat) (S : Mem) : va_W := (List.range 25).map (fun j => (a (200 + j), .inl (cI, 13, .inl (S.2.2.2.2 j))))
def wdC (cI cJ cZ cL : ClassId) (a : Nat → Nat) (S : Mem) : va_W := wdCb cI cJ cZ cL a S ++ (wdCe a S ++ wdCy cI a S)
theorem wdC_fst (cI cJ cZ cL : ClassId) (a : Nat → Nat) (S S2 : Mem) : (wdC cI cJ cZ cL a S).map Prod.fst = (wdC cI cJ cZ cL a S2).map Prod.fst := rfl
section WC
variable {p : Program} {l : Launch} {e : Env} {R : Room} {s : State} {m : MethodId} {args : Array Value} {below : List Frame} {meth : Method} {c : Code}
variable {own : String} {cc : ByteArray} {nL : Nat} {rt : Option FieldType} {D : va_G} {A : Nat → Prop}
variable {α β γ δ : Type} {vv : α → Option Value} {K : β → Option (α × Mem)} {prog progA progB : Option β} {S : Mem} {pc : Nat} {lv : List (Nat × Value)} {rest st : List Value}
variable {cI cJ cZ cL : ClassId} {a : Nat → Nat}
theorem gC_A_line (C : Cx p s m args meth c own cc nL rt D (tyT cI cJ cZ cL) (wdC cI cJ cZ cL a) A) {index : Nat} (hl : Cond.fieldLink own index "AutoTeller" "line" "LAutoTeller$Line;" ∈ wU) (d : decode cc pc = .ok (.getfield index, 3)) (h : Tj p l e R s m args below meth c D (wdC cI cJ cZ cL a) A nL vv K prog S (pc + 3) lv (.ref (a 1) :: rest)) : Tj p l e R s m args below meth c D (wdC cI cJ cZ cL a) A nL vv K prog S pc lv (.ref (a 0) :: rest) := j_get (ci := 6) (ref := "AutoTeller") C 0 0 in_A rfl rfl rfl (by decide) rfl hl d h
theorem gC_A_host (C : Cx p s m args meth c own cc nL rt D (tyT cI cJ cZ cL) (wdC cI cJ cZ cL a) A) {index : Nat} (hl : Cond.fieldLink own index "AutoTeller" "host" "LAutoTeller$Host;" ∈ wU) (d : decode cc pc = .ok (.getfield index, 3)) (h : Tj p l e R s m args below meth c D (wdC cI cJ cZ cL a) A nL vv K prog S (pc + 3) lv (.ref (a 2) :: rest)) : Tj p l e R s m args below meth c D (wdC cI cJ cZ cL a) A nL vv K prog S pc lv (.ref (a 0) :: rest) := j_get (ci := 6) (ref := "AutoTeller") C 0 1 in_A rfl rfl rfl (by decide) rfl hl d h
theorem gC_A_machine (C : Cx p s m args meth c own cc nL rt D (tyT cI cJ cZ cL) (wdC cI cJ cZ cL a) A) {index : Nat} (hl : Cond.fieldLink own index "AutoTeller" "machine" "LAutoTeller$Machine;" ∈ wU) (d : decode cc pc = .ok (.getfield index, 3)) (h : Tj p l e R s m args below meth c D (wdC cI cJ cZ cL a) A nL vv K prog S (pc + 3) lv (.ref (a 3) :: rest)) : Tj p l e R s m args below meth c D (wdC cI cJ cZ cL a) A nL vv K prog S pc lv (.ref (a 0) :: rest) := j_get (ci := 6) (ref := "AutoTeller") C 0 2 in_A rfl rfl rfl (by decide) rfl hl d h
theorem gC_A_arriving (C : Cx p s m args meth c own cc nL rt D (tyT cI cJ cZ cL) (wdC cI cJ cZ cL a) A) {index : Nat} (hl : Cond.fieldLink own index "AutoTeller" "arriving" "LAutoTeller$Letter;" ∈ wU) (d : decode cc pc = .ok (.getfield index, 3)) (h : Tj p l e R s m args below meth c D (wdC cI cJ cZ cL a) A nL vv K prog S (pc + 3) lv (.ref (a (100 + 24)) :: rest)) : Tj p l e R s m args below meth c D (wdC cI cJ cZ cL a) A nL vv K prog S pc lv (.ref (a 0) :: rest) := j_get (ci := 6) (ref := "AutoTeller") C 0 3 in_A rfl rfl rfl (by decide) rfl hl d h
theorem gC_N_letters (C : Cx p s m args meth c own cc nL rt D (tyT cI cJ cZ cL) (wdC cI cJ cZ cL a) A) {index : Nat} (hl : Cond.fieldLink own index "AutoTeller$Line" "letters" "[LAutoTeller$Letter;" ∈ wU) (d : decode cc pc = .ok (.getfield index, 3)) (h : Tj p l e R s m args below meth c D (wdC cI cJ cZ cL a) A nL vv K prog S (pc + 3) lv (.ref (a 6) :: rest)) : Tj p l e R s m args below meth c D (wdC cI cJ cZ cL a) A nL vv K prog S pc lv (.ref (a 1) :: rest) := j_get (ci := 3) (ref := "AutoTeller$Line") C 1 0 in_N rfl rfl rfl (by decide) rfl hl d h
theorem gC_N_inFlight (C : Cx p s m args meth c own cc nL rt D (tyT cI cJ cZ cL) (wdC cI cJ cZ cL a) A) {index : Nat} (hl : Cond.fieldLink own index "AutoTeller$Line" "inFlight" "I" ∈ wU) (d : decode cc pc = .ok (.getfield index, 3)) (h : Tj p l e R s m args below meth c D (wdC cI cJ cZ cL a) A nL vv K prog S (pc + 3) lv (.int (S.1 0 0) :: rest)) : Tj p l e R s m args below meth c D (wdC cI cJ cZ cL a) A nL vv K prog S pc lv (.ref (a 1) :: rest) := j_get (ci := 3) (ref := "AutoTeller$Line") C 1 1 in_N rfl rfl rfl (by decide) rfl hl d h
theorem gnC_N_inFlight (C : Cx p s m args meth c own cc nL rt D (tyT cI cJ cZ cL) (wdC cI cJ cZ cL a) A) {index : Nat} {host : String} (hl : Cond.fieldLinkNest own index "AutoTeller$Line" "inFlight" "I" host ∈ wN) (d : decode cc pc = .ok (.getfield index, 3)) (h : Tj p l e R s m args below meth c D (wdC cI cJ cZ cL a) A nL vv K prog S (pc + 3) lv (.int (S.1 0 0) :: rest)) : Tj p l e R s m args below meth c D (wdC cI cJ cZ cL a) A nL vv K prog S pc lv (.ref (a 1) :: rest) := j_getN (ci := 3) (ref := "AutoTeller$Line") C 1 1 in_N rfl rfl rfl (by decide) rfl hl d h
theorem pC_N_inFlight (C : Cx p s m args meth c own cc nL rt D (tyT cI cJ cZ cL) (wdC cI cJ cZ cL a) A) {index : Nat} {v : Int32} (hl : Cond.fieldLink own index "AutoTeller$Line" "inFlight" "I" ∈ wU) (d : decode cc pc = .ok (.putfield index, 3)) (h : Tj p l e R s m args below meth c D (wdC cI cJ cZ cL a) A nL vv K prog (sI S 0 0 v) (pc + 3) lv rest) : Tj p l e R s m args below meth c D (wdC cI cJ cZ cL a) A nL vv K prog S pc lv (.int v :: .ref (a 1) :: rest) := j_put (ci := 3) (ref := "AutoTeller$Line") (ty := .int) C 1 1 in_N tk_N nm_N rfl rfl (Nat.le_of_ble_eq_true rfl) rfl (by decide) rfl rfl (by decide +kernel) rfl rfl hl d h
theorem gC_N_lostForRoom (C : Cx p s m args meth c own cc nL rt D (tyT cI cJ cZ cL) (wdC cI cJ cZ cL a) A) {index : Nat} (hl : Cond.fieldLink own index "AutoTeller$Line" "lostForRoom" "I" ∈ wU) (d : decode cc pc = .ok (.getfield index, 3)) (h : Tj p l e R s m args below meth c D (wdC cI cJ cZ cL a) A nL vv K prog S (pc + 3) lv (.int (S.1 1 0) :: rest)) : Tj p l e R s m args below meth c D (wdC cI cJ cZ cL a) A nL vv K prog S pc lv (.ref (a 1) :: rest) := j_get (ci := 3) (ref := "AutoTeller$Line") C 1 2 in_N rfl rfl rfl (by decide) rfl hl d h
theorem gnC_N_lostForRoom (C : Cx p s m args meth c own cc nL rt D (tyT cI cJ cZ cL) (wdC cI cJ cZ cL a) A) {index : Nat} {host : String} (hl : Cond.fieldLinkNest own index "AutoTeller$Line" "lostForRoom" "I" host ∈ wN) (d : decode cc pc = .ok (.getfield index, 3)) (h : Tj p l e R s m args below meth c D (wdC cI cJ cZ cL a) A nL vv K prog S (pc + 3) lv (.int (S.1 1 0) :: rest)) : Tj p l e R s m args below meth c D (wdC cI cJ cZ cL a) A nL vv K prog S pc lv (.ref (a 1) :: rest) := j_getN (ci := 3) (ref := "AutoTeller$Line") C 1 2 in_N rfl rfl rfl (by decide) rfl hl d h
theorem pC_N_lostForRoom (C : Cx p s m args meth c own cc nL rt D (tyT cI cJ cZ cL) (wdC cI cJ cZ cL a) A) {index : Nat} {v : Int32} (hl : Cond.fieldLink own index "AutoTeller$Line" "lostForRoom" "I" ∈ wU) (d : decode cc pc = .ok (.putfield index, 3)) (h : Tj p l e R s m args below meth c D (wdC cI cJ cZ cL a) A nL vv K prog (sI S 1 0 v) (pc + 3) lv rest) : Tj p l e R s m args below meth c D (wdC cI cJ cZ cL a) A nL vv K prog S pc lv (.int v :: .ref (a 1) :: rest) := j_put (ci := 3) (ref := "AutoTeller$Line") (ty := .int) C 1 2 in_N tk_N nm_N rfl rfl (Nat.le_of_ble_eq_true rfl) rfl (by decide) rfl rfl (by decide +kernel) rfl rfl hl d h
theorem gC_H_line (C : Cx p s m args meth c own cc nL rt D (tyT cI cJ cZ cL) (wdC cI cJ cZ cL a) A) {index : Nat} (hl : Cond.fieldLink own index "AutoTeller$Host" "line" "LAutoTeller$Line;" ∈ wU) (d : decode cc pc = .ok (.getfield index, 3)) (h : Tj p l e R s m args below meth c D (wdC cI cJ cZ cL a) A nL vv K prog S (pc + 3) lv (.ref (a 1) :: rest)) : Tj p l e R s m args below meth c D (wdC cI cJ cZ cL a) A nL vv K prog S pc lv (.ref (a 2) :: rest) := j_get (ci := 0) (ref := "AutoTeller$Host") C 2 0 in_H rfl rfl rfl (by decide) rfl hl d h
theorem gC_H_balances (C : Cx p s m args meth c own cc nL rt D (tyT cI cJ cZ cL) (wdC cI cJ cZ cL a) A) {index : Nat} (hl : Cond.fieldLink own index "AutoTeller$Host" "balances" "[J" ∈ wU) (d : decode cc pc = .ok (.getfield index, 3)) (h : Tj p l e R s m args below meth c D (wdC cI cJ cZ cL a) A nL vv K prog S (pc + 3) lv (.ref (a 7) :: rest)) : Tj p l e R s m args below meth c D (wdC cI cJ cZ cL a) A nL vv K prog S pc lv (.ref (a 2) :: rest) := j_get (ci := 0) (ref := "AutoTeller$Host") C 2 1 in_H rfl rfl rfl (by decide) rfl hl d h
theorem gC_H_accountOfCard (C : Cx p s m args meth c own cc nL rt D (tyT cI cJ cZ cL) (wdC cI cJ cZ cL a) A) {index : Nat} (hl : Cond.fieldLink own index "AutoTeller$Host" "accountOfCard" "[I" ∈ wU) (d : decode cc pc = .ok (.getfield index, 3)) (h : Tj p l e R s m args below meth c D (wdC cI cJ cZ cL a) A nL vv K prog S (pc + 3) lv (.ref (a 8) :: rest)) : Tj p l e R s m args below meth c D (wdC cI cJ cZ cL a) A nL vv K prog S pc lv (.ref (a 2) :: rest) := j_get (ci := 0) (ref := "AutoTeller$Host") C 2 2 in_H rfl rfl rfl (by decide) rfl hl d h
theorem gC_H_pinOfCard (C : Cx p s m args meth c own cc nL rt D (tyT cI cJ cZ cL) (wdC cI cJ cZ cL a) A) {index : Nat} (hl : Cond.fieldLink own index "AutoTeller$Host" "pinOfCard" "[I" ∈ wU) (d : decode cc pc = .ok (.getfield index, 3)) (h : Tj p l e R s m args below meth c D (wdC cI cJ cZ cL a) A nL vv K prog S (pc + 3) lv (.ref (a 9) :: rest)) : Tj p l e R s m args below meth c D (wdC cI cJ cZ cL a) A nL vv K prog S pc lv (.ref (a 2) :: rest) := j_get (ci := 0) (ref := "AutoTeller$Host") C 2 3 in_H rfl rfl rfl (by decide) rfl hl d h
theorem gC_H_triesOfCard (C : Cx p s m args meth c own cc nL rt D (tyT cI cJ cZ cL) (wdC cI cJ cZ cL a) A) {index : Nat} (hl : Cond.fieldLink own index "AutoTeller$Host" "triesOfCard" "[I" ∈ wU) (d : decode cc pc = .ok (.getfield index, 3)) (h : Tj p l e R s m args below meth c D (wdC cI cJ cZ cL a) A nL vv K prog S (pc + 3) lv (.ref (a 10) :: rest)) : Tj p l e R s m args below meth c D (wdC cI cJ cZ cL a) A nL vv K prog S pc lv (.ref (a 2) :: rest) := j_get (ci := 0) (ref := "AutoTeller$Host") C 2 4 in_H rfl rfl rfl (by decide) rfl hl d h
theorem gC_H_pinCodes (C : Cx p s m args meth c own cc nL rt D (tyT cI cJ cZ cL) (wdC cI cJ cZ cL a) A) {index : Nat} (hl : Cond.fieldLink own index "AutoTeller$Host" "pinCodes" "[I" ∈ wU) (d : decode cc pc = .ok (.getfield index, 3)) (h : Tj p l e R s m args below meth c D (wdC cI cJ cZ cL a) A nL vv K prog S (pc + 3) lv (.ref (a 11) :: rest)) : Tj p l e R s m args below meth c D (wdC cI cJ cZ cL a) A nL vv K prog S pc lv (.ref (a 2) :: rest) := j_get (ci := 0) (ref := "AutoTeller$Host") C 2 5 in_H rfl rfl rfl (by decide) rfl hl d h
theorem gC_H_debits (C : Cx p s m args meth c own cc nL rt D (tyT cI cJ cZ cL) (wdC cI cJ cZ cL a) A) {index : Nat} (hl : Cond.fieldLink own index "AutoTeller$Host" "debits" "[I" ∈ wU) (d : decode cc pc = .ok (.getfield index, 3)) (h : Tj p l e R s m args below meth c D (wdC cI cJ cZ cL a) A nL vv K prog S (pc + 3) lv (.ref (a 12) :: rest)) : Tj p l e R s m args below meth c D (wdC cI cJ cZ cL a) A nL vv K prog S pc lv (.ref (a 2) :: rest) := j_get (ci := 0) (ref := "AutoTeller$Host") C 2 6 in_H rfl rfl rfl (by decide) rfl hl d h
theorem gC_H_debitAmounts (C : Cx p s m args meth c own cc nL rt D (tyT cI cJ cZ cL) (wdC cI cJ cZ cL a) A) {index : Nat} (hl : Cond.fieldLink own index "AutoTeller$Host" "debitAmounts" "[I" ∈ wU) (d : decode cc pc = .ok (.getfield index, 3)) (h : Tj p l e R s m args below meth c D (wdC cI cJ cZ cL a) A nL vv K prog S (pc + 3) lv (.ref (a 13) :: rest)) : Tj p l e R s m args below meth c D (wdC cI cJ cZ cL a) A nL vv K prog S pc lv (.ref (a 2) :: rest) := j_get (ci := 0) (ref := "AutoTeller$Host") C 2 7 in_H rfl rfl rfl (by decide) rfl hl d h
theorem gC_H_debitAccounts (C : Cx p s m args meth c own cc nL rt D (tyT cI cJ cZ cL) (wdC cI cJ cZ cL a) A) {index : Nat} (hl : Cond.fieldLink own index "AutoTeller$Host" "debitAccounts" "[I" ∈ wU) (d : decode cc pc = .ok (.getfield index, 3)) (h : Tj p l e R s m args below meth c D (wdC cI cJ cZ cL a) A nL vv K prog S (pc + 3) lv (.ref (a 14) :: rest)) : Tj p l e R s m args below meth c D (wdC cI cJ cZ cL a) A nL vv K prog S pc lv (.ref (a 2) :: rest) := j_get (ci := 0) (ref := "AutoTeller$Host") C 2 8 in_H rfl rfl rfl (by decide) rfl hl d h
theorem gC_H_takenOff (C : Cx p s m args meth c own cc nL rt D (tyT cI cJ cZ cL) (wdC cI cJ cZ cL a) A) {index : Nat} (hl : Cond.fieldLink own index "AutoTeller$Host" "takenOff" "J" ∈ wU) (d : decode cc pc = .ok (.getfield index, 3)) (h : Tj p l e R s m args below meth c D (wdC cI cJ cZ cL a) A nL vv K prog S (pc + 3) lv (.long (S.2.1 1 0) :: rest)) : Tj p l e R s m args below meth c D (wdC cI cJ cZ cL a) A nL vv K prog S pc lv (.ref (a 2) :: rest) := j_get (ci := 0) (ref := "AutoTeller$Host") C 2 9 in_H rfl rfl rfl (by decide) rfl hl d h
theorem gnC_H_takenOff (C : Cx p s m args meth c own cc nL rt D (tyT cI cJ cZ cL) (wdC cI cJ cZ cL a) A) {index : Nat} {host : String} (hl : Cond.fieldLinkNest own index "AutoTeller$Host" "takenOff" "J" host ∈ wN) (d : decode cc pc = .ok (.getfield index, 3)) (h : Tj p l e R s m args below meth c D (wdC cI cJ cZ cL a) A nL vv K prog S (pc + 3) lv (.long (S.2.1 1 0) :: rest)) : Tj p l e R s m args below meth c D (wdC cI cJ cZ cL a) A nL vv K prog S pc lv (.ref (a 2) :: rest) := j_getN (ci := 0) (ref := "AutoTeller$Host") C 2 9 in_H rfl rfl rfl (by decide) rfl hl d h
theorem pC_H_takenOff (C : Cx p s m args meth c own cc nL rt D (tyT cI cJ cZ cL) (wdC cI cJ cZ cL a) A) {index : Nat} {v : Int64} (hl : Cond.fieldLink own index "AutoTeller$Host" "takenOff" "J" ∈ wU) (d : decode cc pc = .ok (.putfield index, 3)) (h : Tj p l e R s m args below meth c D (wdC cI cJ cZ cL a) A nL vv K prog (sL S 1 0 v) (pc + 3) lv rest) : Tj p l e R s m args below meth c D (wdC cI cJ cZ cL a) A nL vv K prog S pc lv (.long v :: .ref (a 2) :: rest) := j_put (ci := 0) (ref := "AutoTeller$Host") (ty := .long) C 2 9 in_H tk_H nm_H rfl rfl (Nat.le_of_ble_eq_true rfl) rfl (by decide) rfl rfl (by decide +kernel) rfl rfl hl d h
theorem gC_H_dropped (C : Cx p s m args meth c own cc nL rt D (tyT cI cJ cZ cL) (wdC cI cJ cZ cL a) A) {index : Nat} (hl : Cond.fieldLink own index "AutoTeller$Host" "dropped" "I" ∈ wU) (d : decode cc pc = .ok (.getfield index, 3)) (h : Tj p l e R s m args below meth c D (wdC cI cJ cZ cL a) A nL vv K prog S (pc + 3) lv (.int (S.1 9 0) :: rest)) : Tj p l e R s m args below meth c D (wdC cI cJ cZ cL a) A nL vv K prog S pc lv (.ref (a 2) :: rest) := j_get (ci := 0) (ref := "AutoTeller$Host") C 2 10 in_H rfl rfl rfl (by decide) rfl hl d h
theorem gnC_H_dropped (C : Cx p s m args meth c own cc nL rt D (tyT cI cJ cZ cL) (wdC cI cJ cZ cL a) A) {index : Nat} {host : String} (hl : Cond.fieldLinkNest own index "AutoTeller$Host" "dropped" "I" host ∈ wN) (d : decode cc pc = .ok (.getfield index, 3)) (h : Tj p l e R s m args below meth c D (wdC cI cJ cZ cL a) A nL vv K prog S (pc + 3) lv (.int (S.1 9 0) :: rest)) : Tj p l e R s m args below meth c D (wdC cI cJ cZ cL a) A nL vv K prog S pc lv (.ref (a 2) :: rest) := j_getN (ci := 0) (ref := "AutoTeller$Host") C 2 10 in_H rfl rfl rfl (by decide) rfl hl d h
theorem pC_H_dropped (C : Cx p s m args meth c own cc nL rt D (tyT cI cJ cZ cL) (wdC cI cJ cZ cL a) A) {index : Nat} {v : Int32} (hl : Cond.fieldLink own index "AutoTeller$Host" "dropped" "I" ∈ wU) (d : decode cc pc = .ok (.putfield index, 3)) (h : Tj p l e R s m args below meth c D (wdC cI cJ cZ cL a) A nL vv K prog (sI S 9 0 v) (pc + 3) lv rest) : Tj p l e R s m args below meth c D (wdC cI cJ cZ cL a) A nL vv K prog S pc lv (.int v :: .ref (a 2) :: rest) := j_put (ci := 0) (ref := "AutoTeller$Host") (ty := .int) C 2 10 in_H tk_H nm_H rfl rfl (Nat.le_of_ble_eq_true rfl) rfl (by decide) rfl rfl (by decide +kernel) rfl rfl hl d h
theorem gC_M_line (C : Cx p s m args meth c own cc nL rt D (tyT cI cJ cZ cL) (wdC cI cJ cZ cL a) A) {index : Nat} (hl : Cond.fieldLink own index "AutoTeller$Machine" "line" "LAutoTeller$Line;" ∈ wU) (d : decode cc pc = .ok (.getfield index, 3)) (h : Tj p l e R s m args below meth c D (wdC cI cJ cZ cL a) A nL vv K prog S (pc + 3) lv (.ref (a 1) :: rest)) : Tj p l e R s m args below meth c D (wdC cI cJ cZ cL a) A nL vv K prog S pc lv (.ref (a 3) :: rest) := j_get (ci := 4) (ref := "AutoTeller$Machine") C 3 0 in_M rfl rfl rfl (by decide) rfl hl d h
theorem gC_M_notes (C : Cx p s m args meth c own cc nL rt D (tyT cI cJ cZ cL) (wdC cI cJ cZ cL a) A) {index : Nat} (hl : Cond.fieldLink own index "AutoTeller$Machine" "notes" "LAutoTeller$Notes;" ∈ wU) (d : decode cc pc = .ok (.getfield index, 3)) (h : Tj p l e R s m args below meth c D (wdC cI cJ cZ cL a) A nL vv K prog S (pc + 3) lv (.ref (a 4) :: rest)) : Tj p l e R s m args below meth c D (wdC cI cJ cZ cL a) A nL vv K prog S pc lv (.ref (a 3) :: rest) := j_get (ci := 4) (ref := "AutoTeller$Machine") C 3 1 in_M rfl rfl rfl (by decide) rfl hl d h
theorem gnC_M_notes (C : Cx p s m args meth c own cc nL rt D (tyT cI cJ cZ cL) (wdC cI cJ cZ cL a) A) {index : Nat} {host : String} (hl : Cond.fieldLinkNest own index "AutoTeller$Machine" "notes" "LAutoTeller$Notes;" host ∈ wN) (d : decode cc pc = .ok (.getfield index, 3)) (h : Tj p l e R s m args below meth c D (wdC cI cJ cZ cL a) A nL vv K prog S (pc + 3) lv (.ref (a 4) :: rest)) : Tj p l e R s m args below meth c D (wdC cI cJ cZ cL a) A nL vv K prog S pc lv (.ref (a 3) :: rest) := j_getN (ci := 4) (ref := "AutoTeller$Machine") C 3 1 in_M rfl rfl rfl (by decide) rfl hl d h
theorem gC_M_journal (C : Cx p s m args meth c own cc nL rt D (tyT cI cJ cZ cL) (wdC cI cJ cZ cL a) A) {index : Nat} (hl : Cond.fieldLink own index "AutoTeller$Machine" "journal" "LAutoTeller$Journal;" ∈ wU) (d : decode cc pc = .ok (.getfield index, 3)) (h : Tj p l e R s m args below meth c D (wdC cI cJ cZ cL a) A nL vv K prog S (pc + 3) lv (.ref (a 5) :: rest)) : Tj p l e R s m args below meth c D (wdC cI cJ cZ cL a) A nL vv K prog S pc lv (.ref (a 3) :: rest) := j_get (ci := 4) (ref := "AutoTeller$Machine") C 3 2 in_M rfl rfl rfl (by decide) rfl hl d h
theorem gnC_M_journal (C : Cx p s m args meth c own cc nL rt D (tyT cI cJ cZ cL) (wdC cI cJ cZ cL a) A) {index : Nat} {host : String} (hl : Cond.fieldLinkNest own index "AutoTeller$Machine" "journal" "LAutoTeller$Journal;" host ∈ wN) (d : decode cc pc = .ok (.getfield index, 3)) (h : Tj p l e R s m args below meth c D (wdC cI cJ cZ cL a) A nL vv K prog S (pc + 3) lv (.ref (a 5) :: rest)) : Tj p l e R s m args below meth c D (wdC cI cJ cZ cL a) A nL vv K prog S pc lv (.ref (a 3) :: rest) := j_getN (ci := 4) (ref := "AutoTeller$Machine") C 3 2 in_M rfl rfl rfl (by decide) rfl hl d h
theorem gC_M_kept (C : Cx p s m args meth c own cc nL rt D (tyT cI cJ cZ cL) (wdC cI cJ cZ cL a) A) {index : Nat} (hl : Cond.fieldLink own index "AutoTeller$Machine" "kept" "[Z" ∈ wU) (d : decode cc pc = .ok (.getfield index, 3)) (h : Tj p l e R s m args below meth c D (wdC cI cJ cZ cL a) A nL vv K prog S (pc + 3) lv (.ref (a 15) :: rest)) : Tj p l e R s m args below meth c D (wdC cI cJ cZ cL a) A nL vv K prog S pc lv (.ref (a 3) :: rest) := j_get (ci := 4) (ref := "AutoTeller$Machine") C 3 3 in_M rfl rfl rfl (by decide) rfl hl d h
theorem gC_M_on (C : Cx p s m args meth c own cc nL rt D (tyT cI cJ cZ cL) (wdC cI cJ cZ cL a) A) {index : Nat} (hl : Cond.fieldLink own index "AutoTeller$Machine" "on" "Z" ∈ wU) (d : decode cc pc = .ok (.getfield index, 3)) (h : Tj p l e R s m args below meth c D (wdC cI cJ cZ cL a) A nL vv K prog S (pc + 3) lv (.int (S.1 11 0) :: rest)) : Tj p l e R s m args below meth c D (wdC cI cJ cZ cL a) A nL vv K prog S pc lv (.ref (a 3) :: rest) := j_get (ci := 4) (ref := "AutoTeller$Machine") C 3 4 in_M rfl rfl rfl (by decide) rfl hl d h
theorem gnC_M_on (C : Cx p s m args meth c own cc nL rt D (tyT cI cJ cZ cL) (wdC cI cJ cZ cL a) A) {index : Nat} {host : String} (hl : Cond.fieldLinkNest own index "AutoTeller$Machine" "on" "Z" host ∈ wN) (d : decode cc pc = .ok (.getfield index, 3)) (h : Tj p l e R s m args below meth c D (wdC cI cJ cZ cL a) A nL vv K prog S (pc + 3) lv (.int (S.1 11 0) :: rest)) : Tj p l e R s m args below meth c D (wdC cI cJ cZ cL a) A nL vv K prog S pc lv (.ref (a 3) :: rest) := j_getN (ci := 4) (ref := "AutoTeller$Machine") C 3 4 in_M rfl rfl rfl (by decide) rfl hl d h
theorem pC_M_on (C : Cx p s m args meth c own cc nL rt D (tyT cI cJ cZ cL) (wdC cI cJ cZ cL a) A) {index : Nat} {v : Int32} (hz : v = 0 ∨ v = 1) (hl : Cond.fieldLink own index "AutoTeller$Machine" "on" "Z" ∈ wU) (d : decode cc pc = .ok (.putfield index, 3)) (h : Tj p l e R s m args below meth c D (wdC cI cJ cZ cL a) A nL vv K prog (sI S 11 0 v) (pc + 3) lv rest) : Tj p l e R s m args below meth c D (wdC cI cJ cZ cL a) A nL vv K prog S pc lv (.int v :: .ref (a 3) :: rest) := j_put (ci := 4) (ref := "AutoTeller$Machine") (ty := .boolean) C 3 4 in_M tk_M nm_M rfl rfl (Nat.le_of_ble_eq_true rfl) rfl (by decide) rfl rfl (by decide +kernel) (by rcases hz with rfl | rfl <;> rfl) (by rcases hz with rfl | rfl <;> rfl) hl d h
theorem gC_M_stepsLeft (C : Cx p s m args meth c own cc nL rt D (tyT cI cJ cZ cL) (wdC cI cJ cZ cL a) A) {index : Nat} (hl : Cond.fieldLink own index "AutoTeller$Machine" "stepsLeft" "I" ∈ wU) (d : decode cc pc = .ok (.getfield index, 3)) (h : Tj p l e R s m args below meth c D (wdC cI cJ cZ cL a) A nL vv K prog S (pc + 3) lv (.int (S.1 12 0) :: rest)) : Tj p l e R s m args below meth c D (wdC cI cJ cZ cL a) A nL vv K prog S pc lv (.ref (a 3) :: rest) := j_get (ci := 4) (ref := "AutoTeller$Machine") C 3 5 in_M rfl rfl rfl (by decide) rfl hl d h
theorem pC_M_stepsLeft (C : Cx p s m args meth c own cc nL rt D (tyT cI cJ cZ cL) (wdC cI cJ cZ cL a) A) {index : Nat} {v : Int32} (hl : Cond.fieldLink own index "AutoTeller$Machine" "stepsLeft" "I" ∈ wU) (d : decode cc pc = .ok (.putfield index, 3)) (h : Tj p l e R s m args below meth c D (wdC cI cJ cZ cL a) A nL vv K prog (sI S 12 0 v) (pc + 3) lv rest) : Tj p l e R s m args below meth c D (wdC cI cJ cZ cL a) A nL vv K prog S pc lv (.int v :: .ref (a 3) :: rest) := j_put (ci := 4) (ref := "AutoTeller$Machine") (ty := .int) C 3 5 in_M tk_M nm_M rfl rfl (Nat.le_of_ble_eq_true rfl) rfl (by decide) rfl rfl (by decide +kernel) rfl rfl hl d h
theorem gC_M_phase (C : Cx p s m args meth c own cc nL rt D (tyT cI cJ cZ cL) (wdC cI cJ cZ cL a) A) {index : Nat} (hl : Cond.fieldLink own index "AutoTeller$Machine" "phase" "I" ∈ wU) (d : decode cc pc = .ok (.getfield index, 3)) (h : Tj p l e R s m args below meth c D (wdC cI cJ cZ cL a) A nL vv K prog S (pc + 3) lv (.int (S.1 13 0) :: rest)) : Tj p l e R s m args below meth c D (wdC cI cJ cZ cL a) A nL vv K prog S pc lv (.ref (a 3) :: rest) := j_get (ci := 4) (ref := "AutoTeller$Machine") C 3 6 in_M rfl rfl rfl (by decide) rfl hl d h
theorem gnC_M_phase (C : Cx p s m args meth c own cc nL rt D (tyT cI cJ cZ cL) (wdC cI cJ cZ cL a) A) {index : Nat} {host : String} (hl : Cond.fieldLinkNest own index "AutoTeller$Machine" "phase" "I" host ∈ wN) (d : decode cc pc = .ok (.getfield index, 3)) (h : Tj p l e R s m args below meth c D (wdC cI cJ cZ cL a) A nL vv K prog S (pc + 3) lv (.int (S.1 13 0) :: rest)) : Tj p l e R s m args below meth c D (wdC cI cJ cZ cL a) A nL vv K prog S pc lv (.ref (a 3) :: rest) := j_getN (ci := 4) (ref := "AutoTeller$Machine") C 3 6 in_M rfl rfl rfl (by decide) rfl hl d h
theorem pC_M_phase (C : Cx p s m args meth c own cc nL rt D (tyT cI cJ cZ cL) (wdC cI cJ cZ cL a) A) {index : Nat} {v : Int32} (hl : Cond.fieldLink own index "AutoTeller$Machine" "phase" "I" ∈ wU) (d : decode cc pc = .ok (.putfield index, 3)) (h : Tj p l e R s m args below meth c D (wdC cI cJ cZ cL a) A nL vv K prog (sI S 13 0 v) (pc + 3) lv rest) : Tj p l e R s m args below meth c D (wdC cI cJ cZ cL a) A nL vv K prog S pc lv (.int v :: .ref (a 3) :: rest) := j_put (ci := 4) (ref := "AutoTeller$Machine") (ty := .int) C 3 6 in_M tk_M nm_M rfl rfl (Nat.le_of_ble_eq_true rfl) rfl (by decide) rfl rfl (by decide +kernel) rfl rfl hl d h
theorem gC_M_slot (C : Cx p s m args meth c own cc nL rt D (tyT cI cJ cZ cL) (wdC cI cJ cZ cL a) A) {index : Nat} (hl : Cond.fieldLink own index "AutoTeller$Machine" "slot" "I" ∈ wU) (d : decode cc pc = .ok (.getfield index, 3)) (h : Tj p l e R s m args below meth c D (wdC cI cJ cZ cL a) A nL vv K prog S (pc + 3) lv (.int (S.1 14 0) :: rest)) : Tj p l e R s m args below meth c D (wdC cI cJ cZ cL a) A nL vv K prog S pc lv (.ref (a 3) :: rest) := j_get (ci := 4) (ref := "AutoTeller$Machine") C 3 7 in_M rfl rfl rfl (by decide) rfl hl d h
theorem gnC_M_slot (C : Cx p s m args meth c own cc nL rt D (tyT cI cJ cZ cL) (wdC cI cJ cZ cL a) A) {index : Nat} {host : String} (hl : Cond.fieldLinkNest own index "AutoTeller$Machine" "slot" "I" host ∈ wN) (d : decode cc pc = .ok (.getfield index, 3)) (h : Tj p l e R s m args below meth c D (wdC cI cJ cZ cL a) A nL vv K prog S (pc + 3) lv (.int (S.1 14 0) :: rest)) : Tj p l e R s m args below meth c D (wdC cI cJ cZ cL a) A nL vv K prog S pc lv (.ref (a 3) :: rest) := j_getN (ci := 4) (ref := "AutoTeller$Machine") C 3 7 in_M rfl rfl rfl (by decide) rfl hl d h
theorem pC_M_slot (C : Cx p s m args meth c own cc nL rt D (tyT cI cJ cZ cL) (wdC cI cJ cZ cL a) A) {index : Nat} {v : Int32} (hl : Cond.fieldLink own index "AutoTeller$Machine" "slot" "I" ∈ wU) (d : decode cc pc = .ok (.putfield index, 3)) (h : Tj p l e R s m args below meth c D (wdC cI cJ cZ cL a) A nL vv K prog (sI S 14 0 v) (pc + 3) lv rest) : Tj p l e R s m args below meth c D (wdC cI cJ cZ cL a) A nL vv K prog S pc lv (.int v :: .ref (a 3) :: rest) := j_put (ci := 4) (ref := "AutoTeller$Machine") (ty := .int) C 3 7 in_M tk_M nm_M rfl rfl (Nat.le_of_ble_eq_true rfl) rfl (by decide) rfl rfl (by decide +kernel) rfl rfl hl d h
theorem gC_M_nextTrace (C : Cx p s m args meth c own cc nL rt D (tyT cI cJ cZ cL) (wdC cI cJ cZ cL a) A) {index : Nat} (hl : Cond.fieldLink own index "AutoTeller$Machine" "nextTrace" "I" ∈ wU) (d : decode cc pc = .ok (.getfield index, 3)) (h : Tj p l e R s m args below meth c D (wdC cI cJ cZ cL a) A nL vv K prog S (pc + 3) lv (.int (S.1 15 0) :: rest)) : Tj p l e R s m args below meth c D (wdC cI cJ cZ cL a) A nL vv K prog S pc lv (.ref (a 3) :: rest) := j_get (ci := 4) (ref := "AutoTeller$Machine") C 3 8 in_M rfl rfl rfl (by decide) rfl hl d h
theorem gnC_M_nextTrace (C : Cx p s m args meth c own cc nL rt D (tyT cI cJ cZ cL) (wdC cI cJ cZ cL a) A) {index : Nat} {host : String} (hl : Cond.fieldLinkNest own index "AutoTeller$Machine" "nextTrace" "I" host ∈ wN) (d : decode cc pc = .ok (.getfield index, 3)) (h : Tj p l e R s m args below meth c D (wdC cI cJ cZ cL a) A nL vv K prog S (pc + 3) lv (.int (S.1 15 0) :: rest)) : Tj p l e R s m args below meth c D (wdC cI cJ cZ cL a) A nL vv K prog S pc lv (.ref (a 3) :: rest) := j_getN (ci := 4) (ref := "AutoTeller$Machine") C 3 8 in_M rfl rfl rfl (by decide) rfl hl d h
theorem pC_M_nextTrace (C : Cx p s m args meth c own cc nL rt D (tyT cI cJ cZ cL) (wdC cI cJ cZ cL a) A) {index : Nat} {v : Int32} (hl : Cond.fieldLink own index "AutoTeller$Machine" "nextTrace" "I" ∈ wU) (d : decode cc pc = .ok (.putfield index, 3)) (h : Tj p l e R s m args below meth c D (wdC cI cJ cZ cL a) A nL vv K prog (sI S 15 0 v) (pc + 3) lv rest) : Tj p l e R s m args below meth c D (wdC cI cJ cZ cL a) A nL vv K prog S pc lv (.int v :: .ref (a 3) :: rest) := j_put (ci := 4) (ref := "AutoTeller$Machine") (ty := .int) C 3 8 in_M tk_M nm_M rfl rfl (Nat.le_of_ble_eq_true rfl) rfl (by decide) rfl rfl (by decide +kernel) rfl rfl hl d h
theorem gC_M_openings (C : Cx p s m args meth c own cc nL rt D (tyT cI cJ cZ cL) (wdC cI cJ cZ cL a) A) {index : Nat} (hl : Cond.fieldLink own index "AutoTeller$Machine" "openings" "I" ∈ wU) (d : decode cc pc = .ok (.getfield index, 3)) (h : Tj p l e R s m args below meth c D (wdC cI cJ cZ cL a) A nL vv K prog S (pc + 3) lv (.int (S.1 16 0) :: rest)) : Tj p l e R s m args below meth c D (wdC cI cJ cZ cL a) A nL vv K prog S pc lv (.ref (a 3) :: rest) := j_get (ci := 4) (ref := "AutoTeller$Machine") C 3 9 in_M rfl rfl rfl (by decide) rfl hl d h
theorem gnC_M_openings (C : Cx p s m args meth c own cc nL rt D (tyT cI cJ cZ cL) (wdC cI cJ cZ cL a) A) {index : Nat} {host : String} (hl : Cond.fieldLinkNest own index "AutoTeller$Machine" "openings" "I" host ∈ wN) (d : decode cc pc = .ok (.getfield index, 3)) (h : Tj p l e R s m args below meth c D (wdC cI cJ cZ cL a) A nL vv K prog S (pc + 3) lv (.int (S.1 16 0) :: rest)) : Tj p l e R s m args below meth c D (wdC cI cJ cZ cL a) A nL vv K prog S pc lv (.ref (a 3) :: rest) := j_getN (ci := 4) (ref := "AutoTeller$Machine") C 3 9 in_M rfl rfl rfl (by decide) rfl hl d h
theorem pC_M_openings (C : Cx p s m args meth c own cc nL rt D (tyT cI cJ cZ cL) (wdC cI cJ cZ cL a) A) {index : Nat} {v : Int32} (hl : Cond.fieldLink own index "AutoTeller$Machine" "openings" "I" ∈ wU) (d : decode cc pc = .ok (.putfield index, 3)) (h : Tj p l e R s m args below meth c D (wdC cI cJ cZ cL a) A nL vv K prog (sI S 16 0 v) (pc + 3) lv rest) : Tj p l e R s m args below meth c D (wdC cI cJ cZ cL a) A nL vv K prog S pc lv (.int v :: .ref (a 3) :: rest) := j_put (ci := 4) (ref := "AutoTeller$Machine") (ty := .int) C 3 9 in_M tk_M nm_M rfl rfl (Nat.le_of_ble_eq_true rfl) rfl (by decide) rfl rfl (by decide +kernel) rfl rfl hl d h
theorem gC_M_openingsWhenBegun (C : Cx p s m args meth c own cc nL rt D (tyT cI cJ cZ cL) (wdC cI cJ cZ cL a) A) {index : Nat} (hl : Cond.fieldLink own index "AutoTeller$Machine" "openingsWhenBegun" "I" ∈ wU) (d : decode cc pc = .ok (.getfield index, 3)) (h : Tj p l e R s m args below meth c D (wdC cI cJ cZ cL a) A nL vv K prog S (pc + 3) lv (.int (S.1 17 0) :: rest)) : Tj p l e R s m args below meth c D (wdC cI cJ cZ cL a) A nL vv K prog S pc lv (.ref (a 3) :: rest) := j_get (ci := 4) (ref := "AutoTeller$Machine") C 3 10 in_M rfl rfl rfl (by decide) rfl hl d h
theorem pC_M_openingsWhenBegun (C : Cx p s m args meth c own cc nL rt D (tyT cI cJ cZ cL) (wdC cI cJ cZ cL a) A) {index : Nat} {v : Int32} (hl : Cond.fieldLink own index "AutoTeller$Machine" "openingsWhenBegun" "I" ∈ wU) (d : decode cc pc = .ok (.putfield index, 3)) (h : Tj p l e R s m args below meth c D (wdC cI cJ cZ cL a) A nL vv K prog (sI S 17 0 v) (pc + 3) lv rest) : Tj p l e R s m args below meth c D (wdC cI cJ cZ cL a) A nL vv K prog S pc lv (.int v :: .ref (a 3) :: rest) := j_put (ci := 4) (ref := "AutoTeller$Machine") (ty := .int) C 3 10 in_M tk_M nm_M rfl rfl (Nat.le_of_ble_eq_true rfl) rfl (by decide) rfl rfl (by decide +kernel) rfl rfl hl d h
theorem gC_M_dropped (C : Cx p s m args meth c own cc nL rt D (tyT cI cJ cZ cL) (wdC cI cJ cZ cL a) A) {index : Nat} (hl : Cond.fieldLink own index "AutoTeller$Machine" "dropped" "I" ∈ wU) (d : decode cc pc = .ok (.getfield index, 3)) (h : Tj p l e R s m args below meth c D (wdC cI cJ cZ cL a) A nL vv K prog S (pc + 3) lv (.int (S.1 18 0) :: rest)) : Tj p l e R s m args below meth c D (wdC cI cJ cZ cL a) A nL vv K prog S pc lv (.ref (a 3) :: rest) := j_get (ci := 4) (ref := "AutoTeller$Machine") C 3 11 in_M rfl rfl rfl (by decide) rfl hl d h
theorem gnC_M_dropped (C : Cx p s m args meth c own cc nL rt D (tyT cI cJ cZ cL) (wdC cI cJ cZ cL a) A) {index : Nat} {host : String} (hl : Cond.fieldLinkNest own index "AutoTeller$Machine" "dropped" "I" host ∈ wN) (d : decode cc pc = .ok (.getfield index, 3)) (h : Tj p l e R s m args below meth c D (wdC cI cJ cZ cL a) A nL vv K prog S (pc + 3) lv (.int (S.1 18 0) :: rest)) : Tj p l e R s m args below meth c D (wdC cI cJ cZ cL a) A nL vv K prog S pc lv (.ref (a 3) :: rest) := j_getN (ci := 4) (ref := "AutoTeller$Machine") C 3 11 in_M rfl rfl rfl (by decide) rfl hl d h
theorem pC_M_dropped (C : Cx p s m args meth c own cc nL rt D (tyT cI cJ cZ cL) (wdC cI cJ cZ cL a) A) {index : Nat} {v : Int32} (hl : Cond.fieldLink own index "AutoTeller$Machine" "dropped" "I" ∈ wU) (d : decode cc pc = .ok (.putfield index, 3)) (h : Tj p l e R s m args below meth c D (wdC cI cJ cZ cL a) A nL vv K prog (sI S 18 0 v) (pc + 3) lv rest) : Tj p l e R s m args below meth c D (wdC cI cJ cZ cL a) A nL vv K prog S pc lv (.int v :: .ref (a 3) :: rest) := j_put (ci := 4) (ref := "AutoTeller$Machine") (ty := .int) C 3 11 in_M tk_M nm_M rfl rfl (Nat.le_of_ble_eq_true rfl) rfl (by decide) rfl rfl (by decide +kernel) rfl rfl hl d h
theorem gC_M_traceAtHand (C : Cx p s m args meth c own cc nL rt D (tyT cI cJ cZ cL) (wdC cI cJ cZ cL a) A) {index : Nat} (hl : Cond.fieldLink own index "AutoTeller$Machine" "traceAtHand" "I" ∈ wU) (d : decode cc pc = .ok (.getfield index, 3)) (h : Tj p l e R s m args below meth c D (wdC cI cJ cZ cL a) A nL vv K prog S (pc + 3) lv (.int (S.1 19 0) :: rest)) : Tj p l e R s m args below meth c D (wdC cI cJ cZ cL a) A nL vv K prog S pc lv (.ref (a 3) :: rest) := j_get (ci := 4) (ref := "AutoTeller$Machine") C 3 12 in_M rfl rfl rfl (by decide) rfl hl d h
theorem pC_M_traceAtHand (C : Cx p s m args meth c own cc nL rt D (tyT cI cJ cZ cL) (wdC cI cJ cZ cL a) A) {index : Nat} {v : Int32} (hl : Cond.fieldLink own index "AutoTeller$Machine" "traceAtHand" "I" ∈ wU) (d : decode cc pc = .ok (.putfield index, 3)) (h : Tj p l e R s m args below meth c D (wdC cI cJ cZ cL a) A nL vv K prog (sI S 19 0 v) (pc + 3) lv rest) : Tj p l e R s m args below meth c D (wdC cI cJ cZ cL a) A nL vv K prog S pc lv (.int v :: .ref (a 3) :: rest) := j_put (ci := 4) (ref := "AutoTeller$Machine") (ty := .int) C 3 12 in_M tk_M nm_M rfl rfl (Nat.le_of_ble_eq_true rfl) rfl (by decide) rfl rfl (by decide +kernel) rfl rfl hl d h
theorem gC_M_cardAtHand (C : Cx p s m args meth c own cc nL rt D (tyT cI cJ cZ cL) (wdC cI cJ cZ cL a) A) {index : Nat} (hl : Cond.fieldLink own index "AutoTeller$Machine" "cardAtHand" "I" ∈ wU) (d : decode cc pc = .ok (.getfield index, 3)) (h : Tj p l e R s m args below meth c D (wdC cI cJ cZ cL a) A nL vv K prog S (pc + 3) lv (.int (S.1 20 0) :: rest)) : Tj p l e R s m args below meth c D (wdC cI cJ cZ cL a) A nL vv K prog S pc lv (.ref (a 3) :: rest) := j_get (ci := 4) (ref := "AutoTeller$Machine") C 3 13 in_M rfl rfl rfl (by decide) rfl hl d h
theorem pC_M_cardAtHand (C : Cx p s m args meth c own cc nL rt D (tyT cI cJ cZ cL) (wdC cI cJ cZ cL a) A) {index : Nat} {v : Int32} (hl : Cond.fieldLink own index "AutoTeller$Machine" "cardAtHand" "I" ∈ wU) (d : decode cc pc = .ok (.putfield index, 3)) (h : Tj p l e R s m args below meth c D (wdC cI cJ cZ cL a) A nL vv K prog (sI S 20 0 v) (pc + 3) lv rest) : Tj p l e R s m args below meth c D (wdC cI cJ cZ cL a) A nL vv K prog S pc lv (.int v :: .ref (a 3) :: rest) := j_put (ci := 4) (ref := "AutoTeller$Machine") (ty := .int) C 3 13 in_M tk_M nm_M rfl rfl (Nat.le_of_ble_eq_true rfl) rfl (by decide) rfl rfl (by decide +kernel) rfl rfl hl d h
theorem gC_M_amountAtHand (C : Cx p s m args meth c own cc nL rt D (tyT cI cJ cZ cL) (wdC cI cJ cZ cL a) A) {index : Nat} (hl : Cond.fieldLink own index "AutoTeller$Machine" "amountAtHand" "I" ∈ wU) (d : decode cc pc = .ok (.getfield index, 3)) (h : Tj p l e R s m args below meth c D (wdC cI cJ cZ cL a) A nL vv K prog S (pc + 3) lv (.int (S.1 21 0) :: rest)) : Tj p l e R s m args below meth c D (wdC cI cJ cZ cL a) A nL vv K prog S pc lv (.ref (a 3) :: rest) := j_get (ci := 4) (ref := "AutoTeller$Machine") C 3 14 in_M rfl rfl rfl (by decide) rfl hl d h
theorem pC_M_amountAtHand (C : Cx p s m args meth c own cc nL rt D (tyT cI cJ cZ cL) (wdC cI cJ cZ cL a) A) {index : Nat} {v : Int32} (hl : Cond.fieldLink own index "AutoTeller$Machine" "amountAtHand" "I" ∈ wU) (d : decode cc pc = .ok (.putfield index, 3)) (h : Tj p l e R s m args below meth c D (wdC cI cJ cZ cL a) A nL vv K prog (sI S 21 0 v) (pc + 3) lv rest) : Tj p l e R s m args below meth c D (wdC cI cJ cZ cL a) A nL vv K prog S pc lv (.int v :: .ref (a 3) :: rest) := j_put (ci := 4) (ref := "AutoTeller$Machine") (ty := .int) C 3 14 in_M tk_M nm_M rfl rfl (Nat.le_of_ble_eq_true rfl) rfl (by decide) rfl rfl (by decide +kernel) rfl rfl hl d h
theorem gC_O_denominations (C : Cx p s m args meth c own cc nL rt D (tyT cI cJ cZ cL) (wdC cI cJ cZ cL a) A) {index : Nat} (hl : Cond.fieldLink own index "AutoTeller$Notes" "denominations" "[I" ∈ wU) (d : decode cc pc = .ok (.getfield index, 3)) (h : Tj p l e R s m args below meth c D (wdC cI cJ cZ cL a) A nL vv K prog S (pc + 3) lv (.ref (a 16) :: rest)) : Tj p l e R s m args below meth c D (wdC cI cJ cZ cL a) A nL vv K prog S pc lv (.ref (a 4) :: rest) := j_get (ci := 5) (ref := "AutoTeller$Notes") C 4 0 in_O rfl rfl rfl (by decide) rfl hl d h
theorem gC_O_inCassette (C : Cx p s m args meth c own cc nL rt D (tyT cI cJ cZ cL) (wdC cI cJ cZ cL a) A) {index : Nat} (hl : Cond.fieldLink own index "AutoTeller$Notes" "inCassette" "[I" ∈ wU) (d : decode cc pc = .ok (.getfield index, 3)) (h : Tj p l e R s m args below meth c D (wdC cI cJ cZ cL a) A nL vv K prog S (pc + 3) lv (.ref (a 17) :: rest)) : Tj p l e R s m args below meth c D (wdC cI cJ cZ cL a) A nL vv K prog S pc lv (.ref (a 4) :: rest) := j_get (ci := 5) (ref := "AutoTeller$Notes") C 4 1 in_O rfl rfl rfl (by decide) rfl hl d h
theorem gC_O_inStacker (C : Cx p s m args meth c own cc nL rt D (tyT cI cJ cZ cL) (wdC cI cJ cZ cL a) A) {index : Nat} (hl : Cond.fieldLink own index "AutoTeller$Notes" "inStacker" "[I" ∈ wU) (d : decode cc pc = .ok (.getfield index, 3)) (h : Tj p l e R s m args below meth c D (wdC cI cJ cZ cL a) A nL vv K prog S (pc + 3) lv (.ref (a 18) :: rest)) : Tj p l e R s m args below meth c D (wdC cI cJ cZ cL a) A nL vv K prog S pc lv (.ref (a 4) :: rest) := j_get (ci := 5) (ref := "AutoTeller$Notes") C 4 2 in_O rfl rfl rfl (by decide) rfl hl d h
theorem gC_O_inTray (C : Cx p s m args meth c own cc nL rt D (tyT cI cJ cZ cL) (wdC cI cJ cZ cL a) A) {index : Nat} (hl : Cond.fieldLink own index "AutoTeller$Notes" "inTray" "[I" ∈ wU) (d : decode cc pc = .ok (.getfield index, 3)) (h : Tj p l e R s m args below meth c D (wdC cI cJ cZ cL a) A nL vv K prog S (pc + 3) lv (.ref (a 19) :: rest)) : Tj p l e R s m args below meth c D (wdC cI cJ cZ cL a) A nL vv K prog S pc lv (.ref (a 4) :: rest) := j_get (ci := 5) (ref := "AutoTeller$Notes") C 4 3 in_O rfl rfl rfl (by decide) rfl hl d h
theorem gC_O_inBin (C : Cx p s m args meth c own cc nL rt D (tyT cI cJ cZ cL) (wdC cI cJ cZ cL a) A) {index : Nat} (hl : Cond.fieldLink own index "AutoTeller$Notes" "inBin" "[I" ∈ wU) (d : decode cc pc = .ok (.getfield index, 3)) (h : Tj p l e R s m args below meth c D (wdC cI cJ cZ cL a) A nL vv K prog S (pc + 3) lv (.ref (a 20) :: rest)) : Tj p l e R s m args below meth c D (wdC cI cJ cZ cL a) A nL vv K prog S pc lv (.ref (a 4) :: rest) := j_get (ci := 5) (ref := "AutoTeller$Notes") C 4 4 in_O rfl rfl rfl (by decide) rfl hl d h
theorem gC_O_stackerWorth (C : Cx p s m args meth c own cc nL rt D (tyT cI cJ cZ cL) (wdC cI cJ cZ cL a) A) {index : Nat} (hl : Cond.fieldLink own index "AutoTeller$Notes" "stackerWorth" "I" ∈ wU) (d : decode cc pc = .ok (.getfield index, 3)) (h : Tj p l e R s m args below meth c D (wdC cI cJ cZ cL a) A nL vv K prog S (pc + 3) lv (.int (S.1 27 0) :: rest)) : Tj p l e R s m args below meth c D (wdC cI cJ cZ cL a) A nL vv K prog S pc lv (.ref (a 4) :: rest) := j_get (ci := 5) (ref := "AutoTeller$Notes") C 4 5 in_O rfl rfl rfl (by decide) rfl hl d h
theorem pC_O_stackerWorth (C : Cx p s m args meth c own cc nL rt D (tyT cI cJ cZ cL) (wdC cI cJ cZ cL a) A) {index : Nat} {v : Int32} (hl : Cond.fieldLink own index "AutoTeller$Notes" "stackerWorth" "I" ∈ wU) (d : decode cc pc = .ok (.putfield index, 3)) (h : Tj p l e R s m args below meth c D (wdC cI cJ cZ cL a) A nL vv K prog (sI S 27 0 v) (pc + 3) lv rest) : Tj p l e R s m args below meth c D (wdC cI cJ cZ cL a) A nL vv K prog S pc lv (.int v :: .ref (a 4) :: rest) := j_put (ci := 5) (ref := "AutoTeller$Notes") (ty := .int) C 4 5 in_O tk_O nm_O rfl rfl (Nat.le_of_ble_eq_true rfl) rfl (by decide) rfl rfl (by decide +kernel) rfl rfl hl d h
theorem gC_O_trayWorth (C : Cx p s m args meth c own cc nL rt D (tyT cI cJ cZ cL) (wdC cI cJ cZ cL a) A) {index : Nat} (hl : Cond.fieldLink own index "AutoTeller$Notes" "trayWorth" "I" ∈ wU) (d : decode cc pc = .ok (.getfield index, 3)) (h : Tj p l e R s m args below meth c D (wdC cI cJ cZ cL a) A nL vv K prog S (pc + 3) lv (.int (S.1 28 0) :: rest)) : Tj p l e R s m args below meth c D (wdC cI cJ cZ cL a) A nL vv K prog S pc lv (.ref (a 4) :: rest) := j_get (ci := 5) (ref := "AutoTeller$Notes") C 4 6 in_O rfl rfl rfl (by decide) rfl hl d h
theorem pC_O_trayWorth (C : Cx p s m args meth c own cc nL rt D (tyT cI cJ cZ cL) (wdC cI cJ cZ cL a) A) {index : Nat} {v : Int32} (hl : Cond.fieldLink own index "AutoTeller$Notes" "trayWorth" "I" ∈ wU) (d : decode cc pc = .ok (.putfield index, 3)) (h : Tj p l e R s m args below meth c D (wdC cI cJ cZ cL a) A nL vv K prog (sI S 28 0 v) (pc + 3) lv rest) : Tj p l e R s m args below meth c D (wdC cI cJ cZ cL a) A nL vv K prog S pc lv (.int v :: .ref (a 4) :: rest) := j_put (ci := 5) (ref := "AutoTeller$Notes") (ty := .int) C 4 6 in_O tk_O nm_O rfl rfl (Nat.le_of_ble_eq_true rfl) rfl (by decide) rfl rfl (by decide +kernel) rfl rfl hl d h
theorem gC_O_everInTray (C : Cx p s m args meth c own cc nL rt D (tyT cI cJ cZ cL) (wdC cI cJ cZ cL a) A) {index : Nat} (hl : Cond.fieldLink own index "AutoTeller$Notes" "everInTray" "J" ∈ wU) (d : decode cc pc = .ok (.getfield index, 3)) (h : Tj p l e R s m args below meth c D (wdC cI cJ cZ cL a) A nL vv K prog S (pc + 3) lv (.long (S.2.1 2 0) :: rest)) : Tj p l e R s m args below meth c D (wdC cI cJ cZ cL a) A nL vv K prog S pc lv (.ref (a 4) :: rest) := j_get (ci := 5) (ref := "AutoTeller$Notes") C 4 7 in_O rfl rfl rfl (by decide) rfl hl d h
theorem gnC_O_everInTray (C : Cx p s m args meth c own cc nL rt D (tyT cI cJ cZ cL) (wdC cI cJ cZ cL a) A) {index : Nat} {host : String} (hl : Cond.fieldLinkNest own index "AutoTeller$Notes" "everInTray" "J" host ∈ wN) (d : decode cc pc = .ok (.getfield index, 3)) (h : Tj p l e R s m args below meth c D (wdC cI cJ cZ cL a) A nL vv K prog S (pc + 3) lv (.long (S.2.1 2 0) :: rest)) : Tj p l e R s m args below meth c D (wdC cI cJ cZ cL a) A nL vv K prog S pc lv (.ref (a 4) :: rest) := j_getN (ci := 5) (ref := "AutoTeller$Notes") C 4 7 in_O rfl rfl rfl (by decide) rfl hl d h
theorem pC_O_everInTray (C : Cx p s m args meth c own cc nL rt D (tyT cI cJ cZ cL) (wdC cI cJ cZ cL a) A) {index : Nat} {v : Int64} (hl : Cond.fieldLink own index "AutoTeller$Notes" "everInTray" "J" ∈ wU) (d : decode cc pc = .ok (.putfield index, 3)) (h : Tj p l e R s m args below meth c D (wdC cI cJ cZ cL a) A nL vv K prog (sL S 2 0 v) (pc + 3) lv rest) : Tj p l e R s m args below meth c D (wdC cI cJ cZ cL a) A nL vv K prog S pc lv (.long v :: .ref (a 4) :: rest) := j_put (ci := 5) (ref := "AutoTeller$Notes") (ty := .long) C 4 7 in_O tk_O nm_O rfl rfl (Nat.le_of_ble_eq_true rfl) rfl (by decide) rfl rfl (by decide +kernel) rfl rfl hl d h
theorem gC_O_mixed (C : Cx p s m args meth c own cc nL rt D (tyT cI cJ cZ cL) (wdC cI cJ cZ cL a) A) {index : Nat} (hl : Cond.fieldLink own index "AutoTeller$Notes" "mixed" "[I" ∈ wU) (d : decode cc pc = .ok (.getfield index, 3)) (h : Tj p l e R s m args below meth c D (wdC cI cJ cZ cL a) A nL vv K prog S (pc + 3) lv (.ref (a 21) :: rest)) : Tj p l e R s m args below meth c D (wdC cI cJ cZ cL a) A nL vv K prog S pc lv (.ref (a 4) :: rest) := j_get (ci := 5) (ref := "AutoTeller$Notes") C 4 8 in_O rfl rfl rfl (by decide) rfl hl d h
theorem gnC_O_mixed (C : Cx p s m args meth c own cc nL rt D (tyT cI cJ cZ cL) (wdC cI cJ cZ cL a) A) {index : Nat} {host : String} (hl : Cond.fieldLinkNest own index "AutoTeller$Notes" "mixed" "[I" host ∈ wN) (d : decode cc pc = .ok (.getfield index, 3)) (h : Tj p l e R s m args below meth c D (wdC cI cJ cZ cL a) A nL vv K prog S (pc + 3) lv (.ref (a 21) :: rest)) : Tj p l e R s m args below meth c D (wdC cI cJ cZ cL a) A nL vv K prog S pc lv (.ref (a 4) :: rest) := j_getN (ci := 5) (ref := "AutoTeller$Notes") C 4 8 in_O rfl rfl rfl (by decide) rfl hl d h
theorem gC_O_fewest (C : Cx p s m args meth c own cc nL rt D (tyT cI cJ cZ cL) (wdC cI cJ cZ cL a) A) {index : Nat} (hl : Cond.fieldLink own index "AutoTeller$Notes" "fewest" "I" ∈ wU) (d : decode cc pc = .ok (.getfield index, 3)) (h : Tj p l e R s m args below meth c D (wdC cI cJ cZ cL a) A nL vv K prog S (pc + 3) lv (.int (S.1 30 0) :: rest)) : Tj p l e R s m args below meth c D (wdC cI cJ cZ cL a) A nL vv K prog S pc lv (.ref (a 4) :: rest) := j_get (ci := 5) (ref := "AutoTeller$Notes") C 4 9 in_O rfl rfl rfl (by decide) rfl hl d h
theorem pC_O_fewest (C : Cx p s m args meth c own cc nL rt D (tyT cI cJ cZ cL) (wdC cI cJ cZ cL a) A) {index : Nat} {v : Int32} (hl : Cond.fieldLink own index "AutoTeller$Notes" "fewest" "I" ∈ wU) (d : decode cc pc = .ok (.putfield index, 3)) (h : Tj p l e R s m args below meth c D (wdC cI cJ cZ cL a) A nL vv K prog (sI S 30 0 v) (pc + 3) lv rest) : Tj p l e R s m args below meth c D (wdC cI cJ cZ cL a) A nL vv K prog S pc lv (.int v :: .ref (a 4) :: rest) := j_put (ci := 5) (ref := "AutoTeller$Notes") (ty := .int) C 4 9 in_O tk_O nm_O rfl rfl (Nat.le_of_ble_eq_true rfl) rfl (by decide) rfl rfl (by decide +kernel) rfl rfl hl d h
theorem gC_O_largest (C : Cx p s m args meth c own cc nL rt D (tyT cI cJ cZ cL) (wdC cI cJ cZ cL a) A) {index : Nat} (hl : Cond.fieldLink own index "AutoTeller$Notes" "largest" "I" ∈ wU) (d : decode cc pc = .ok (.getfield index, 3)) (h : Tj p l e R s m args below meth c D (wdC cI cJ cZ cL a) A nL vv K prog S (pc + 3) lv (.int (S.1 31 0) :: rest)) : Tj p l e R s m args below meth c D (wdC cI cJ cZ cL a) A nL vv K prog S pc lv (.ref (a 4) :: rest) := j_get (ci := 5) (ref := "AutoTeller$Notes") C 4 10 in_O rfl rfl rfl (by decide) rfl hl d h
theorem pC_O_largest (C : Cx p s m args meth c own cc nL rt D (tyT cI cJ cZ cL) (wdC cI cJ cZ cL a) A) {index : Nat} {v : Int32} (hl : Cond.fieldLink own index "AutoTeller$Notes" "largest" "I" ∈ wU) (d : decode cc pc = .ok (.putfield index, 3)) (h : Tj p l e R s m args below meth c D (wdC cI cJ cZ cL a) A nL vv K prog (sI S 31 0 v) (pc + 3) lv rest) : Tj p l e R s m args below meth c D (wdC cI cJ cZ cL a) A nL vv K prog S pc lv (.int v :: .ref (a 4) :: rest) := j_put (ci := 5) (ref := "AutoTeller$Notes") (ty := .int) C 4 10 in_O tk_O nm_O rfl rfl (Nat.le_of_ble_eq_true rfl) rfl (by decide) rfl rfl (by decide +kernel) rfl rfl hl d h
theorem gC_J_kinds (C : Cx p s m args meth c own cc nL rt D (tyT cI cJ cZ cL) (wdC cI cJ cZ cL a) A) {index : Nat} (hl : Cond.fieldLink own index "AutoTeller$Journal" "kinds" "[I" ∈ wU) (d : decode cc pc = .ok (.getfield index, 3)) (h : Tj p l e R s m args below meth c D (wdC cI cJ cZ cL a) A nL vv K prog S (pc + 3) lv (.ref (a 22) :: rest)) : Tj p l e R s m args below meth c D (wdC cI cJ cZ cL a) A nL vv K prog S pc lv (.ref (a 5) :: rest) := j_get (ci := 1) (ref := "AutoTeller$Journal") C 5 0 in_J rfl rfl rfl (by decide) rfl hl d h
theorem gC_J_traces (C : Cx p s m args meth c own cc nL rt D (tyT cI cJ cZ cL) (wdC cI cJ cZ cL a) A) {index : Nat} (hl : Cond.fieldLink own index "AutoTeller$Journal" "traces" "[I" ∈ wU) (d : decode cc pc = .ok (.getfield index, 3)) (h : Tj p l e R s m args below meth c D (wdC cI cJ cZ cL a) A nL vv K prog S (pc + 3) lv (.ref (a 23) :: rest)) : Tj p l e R s m args below meth c D (wdC cI cJ cZ cL a) A nL vv K prog S pc lv (.ref (a 5) :: rest) := j_get (ci := 1) (ref := "AutoTeller$Journal") C 5 1 in_J rfl rfl rfl (by decide) rfl hl d h
theorem gC_J_amounts (C : Cx p s m args meth c own cc nL rt D (tyT cI cJ cZ cL) (wdC cI cJ cZ cL a) A) {index : Nat} (hl : Cond.fieldLink own index "AutoTeller$Journal" "amounts" "[I" ∈ wU) (d : decode cc pc = .ok (.getfield index, 3)) (h : Tj p l e R s m args below meth c D (wdC cI cJ cZ cL a) A nL vv K prog S (pc + 3) lv (.ref (a 24) :: rest)) : Tj p l e R s m args below meth c D (wdC cI cJ cZ cL a) A nL vv K prog S pc lv (.ref (a 5) :: rest) := j_get (ci := 1) (ref := "AutoTeller$Journal") C 5 2 in_J rfl rfl rfl (by decide) rfl hl d h
theorem gC_J_cards (C : Cx p s m args meth c own cc nL rt D (tyT cI cJ cZ cL) (wdC cI cJ cZ cL a) A) {index : Nat} (hl : Cond.fieldLink own index "AutoTeller$Journal" "cards" "[I" ∈ wU) (d : decode cc pc = .ok (.getfield index, 3)) (h : Tj p l e R s m args below meth c D (wdC cI cJ cZ cL a) A nL vv K prog S (pc + 3) lv (.ref (a 25) :: rest)) : Tj p l e R s m args below meth c D (wdC cI cJ cZ cL a) A nL vv K prog S pc lv (.ref (a 5) :: rest) := j_get (ci := 1) (ref := "AutoTeller$Journal") C 5 3 in_J rfl rfl rfl (by decide) rfl hl d h
theorem gC_J_size (C : Cx p s m args meth c own cc nL rt D (tyT cI cJ cZ cL) (wdC cI cJ cZ cL a) A) {index : Nat} (hl : Cond.fieldLink own index "AutoTeller$Journal" "size" "I" ∈ wU) (d : decode cc pc = .ok (.getfield index, 3)) (h : Tj p l e R s m args below meth c D (wdC cI cJ cZ cL a) A nL vv K prog S (pc + 3) lv (.int (S.1 36 0) :: rest)) : Tj p l e R s m args below meth c D (wdC cI cJ cZ cL a) A nL vv K prog S pc lv (.ref (a 5) :: rest) := j_get (ci := 1) (ref := "AutoTeller$Journal") C 5 4 in_J rfl rfl rfl (by decide) rfl hl d h
theorem gnC_J_size (C : Cx p s m args meth c own cc nL rt D (tyT cI cJ cZ cL) (wdC cI cJ cZ cL a) A) {index : Nat} {host : String} (hl : Cond.fieldLinkNest own index "AutoTeller$Journal" "size" "I" host ∈ wN) (d : decode cc pc = .ok (.getfield index, 3)) (h : Tj p l e R s m args below meth c D (wdC cI cJ cZ cL a) A nL vv K prog S (pc + 3) lv (.int (S.1 36 0) :: rest)) : Tj p l e R s m args below meth c D (wdC cI cJ cZ cL a) A nL vv K prog S pc lv (.ref (a 5) :: rest) := j_getN (ci := 1) (ref := "AutoTeller$Journal") C 5 4 in_J rfl rfl rfl (by decide) rfl hl d h
theorem pC_J_size (C : Cx p s m args meth c own cc nL rt D (tyT cI cJ cZ cL) (wdC cI cJ cZ cL a) A) {index : Nat} {v : Int32} (hl : Cond.fieldLink own index "AutoTeller$Journal" "size" "I" ∈ wU) (d : decode cc pc = .ok (.putfield index, 3)) (h : Tj p l e R s m args below meth c D (wdC cI cJ cZ cL a) A nL vv K prog (sI S 36 0 v) (pc + 3) lv rest) : Tj p l e R s m args below meth c D (wdC cI cJ cZ cL a) A nL vv K prog S pc lv (.int v :: .ref (a 5) :: rest) := j_put (ci := 1) (ref := "AutoTeller$Journal") (ty := .int) C 5 4 in_J tk_J nm_J rfl rfl (Nat.le_of_ble_eq_true rfl) rfl (by decide) rfl rfl (by decide +kernel) rfl rfl hl d h
theorem lC_N_letters (C : Cx p s m args meth c own cc nL rt D (tyT cI cJ cZ cL) (wdC cI cJ cZ cL a) A) {i : Int32} (hin : ¬ (i < 0 ∨ 24 ≤ i.toNatClampNeg)) (d : decode cc pc = .ok (.aaload, 1)) (h : Tj p l e R s m args below meth c D (wdC cI cJ cZ cL a) A nL vv K prog S (pc + 1) lv (.ref (a (100 + S.2.2.1 i.toNatClampNeg)) :: rest)) : Tj p l e R s m args below meth c D (wdC cI cJ cZ cL a) A nL vv K prog S pc lv (.int i :: .ref (a 6) :: rest) := j_aald C 6 3 rfl rfl hin rfl d h
theorem zC_H_balances (C : Cx p s m args meth c own cc nL rt D (tyT cI cJ cZ cL) (wdC cI cJ cZ cL a) A) (d : decode cc pc = .ok (.arraylength, 1)) (h : Tj p l e R s m args below meth c D (wdC cI cJ cZ cL a) A nL vv K prog S (pc + 1) lv (.int 8 :: rest)) : Tj p l e R s m args below meth c D (wdC cI cJ cZ cL a) A nL vv K prog S pc lv (.ref (a 7) :: rest) := j_alen C 7 1 rfl rfl rfl d h
theorem lC_H_balances (C : Cx p s m args meth c own cc nL rt D (tyT cI cJ cZ cL) (wdC cI cJ cZ cL a) A) {i : Int32} (hin : ¬ (i < 0 ∨ 8 ≤ i.toNatClampNeg)) (d : decode cc pc = .ok (.laload, 1)) (h : Tj p l e R s m args below meth c D (wdC cI cJ cZ cL a) A nL vv K prog S (pc + 1) lv (.long (S.2.1 0 i.toNatClampNeg) :: rest)) : Tj p l e R s m args below meth c D (wdC cI cJ cZ cL a) A nL vv K prog S pc lv (.int i :: .ref (a 7) :: rest) := j_lald C 7 1 rfl rfl hin d h
theorem sC_H_balances (C : Cx p s m args meth c own cc nL rt D (tyT cI cJ cZ cL) (wdC cI cJ cZ cL a) A) {i : Int32} {v : Int64} (hin : ¬ (i < 0 ∨ 8 ≤ i.toNatClampNeg)) (d : decode cc pc = .ok (.lastore, 1)) (h : Tj p l e R s m args below meth c D (wdC cI cJ cZ cL a) A nL vv K prog (sL S 0 i.toNatClampNeg v) (pc + 1) lv rest) : Tj p l e R s m args below meth c D (wdC cI cJ cZ cL a) A nL vv K prog S pc lv (.long v :: .int i :: .ref (a 7) :: rest) := j_last C 7 1 rfl rfl rfl hin d h
theorem zC_H_accountOfCard (C : Cx p s m args meth c own cc nL rt D (tyT cI cJ cZ cL) (wdC cI cJ cZ cL a) A) (d : decode cc pc = .ok (.arraylength, 1)) (h : Tj p l e R s m args below meth c D (wdC cI cJ cZ cL a) A nL vv K prog S (pc + 1) lv (.int 16 :: rest)) : Tj p l e R s m args below meth c D (wdC cI cJ cZ cL a) A nL vv K prog S pc lv (.ref (a 8) :: rest) := j_alen C 8 0 rfl rfl rfl d h
theorem lC_H_accountOfCard (C : Cx p s m args meth c own cc nL rt D (tyT cI cJ cZ cL) (wdC cI cJ cZ cL a) A) {i : Int32} (hin : ¬ (i < 0 ∨ 16 ≤ i.toNatClampNeg)) (d : decode cc pc = .ok (.iaload, 1)) (h : Tj p l e R s m args below meth c D (wdC cI cJ cZ cL a) A nL vv K prog S (pc + 1) lv (.int (S.1 2 i.toNatClampNeg) :: rest)) : Tj p l e R s m args below meth c D (wdC cI cJ cZ cL a) A nL vv K prog S pc lv (.int i :: .ref (a 8) :: rest) := j_iald C 8 0 rfl rfl hin d h
theorem sC_H_accountOfCard (C : Cx p s m args meth c own cc nL rt D (tyT cI cJ cZ cL) (wdC cI cJ cZ cL a) A) {i v : Int32} (hin : ¬ (i < 0 ∨ 16 ≤ i.toNatClampNeg)) (d : decode cc pc = .ok (.iastore, 1)) (h : Tj p l e R s m args below meth c D (wdC cI cJ cZ cL a) A nL vv K prog (sI S 2 i.toNatClampNeg v) (pc + 1) lv rest) : Tj p l e R s m args below meth c D (wdC cI cJ cZ cL a) A nL vv K prog S pc lv (.int v :: .int i :: .ref (a 8) :: rest) := j_iast C 8 0 rfl rfl rfl hin d h
theorem zC_H_pinOfCard (C : Cx p s m args meth c own cc nL rt D (tyT cI cJ cZ cL) (wdC cI cJ cZ cL a) A) (d : decode cc pc = .ok (.arraylength, 1)) (h : Tj p l e R s m args below meth c D (wdC cI cJ cZ cL a) A nL vv K prog S (pc + 1) lv (.int 16 :: rest)) : Tj p l e R s m args below meth c D (wdC cI cJ cZ cL a) A nL vv K prog S pc lv (.ref (a 9) :: rest) := j_alen C 9 0 rfl rfl rfl d h
theorem lC_H_pinOfCard (C : Cx p s m args meth c own cc nL rt D (tyT cI cJ cZ cL) (wdC cI cJ cZ cL a) A) {i : Int32} (hin : ¬ (i < 0 ∨ 16 ≤ i.toNatClampNeg)) (d : decode cc pc = .ok (.iaload, 1)) (h : Tj p l e R s m args below meth c D (wdC cI cJ cZ cL a) A nL vv K prog S (pc + 1) lv (.int (S.1 3 i.toNatClampNeg) :: rest)) : Tj p l e R s m args below meth c D (wdC cI cJ cZ cL a) A nL vv K prog S pc lv (.int i :: .ref (a 9) :: rest) := j_iald C 9 0 rfl rfl hin d h
theorem sC_H_pinOfCard (C : Cx p s m args meth c own cc nL rt D (tyT cI cJ cZ cL) (wdC cI cJ cZ cL a) A) {i v : Int32} (hin : ¬ (i < 0 ∨ 16 ≤ i.toNatClampNeg)) (d : decode cc pc = .ok (.iastore, 1)) (h : Tj p l e R s m args below meth c D (wdC cI cJ cZ cL a) A nL vv K prog (sI S 3 i.toNatClampNeg v) (pc + 1) lv rest) : Tj p l e R s m args below meth c D (wdC cI cJ cZ cL a) A nL vv K prog S pc lv (.int v :: .int i :: .ref (a 9) :: rest) := j_iast C 9 0 rfl rfl rfl hin d h
theorem zC_H_triesOfCard (C : Cx p s m args meth c own cc nL rt D (tyT cI cJ cZ cL) (wdC cI cJ cZ cL a) A) (d : decode cc pc = .ok (.arraylength, 1)) (h : Tj p l e R s m args below meth c D (wdC cI cJ cZ cL a) A nL vv K prog S (pc + 1) lv (.int 16 :: rest)) : Tj p l e R s m args below meth c D (wdC cI cJ cZ cL a) A nL vv K prog S pc lv (.ref (a 10) :: rest) := j_alen C 10 0 rfl rfl rfl d h
theorem lC_H_triesOfCard (C : Cx p s m args meth c own cc nL rt D (tyT cI cJ cZ cL) (wdC cI cJ cZ cL a) A) {i : Int32} (hin : ¬ (i < 0 ∨ 16 ≤ i.toNatClampNeg)) (d : decode cc pc = .ok (.iaload, 1)) (h : Tj p l e R s m args below meth c D (wdC cI cJ cZ cL a) A nL vv K prog S (pc + 1) lv (.int (S.1 4 i.toNatClampNeg) :: rest)) : Tj p l e R s m args below meth c D (wdC cI cJ cZ cL a) A nL vv K prog S pc lv (.int i :: .ref (a 10) :: rest) := j_iald C 10 0 rfl rfl hin d h
theorem sC_H_triesOfCard (C : Cx p s m args meth c own cc nL rt D (tyT cI cJ cZ cL) (wdC cI cJ cZ cL a) A) {i v : Int32} (hin : ¬ (i < 0 ∨ 16 ≤ i.toNatClampNeg)) (d : decode cc pc = .ok (.iastore, 1)) (h : Tj p l e R s m args below meth c D (wdC cI cJ cZ cL a) A nL vv K prog (sI S 4 i.toNatClampNeg v) (pc + 1) lv rest) : Tj p l e R s m args below meth c D (wdC cI cJ cZ cL a) A nL vv K prog S pc lv (.int v :: .int i :: .ref (a 10) :: rest) := j_iast C 10 0 rfl rfl rfl hin d h
theorem zC_H_pinCodes (C : Cx p s m args meth c own cc nL rt D (tyT cI cJ cZ cL) (wdC cI cJ cZ cL a) A) (d : decode cc pc = .ok (.arraylength, 1)) (h : Tj p l e R s m args below meth c D (wdC cI cJ cZ cL a) A nL vv K prog S (pc + 1) lv (.int 2001 :: rest)) : Tj p l e R s m args below meth c D (wdC cI cJ cZ cL a) A nL vv K prog S pc lv (.ref (a 11) :: rest) := j_alen C 11 0 rfl rfl rfl d h
theorem lC_H_pinCodes (C : Cx p s m args meth c own cc nL rt D (tyT cI cJ cZ cL) (wdC cI cJ cZ cL a) A) {i : Int32} (hin : ¬ (i < 0 ∨ 2001 ≤ i.toNatClampNeg)) (d : decode cc pc = .ok (.iaload, 1)) (h : Tj p l e R s m args below meth c D (wdC cI cJ cZ cL a) A nL vv K prog S (pc + 1) lv (.int (S.1 5 i.toNatClampNeg) :: rest)) : Tj p l e R s m args below meth c D (wdC cI cJ cZ cL a) A nL vv K prog S pc lv (.int i :: .ref (a 11) :: rest) := j_iald C 11 0 rfl rfl hin d h
theorem sC_H_pinCodes (C : Cx p s m args meth c own cc nL rt D (tyT cI cJ cZ cL) (wdC cI cJ cZ cL a) A) {i v : Int32} (hin : ¬ (i < 0 ∨ 2001 ≤ i.toNatClampNeg)) (d : decode cc pc = .ok (.iastore, 1)) (h : Tj p l e R s m args below meth c D (wdC cI cJ cZ cL a) A nL vv K prog (sI S 5 i.toNatClampNeg v) (pc + 1) lv rest) : Tj p l e R s m args below meth c D (wdC cI cJ cZ cL a) A nL vv K prog S pc lv (.int v :: .int i :: .ref (a 11) :: rest) := j_iast C 11 0 rfl rfl rfl hin d h
theorem zC_H_debits (C : Cx p s m args meth c own cc nL rt D (tyT cI cJ cZ cL) (wdC cI cJ cZ cL a) A) (d : decode cc pc = .ok (.arraylength, 1)) (h : Tj p l e R s m args below meth c D (wdC cI cJ cZ cL a) A nL vv K prog S (pc + 1) lv (.int 2001 :: rest)) : Tj p l e R s m args below meth c D (wdC cI cJ cZ cL a) A nL vv K prog S pc lv (.ref (a 12) :: rest) := j_alen C 12 0 rfl rfl rfl d h
theorem lC_H_debits (C : Cx p s m args meth c own cc nL rt D (tyT cI cJ cZ cL) (wdC cI cJ cZ cL a) A) {i : Int32} (hin : ¬ (i < 0 ∨ 2001 ≤ i.toNatClampNeg)) (d : decode cc pc = .ok (.iaload, 1)) (h : Tj p l e R s m args below meth c D (wdC cI cJ cZ cL a) A nL vv K prog S (pc + 1) lv (.int (S.1 6 i.toNatClampNeg) :: rest)) : Tj p l e R s m args below meth c D (wdC cI cJ cZ cL a) A nL vv K prog S pc lv (.int i :: .ref (a 12) :: rest) := j_iald C 12 0 rfl rfl hin d h
theorem sC_H_debits (C : Cx p s m args meth c own cc nL rt D (tyT cI cJ cZ cL) (wdC cI cJ cZ cL a) A) {i v : Int32} (hin : ¬ (i < 0 ∨ 2001 ≤ i.toNatClampNeg)) (d : decode cc pc = .ok (.iastore, 1)) (h : Tj p l e R s m args below meth c D (wdC cI cJ cZ cL a) A nL vv K prog (sI S 6 i.toNatClampNeg v) (pc + 1) lv rest) : Tj p l e R s m args below meth c D (wdC cI cJ cZ cL a) A nL vv K prog S pc lv (.int v :: .int i :: .ref (a 12) :: rest) := j_iast C 12 0 rfl rfl rfl hin d h
theorem zC_H_debitAmounts (C : Cx p s m args meth c own cc nL rt D (tyT cI cJ cZ cL) (wdC cI cJ cZ cL a) A) (d : decode cc pc = .ok (.arraylength, 1)) (h : Tj p l e R s m args below meth c D (wdC cI cJ cZ cL a) A nL vv K prog S (pc + 1) lv (.int 2001 :: rest)) : Tj p l e R s m args below meth c D (wdC cI cJ cZ cL a) A nL vv K prog S pc lv (.ref (a 13) :: rest) := j_alen C 13 0 rfl rfl rfl d h
theorem lC_H_debitAmounts (C : Cx p s m args meth c own cc nL rt D (tyT cI cJ cZ cL) (wdC cI cJ cZ cL a) A) {i : Int32} (hin : ¬ (i < 0 ∨ 2001 ≤ i.toNatClampNeg)) (d : decode cc pc = .ok (.iaload, 1)) (h : Tj p l e R s m args below meth c D (wdC cI cJ cZ cL a) A nL vv K prog S (pc + 1) lv (.int (S.1 7 i.toNatClampNeg) :: rest)) : Tj p l e R s m args below meth c D (wdC cI cJ cZ cL a) A nL vv K prog S pc lv (.int i :: .ref (a 13) :: rest) := j_iald C 13 0 rfl rfl hin d h
theorem sC_H_debitAmounts (C : Cx p s m args meth c own cc nL rt D (tyT cI cJ cZ cL) (wdC cI cJ cZ cL a) A) {i v : Int32} (hin : ¬ (i < 0 ∨ 2001 ≤ i.toNatClampNeg)) (d : decode cc pc = .ok (.iastore, 1)) (h : Tj p l e R s m args below meth c D (wdC cI cJ cZ cL a) A nL vv K prog (sI S 7 i.toNatClampNeg v) (pc + 1) lv rest) : Tj p l e R s m args below meth c D (wdC cI cJ cZ cL a) A nL vv K prog S pc lv (.int v :: .int i :: .ref (a 13) :: rest) := j_iast C 13 0 rfl rfl rfl hin d h
theorem zC_H_debitAccounts (C : Cx p s m args meth c own cc nL rt D (tyT cI cJ cZ cL) (wdC cI cJ cZ cL a) A) (d : decode cc pc = .ok (.arraylength, 1)) (h : Tj p l e R s m args below meth c D (wdC cI cJ cZ cL a) A nL vv K prog S (pc + 1) lv (.int 2001 :: rest)) : Tj p l e R s m args below meth c D (wdC cI cJ cZ cL a) A nL vv K prog S pc lv (.ref (a 14) :: rest) := j_alen C 14 0 rfl rfl rfl d h
theorem lC_H_debitAccounts (C : Cx p s m args meth c own cc nL rt D (tyT cI cJ cZ cL) (wdC cI cJ cZ cL a) A) {i : Int32} (hin : ¬ (i < 0 ∨ 2001 ≤ i.toNatClampNeg)) (d : decode cc pc = .ok (.iaload, 1)) (h : Tj p l e R s m args below meth c D (wdC cI cJ cZ cL a) A nL vv K prog S (pc + 1) lv (.int (S.1 8 i.toNatClampNeg) :: rest)) : Tj p l e R s m args below meth c D (wdC cI cJ cZ cL a) A nL vv K prog S pc lv (.int i :: .ref (a 14) :: rest) := j_iald C 14 0 rfl rfl hin d h
theorem sC_H_debitAccounts (C : Cx p s m args meth c own cc nL rt D (tyT cI cJ cZ cL) (wdC cI cJ cZ cL a) A) {i v : Int32} (hin : ¬ (i < 0 ∨ 2001 ≤ i.toNatClampNeg)) (d : decode cc pc = .ok (.iastore, 1)) (h : Tj p l e R s m args below meth c D (wdC cI cJ cZ cL a) A nL vv K prog (sI S 8 i.toNatClampNeg v) (pc + 1) lv rest) : Tj p l e R s m args below meth c D (wdC cI cJ cZ cL a) A nL vv K prog S pc lv (.int v :: .int i :: .ref (a 14) :: rest) := j_iast C 14 0 rfl rfl rfl hin d h
theorem zC_M_kept (C : Cx p s m args meth c own cc nL rt D (tyT cI cJ cZ cL) (wdC cI cJ cZ cL a) A) (d : decode cc pc = .ok (.arraylength, 1)) (h : Tj p l e R s m args below meth c D (wdC cI cJ cZ cL a) A nL vv K prog S (pc + 1) lv (.int 16 :: rest)) : Tj p l e R s m args below meth c D (wdC cI cJ cZ cL a) A nL vv K prog S pc lv (.ref (a 15) :: rest) := j_alen C 15 2 rfl rfl rfl d h
theorem lC_M_kept (C : Cx p s m args meth c own cc nL rt D (tyT cI cJ cZ cL) (wdC cI cJ cZ cL a) A) {i : Int32} (hin : ¬ (i < 0 ∨ 16 ≤ i.toNatClampNeg)) (d : decode cc pc = .ok (.baload, 1)) (h : Tj p l e R s m args below meth c D (wdC cI cJ cZ cL a) A nL vv K prog S (pc + 1) lv (.int (S.1 10 i.toNatClampNeg) :: rest)) : Tj p l e R s m args below meth c D (wdC cI cJ cZ cL a) A nL vv K prog S pc lv (.int i :: .ref (a 15) :: rest) := j_zald C 15 2 rfl rfl hin d h
theorem sC_M_kept (C : Cx p s m args meth c own cc nL rt D (tyT cI cJ cZ cL) (wdC cI cJ cZ cL a) A) {i v : Int32} (hz : v = 0 ∨ v = 1) (hin : ¬ (i < 0 ∨ 16 ≤ i.toNatClampNeg)) (d : decode cc pc = .ok (.bastore, 1)) (h : Tj p l e R s m args below meth c D (wdC cI cJ cZ cL a) A nL vv K prog (sI S 10 i.toNatClampNeg v) (pc + 1) lv rest) : Tj p l e R s m args below meth c D (wdC cI cJ cZ cL a) A nL vv K prog S pc lv (.int v :: .int i :: .ref (a 15) :: rest) := j_zast C 15 2 hz rfl rfl rfl hin d h
theorem zC_O_denominations (C : Cx p s m args meth c own cc nL rt D (tyT cI cJ cZ cL) (wdC cI cJ cZ cL a) A) (d : decode cc pc = .ok (.arraylength, 1)) (h : Tj p l e R s m args below meth c D (wdC cI cJ cZ cL a) A nL vv K prog S (pc + 1) lv (.int 4 :: rest)) : Tj p l e R s m args below meth c D (wdC cI cJ cZ cL a) A nL vv K prog S pc lv (.ref (a 16) :: rest) := j_alen C 16 0 rfl rfl rfl d h
theorem lC_O_denominations (C : Cx p s m args meth c own cc nL rt D (tyT cI cJ cZ cL) (wdC cI cJ cZ cL a) A) {i : Int32} (hin : ¬ (i < 0 ∨ 4 ≤ i.toNatClampNeg)) (d : decode cc pc = .ok (.iaload, 1)) (h : Tj p l e R s m args below meth c D (wdC cI cJ cZ cL a) A nL vv K prog S (pc + 1) lv (.int (S.1 22 i.toNatClampNeg) :: rest)) : Tj p l e R s m args below meth c D (wdC cI cJ cZ cL a) A nL vv K prog S pc lv (.int i :: .ref (a 16) :: rest) := j_iald C 16 0 rfl rfl hin d h
theorem sC_O_denominations (C : Cx p s m args meth c own cc nL rt D (tyT cI cJ cZ cL) (wdC cI cJ cZ cL a) A) {i v : Int32} (hin : ¬ (i < 0 ∨ 4 ≤ i.toNatClampNeg)) (d : decode cc pc = .ok (.iastore, 1)) (h : Tj p l e R s m args below meth c D (wdC cI cJ cZ cL a) A nL vv K prog (sI S 22 i.toNatClampNeg v) (pc + 1) lv rest) : Tj p l e R s m args below meth c D (wdC cI cJ cZ cL a) A nL vv K prog S pc lv (.int v :: .int i :: .ref (a 16) :: rest) := j_iast C 16 0 rfl rfl rfl hin d h
theorem zC_O_inCassette (C : Cx p s m args meth c own cc nL rt D (tyT cI cJ cZ cL) (wdC cI cJ cZ cL a) A) (d : decode cc pc = .ok (.arraylength, 1)) (h : Tj p l e R s m args below meth c D (wdC cI cJ cZ cL a) A nL vv K prog S (pc + 1) lv (.int 4 :: rest)) : Tj p l e R s m args below meth c D (wdC cI cJ cZ cL a) A nL vv K prog S pc lv (.ref (a 17) :: rest) := j_alen C 17 0 rfl rfl rfl d h
theorem lC_O_inCassette (C : Cx p s m args meth c own cc nL rt D (tyT cI cJ cZ cL) (wdC cI cJ cZ cL a) A) {i : Int32} (hin : ¬ (i < 0 ∨ 4 ≤ i.toNatClampNeg)) (d : decode cc pc = .ok (.iaload, 1)) (h : Tj p l e R s m args below meth c D (wdC cI cJ cZ cL a) A nL vv K prog S (pc + 1) lv (.int (S.1 23 i.toNatClampNeg) :: rest)) : Tj p l e R s m args below meth c D (wdC cI cJ cZ cL a) A nL vv K prog S pc lv (.int i :: .ref (a 17) :: rest) := j_iald C 17 0 rfl rfl hin d h
theorem sC_O_inCassette (C : Cx p s m args meth c own cc nL rt D (tyT cI cJ cZ cL) (wdC cI cJ cZ cL a) A) {i v : Int32} (hin : ¬ (i < 0 ∨ 4 ≤ i.toNatClampNeg)) (d : decode cc pc = .ok (.iastore, 1)) (h : Tj p l e R s m args below meth c D (wdC cI cJ cZ cL a) A nL vv K prog (sI S 23 i.toNatClampNeg v) (pc + 1) lv rest) : Tj p l e R s m args below meth c D (wdC cI cJ cZ cL a) A nL vv K prog S pc lv (.int v :: .int i :: .ref (a 17) :: rest) := j_iast C 17 0 rfl rfl rfl hin d h
theorem zC_O_inStacker (C : Cx p s m args meth c own cc nL rt D (tyT cI cJ cZ cL) (wdC cI cJ cZ cL a) A) (d : decode cc pc = .ok (.arraylength, 1)) (h : Tj p l e R s m args below meth c D (wdC cI cJ cZ cL a) A nL vv K prog S (pc + 1) lv (.int 4 :: rest)) : Tj p l e R s m args below meth c D (wdC cI cJ cZ cL a) A nL vv K prog S pc lv (.ref (a 18) :: rest) := j_alen C 18 0 rfl rfl rfl d h
theorem lC_O_inStacker (C : Cx p s m args meth c own cc nL rt D (tyT cI cJ cZ cL) (wdC cI cJ cZ cL a) A) {i : Int32} (hin : ¬ (i < 0 ∨ 4 ≤ i.toNatClampNeg)) (d : decode cc pc = .ok (.iaload, 1)) (h : Tj p l e R s m args below meth c D (wdC cI cJ cZ cL a) A nL vv K prog S (pc + 1) lv (.int (S.1 24 i.toNatClampNeg) :: rest)) : Tj p l e R s m args below meth c D (wdC cI cJ cZ cL a) A nL vv K prog S pc lv (.int i :: .ref (a 18) :: rest) := j_iald C 18 0 rfl rfl hin d h
theorem sC_O_inStacker (C : Cx p s m args meth c own cc nL rt D (tyT cI cJ cZ cL) (wdC cI cJ cZ cL a) A) {i v : Int32} (hin : ¬ (i < 0 ∨ 4 ≤ i.toNatClampNeg)) (d : decode cc pc = .ok (.iastore, 1)) (h : Tj p l e R s m args below meth c D (wdC cI cJ cZ cL a) A nL vv K prog (sI S 24 i.toNatClampNeg v) (pc + 1) lv rest) : Tj p l e R s m args below meth c D (wdC cI cJ cZ cL a) A nL vv K prog S pc lv (.int v :: .int i :: .ref (a 18) :: rest) := j_iast C 18 0 rfl rfl rfl hin d h
theorem zC_O_inTray (C : Cx p s m args meth c own cc nL rt D (tyT cI cJ cZ cL) (wdC cI cJ cZ cL a) A) (d : decode cc pc = .ok (.arraylength, 1)) (h : Tj p l e R s m args below meth c D (wdC cI cJ cZ cL a) A nL vv K prog S (pc + 1) lv (.int 4 :: rest)) : Tj p l e R s m args below meth c D (wdC cI cJ cZ cL a) A nL vv K prog S pc lv (.ref (a 19) :: rest) := j_alen C 19 0 rfl rfl rfl d h
theorem lC_O_inTray (C : Cx p s m args meth c own cc nL rt D (tyT cI cJ cZ cL) (wdC cI cJ cZ cL a) A) {i : Int32} (hin : ¬ (i < 0 ∨ 4 ≤ i.toNatClampNeg)) (d : decode cc pc = .ok (.iaload, 1)) (h : Tj p l e R s m args below meth c D (wdC cI cJ cZ cL a) A nL vv K prog S (pc + 1) lv (.int (S.1 25 i.toNatClampNeg) :: rest)) : Tj p l e R s m args below meth c D (wdC cI cJ cZ cL a) A nL vv K prog S pc lv (.int i :: .ref (a 19) :: rest) := j_iald C 19 0 rfl rfl hin d h
theorem sC_O_inTray (C : Cx p s m args meth c own cc nL rt D (tyT cI cJ cZ cL) (wdC cI cJ cZ cL a) A) {i v : Int32} (hin : ¬ (i < 0 ∨ 4 ≤ i.toNatClampNeg)) (d : decode cc pc = .ok (.iastore, 1)) (h : Tj p l e R s m args below meth c D (wdC cI cJ cZ cL a) A nL vv K prog (sI S 25 i.toNatClampNeg v) (pc + 1) lv rest) : Tj p l e R s m args below meth c D (wdC cI cJ cZ cL a) A nL vv K prog S pc lv (.int v :: .int i :: .ref (a 19) :: rest) := j_iast C 19 0 rfl rfl rfl hin d h
theorem zC_O_inBin (C : Cx p s m args meth c own cc nL rt D (tyT cI cJ cZ cL) (wdC cI cJ cZ cL a) A) (d : decode cc pc = .ok (.arraylength, 1)) (h : Tj p l e R s m args below meth c D (wdC cI cJ cZ cL a) A nL vv K prog S (pc + 1) lv (.int 4 :: rest)) : Tj p l e R s m args below meth c D (wdC cI cJ cZ cL a) A nL vv K prog S pc lv (.ref (a 20) :: rest) := j_alen C 20 0 rfl rfl rfl d h
theorem lC_O_inBin (C : Cx p s m args meth c own cc nL rt D (tyT cI cJ cZ cL) (wdC cI cJ cZ cL a) A) {i : Int32} (hin : ¬ (i < 0 ∨ 4 ≤ i.toNatClampNeg)) (d : decode cc pc = .ok (.iaload, 1)) (h : Tj p l e R s m args below meth c D (wdC cI cJ cZ cL a) A nL vv K prog S (pc + 1) lv (.int (S.1 26 i.toNatClampNeg) :: rest)) : Tj p l e R s m args below meth c D (wdC cI cJ cZ cL a) A nL vv K prog S pc lv (.int i :: .ref (a 20) :: rest) := j_iald C 20 0 rfl rfl hin d h
theorem sC_O_inBin (C : Cx p s m args meth c own cc nL rt D (tyT cI cJ cZ cL) (wdC cI cJ cZ cL a) A) {i v : Int32} (hin : ¬ (i < 0 ∨ 4 ≤ i.toNatClampNeg)) (d : decode cc pc = .ok (.iastore, 1)) (h : Tj p l e R s m args below meth c D (wdC cI cJ cZ cL a) A nL vv K prog (sI S 26 i.toNatClampNeg v) (pc + 1) lv rest) : Tj p l e R s m args below meth c D (wdC cI cJ cZ cL a) A nL vv K prog S pc lv (.int v :: .int i :: .ref (a 20) :: rest) := j_iast C 20 0 rfl rfl rfl hin d h
theorem zC_O_mixed (C : Cx p s m args meth c own cc nL rt D (tyT cI cJ cZ cL) (wdC cI cJ cZ cL a) A) (d : decode cc pc = .ok (.arraylength, 1)) (h : Tj p l e R s m args below meth c D (wdC cI cJ cZ cL a) A nL vv K prog S (pc + 1) lv (.int 4 :: rest)) : Tj p l e R s m args below meth c D (wdC cI cJ cZ cL a) A nL vv K prog S pc lv (.ref (a 21) :: rest) := j_alen C 21 0 rfl rfl rfl d h
theorem lC_O_mixed (C : Cx p s m args meth c own cc nL rt D (tyT cI cJ cZ cL) (wdC cI cJ cZ cL a) A) {i : Int32} (hin : ¬ (i < 0 ∨ 4 ≤ i.toNatClampNeg)) (d : decode cc pc = .ok (.iaload, 1)) (h : Tj p l e R s m args below meth c D (wdC cI cJ cZ cL a) A nL vv K prog S (pc + 1) lv (.int (S.1 29 i.toNatClampNeg) :: rest)) : Tj p l e R s m args below meth c D (wdC cI cJ cZ cL a) A nL vv K prog S pc lv (.int i :: .ref (a 21) :: rest) := j_iald C 21 0 rfl rfl hin d h
theorem sC_O_mixed (C : Cx p s m args meth c own cc nL rt D (tyT cI cJ cZ cL) (wdC cI cJ cZ cL a) A) {i v : Int32} (hin : ¬ (i < 0 ∨ 4 ≤ i.toNatClampNeg)) (d : decode cc pc = .ok (.iastore, 1)) (h : Tj p l e R s m args below meth c D (wdC cI cJ cZ cL a) A nL vv K prog (sI S 29 i.toNatClampNeg v) (pc + 1) lv rest) : Tj p l e R s m args below meth c D (wdC cI cJ cZ cL a) A nL vv K prog S pc lv (.int v :: .int i :: .ref (a 21) :: rest) := j_iast C 21 0 rfl rfl rfl hin d h
theorem zC_J_kinds (C : Cx p s m args meth c own cc nL rt D (tyT cI cJ cZ cL) (wdC cI cJ cZ cL a) A) (d : decode cc pc = .ok (.arraylength, 1)) (h : Tj p l e R s m args below meth c D (wdC cI cJ cZ cL a) A nL vv K prog S (pc + 1) lv (.int 300 :: rest)) : Tj p l e R s m args below meth c D (wdC cI cJ cZ cL a) A nL vv K prog S pc lv (.ref (a 22) :: rest) := j_alen C 22 0 rfl rfl rfl d h
theorem lC_J_kinds (C : Cx p s m args meth c own cc nL rt D (tyT cI cJ cZ cL) (wdC cI cJ cZ cL a) A) {i : Int32} (hin : ¬ (i < 0 ∨ 300 ≤ i.toNatClampNeg)) (d : decode cc pc = .ok (.iaload, 1)) (h : Tj p l e R s m args below meth c D (wdC cI cJ cZ cL a) A nL vv K prog S (pc + 1) lv (.int (S.1 32 i.toNatClampNeg) :: rest)) : Tj p l e R s m args below meth c D (wdC cI cJ cZ cL a) A nL vv K prog S pc lv (.int i :: .ref (a 22) :: rest) := j_iald C 22 0 rfl rfl hin d h
theorem sC_J_kinds (C : Cx p s m args meth c own cc nL rt D (tyT cI cJ cZ cL) (wdC cI cJ cZ cL a) A) {i v : Int32} (hin : ¬ (i < 0 ∨ 300 ≤ i.toNatClampNeg)) (d : decode cc pc = .ok (.iastore, 1)) (h : Tj p l e R s m args below meth c D (wdC cI cJ cZ cL a) A nL vv K prog (sI S 32 i.toNatClampNeg v) (pc + 1) lv rest) : Tj p l e R s m args below meth c D (wdC cI cJ cZ cL a) A nL vv K prog S pc lv (.int v :: .int i :: .ref (a 22) :: rest) := j_iast C 22 0 rfl rfl rfl hin d h
theorem zC_J_traces (C : Cx p s m args meth c own cc nL rt D (tyT cI cJ cZ cL) (wdC cI cJ cZ cL a) A) (d : decode cc pc = .ok (.arraylength, 1)) (h : Tj p l e R s m args below meth c D (wdC cI cJ cZ cL a) A nL vv K prog S (pc + 1) lv (.int 300 :: rest)) : Tj p l e R s m args below meth c D (wdC cI cJ cZ cL a) A nL vv K prog S pc lv (.ref (a 23) :: rest) := j_alen C 23 0 rfl rfl rfl d h
theorem lC_J_traces (C : Cx p s m args meth c own cc nL rt D (tyT cI cJ cZ cL) (wdC cI cJ cZ cL a) A) {i : Int32} (hin : ¬ (i < 0 ∨ 300 ≤ i.toNatClampNeg)) (d : decode cc pc = .ok (.iaload, 1)) (h : Tj p l e R s m args below meth c D (wdC cI cJ cZ cL a) A nL vv K prog S (pc + 1) lv (.int (S.1 33 i.toNatClampNeg) :: rest)) : Tj p l e R s m args below meth c D (wdC cI cJ cZ cL a) A nL vv K prog S pc lv (.int i :: .ref (a 23) :: rest) := j_iald C 23 0 rfl rfl hin d h
theorem sC_J_traces (C : Cx p s m args meth c own cc nL rt D (tyT cI cJ cZ cL) (wdC cI cJ cZ cL a) A) {i v : Int32} (hin : ¬ (i < 0 ∨ 300 ≤ i.toNatClampNeg)) (d : decode cc pc = .ok (.iastore, 1)) (h : Tj p l e R s m args below meth c D (wdC cI cJ cZ cL a) A nL vv K prog (sI S 33 i.toNatClampNeg v) (pc + 1) lv rest) : Tj p l e R s m args below meth c D (wdC cI cJ cZ cL a) A nL vv K prog S pc lv (.int v :: .int i :: .ref (a 23) :: rest) := j_iast C 23 0 rfl rfl rfl hin d h
theorem zC_J_amounts (C : Cx p s m args meth c own cc nL rt D (tyT cI cJ cZ cL) (wdC cI cJ cZ cL a) A) (d : decode cc pc = .ok (.arraylength, 1)) (h : Tj p l e R s m args below meth c D (wdC cI cJ cZ cL a) A nL vv K prog S (pc + 1) lv (.int 300 :: rest)) : Tj p l e R s m args below meth c D (wdC cI cJ cZ cL a) A nL vv K prog S pc lv (.ref (a 24) :: rest) := j_alen C 24 0 rfl rfl rfl d h
theorem lC_J_amounts (C : Cx p s m args meth c own cc nL rt D (tyT cI cJ cZ cL) (wdC cI cJ cZ cL a) A) {i : Int32} (hin : ¬ (i < 0 ∨ 300 ≤ i.toNatClampNeg)) (d : decode cc pc = .ok (.iaload, 1)) (h : Tj p l e R s m args below meth c D (wdC cI cJ cZ cL a) A nL vv K prog S (pc + 1) lv (.int (S.1 34 i.toNatClampNeg) :: rest)) : Tj p l e R s m args below meth c D (wdC cI cJ cZ cL a) A nL vv K prog S pc lv (.int i :: .ref (a 24) :: rest) := j_iald C 24 0 rfl rfl hin d h
theorem sC_J_amounts (C : Cx p s m args meth c own cc nL rt D (tyT cI cJ cZ cL) (wdC cI cJ cZ cL a) A) {i v : Int32} (hin : ¬ (i < 0 ∨ 300 ≤ i.toNatClampNeg)) (d : decode cc pc = .ok (.iastore, 1)) (h : Tj p l e R s m args below meth c D (wdC cI cJ cZ cL a) A nL vv K prog (sI S 34 i.toNatClampNeg v) (pc + 1) lv rest) : Tj p l e R s m args below meth c D (wdC cI cJ cZ cL a) A nL vv K prog S pc lv (.int v :: .int i :: .ref (a 24) :: rest) := j_iast C 24 0 rfl rfl rfl hin d h
theorem zC_J_cards (C : Cx p s m args meth c own cc nL rt D (tyT cI cJ cZ cL) (wdC cI cJ cZ cL a) A) (d : decode cc pc = .ok (.arraylength, 1)) (h : Tj p l e R s m args below meth c D (wdC cI cJ cZ cL a) A nL vv K prog S (pc + 1) lv (.int 300 :: rest)) : Tj p l e R s m args below meth c D (wdC cI cJ cZ cL a) A nL vv K prog S pc lv (.ref (a 25) :: rest) := j_alen C 25 0 rfl rfl rfl d h
theorem lC_J_cards (C : Cx p s m args meth c own cc nL rt D (tyT cI cJ cZ cL) (wdC cI cJ cZ cL a) A) {i : Int32} (hin : ¬ (i < 0 ∨ 300 ≤ i.toNatClampNeg)) (d : decode cc pc = .ok (.iaload, 1)) (h : Tj p l e R s m args below meth c D (wdC cI cJ cZ cL a) A nL vv K prog S (pc + 1) lv (.int (S.1 35 i.toNatClampNeg) :: rest)) : Tj p l e R s m args below meth c D (wdC cI cJ cZ cL a) A nL vv K prog S pc lv (.int i :: .ref (a 25) :: rest) := j_iald C 25 0 rfl rfl hin d h
theorem sC_J_cards (C : Cx p s m args meth c own cc nL rt D (tyT cI cJ cZ cL) (wdC cI cJ cZ cL a) A) {i v : Int32} (hin : ¬ (i < 0 ∨ 300 ≤ i.toNatClampNeg)) (d : decode cc pc = .ok (.iastore, 1)) (h : Tj p l e R s m args below meth c D (wdC cI cJ cZ cL a) A nL vv K prog (sI S 35 i.toNatClampNeg v) (pc + 1) lv rest) : Tj p l e R s m args below meth c D (wdC cI cJ cZ cL a) A nL vv K prog S pc lv (.int v :: .int i :: .ref (a 25) :: rest) := j_iast C 25 0 rfl rfl rfl hin d h
theorem wdC_E {S : Mem} {j : Nat} (hj : j < 25) : (wdC cI cJ cZ cL a S)[26 + j]? = some (a (100 + j), .inr (2, [.ref (a (200 + j)), .int (S.2.2.2.1 j)])) := by
  have hb : (wdCb cI cJ cZ cL a S).length = 26 := rfl
  unfold wdC
  rw [List.getElem?_append_right (by omega), hb, Nat.add_sub_cancel_left, List.getElem?_append_left (by simp [wdCe, hj])]
  simp [wdCe, hj]
theorem wdC_Y {S : Mem} {j : Nat} (hj : j < 25) : (wdC cI cJ cZ cL a S)[51 + j]? = some (a (200 + j), .inl (cI, 13, .inl (S.2.2.2.2 j))) := by
  have hb : (wdCb cI cJ cZ cL a S).length = 26 := rfl
  have he : (wdCe a S).length = 25 := by simp [wdCe]
  unfold wdC
  rw [List.getElem?_append_right (by omega), hb, List.getElem?_append_right (by omega), he, show 51 + j - 26 - 25 = j by omega]
  simp [wdCy, hj]
theorem set_map {n j : Nat} {f g : Nat → Nat × va_E} {q : Nat × va_E} (hj : j < n) (h1 : g j = q) (h2 : ∀ i, i ≠ j → g i = f i) : ((List.range n).map f).set j q = (List.range n).map g := by
  apply List.ext_getElem?
  intro k
  by_cases hk : k = j
  · subst hk
    rw [List.getElem?_set_self (by simp [hj])]
    simp [hj, h1]
  · rw [List.getElem?_set_ne (Ne.symm hk)]
    simp only [List.getElem?_map]
    cases hz : (List.range n)[k]? with
    | none => rfl
    | some z =>
      have hzk : z = k := by
        have := List.getElem?_eq_some_iff.mp hz
        obtain ⟨h3, h4⟩ := this
        simp at h4
        exact h4.symm
      subst hzk
      simp [h2 z hk]
theorem wdC_setE {S : Mem} {j : Nat} {v : Int32} (hj : j < 25) : (wdC cI cJ cZ cL a S).set (26 + j) (a (100 + j), .inr (2, [.ref (a (200 + j)), .int v])) = wdC cI cJ cZ cL a (sF S j v) := by
  have hb : (wdCb cI cJ cZ cL a S).length = 26 := rfl
  have he : (wdCe a S).length = 25 := by simp [wdCe]
  unfold wdC
  rw [List.set_append_right _ _ (by omega), hb, Nat.add_sub_cancel_left, List.set_append_left _ _ (by omega)]
  have h1 : (wdCe a S).set j (a (100 + j), .inr (2, [.ref (a (200 + j)), .int v])) = wdCe a (sF S j v) := set_map hj (by simp [sF, upd]) (fun i hi => by simp [sF, upd, hi])
  rw [h1]
  rfl
theorem wdC_setY {S : Mem} {j k : Nat} {v : Int32} (hj : j < 25) : (wdC cI cJ cZ cL a S).set (51 + j) (a (200 + j), .inl (cI, 13, .inl (upd (S.2.2.2.2 j) k v))) = wdC cI cJ cZ cL a (sB S j k v) := by
  have hb : (wdCb cI cJ cZ cL a S).length = 26 := rfl
  have he : (wdCe a S).length = 25 := by simp [wdCe]
  unfold wdC
  rw [List.set_append_right _ _ (by omega), hb, List.set_append_right _ _ (by omega), he, show 51 + j - 26 - 25 = j by omega]
  have h1 : (wdCy cI a S).set j (a (200 + j), .inl (cI, 13, .inl (upd (S.2.2.2.2 j) k v))) = wdCy cI a (sB S j k v) := set_map hj (by simp [sB, va_up]) (fun i hi => by simp [sB, va_up, hi])
  rw [h1]
  rfl
theorem wdC_setG {S : Mem} {i j : Nat} : (wdC cI cJ cZ cL a S).set 6 (a 6, .inl (cL, 24, .inr (.inr (.inr (.inr (va_up (fun i => some (a (100 + S.2.2.1 i))) i (some (a (100 + j))))))))) = wdC cI cJ cZ cL a (sG S i j) := by
  have h1 : va_up (fun i => some (a (100 + S.2.2.1 i))) i (some (a (100 + j))) = fun k => some (a (100 + va_up S.2.2.1 i j k)) := by
    funext k
    unfold va_up
    split <;> rfl
  rw [h1]
  rfl
theorem gC_E_bytes (C : Cx p s m args meth c own cc nL rt D (tyT cI cJ cZ cL) (wdC cI cJ cZ cL a) A) {index j : Nat} (hj : j < 25) (hl : Cond.fieldLink own index "AutoTeller$Letter" "bytes" "[I" ∈ wU) (d : decode cc pc = .ok (.getfield index, 3)) (h : Tj p l e R s m args below meth c D (wdC cI cJ cZ cL a) A nL vv K prog S (pc + 3) lv (.ref (a (200 + j)) :: rest)) : Tj p l e R s m args below meth c D (wdC cI cJ cZ cL a) A nL vv K prog S pc lv (.ref (a (100 + j)) :: rest) := j_get (ci := 2) (ref := "AutoTeller$Letter") C (26 + j) 0 in_E rfl (wdC_E hj) rfl (by decide) rfl hl d h
theorem gnC_E_bytes (C : Cx p s m args meth c own cc nL rt D (tyT cI cJ cZ cL) (wdC cI cJ cZ cL a) A) {index j : Nat} {host : String} (hj : j < 25) (hl : Cond.fieldLinkNest own index "AutoTeller$Letter" "bytes" "[I" host ∈ wN) (d : decode cc pc = .ok (.getfield index, 3)) (h : Tj p l e R s m args below meth c D (wdC cI cJ cZ cL a) A nL vv K prog S (pc + 3) lv (.ref (a (200 + j)) :: rest)) : Tj p l e R s m args below meth c D (wdC cI cJ cZ cL a) A nL vv K prog S pc lv (.ref (a (100 + j)) :: rest) := j_getN (ci := 2) (ref := "AutoTeller$Letter") C (26 + j) 0 in_E rfl (wdC_E hj) rfl (by decide) rfl hl d h
theorem gC_E_forHost (C : Cx p s m args meth c own cc nL rt D (tyT cI cJ cZ cL) (wdC cI cJ cZ cL a) A) {index j : Nat} (hj : j < 25) (hl : Cond.fieldLink own index "AutoTeller$Letter" "forHost" "Z" ∈ wU) (d : decode cc pc = .ok (.getfield index, 3)) (h : Tj p l e R s m args below meth c D (wdC cI cJ cZ cL a) A nL vv K prog S (pc + 3) lv (.int (S.2.2.2.1 j) :: rest)) : Tj p l e R s m args below meth c D (wdC cI cJ cZ cL a) A nL vv K prog S pc lv (.ref (a (100 + j)) :: rest) := j_get (ci := 2) (ref := "AutoTeller$Letter") C (26 + j) 1 in_E rfl (wdC_E hj) rfl (by decide) rfl hl d h
theorem gnC_E_forHost (C : Cx p s m args meth c own cc nL rt D (tyT cI cJ cZ cL) (wdC cI cJ cZ cL a) A) {index j : Nat} {host : String} (hj : j < 25) (hl : Cond.fieldLinkNest own index "AutoTeller$Letter" "forHost" "Z" host ∈ wN) (d : decode cc pc = .ok (.getfield index, 3)) (h : Tj p l e R s m args below meth c D (wdC cI cJ cZ cL a) A nL vv K prog S (pc + 3) lv (.int (S.2.2.2.1 j) :: rest)) : Tj p l e R s m args below meth c D (wdC cI cJ cZ cL a) A nL vv K prog S pc lv (.ref (a (100 + j)) :: rest) := j_getN (ci := 2) (ref := "AutoTeller$Letter") C (26 + j) 1 in_E rfl (wdC_E hj) rfl (by decide) rfl hl d h
theorem pC_E_forHost (C : Cx p s m args meth c own cc nL rt D (tyT cI cJ cZ cL) (wdC cI cJ cZ cL a) A) {index j : Nat} {v : Int32} (hj : j < 25) (hz : v = 0 ∨ v = 1) (hl : Cond.fieldLink own index "AutoTeller$Letter" "forHost" "Z" ∈ wU) (d : decode cc pc = .ok (.putfield index, 3)) (h : Tj p l e R s m args below meth c D (wdC cI cJ cZ cL a) A nL vv K prog (sF S j v) (pc + 3) lv rest) : Tj p l e R s m args below meth c D (wdC cI cJ cZ cL a) A nL vv K prog S pc lv (.int v :: .ref (a (100 + j)) :: rest) := j_put (ci := 2) (ref := "AutoTeller$Letter") (ty := .boolean) C (26 + j) 1 in_E tk_E nm_E rfl (wdC_E hj) (Nat.le_of_ble_eq_true rfl) (wdC_setE hj) (by decide) rfl rfl (by decide +kernel) (by rcases hz with rfl | rfl <;> rfl) (by rcases hz with rfl | rfl <;> rfl) hl d h
theorem pnC_E_forHost (C : Cx p s m args meth c own cc nL rt D (tyT cI cJ cZ cL) (wdC cI cJ cZ cL a) A) {index j : Nat} {host : String} {v : Int32} (hj : j < 25) (hz : v = 0 ∨ v = 1) (hl : Cond.fieldLinkNest own index "AutoTeller$Letter" "forHost" "Z" host ∈ wN) (d : decode cc pc = .ok (.putfield index, 3)) (h : Tj p l e R s m args below meth c D (wdC cI cJ cZ cL a) A nL vv K prog (sF S j v) (pc + 3) lv rest) : Tj p l e R s m args below meth c D (wdC cI cJ cZ cL a) A nL vv K prog S pc lv (.int v :: .ref (a (100 + j)) :: rest) := j_putN (ci := 2) (ref := "AutoTeller$Letter") (ty := .boolean) C (26 + j) 1 in_E tk_E nm_E rfl (wdC_E hj) (Nat.le_of_ble_eq_true rfl) (wdC_setE hj) (by decide) rfl rfl (by decide +kernel) (by rcases hz with rfl | rfl <;> rfl) (by rcases hz with rfl | rfl <;> rfl) hl d h
theorem lC_bytes (C : Cx p s m args meth c own cc nL rt D (tyT cI cJ cZ cL) (wdC cI cJ cZ cL a) A) {j : Nat} {i : Int32} (hj : j < 25) (hin : ¬ (i < 0 ∨ 13 ≤ i.toNatClampNeg)) (d : decode cc pc = .ok (.iaload, 1)) (h : Tj p l e R s m args below meth c D (wdC cI cJ cZ cL a) A nL vv K prog S (pc + 1) lv (.int (S.2.2.2.2 j i.toNatClampNeg) :: rest)) : Tj p l e R s m args below meth c D (wdC cI cJ cZ cL a) A nL vv K prog S pc lv (.int i :: .ref (a (200 + j)) :: rest) := j_iald C (51 + j) 0 rfl (wdC_Y hj) hin d h
theorem sC_bytes (C : Cx p s m args meth c own cc nL rt D (tyT cI cJ cZ cL) (wdC cI cJ cZ cL a) A) {j : Nat} {i v : Int32} (hj : j < 25) (hin : ¬ (i < 0 ∨ 13 ≤ i.toNatClampNeg)) (d : decode cc pc = .ok (.iastore, 1)) (h : Tj p l e R s m args below meth c D (wdC cI cJ cZ cL a) A nL vv K prog (sB S j i.toNatClampNeg v) (pc + 1) lv rest) : Tj p l e R s m args below meth c D (wdC cI cJ cZ cL a) A nL vv K prog S pc lv (.int v :: .int i :: .ref (a (200 + j)) :: rest) := j_iast C (51 + j) 0 rfl (wdC_Y hj) (wdC_setY hj) hin d h
theorem sC_letters (C : Cx p s m args meth c own cc nL rt D (tyT cI cJ cZ cL) (wdC cI cJ cZ cL a) A) {j : Nat} {i : Int32} (hj : j < 25) (hin : ¬ (i < 0 ∨ 24 ≤ i.toNatClampNeg)) (d : decode cc pc = .ok (.aastore, 1)) (h : Tj p l e R s m args below meth c D (wdC cI cJ cZ cL a) A nL vv K prog (sG S i.toNatClampNeg j) (pc + 1) lv rest) : Tj p l e R s m args below meth c D (wdC cI cJ cZ cL a) A nL vv K prog S pc lv (.ref (a (100 + j)) :: .int i :: .ref (a 6) :: rest) := j_aast C 6 3 (26 + j) 2 rfl rfl (wdC_E hj) rfl wdC_setG hin d h
theorem j_ltE {e0 : Nat} {k : Nat → Option β} (h : ∀ j : Nat, Tj p l e R s m args below meth c D (wdC cI cJ cZ cL a) A nL vv K (k j) S pc lv (.ref (a (100 + j)) :: rest)) : Tj p l e R s m args below meth c D (wdC cI cJ cZ cL a) A nL vv K (lt e0 k) S pc lv (.ref (a (100 + e0)) :: rest) := h e0
end WC
end
section
def wdR (cI cJ cZ cL : ClassId) (a : Nat → Nat) (S : Mem) : va_W := [(a 0, .inr (7, [.ref (a 1), .ref (a 2), .ref (a 3), .ref (a 4), .ref (a 5), .ref (a 6), .ref (a 7), .ref (a 8), .ref (a 9), .long (S.2.1 1 0), .ref (a 10), .ref (a 11), .ref (a 12), .ref (a 13), .ref (a 14), .long (S.2.1 2 0), .long (S.2.1 3 0), .long (S.2.1 4 0), .ref (a 15), .ref (a 16), .int (S.1 15 0), .int (S.1 16 0), .int (S.1 17 0), .int (S.1 18 0), .int (S.1 19 0), .int (S.1 20 0), .int (S.1 21 0), .int (S.1 22 0), .int (S.1 23 0), .int (S.1 24 0), .ref (a 17), .int (S.1 26 0), .int (S.1 27 0), .int (S.1 28 0), .ref (a 18), .ref (a 19)])),
  (a 1, .inl (cJ, 8, .inr (.inl (S.2.1 0)))),
  (a 2, .inl (cI, 16, .inl (S.1 0))),
  (a 3, .inl (cI, 16, .inl (S.1 1))),
  (a 4, .inl (cI, 16, .inl (S.1 2))),
  (a 5, .inl (cI, 2001, .inl (S.1 3))),
  (a 6, .inl (cI, 2001, .inl (S.1 4))),
  (a 7, .inl (cI, 2001, .inl (S.1 5))),
  (a 8, .inl (cI, 2001, .inl (S.1 6))),
  (a 9, .inl (cZ, 2001, .inl (S.1 7))),
  (a 10, .inl (cI, 4, .inl (S.1 8))),
  (a 11, .inl (cI, 4, .inl (S.1 9))),
  (a 12, .inl (cI, 4, .inl (S.1 10))),
  (a 13, .inl (cI, 4, .inl (S.1 11))),
  (a 14, .inl (cI, 4, .inl (S.1 12))),
  (a 15, .inl (cZ, 16, .inl (S.1 13))),
  (a 16, .inl (cI, 1500, .inl (S.1 14))),
  (a 17, .inl (cI, 350, .inl (S.1 25))),
  (a 18, .inl (cI, 14, .inl (S.1 29))),
  (a 19, .inl (cI, 4, .inl (S.1 30)))]
theorem wdR_fst (cI cJ cZ cL : ClassId) (a : Nat → Nat) (S S2 : Mem) : (wdR cI cJ cZ cL a S).map Prod.fst = (wdR cI cJ cZ cL a S2).map Prod.fst := rfl
section WR
variable {p : Program} {l : Launch} {e : Env} {R : Room} {s : State} {m : MethodId} {args : Array Value} {below : List Frame} {meth : Method} {c : Code}
variable {own : String} {cc : ByteArray} {nL : Nat} {rt : Option FieldType} {D : va_G} {A : Nat → Prop}
variable {α β γ δ : Type} {vv : α → Option Value} {K : β → Option (α × Mem)} {prog progA progB : Option β} {S : Mem} {pc : Nat} {lv : List (Nat × Value)} {rest st : List Value}
variable {cI cJ cZ cL : ClassId} {a : Nat → Nat}
theorem gR_R_balances (C : Cx p s m args meth c own cc nL rt D (tyT cI cJ cZ cL) (wdR cI cJ cZ cL a) A) {index : Nat} (hl : Cond.fieldLink own index "AutoTellerModel" "balances" "[J" ∈ wU) (d : decode cc pc = .ok (.getfield index, 3)) (h : Tj p l e R s m args below meth c D (wdR cI cJ cZ cL a) A nL vv K prog S (pc + 3) lv (.ref (a 1) :: rest)) : Tj p l e R s m args below meth c D (wdR cI cJ cZ cL a) A nL vv K prog S pc lv (.ref (a 0) :: rest) := j_get (ci := 7) (ref := "AutoTellerModel") C 0 0 in_R rfl rfl rfl (by decide) rfl hl d h
theorem gR_R_accountOf (C : Cx p s m args meth c own cc nL rt D (tyT cI cJ cZ cL) (wdR cI cJ cZ cL a) A) {index : Nat} (hl : Cond.fieldLink own index "AutoTellerModel" "accountOf" "[I" ∈ wU) (d : decode cc pc = .ok (.getfield index, 3)) (h : Tj p l e R s m args below meth c D (wdR cI cJ cZ cL a) A nL vv K prog S (pc + 3) lv (.ref (a 2) :: rest)) : Tj p l e R s m args below meth c D (wdR cI cJ cZ cL a) A nL vv K prog S pc lv (.ref (a 0) :: rest) := j_get (ci := 7) (ref := "AutoTellerModel") C 0 1 in_R rfl rfl rfl (by decide) rfl hl d h
theorem gR_R_pinOf (C : Cx p s m args meth c own cc nL rt D (tyT cI cJ cZ cL) (wdR cI cJ cZ cL a) A) {index : Nat} (hl : Cond.fieldLink own index "AutoTellerModel" "pinOf" "[I" ∈ wU) (d : decode cc pc = .ok (.getfield index, 3)) (h : Tj p l e R s m args below meth c D (wdR cI cJ cZ cL a) A nL vv K prog S (pc + 3) lv (.ref (a 3) :: rest)) : Tj p l e R s m args below meth c D (wdR cI cJ cZ cL a) A nL vv K prog S pc lv (.ref (a 0) :: rest) := j_get (ci := 7) (ref := "AutoTellerModel") C 0 2 in_R rfl rfl rfl (by decide) rfl hl d h
theorem gR_R_tries (C : Cx p s m args meth c own cc nL rt D (tyT cI cJ cZ cL) (wdR cI cJ cZ cL a) A) {index : Nat} (hl : Cond.fieldLink own index "AutoTellerModel" "tries" "[I" ∈ wU) (d : decode cc pc = .ok (.getfield index, 3)) (h : Tj p l e R s m args below meth c D (wdR cI cJ cZ cL a) A nL vv K prog S (pc + 3) lv (.ref (a 4) :: rest)) : Tj p l e R s m args below meth c D (wdR cI cJ cZ cL a) A nL vv K prog S pc lv (.ref (a 0) :: rest) := j_get (ci := 7) (ref := "AutoTellerModel") C 0 3 in_R rfl rfl rfl (by decide) rfl hl d h
theorem gR_R_pinCode (C : Cx p s m args meth c own cc nL rt D (tyT cI cJ cZ cL) (wdR cI cJ cZ cL a) A) {index : Nat} (hl : Cond.fieldLink own index "AutoTellerModel" "pinCode" "[I" ∈ wU) (d : decode cc pc = .ok (.getfield index, 3)) (h : Tj p l e R s m args below meth c D (wdR cI cJ cZ cL a) A nL vv K prog S (pc + 3) lv (.ref (a 5) :: rest)) : Tj p l e R s m args below meth c D (wdR cI cJ cZ cL a) A nL vv K prog S pc lv (.ref (a 0) :: rest) := j_get (ci := 7) (ref := "AutoTellerModel") C 0 4 in_R rfl rfl rfl (by decide) rfl hl d h
theorem gR_R_debitCode (C : Cx p s m args meth c own cc nL rt D (tyT cI cJ cZ cL) (wdR cI cJ cZ cL a) A) {index : Nat} (hl : Cond.fieldLink own index "AutoTellerModel" "debitCode" "[I" ∈ wU) (d : decode cc pc = .ok (.getfield index, 3)) (h : Tj p l e R s m args below meth c D (wdR cI cJ cZ cL a) A nL vv K prog S (pc + 3) lv (.ref (a 6) :: rest)) : Tj p l e R s m args below meth c D (wdR cI cJ cZ cL a) A nL vv K prog S pc lv (.ref (a 0) :: rest) := j_get (ci := 7) (ref := "AutoTellerModel") C 0 5 in_R rfl rfl rfl (by decide) rfl hl d h
theorem gR_R_debitAccount (C : Cx p s m args meth c own cc nL rt D (tyT cI cJ cZ cL) (wdR cI cJ cZ cL a) A) {index : Nat} (hl : Cond.fieldLink own index "AutoTellerModel" "debitAccount" "[I" ∈ wU) (d : decode cc pc = .ok (.getfield index, 3)) (h : Tj p l e R s m args below meth c D (wdR cI cJ cZ cL a) A nL vv K prog S (pc + 3) lv (.ref (a 7) :: rest)) : Tj p l e R s m args below meth c D (wdR cI cJ cZ cL a) A nL vv K prog S pc lv (.ref (a 0) :: rest) := j_get (ci := 7) (ref := "AutoTellerModel") C 0 6 in_R rfl rfl rfl (by decide) rfl hl d h
theorem gR_R_debitAmount (C : Cx p s m args meth c own cc nL rt D (tyT cI cJ cZ cL) (wdR cI cJ cZ cL a) A) {index : Nat} (hl : Cond.fieldLink own index "AutoTellerModel" "debitAmount" "[I" ∈ wU) (d : decode cc pc = .ok (.getfield index, 3)) (h : Tj p l e R s m args below meth c D (wdR cI cJ cZ cL a) A nL vv K prog S (pc + 3) lv (.ref (a 8) :: rest)) : Tj p l e R s m args below meth c D (wdR cI cJ cZ cL a) A nL vv K prog S pc lv (.ref (a 0) :: rest) := j_get (ci := 7) (ref := "AutoTellerModel") C 0 7 in_R rfl rfl rfl (by decide) rfl hl d h
theorem gR_R_isReversed (C : Cx p s m args meth c own cc nL rt D (tyT cI cJ cZ cL) (wdR cI cJ cZ cL a) A) {index : Nat} (hl : Cond.fieldLink own index "AutoTellerModel" "isReversed" "[Z" ∈ wU) (d : decode cc pc = .ok (.getfield index, 3)) (h : Tj p l e R s m args below meth c D (wdR cI cJ cZ cL a) A nL vv K prog S (pc + 3) lv (.ref (a 9) :: rest)) : Tj p l e R s m args below meth c D (wdR cI cJ cZ cL a) A nL vv K prog S pc lv (.ref (a 0) :: rest) := j_get (ci := 7) (ref := "AutoTellerModel") C 0 8 in_R rfl rfl rfl (by decide) rfl hl d h
theorem gR_R_off (C : Cx p s m args meth c own cc nL rt D (tyT cI cJ cZ cL) (wdR cI cJ cZ cL a) A) {index : Nat} (hl : Cond.fieldLink own index "AutoTellerModel" "off" "J" ∈ wU) (d : decode cc pc = .ok (.getfield index, 3)) (h : Tj p l e R s m args below meth c D (wdR cI cJ cZ cL a) A nL vv K prog S (pc + 3) lv (.long (S.2.1 1 0) :: rest)) : Tj p l e R s m args below meth c D (wdR cI cJ cZ cL a) A nL vv K prog S pc lv (.ref (a 0) :: rest) := j_get (ci := 7) (ref := "AutoTellerModel") C 0 9 in_R rfl rfl rfl (by decide) rfl hl d h
theorem pR_R_off (C : Cx p s m args meth c own cc nL rt D (tyT cI cJ cZ cL) (wdR cI cJ cZ cL a) A) {index : Nat} {v : Int64} (hl : Cond.fieldLink own index "AutoTellerModel" "off" "J" ∈ wU) (d : decode cc pc = .ok (.putfield index, 3)) (h : Tj p l e R s m args below meth c D (wdR cI cJ cZ cL a) A nL vv K prog (sL S 1 0 v) (pc + 3) lv rest) : Tj p l e R s m args below meth c D (wdR cI cJ cZ cL a) A nL vv K prog S pc lv (.long v :: .ref (a 0) :: rest) := j_put (ci := 7) (ref := "AutoTellerModel") (ty := .long) C 0 9 in_R tk_R nm_R rfl rfl (Nat.le_of_ble_eq_true rfl) rfl (by decide) rfl rfl (by decide +kernel) rfl rfl hl d h
theorem gR_R_denomination (C : Cx p s m args meth c own cc nL rt D (tyT cI cJ cZ cL) (wdR cI cJ cZ cL a) A) {index : Nat} (hl : Cond.fieldLink own index "AutoTellerModel" "denomination" "[I" ∈ wU) (d : decode cc pc = .ok (.getfield index, 3)) (h : Tj p l e R s m args below meth c D (wdR cI cJ cZ cL a) A nL vv K prog S (pc + 3) lv (.ref (a 10) :: rest)) : Tj p l e R s m args below meth c D (wdR cI cJ cZ cL a) A nL vv K prog S pc lv (.ref (a 0) :: rest) := j_get (ci := 7) (ref := "AutoTellerModel") C 0 10 in_R rfl rfl rfl (by decide) rfl hl d h
theorem gR_R_notes (C : Cx p s m args meth c own cc nL rt D (tyT cI cJ cZ cL) (wdR cI cJ cZ cL a) A) {index : Nat} (hl : Cond.fieldLink own index "AutoTellerModel" "notes" "[I" ∈ wU) (d : decode cc pc = .ok (.getfield index, 3)) (h : Tj p l e R s m args below meth c D (wdR cI cJ cZ cL a) A nL vv K prog S (pc + 3) lv (.ref (a 11) :: rest)) : Tj p l e R s m args below meth c D (wdR cI cJ cZ cL a) A nL vv K prog S pc lv (.ref (a 0) :: rest) := j_get (ci := 7) (ref := "AutoTellerModel") C 0 11 in_R rfl rfl rfl (by decide) rfl hl d h
theorem gR_R_stacked (C : Cx p s m args meth c own cc nL rt D (tyT cI cJ cZ cL) (wdR cI cJ cZ cL a) A) {index : Nat} (hl : Cond.fieldLink own index "AutoTellerModel" "stacked" "[I" ∈ wU) (d : decode cc pc = .ok (.getfield index, 3)) (h : Tj p l e R s m args below meth c D (wdR cI cJ cZ cL a) A nL vv K prog S (pc + 3) lv (.ref (a 12) :: rest)) : Tj p l e R s m args below meth c D (wdR cI cJ cZ cL a) A nL vv K prog S pc lv (.ref (a 0) :: rest) := j_get (ci := 7) (ref := "AutoTellerModel") C 0 12 in_R rfl rfl rfl (by decide) rfl hl d h
theorem gR_R_inTray (C : Cx p s m args meth c own cc nL rt D (tyT cI cJ cZ cL) (wdR cI cJ cZ cL a) A) {index : Nat} (hl : Cond.fieldLink own index "AutoTellerModel" "inTray" "[I" ∈ wU) (d : decode cc pc = .ok (.getfield index, 3)) (h : Tj p l e R s m args below meth c D (wdR cI cJ cZ cL a) A nL vv K prog S (pc + 3) lv (.ref (a 13) :: rest)) : Tj p l e R s m args below meth c D (wdR cI cJ cZ cL a) A nL vv K prog S pc lv (.ref (a 0) :: rest) := j_get (ci := 7) (ref := "AutoTellerModel") C 0 13 in_R rfl rfl rfl (by decide) rfl hl d h
theorem gR_R_inBin (C : Cx p s m args meth c own cc nL rt D (tyT cI cJ cZ cL) (wdR cI cJ cZ cL a) A) {index : Nat} (hl : Cond.fieldLink own index "AutoTellerModel" "inBin" "[I" ∈ wU) (d : decode cc pc = .ok (.getfield index, 3)) (h : Tj p l e R s m args below meth c D (wdR cI cJ cZ cL a) A nL vv K prog S (pc + 3) lv (.ref (a 14) :: rest)) : Tj p l e R s m args below meth c D (wdR cI cJ cZ cL a) A nL vv K prog S pc lv (.ref (a 0) :: rest) := j_get (ci := 7) (ref := "AutoTellerModel") C 0 14 in_R rfl rfl rfl (by decide) rfl hl d h
theorem gR_R_stackedWorth (C : Cx p s m args meth c own cc nL rt D (tyT cI cJ cZ cL) (wdR cI cJ cZ cL a) A) {index : Nat} (hl : Cond.fieldLink own index "AutoTellerModel" "stackedWorth" "J" ∈ wU) (d : decode cc pc = .ok (.getfield index, 3)) (h : Tj p l e R s m args below meth c D (wdR cI cJ cZ cL a) A nL vv K prog S (pc + 3) lv (.long (S.2.1 2 0) :: rest)) : Tj p l e R s m args below meth c D (wdR cI cJ cZ cL a) A nL vv K prog S pc lv (.ref (a 0) :: rest) := j_get (ci := 7) (ref := "AutoTellerModel") C 0 15 in_R rfl rfl rfl (by decide) rfl hl d h
theorem pR_R_stackedWorth (C : Cx p s m args meth c own cc nL rt D (tyT cI cJ cZ cL) (wdR cI cJ cZ cL a) A) {index : Nat} {v : Int64} (hl : Cond.fieldLink own index "AutoTellerModel" "stackedWorth" "J" ∈ wU) (d : decode cc pc = .ok (.putfield index, 3)) (h : Tj p l e R s m args below meth c D (wdR cI cJ cZ cL a) A nL vv K prog (sL S 2 0 v) (pc + 3) lv rest) : Tj p l e R s m args below meth c D (wdR cI cJ cZ cL a) A nL vv K prog S pc lv (.long v :: .ref (a 0) :: rest) := j_put (ci := 7) (ref := "AutoTellerModel") (ty := .long) C 0 15 in_R tk_R nm_R rfl rfl (Nat.le_of_ble_eq_true rfl) rfl (by decide) rfl rfl (by decide +kernel) rfl rfl hl d h
theorem gR_R_trayWorth (C : Cx p s m args meth c own cc nL rt D (tyT cI cJ cZ cL) (wdR cI cJ cZ cL a) A) {index : Nat} (hl : Cond.fieldLink own index "AutoTellerModel" "trayWorth" "J" ∈ wU) (d : decode cc pc = .ok (.getfield index, 3)) (h : Tj p l e R s m args below meth c D (wdR cI cJ cZ cL a) A nL vv K prog S (pc + 3) lv (.long (S.2.1 3 0) :: rest)) : Tj p l e R s m args below meth c D (wdR cI cJ cZ cL a) A nL vv K prog S pc lv (.ref (a 0) :: rest) := j_get (ci := 7) (ref := "AutoTellerModel") C 0 16 in_R rfl rfl rfl (by decide) rfl hl d h
theorem pR_R_trayWorth (C : Cx p s m args meth c own cc nL rt D (tyT cI cJ cZ cL) (wdR cI cJ cZ cL a) A) {index : Nat} {v : Int64} (hl : Cond.fieldLink own index "AutoTellerModel" "trayWorth" "J" ∈ wU) (d : decode cc pc = .ok (.putfield index, 3)) (h : Tj p l e R s m args below meth c D (wdR cI cJ cZ cL a) A nL vv K prog (sL S 3 0 v) (pc + 3) lv rest) : Tj p l e R s m args below meth c D (wdR cI cJ cZ cL a) A nL vv K prog S pc lv (.long v :: .ref (a 0) :: rest) := j_put (ci := 7) (ref := "AutoTellerModel") (ty := .long) C 0 16 in_R tk_R nm_R rfl rfl (Nat.le_of_ble_eq_true rfl) rfl (by decide) rfl rfl (by decide +kernel) rfl rfl hl d h
theorem gR_R_everWorth (C : Cx p s m args meth c own cc nL rt D (tyT cI cJ cZ cL) (wdR cI cJ cZ cL a) A) {index : Nat} (hl : Cond.fieldLink own index "AutoTellerModel" "everWorth" "J" ∈ wU) (d : decode cc pc = .ok (.getfield index, 3)) (h : Tj p l e R s m args below meth c D (wdR cI cJ cZ cL a) A nL vv K prog S (pc + 3) lv (.long (S.2.1 4 0) :: rest)) : Tj p l e R s m args below meth c D (wdR cI cJ cZ cL a) A nL vv K prog S pc lv (.ref (a 0) :: rest) := j_get (ci := 7) (ref := "AutoTellerModel") C 0 17 in_R rfl rfl rfl (by decide) rfl hl d h
theorem pR_R_everWorth (C : Cx p s m args meth c own cc nL rt D (tyT cI cJ cZ cL) (wdR cI cJ cZ cL a) A) {index : Nat} {v : Int64} (hl : Cond.fieldLink own index "AutoTellerModel" "everWorth" "J" ∈ wU) (d : decode cc pc = .ok (.putfield index, 3)) (h : Tj p l e R s m args below meth c D (wdR cI cJ cZ cL a) A nL vv K prog (sL S 4 0 v) (pc + 3) lv rest) : Tj p l e R s m args below meth c D (wdR cI cJ cZ cL a) A nL vv K prog S pc lv (.long v :: .ref (a 0) :: rest) := j_put (ci := 7) (ref := "AutoTellerModel") (ty := .long) C 0 17 in_R tk_R nm_R rfl rfl (Nat.le_of_ble_eq_true rfl) rfl (by decide) rfl rfl (by decide +kernel) rfl rfl hl d h
theorem gR_R_isKept (C : Cx p s m args meth c own cc nL rt D (tyT cI cJ cZ cL) (wdR cI cJ cZ cL a) A) {index : Nat} (hl : Cond.fieldLink own index "AutoTellerModel" "isKept" "[Z" ∈ wU) (d : decode cc pc = .ok (.getfield index, 3)) (h : Tj p l e R s m args below meth c D (wdR cI cJ cZ cL a) A nL vv K prog S (pc + 3) lv (.ref (a 15) :: rest)) : Tj p l e R s m args below meth c D (wdR cI cJ cZ cL a) A nL vv K prog S pc lv (.ref (a 0) :: rest) := j_get (ci := 7) (ref := "AutoTellerModel") C 0 18 in_R rfl rfl rfl (by decide) rfl hl d h
theorem gR_R_records (C : Cx p s m args meth c own cc nL rt D (tyT cI cJ cZ cL) (wdR cI cJ cZ cL a) A) {index : Nat} (hl : Cond.fieldLink own index "AutoTellerModel" "records" "[I" ∈ wU) (d : decode cc pc = .ok (.getfield index, 3)) (h : Tj p l e R s m args below meth c D (wdR cI cJ cZ cL a) A nL vv K prog S (pc + 3) lv (.ref (a 16) :: rest)) : Tj p l e R s m args below meth c D (wdR cI cJ cZ cL a) A nL vv K prog S pc lv (.ref (a 0) :: rest) := j_get (ci := 7) (ref := "AutoTellerModel") C 0 19 in_R rfl rfl rfl (by decide) rfl hl d h
theorem gR_R_recordCount (C : Cx p s m args meth c own cc nL rt D (tyT cI cJ cZ cL) (wdR cI cJ cZ cL a) A) {index : Nat} (hl : Cond.fieldLink own index "AutoTellerModel" "recordCount" "I" ∈ wU) (d : decode cc pc = .ok (.getfield index, 3)) (h : Tj p l e R s m args below meth c D (wdR cI cJ cZ cL a) A nL vv K prog S (pc + 3) lv (.int (S.1 15 0) :: rest)) : Tj p l e R s m args below meth c D (wdR cI cJ cZ cL a) A nL vv K prog S pc lv (.ref (a 0) :: rest) := j_get (ci := 7) (ref := "AutoTellerModel") C 0 20 in_R rfl rfl rfl (by decide) rfl hl d h
theorem pR_R_recordCount (C : Cx p s m args meth c own cc nL rt D (tyT cI cJ cZ cL) (wdR cI cJ cZ cL a) A) {index : Nat} {v : Int32} (hl : Cond.fieldLink own index "AutoTellerModel" "recordCount" "I" ∈ wU) (d : decode cc pc = .ok (.putfield index, 3)) (h : Tj p l e R s m args below meth c D (wdR cI cJ cZ cL a) A nL vv K prog (sI S 15 0 v) (pc + 3) lv rest) : Tj p l e R s m args below meth c D (wdR cI cJ cZ cL a) A nL vv K prog S pc lv (.int v :: .ref (a 0) :: rest) := j_put (ci := 7) (ref := "AutoTellerModel") (ty := .int) C 0 20 in_R tk_R nm_R rfl rfl (Nat.le_of_ble_eq_true rfl) rfl (by decide) rfl rfl (by decide +kernel) rfl rfl hl d h
theorem gR_R_nextTrace (C : Cx p s m args meth c own cc nL rt D (tyT cI cJ cZ cL) (wdR cI cJ cZ cL a) A) {index : Nat} (hl : Cond.fieldLink own index "AutoTellerModel" "nextTrace" "I" ∈ wU) (d : decode cc pc = .ok (.getfield index, 3)) (h : Tj p l e R s m args below meth c D (wdR cI cJ cZ cL a) A nL vv K prog S (pc + 3) lv (.int (S.1 16 0) :: rest)) : Tj p l e R s m args below meth c D (wdR cI cJ cZ cL a) A nL vv K prog S pc lv (.ref (a 0) :: rest) := j_get (ci := 7) (ref := "AutoTellerModel") C 0 21 in_R rfl rfl rfl (by decide) rfl hl d h
theorem pR_R_nextTrace (C : Cx p s m args meth c own cc nL rt D (tyT cI cJ cZ cL) (wdR cI cJ cZ cL a) A) {index : Nat} {v : Int32} (hl : Cond.fieldLink own index "AutoTellerModel" "nextTrace" "I" ∈ wU) (d : decode cc pc = .ok (.putfield index, 3)) (h : Tj p l e R s m args below meth c D (wdR cI cJ cZ cL a) A nL vv K prog (sI S 16 0 v) (pc + 3) lv rest) : Tj p l e R s m args below meth c D (wdR cI cJ cZ cL a) A nL vv K prog S pc lv (.int v :: .ref (a 0) :: rest) := j_put (ci := 7) (ref := "AutoTellerModel") (ty := .int) C 0 21 in_R tk_R nm_R rfl rfl (Nat.le_of_ble_eq_true rfl) rfl (by decide) rfl rfl (by decide +kernel) rfl rfl hl d h
theorem gR_R_openings (C : Cx p s m args meth c own cc nL rt D (tyT cI cJ cZ cL) (wdR cI cJ cZ cL a) A) {index : Nat} (hl : Cond.fieldLink own index "AutoTellerModel" "openings" "I" ∈ wU) (d : decode cc pc = .ok (.getfield index, 3)) (h : Tj p l e R s m args below meth c D (wdR cI cJ cZ cL a) A nL vv K prog S (pc + 3) lv (.int (S.1 17 0) :: rest)) : Tj p l e R s m args below meth c D (wdR cI cJ cZ cL a) A nL vv K prog S pc lv (.ref (a 0) :: rest) := j_get (ci := 7) (ref := "AutoTellerModel") C 0 22 in_R rfl rfl rfl (by decide) rfl hl d h
theorem pR_R_openings (C : Cx p s m args meth c own cc nL rt D (tyT cI cJ cZ cL) (wdR cI cJ cZ cL a) A) {index : Nat} {v : Int32} (hl : Cond.fieldLink own index "AutoTellerModel" "openings" "I" ∈ wU) (d : decode cc pc = .ok (.putfield index, 3)) (h : Tj p l e R s m args below meth c D (wdR cI cJ cZ cL a) A nL vv K prog (sI S 17 0 v) (pc + 3) lv rest) : Tj p l e R s m args below meth c D (wdR cI cJ cZ cL a) A nL vv K prog S pc lv (.int v :: .ref (a 0) :: rest) := j_put (ci := 7) (ref := "AutoTellerModel") (ty := .int) C 0 22 in_R tk_R nm_R rfl rfl (Nat.le_of_ble_eq_true rfl) rfl (by decide) rfl rfl (by decide +kernel) rfl rfl hl d h
theorem gR_R_isOn (C : Cx p s m args meth c own cc nL rt D (tyT cI cJ cZ cL) (wdR cI cJ cZ cL a) A) {index : Nat} (hl : Cond.fieldLink own index "AutoTellerModel" "isOn" "Z" ∈ wU) (d : decode cc pc = .ok (.getfield index, 3)) (h : Tj p l e R s m args below meth c D (wdR cI cJ cZ cL a) A nL vv K prog S (pc + 3) lv (.int (S.1 18 0) :: rest)) : Tj p l e R s m args below meth c D (wdR cI cJ cZ cL a) A nL vv K prog S pc lv (.ref (a 0) :: rest) := j_get (ci := 7) (ref := "AutoTellerModel") C 0 23 in_R rfl rfl rfl (by decide) rfl hl d h
theorem pR_R_isOn (C : Cx p s m args meth c own cc nL rt D (tyT cI cJ cZ cL) (wdR cI cJ cZ cL a) A) {index : Nat} {v : Int32} (hz : v = 0 ∨ v = 1) (hl : Cond.fieldLink own index "AutoTellerModel" "isOn" "Z" ∈ wU) (d : decode cc pc = .ok (.putfield index, 3)) (h : Tj p l e R s m args below meth c D (wdR cI cJ cZ cL a) A nL vv K prog (sI S 18 0 v) (pc + 3) lv rest) : Tj p l e R s m args below meth c D (wdR cI cJ cZ cL a) A nL vv K prog S pc lv (.int v :: .ref (a 0) :: rest) := j_put (ci := 7) (ref := "AutoTellerModel") (ty := .boolean) C 0 23 in_R tk_R nm_R rfl rfl (Nat.le_of_ble_eq_true rfl) rfl (by decide) rfl rfl (by decide +kernel) (by rcases hz with rfl | rfl <;> rfl) (by rcases hz with rfl | rfl <;> rfl) hl d h
theorem gR_R_armed (C : Cx p s m args meth c own cc nL rt D (tyT cI cJ cZ cL) (wdR cI cJ cZ cL a) A) {index : Nat} (hl : Cond.fieldLink own index "AutoTellerModel" "armed" "I" ∈ wU) (d : decode cc pc = .ok (.getfield index, 3)) (h : Tj p l e R s m args below meth c D (wdR cI cJ cZ cL a) A nL vv K prog S (pc + 3) lv (.int (S.1 19 0) :: rest)) : Tj p l e R s m args below meth c D (wdR cI cJ cZ cL a) A nL vv K prog S pc lv (.ref (a 0) :: rest) := j_get (ci := 7) (ref := "AutoTellerModel") C 0 24 in_R rfl rfl rfl (by decide) rfl hl d h
theorem pR_R_armed (C : Cx p s m args meth c own cc nL rt D (tyT cI cJ cZ cL) (wdR cI cJ cZ cL a) A) {index : Nat} {v : Int32} (hl : Cond.fieldLink own index "AutoTellerModel" "armed" "I" ∈ wU) (d : decode cc pc = .ok (.putfield index, 3)) (h : Tj p l e R s m args below meth c D (wdR cI cJ cZ cL a) A nL vv K prog (sI S 19 0 v) (pc + 3) lv rest) : Tj p l e R s m args below meth c D (wdR cI cJ cZ cL a) A nL vv K prog S pc lv (.int v :: .ref (a 0) :: rest) := j_put (ci := 7) (ref := "AutoTellerModel") (ty := .int) C 0 24 in_R tk_R nm_R rfl rfl (Nat.le_of_ble_eq_true rfl) rfl (by decide) rfl rfl (by decide +kernel) rfl rfl hl d h
theorem gR_R_phase (C : Cx p s m args meth c own cc nL rt D (tyT cI cJ cZ cL) (wdR cI cJ cZ cL a) A) {index : Nat} (hl : Cond.fieldLink own index "AutoTellerModel" "phase" "I" ∈ wU) (d : decode cc pc = .ok (.getfield index, 3)) (h : Tj p l e R s m args below meth c D (wdR cI cJ cZ cL a) A nL vv K prog S (pc + 3) lv (.int (S.1 20 0) :: rest)) : Tj p l e R s m args below meth c D (wdR cI cJ cZ cL a) A nL vv K prog S pc lv (.ref (a 0) :: rest) := j_get (ci := 7) (ref := "AutoTellerModel") C 0 25 in_R rfl rfl rfl (by decide) rfl hl d h
theorem pR_R_phase (C : Cx p s m args meth c own cc nL rt D (tyT cI cJ cZ cL) (wdR cI cJ cZ cL a) A) {index : Nat} {v : Int32} (hl : Cond.fieldLink own index "AutoTellerModel" "phase" "I" ∈ wU) (d : decode cc pc = .ok (.putfield index, 3)) (h : Tj p l e R s m args below meth c D (wdR cI cJ cZ cL a) A nL vv K prog (sI S 20 0 v) (pc + 3) lv rest) : Tj p l e R s m args below meth c D (wdR cI cJ cZ cL a) A nL vv K prog S pc lv (.int v :: .ref (a 0) :: rest) := j_put (ci := 7) (ref := "AutoTellerModel") (ty := .int) C 0 25 in_R tk_R nm_R rfl rfl (Nat.le_of_ble_eq_true rfl) rfl (by decide) rfl rfl (by decide +kernel) rfl rfl hl d h
theorem gR_R_slotCard (C : Cx p s m args meth c own cc nL rt D (tyT cI cJ cZ cL) (wdR cI cJ cZ cL a) A) {index : Nat} (hl : Cond.fieldLink own index "AutoTellerModel" "slotCard" "I" ∈ wU) (d : decode cc pc = .ok (.getfield index, 3)) (h : Tj p l e R s m args below meth c D (wdR cI cJ cZ cL a) A nL vv K prog S (pc + 3) lv (.int (S.1 21 0) :: rest)) : Tj p l e R s m args below meth c D (wdR cI cJ cZ cL a) A nL vv K prog S pc lv (.ref (a 0) :: rest) := j_get (ci := 7) (ref := "AutoTellerModel") C 0 26 in_R rfl rfl rfl (by decide) rfl hl d h
theorem pR_R_slotCard (C : Cx p s m args meth c own cc nL rt D (tyT cI cJ cZ cL) (wdR cI cJ cZ cL a) A) {index : Nat} {v : Int32} (hl : Cond.fieldLink own index "AutoTellerModel" "slotCard" "I" ∈ wU) (d : decode cc pc = .ok (.putfield index, 3)) (h : Tj p l e R s m args below meth c D (wdR cI cJ cZ cL a) A nL vv K prog (sI S 21 0 v) (pc + 3) lv rest) : Tj p l e R s m args below meth c D (wdR cI cJ cZ cL a) A nL vv K prog S pc lv (.int v :: .ref (a 0) :: rest) := j_put (ci := 7) (ref := "AutoTellerModel") (ty := .int) C 0 26 in_R tk_R nm_R rfl rfl (Nat.le_of_ble_eq_true rfl) rfl (by decide) rfl rfl (by decide +kernel) rfl rfl hl d h
theorem gR_R_trace (C : Cx p s m args meth c own cc nL rt D (tyT cI cJ cZ cL) (wdR cI cJ cZ cL a) A) {index : Nat} (hl : Cond.fieldLink own index "AutoTellerModel" "trace" "I" ∈ wU) (d : decode cc pc = .ok (.getfield index, 3)) (h : Tj p l e R s m args below meth c D (wdR cI cJ cZ cL a) A nL vv K prog S (pc + 3) lv (.int (S.1 22 0) :: rest)) : Tj p l e R s m args below meth c D (wdR cI cJ cZ cL a) A nL vv K prog S pc lv (.ref (a 0) :: rest) := j_get (ci := 7) (ref := "AutoTellerModel") C 0 27 in_R rfl rfl rfl (by decide) rfl hl d h
theorem pR_R_trace (C : Cx p s m args meth c own cc nL rt D (tyT cI cJ cZ cL) (wdR cI cJ cZ cL a) A) {index : Nat} {v : Int32} (hl : Cond.fieldLink own index "AutoTellerModel" "trace" "I" ∈ wU) (d : decode cc pc = .ok (.putfield index, 3)) (h : Tj p l e R s m args below meth c D (wdR cI cJ cZ cL a) A nL vv K prog (sI S 22 0 v) (pc + 3) lv rest) : Tj p l e R s m args below meth c D (wdR cI cJ cZ cL a) A nL vv K prog S pc lv (.int v :: .ref (a 0) :: rest) := j_put (ci := 7) (ref := "AutoTellerModel") (ty := .int) C 0 27 in_R tk_R nm_R rfl rfl (Nat.le_of_ble_eq_true rfl) rfl (by decide) rfl rfl (by decide +kernel) rfl rfl hl d h
theorem gR_R_cardAtHand (C : Cx p s m args meth c own cc nL rt D (tyT cI cJ cZ cL) (wdR cI cJ cZ cL a) A) {index : Nat} (hl : Cond.fieldLink own index "AutoTellerModel" "cardAtHand" "I" ∈ wU) (d : decode cc pc = .ok (.getfield index, 3)) (h : Tj p l e R s m args below meth c D (wdR cI cJ cZ cL a) A nL vv K prog S (pc + 3) lv (.int (S.1 23 0) :: rest)) : Tj p l e R s m args below meth c D (wdR cI cJ cZ cL a) A nL vv K prog S pc lv (.ref (a 0) :: rest) := j_get (ci := 7) (ref := "AutoTellerModel") C 0 28 in_R rfl rfl rfl (by decide) rfl hl d h
theorem pR_R_cardAtHand (C : Cx p s m args meth c own cc nL rt D (tyT cI cJ cZ cL) (wdR cI cJ cZ cL a) A) {index : Nat} {v : Int32} (hl : Cond.fieldLink own index "AutoTellerModel" "cardAtHand" "I" ∈ wU) (d : decode cc pc = .ok (.putfield index, 3)) (h : Tj p l e R s m args below meth c D (wdR cI cJ cZ cL a) A nL vv K prog (sI S 23 0 v) (pc + 3) lv rest) : Tj p l e R s m args below meth c D (wdR cI cJ cZ cL a) A nL vv K prog S pc lv (.int v :: .ref (a 0) :: rest) := j_put (ci := 7) (ref := "AutoTellerModel") (ty := .int) C 0 28 in_R tk_R nm_R rfl rfl (Nat.le_of_ble_eq_true rfl) rfl (by decide) rfl rfl (by decide +kernel) rfl rfl hl d h
theorem gR_R_amount (C : Cx p s m args meth c own cc nL rt D (tyT cI cJ cZ cL) (wdR cI cJ cZ cL a) A) {index : Nat} (hl : Cond.fieldLink own index "AutoTellerModel" "amount" "I" ∈ wU) (d : decode cc pc = .ok (.getfield index, 3)) (h : Tj p l e R s m args below meth c D (wdR cI cJ cZ cL a) A nL vv K prog S (pc + 3) lv (.int (S.1 24 0) :: rest)) : Tj p l e R s m args below meth c D (wdR cI cJ cZ cL a) A nL vv K prog S pc lv (.ref (a 0) :: rest) := j_get (ci := 7) (ref := "AutoTellerModel") C 0 29 in_R rfl rfl rfl (by decide) rfl hl d h
theorem pR_R_amount (C : Cx p s m args meth c own cc nL rt D (tyT cI cJ cZ cL) (wdR cI cJ cZ cL a) A) {index : Nat} {v : Int32} (hl : Cond.fieldLink own index "AutoTellerModel" "amount" "I" ∈ wU) (d : decode cc pc = .ok (.putfield index, 3)) (h : Tj p l e R s m args below meth c D (wdR cI cJ cZ cL a) A nL vv K prog (sI S 24 0 v) (pc + 3) lv rest) : Tj p l e R s m args below meth c D (wdR cI cJ cZ cL a) A nL vv K prog S pc lv (.int v :: .ref (a 0) :: rest) := j_put (ci := 7) (ref := "AutoTellerModel") (ty := .int) C 0 29 in_R tk_R nm_R rfl rfl (Nat.le_of_ble_eq_true rfl) rfl (by decide) rfl rfl (by decide +kernel) rfl rfl hl d h
theorem gR_R_line (C : Cx p s m args meth c own cc nL rt D (tyT cI cJ cZ cL) (wdR cI cJ cZ cL a) A) {index : Nat} (hl : Cond.fieldLink own index "AutoTellerModel" "line" "[I" ∈ wU) (d : decode cc pc = .ok (.getfield index, 3)) (h : Tj p l e R s m args below meth c D (wdR cI cJ cZ cL a) A nL vv K prog S (pc + 3) lv (.ref (a 17) :: rest)) : Tj p l e R s m args below meth c D (wdR cI cJ cZ cL a) A nL vv K prog S pc lv (.ref (a 0) :: rest) := j_get (ci := 7) (ref := "AutoTellerModel") C 0 30 in_R rfl rfl rfl (by decide) rfl hl d h
theorem gR_R_flying (C : Cx p s m args meth c own cc nL rt D (tyT cI cJ cZ cL) (wdR cI cJ cZ cL a) A) {index : Nat} (hl : Cond.fieldLink own index "AutoTellerModel" "flying" "I" ∈ wU) (d : decode cc pc = .ok (.getfield index, 3)) (h : Tj p l e R s m args below meth c D (wdR cI cJ cZ cL a) A nL vv K prog S (pc + 3) lv (.int (S.1 26 0) :: rest)) : Tj p l e R s m args below meth c D (wdR cI cJ cZ cL a) A nL vv K prog S pc lv (.ref (a 0) :: rest) := j_get (ci := 7) (ref := "AutoTellerModel") C 0 31 in_R rfl rfl rfl (by decide) rfl hl d h
theorem pR_R_flying (C : Cx p s m args meth c own cc nL rt D (tyT cI cJ cZ cL) (wdR cI cJ cZ cL a) A) {index : Nat} {v : Int32} (hl : Cond.fieldLink own index "AutoTellerModel" "flying" "I" ∈ wU) (d : decode cc pc = .ok (.putfield index, 3)) (h : Tj p l e R s m args below meth c D (wdR cI cJ cZ cL a) A nL vv K prog (sI S 26 0 v) (pc + 3) lv rest) : Tj p l e R s m args below meth c D (wdR cI cJ cZ cL a) A nL vv K prog S pc lv (.int v :: .ref (a 0) :: rest) := j_put (ci := 7) (ref := "AutoTellerModel") (ty := .int) C 0 31 in_R tk_R nm_R rfl rfl (Nat.le_of_ble_eq_true rfl) rfl (by decide) rfl rfl (by decide +kernel) rfl rfl hl d h
theorem gR_R_dropped (C : Cx p s m args meth c own cc nL rt D (tyT cI cJ cZ cL) (wdR cI cJ cZ cL a) A) {index : Nat} (hl : Cond.fieldLink own index "AutoTellerModel" "dropped" "I" ∈ wU) (d : decode cc pc = .ok (.getfield index, 3)) (h : Tj p l e R s m args below meth c D (wdR cI cJ cZ cL a) A nL vv K prog S (pc + 3) lv (.int (S.1 27 0) :: rest)) : Tj p l e R s m args below meth c D (wdR cI cJ cZ cL a) A nL vv K prog S pc lv (.ref (a 0) :: rest) := j_get (ci := 7) (ref := "AutoTellerModel") C 0 32 in_R rfl rfl rfl (by decide) rfl hl d h
theorem pR_R_dropped (C : Cx p s m args meth c own cc nL rt D (tyT cI cJ cZ cL) (wdR cI cJ cZ cL a) A) {index : Nat} {v : Int32} (hl : Cond.fieldLink own index "AutoTellerModel" "dropped" "I" ∈ wU) (d : decode cc pc = .ok (.putfield index, 3)) (h : Tj p l e R s m args below meth c D (wdR cI cJ cZ cL a) A nL vv K prog (sI S 27 0 v) (pc + 3) lv rest) : Tj p l e R s m args below meth c D (wdR cI cJ cZ cL a) A nL vv K prog S pc lv (.int v :: .ref (a 0) :: rest) := j_put (ci := 7) (ref := "AutoTellerModel") (ty := .int) C 0 32 in_R tk_R nm_R rfl rfl (Nat.le_of_ble_eq_true rfl) rfl (by decide) rfl rfl (by decide +kernel) rfl rfl hl d h
theorem gR_R_lost (C : Cx p s m args meth c own cc nL rt D (tyT cI cJ cZ cL) (wdR cI cJ cZ cL a) A) {index : Nat} (hl : Cond.fieldLink own index "AutoTellerModel" "lost" "I" ∈ wU) (d : decode cc pc = .ok (.getfield index, 3)) (h : Tj p l e R s m args below meth c D (wdR cI cJ cZ cL a) A nL vv K prog S (pc + 3) lv (.int (S.1 28 0) :: rest)) : Tj p l e R s m args below meth c D (wdR cI cJ cZ cL a) A nL vv K prog S pc lv (.ref (a 0) :: rest) := j_get (ci := 7) (ref := "AutoTellerModel") C 0 33 in_R rfl rfl rfl (by decide) rfl hl d h
theorem pR_R_lost (C : Cx p s m args meth c own cc nL rt D (tyT cI cJ cZ cL) (wdR cI cJ cZ cL a) A) {index : Nat} {v : Int32} (hl : Cond.fieldLink own index "AutoTellerModel" "lost" "I" ∈ wU) (d : decode cc pc = .ok (.putfield index, 3)) (h : Tj p l e R s m args below meth c D (wdR cI cJ cZ cL a) A nL vv K prog (sI S 28 0 v) (pc + 3) lv rest) : Tj p l e R s m args below meth c D (wdR cI cJ cZ cL a) A nL vv K prog S pc lv (.int v :: .ref (a 0) :: rest) := j_put (ci := 7) (ref := "AutoTellerModel") (ty := .int) C 0 33 in_R tk_R nm_R rfl rfl (Nat.le_of_ble_eq_true rfl) rfl (by decide) rfl rfl (by decide +kernel) rfl rfl hl d h
theorem gR_R_letter (C : Cx p s m args meth c own cc nL rt D (tyT cI cJ cZ cL) (wdR cI cJ cZ cL a) A) {index : Nat} (hl : Cond.fieldLink own index "AutoTellerModel" "letter" "[I" ∈ wU) (d : decode cc pc = .ok (.getfield index, 3)) (h : Tj p l e R s m args below meth c D (wdR cI cJ cZ cL a) A nL vv K prog S (pc + 3) lv (.ref (a 18) :: rest)) : Tj p l e R s m args below meth c D (wdR cI cJ cZ cL a) A nL vv K prog S pc lv (.ref (a 0) :: rest) := j_get (ci := 7) (ref := "AutoTellerModel") C 0 34 in_R rfl rfl rfl (by decide) rfl hl d h
theorem gR_R_mixed (C : Cx p s m args meth c own cc nL rt D (tyT cI cJ cZ cL) (wdR cI cJ cZ cL a) A) {index : Nat} (hl : Cond.fieldLink own index "AutoTellerModel" "mixed" "[I" ∈ wU) (d : decode cc pc = .ok (.getfield index, 3)) (h : Tj p l e R s m args below meth c D (wdR cI cJ cZ cL a) A nL vv K prog S (pc + 3) lv (.ref (a 19) :: rest)) : Tj p l e R s m args below meth c D (wdR cI cJ cZ cL a) A nL vv K prog S pc lv (.ref (a 0) :: rest) := j_get (ci := 7) (ref := "AutoTellerModel") C 0 35 in_R rfl rfl rfl (by decide) rfl hl d h
theorem zR_R_balances (C : Cx p s m args meth c own cc nL rt D (tyT cI cJ cZ cL) (wdR cI cJ cZ cL a) A) (d : decode cc pc = .ok (.arraylength, 1)) (h : Tj p l e R s m args below meth c D (wdR cI cJ cZ cL a) A nL vv K prog S (pc + 1) lv (.int 8 :: rest)) : Tj p l e R s m args below meth c D (wdR cI cJ cZ cL a) A nL vv K prog S pc lv (.ref (a 1) :: rest) := j_alen C 1 1 rfl rfl rfl d h
theorem lR_R_balances (C : Cx p s m args meth c own cc nL rt D (tyT cI cJ cZ cL) (wdR cI cJ cZ cL a) A) {i : Int32} (hin : ¬ (i < 0 ∨ 8 ≤ i.toNatClampNeg)) (d : decode cc pc = .ok (.laload, 1)) (h : Tj p l e R s m args below meth c D (wdR cI cJ cZ cL a) A nL vv K prog S (pc + 1) lv (.long (S.2.1 0 i.toNatClampNeg) :: rest)) : Tj p l e R s m args below meth c D (wdR cI cJ cZ cL a) A nL vv K prog S pc lv (.int i :: .ref (a 1) :: rest) := j_lald C 1 1 rfl rfl hin d h
theorem sR_R_balances (C : Cx p s m args meth c own cc nL rt D (tyT cI cJ cZ cL) (wdR cI cJ cZ cL a) A) {i : Int32} {v : Int64} (hin : ¬ (i < 0 ∨ 8 ≤ i.toNatClampNeg)) (d : decode cc pc = .ok (.lastore, 1)) (h : Tj p l e R s m args below meth c D (wdR cI cJ cZ cL a) A nL vv K prog (sL S 0 i.toNatClampNeg v) (pc + 1) lv rest) : Tj p l e R s m args below meth c D (wdR cI cJ cZ cL a) A nL vv K prog S pc lv (.long v :: .int i :: .ref (a 1) :: rest) := j_last C 1 1 rfl rfl rfl hin d h
theorem zR_R_accountOf (C : Cx p s m args meth c own cc nL rt D (tyT cI cJ cZ cL) (wdR cI cJ cZ cL a) A) (d : decode cc pc = .ok (.arraylength, 1)) (h : Tj p l e R s m args below meth c D (wdR cI cJ cZ cL a) A nL vv K prog S (pc + 1) lv (.int 16 :: rest)) : Tj p l e R s m args below meth c D (wdR cI cJ cZ cL a) A nL vv K prog S pc lv (.ref (a 2) :: rest) := j_alen C 2 0 rfl rfl rfl d h
theorem lR_R_accountOf (C : Cx p s m args meth c own cc nL rt D (tyT cI cJ cZ cL) (wdR cI cJ cZ cL a) A) {i : Int32} (hin : ¬ (i < 0 ∨ 16 ≤ i.toNatClampNeg)) (d : decode cc pc = .ok (.iaload, 1)) (h : Tj p l e R s m args below meth c D (wdR cI cJ cZ cL a) A nL vv K prog S (pc + 1) lv (.int (S.1 0 i.toNatClampNeg) :: rest)) : Tj p l e R s m args below meth c D (wdR cI cJ cZ cL a) A nL vv K prog S pc lv (.int i :: .ref (a 2) :: rest) := j_iald C 2 0 rfl rfl hin d h
theorem sR_R_accountOf (C : Cx p s m args meth c own cc nL rt D (tyT cI cJ cZ cL) (wdR cI cJ cZ cL a) A) {i v : Int32} (hin : ¬ (i < 0 ∨ 16 ≤ i.toNatClampNeg)) (d : decode cc pc = .ok (.iastore, 1)) (h : Tj p l e R s m args below meth c D (wdR cI cJ cZ cL a) A nL vv K prog (sI S 0 i.toNatClampNeg v) (pc + 1) lv rest) : Tj p l e R s m args below meth c D (wdR cI cJ cZ cL a) A nL vv K prog S pc lv (.int v :: .int i :: .ref (a 2) :: rest) := j_iast C 2 0 rfl rfl rfl hin d h
theorem zR_R_pinOf (C : Cx p s m args meth c own cc nL rt D (tyT cI cJ cZ cL) (wdR cI cJ cZ cL a) A) (d : decode cc pc = .ok (.arraylength, 1)) (h : Tj p l e R s m args below meth c D (wdR cI cJ cZ cL a) A nL vv K prog S (pc + 1) lv (.int 16 :: rest)) : Tj p l e R s m args below meth c D (wdR cI cJ cZ cL a) A nL vv K prog S pc lv (.ref (a 3) :: rest) := j_alen C 3 0 rfl rfl rfl d h
theorem lR_R_pinOf (C : Cx p s m args meth c own cc nL rt D (tyT cI cJ cZ cL) (wdR cI cJ cZ cL a) A) {i : Int32} (hin : ¬ (i < 0 ∨ 16 ≤ i.toNatClampNeg)) (d : decode cc pc = .ok (.iaload, 1)) (h : Tj p l e R s m args below meth c D (wdR cI cJ cZ cL a) A nL vv K prog S (pc + 1) lv (.int (S.1 1 i.toNatClampNeg) :: rest)) : Tj p l e R s m args below meth c D (wdR cI cJ cZ cL a) A nL vv K prog S pc lv (.int i :: .ref (a 3) :: rest) := j_iald C 3 0 rfl rfl hin d h
theorem sR_R_pinOf (C : Cx p s m args meth c own cc nL rt D (tyT cI cJ cZ cL) (wdR cI cJ cZ cL a) A) {i v : Int32} (hin : ¬ (i < 0 ∨ 16 ≤ i.toNatClampNeg)) (d : decode cc pc = .ok (.iastore, 1)) (h : Tj p l e R s m args below meth c D (wdR cI cJ cZ cL a) A nL vv K prog (sI S 1 i.toNatClampNeg v) (pc + 1) lv rest) : Tj p l e R s m args below meth c D (wdR cI cJ cZ cL a) A nL vv K prog S pc lv (.int v :: .int i :: .ref (a 3) :: rest) := j_iast C 3 0 rfl rfl rfl hin d h
theorem zR_R_tries (C : Cx p s m args meth c own cc nL rt D (tyT cI cJ cZ cL) (wdR cI cJ cZ cL a) A) (d : decode cc pc = .ok (.arraylength, 1)) (h : Tj p l e R s m args below meth c D (wdR cI cJ cZ cL a) A nL vv K prog S (pc + 1) lv (.int 16 :: rest)) : Tj p l e R s m args below meth c D (wdR cI cJ cZ cL a) A nL vv K prog S pc lv (.ref (a 4) :: rest) := j_alen C 4 0 rfl rfl rfl d h
theorem lR_R_tries (C : Cx p s m args meth c own cc nL rt D (tyT cI cJ cZ cL) (wdR cI cJ cZ cL a) A) {i : Int32} (hin : ¬ (i < 0 ∨ 16 ≤ i.toNatClampNeg)) (d : decode cc pc = .ok (.iaload, 1)) (h : Tj p l e R s m args below meth c D (wdR cI cJ cZ cL a) A nL vv K prog S (pc + 1) lv (.int (S.1 2 i.toNatClampNeg) :: rest)) : Tj p l e R s m args below meth c D (wdR cI cJ cZ cL a) A nL vv K prog S pc lv (.int i :: .ref (a 4) :: rest) := j_iald C 4 0 rfl rfl hin d h
theorem sR_R_tries (C : Cx p s m args meth c own cc nL rt D (tyT cI cJ cZ cL) (wdR cI cJ cZ cL a) A) {i v : Int32} (hin : ¬ (i < 0 ∨ 16 ≤ i.toNatClampNeg)) (d : decode cc pc = .ok (.iastore, 1)) (h : Tj p l e R s m args below meth c D (wdR cI cJ cZ cL a) A nL vv K prog (sI S 2 i.toNatClampNeg v) (pc + 1) lv rest) : Tj p l e R s m args below meth c D (wdR cI cJ cZ cL a) A nL vv K prog S pc lv (.int v :: .int i :: .ref (a 4) :: rest) := j_iast C 4 0 rfl rfl rfl hin d h
theorem zR_R_pinCode (C : Cx p s m args meth c own cc nL rt D (tyT cI cJ cZ cL) (wdR cI cJ cZ cL a) A) (d : decode cc pc = .ok (.arraylength, 1)) (h : Tj p l e R s m args below meth c D (wdR cI cJ cZ cL a) A nL vv K prog S (pc + 1) lv (.int 2001 :: rest)) : Tj p l e R s m args below meth c D (wdR cI cJ cZ cL a) A nL vv K prog S pc lv (.ref (a 5) :: rest) := j_alen C 5 0 rfl rfl rfl d h
theorem lR_R_pinCode (C : Cx p s m args meth c own cc nL rt D (tyT cI cJ cZ cL) (wdR cI cJ cZ cL a) A) {i : Int32} (hin : ¬ (i < 0 ∨ 2001 ≤ i.toNatClampNeg)) (d : decode cc pc = .ok (.iaload, 1)) (h : Tj p l e R s m args below meth c D (wdR cI cJ cZ cL a) A nL vv K prog S (pc + 1) lv (.int (S.1 3 i.toNatClampNeg) :: rest)) : Tj p l e R s m args below meth c D (wdR cI cJ cZ cL a) A nL vv K prog S pc lv (.int i :: .ref (a 5) :: rest) := j_iald C 5 0 rfl rfl hin d h
theorem sR_R_pinCode (C : Cx p s m args meth c own cc nL rt D (tyT cI cJ cZ cL) (wdR cI cJ cZ cL a) A) {i v : Int32} (hin : ¬ (i < 0 ∨ 2001 ≤ i.toNatClampNeg)) (d : decode cc pc = .ok (.iastore, 1)) (h : Tj p l e R s m args below meth c D (wdR cI cJ cZ cL a) A nL vv K prog (sI S 3 i.toNatClampNeg v) (pc + 1) lv rest) : Tj p l e R s m args below meth c D (wdR cI cJ cZ cL a) A nL vv K prog S pc lv (.int v :: .int i :: .ref (a 5) :: rest) := j_iast C 5 0 rfl rfl rfl hin d h
theorem zR_R_debitCode (C : Cx p s m args meth c own cc nL rt D (tyT cI cJ cZ cL) (wdR cI cJ cZ cL a) A) (d : decode cc pc = .ok (.arraylength, 1)) (h : Tj p l e R s m args below meth c D (wdR cI cJ cZ cL a) A nL vv K prog S (pc + 1) lv (.int 2001 :: rest)) : Tj p l e R s m args below meth c D (wdR cI cJ cZ cL a) A nL vv K prog S pc lv (.ref (a 6) :: rest) := j_alen C 6 0 rfl rfl rfl d h
theorem lR_R_debitCode (C : Cx p s m args meth c own cc nL rt D (tyT cI cJ cZ cL) (wdR cI cJ cZ cL a) A) {i : Int32} (hin : ¬ (i < 0 ∨ 2001 ≤ i.toNatClampNeg)) (d : decode cc pc = .ok (.iaload, 1)) (h : Tj p l e R s m args below meth c D (wdR cI cJ cZ cL a) A nL vv K prog S (pc + 1) lv (.int (S.1 4 i.toNatClampNeg) :: rest)) : Tj p l e R s m args below meth c D (wdR cI cJ cZ cL a) A nL vv K prog S pc lv (.int i :: .ref (a 6) :: rest) := j_iald C 6 0 rfl rfl hin d h
theorem sR_R_debitCode (C : Cx p s m args meth c own cc nL rt D (tyT cI cJ cZ cL) (wdR cI cJ cZ cL a) A) {i v : Int32} (hin : ¬ (i < 0 ∨ 2001 ≤ i.toNatClampNeg)) (d : decode cc pc = .ok (.iastore, 1)) (h : Tj p l e R s m args below meth c D (wdR cI cJ cZ cL a) A nL vv K prog (sI S 4 i.toNatClampNeg v) (pc + 1) lv rest) : Tj p l e R s m args below meth c D (wdR cI cJ cZ cL a) A nL vv K prog S pc lv (.int v :: .int i :: .ref (a 6) :: rest) := j_iast C 6 0 rfl rfl rfl hin d h
theorem zR_R_debitAccount (C : Cx p s m args meth c own cc nL rt D (tyT cI cJ cZ cL) (wdR cI cJ cZ cL a) A) (d : decode cc pc = .ok (.arraylength, 1)) (h : Tj p l e R s m args below meth c D (wdR cI cJ cZ cL a) A nL vv K prog S (pc + 1) lv (.int 2001 :: rest)) : Tj p l e R s m args below meth c D (wdR cI cJ cZ cL a) A nL vv K prog S pc lv (.ref (a 7) :: rest) := j_alen C 7 0 rfl rfl rfl d h
theorem lR_R_debitAccount (C : Cx p s m args meth c own cc nL rt D (tyT cI cJ cZ cL) (wdR cI cJ cZ cL a) A) {i : Int32} (hin : ¬ (i < 0 ∨ 2001 ≤ i.toNatClampNeg)) (d : decode cc pc = .ok (.iaload, 1)) (h : Tj p l e R s m args below meth c D (wdR cI cJ cZ cL a) A nL vv K prog S (pc + 1) lv (.int (S.1 5 i.toNatClampNeg) :: rest)) : Tj p l e R s m args below meth c D (wdR cI cJ cZ cL a) A nL vv K prog S pc lv (.int i :: .ref (a 7) :: rest) := j_iald C 7 0 rfl rfl hin d h
theorem sR_R_debitAccount (C : Cx p s m args meth c own cc nL rt D (tyT cI cJ cZ cL) (wdR cI cJ cZ cL a) A) {i v : Int32} (hin : ¬ (i < 0 ∨ 2001 ≤ i.toNatClampNeg)) (d : decode cc pc = .ok (.iastore, 1)) (h : Tj p l e R s m args below meth c D (wdR cI cJ cZ cL a) A nL vv K prog (sI S 5 i.toNatClampNeg v) (pc + 1) lv rest) : Tj p l e R s m args below meth c D (wdR cI cJ cZ cL a) A nL vv K prog S pc lv (.int v :: .int i :: .ref (a 7) :: rest) := j_iast C 7 0 rfl rfl rfl hin d h
theorem zR_R_debitAmount (C : Cx p s m args meth c own cc nL rt D (tyT cI cJ cZ cL) (wdR cI cJ cZ cL a) A) (d : decode cc pc = .ok (.arraylength, 1)) (h : Tj p l e R s m args below meth c D (wdR cI cJ cZ cL a) A nL vv K prog S (pc + 1) lv (.int 2001 :: rest)) : Tj p l e R s m args below meth c D (wdR cI cJ cZ cL a) A nL vv K prog S pc lv (.ref (a 8) :: rest) := j_alen C 8 0 rfl rfl rfl d h
theorem lR_R_debitAmount (C : Cx p s m args meth c own cc nL rt D (tyT cI cJ cZ cL) (wdR cI cJ cZ cL a) A) {i : Int32} (hin : ¬ (i < 0 ∨ 2001 ≤ i.toNatClampNeg)) (d : decode cc pc = .ok (.iaload, 1)) (h : Tj p l e R s m args below meth c D (wdR cI cJ cZ cL a) A nL vv K prog S (pc + 1) lv (.int (S.1 6 i.toNatClampNeg) :: rest)) : Tj p l e R s m args below meth c D (wdR cI cJ cZ cL a) A nL vv K prog S pc lv (.int i :: .ref (a 8) :: rest) := j_iald C 8 0 rfl rfl hin d h
theorem sR_R_debitAmount (C : Cx p s m args meth c own cc nL rt D (tyT cI cJ cZ cL) (wdR cI cJ cZ cL a) A) {i v : Int32} (hin : ¬ (i < 0 ∨ 2001 ≤ i.toNatClampNeg)) (d : decode cc pc = .ok (.iastore, 1)) (h : Tj p l e R s m args below meth c D (wdR cI cJ cZ cL a) A nL vv K prog (sI S 6 i.toNatClampNeg v) (pc + 1) lv rest) : Tj p l e R s m args below meth c D (wdR cI cJ cZ cL a) A nL vv K prog S pc lv (.int v :: .int i :: .ref (a 8) :: rest) := j_iast C 8 0 rfl rfl rfl hin d h
theorem zR_R_isReversed (C : Cx p s m args meth c own cc nL rt D (tyT cI cJ cZ cL) (wdR cI cJ cZ cL a) A) (d : decode cc pc = .ok (.arraylength, 1)) (h : Tj p l e R s m args below meth c D (wdR cI cJ cZ cL a) A nL vv K prog S (pc + 1) lv (.int 2001 :: rest)) : Tj p l e R s m args below meth c D (wdR cI cJ cZ cL a) A nL vv K prog S pc lv (.ref (a 9) :: rest) := j_alen C 9 2 rfl rfl rfl d h
theorem lR_R_isReversed (C : Cx p s m args meth c own cc nL rt D (tyT cI cJ cZ cL) (wdR cI cJ cZ cL a) A) {i : Int32} (hin : ¬ (i < 0 ∨ 2001 ≤ i.toNatClampNeg)) (d : decode cc pc = .ok (.baload, 1)) (h : Tj p l e R s m args below meth c D (wdR cI cJ cZ cL a) A nL vv K prog S (pc + 1) lv (.int (S.1 7 i.toNatClampNeg) :: rest)) : Tj p l e R s m args below meth c D (wdR cI cJ cZ cL a) A nL vv K prog S pc lv (.int i :: .ref (a 9) :: rest) := j_zald C 9 2 rfl rfl hin d h
theorem sR_R_isReversed (C : Cx p s m args meth c own cc nL rt D (tyT cI cJ cZ cL) (wdR cI cJ cZ cL a) A) {i v : Int32} (hz : v = 0 ∨ v = 1) (hin : ¬ (i < 0 ∨ 2001 ≤ i.toNatClampNeg)) (d : decode cc pc = .ok (.bastore, 1)) (h : Tj p l e R s m args below meth c D (wdR cI cJ cZ cL a) A nL vv K prog (sI S 7 i.toNatClampNeg v) (pc + 1) lv rest) : Tj p l e R s m args below meth c D (wdR cI cJ cZ cL a) A nL vv K prog S pc lv (.int v :: .int i :: .ref (a 9) :: rest) := j_zast C 9 2 hz rfl rfl rfl hin d h
theorem zR_R_denomination (C : Cx p s m args meth c own cc nL rt D (tyT cI cJ cZ cL) (wdR cI cJ cZ cL a) A) (d : decode cc pc = .ok (.arraylength, 1)) (h : Tj p l e R s m args below meth c D (wdR cI cJ cZ cL a) A nL vv K prog S (pc + 1) lv (.int 4 :: rest)) : Tj p l e R s m args below meth c D (wdR cI cJ cZ cL a) A nL vv K prog S pc lv (.ref (a 10) :: rest) := j_alen C 10 0 rfl rfl rfl d h
theorem lR_R_denomination (C : Cx p s m args meth c own cc nL rt D (tyT cI cJ cZ cL) (wdR cI cJ cZ cL a) A) {i : Int32} (hin : ¬ (i < 0 ∨ 4 ≤ i.toNatClampNeg)) (d : decode cc pc = .ok (.iaload, 1)) (h : Tj p l e R s m args below meth c D (wdR cI cJ cZ cL a) A nL vv K prog S (pc + 1) lv (.int (S.1 8 i.toNatClampNeg) :: rest)) : Tj p l e R s m args below meth c D (wdR cI cJ cZ cL a) A nL vv K prog S pc lv (.int i :: .ref (a 10) :: rest) := j_iald C 10 0 rfl rfl hin d h
theorem sR_R_denomination (C : Cx p s m args meth c own cc nL rt D (tyT cI cJ cZ cL) (wdR cI cJ cZ cL a) A) {i v : Int32} (hin : ¬ (i < 0 ∨ 4 ≤ i.toNatClampNeg)) (d : decode cc pc = .ok (.iastore, 1)) (h : Tj p l e R s m args below meth c D (wdR cI cJ cZ cL a) A nL vv K prog (sI S 8 i.toNatClampNeg v) (pc + 1) lv rest) : Tj p l e R s m args below meth c D (wdR cI cJ cZ cL a) A nL vv K prog S pc lv (.int v :: .int i :: .ref (a 10) :: rest) := j_iast C 10 0 rfl rfl rfl hin d h
theorem zR_R_notes (C : Cx p s m args meth c own cc nL rt D (tyT cI cJ cZ cL) (wdR cI cJ cZ cL a) A) (d : decode cc pc = .ok (.arraylength, 1)) (h : Tj p l e R s m args below meth c D (wdR cI cJ cZ cL a) A nL vv K prog S (pc + 1) lv (.int 4 :: rest)) : Tj p l e R s m args below meth c D (wdR cI cJ cZ cL a) A nL vv K prog S pc lv (.ref (a 11) :: rest) := j_alen C 11 0 rfl rfl rfl d h
theorem lR_R_notes (C : Cx p s m args meth c own cc nL rt D (tyT cI cJ cZ cL) (wdR cI cJ cZ cL a) A) {i : Int32} (hin : ¬ (i < 0 ∨ 4 ≤ i.toNatClampNeg)) (d : decode cc pc = .ok (.iaload, 1)) (h : Tj p l e R s m args below meth c D (wdR cI cJ cZ cL a) A nL vv K prog S (pc + 1) lv (.int (S.1 9 i.toNatClampNeg) :: rest)) : Tj p l e R s m args below meth c D (wdR cI cJ cZ cL a) A nL vv K prog S pc lv (.int i :: .ref (a 11) :: rest) := j_iald C 11 0 rfl rfl hin d h
theorem sR_R_notes (C : Cx p s m args meth c own cc nL rt D (tyT cI cJ cZ cL) (wdR cI cJ cZ cL a) A) {i v : Int32} (hin : ¬ (i < 0 ∨ 4 ≤ i.toNatClampNeg)) (d : decode cc pc = .ok (.iastore, 1)) (h : Tj p l e R s m args below meth c D (wdR cI cJ cZ cL a) A nL vv K prog (sI S 9 i.toNatClampNeg v) (pc + 1) lv rest) : Tj p l e R s m args below meth c D (wdR cI cJ cZ cL a) A nL vv K prog S pc lv (.int v :: .int i :: .ref (a 11) :: rest) := j_iast C 11 0 rfl rfl rfl hin d h
theorem zR_R_stacked (C : Cx p s m args meth c own cc nL rt D (tyT cI cJ cZ cL) (wdR cI cJ cZ cL a) A) (d : decode cc pc = .ok (.arraylength, 1)) (h : Tj p l e R s m args below meth c D (wdR cI cJ cZ cL a) A nL vv K prog S (pc + 1) lv (.int 4 :: rest)) : Tj p l e R s m args below meth c D (wdR cI cJ cZ cL a) A nL vv K prog S pc lv (.ref (a 12) :: rest) := j_alen C 12 0 rfl rfl rfl d h
theorem lR_R_stacked (C : Cx p s m args meth c own cc nL rt D (tyT cI cJ cZ cL) (wdR cI cJ cZ cL a) A) {i : Int32} (hin : ¬ (i < 0 ∨ 4 ≤ i.toNatClampNeg)) (d : decode cc pc = .ok (.iaload, 1)) (h : Tj p l e R s m args below meth c D (wdR cI cJ cZ cL a) A nL vv K prog S (pc + 1) lv (.int (S.1 10 i.toNatClampNeg) :: rest)) : Tj p l e R s m args below meth c D (wdR cI cJ cZ cL a) A nL vv K prog S pc lv (.int i :: .ref (a 12) :: rest) := j_iald C 12 0 rfl rfl hin d h
theorem sR_R_stacked (C : Cx p s m args meth c own cc nL rt D (tyT cI cJ cZ cL) (wdR cI cJ cZ cL a) A) {i v : Int32} (hin : ¬ (i < 0 ∨ 4 ≤ i.toNatClampNeg)) (d : decode cc pc = .ok (.iastore, 1)) (h : Tj p l e R s m args below meth c D (wdR cI cJ cZ cL a) A nL vv K prog (sI S 10 i.toNatClampNeg v) (pc + 1) lv rest) : Tj p l e R s m args below meth c D (wdR cI cJ cZ cL a) A nL vv K prog S pc lv (.int v :: .int i :: .ref (a 12) :: rest) := j_iast C 12 0 rfl rfl rfl hin d h
theorem zR_R_inTray (C : Cx p s m args meth c own cc nL rt D (tyT cI cJ cZ cL) (wdR cI cJ cZ cL a) A) (d : decode cc pc = .ok (.arraylength, 1)) (h : Tj p l e R s m args below meth c D (wdR cI cJ cZ cL a) A nL vv K prog S (pc + 1) lv (.int 4 :: rest)) : Tj p l e R s m args below meth c D (wdR cI cJ cZ cL a) A nL vv K prog S pc lv (.ref (a 13) :: rest) := j_alen C 13 0 rfl rfl rfl d h
theorem lR_R_inTray (C : Cx p s m args meth c own cc nL rt D (tyT cI cJ cZ cL) (wdR cI cJ cZ cL a) A) {i : Int32} (hin : ¬ (i < 0 ∨ 4 ≤ i.toNatClampNeg)) (d : decode cc pc = .ok (.iaload, 1)) (h : Tj p l e R s m args below meth c D (wdR cI cJ cZ cL a) A nL vv K prog S (pc + 1) lv (.int (S.1 11 i.toNatClampNeg) :: rest)) : Tj p l e R s m args below meth c D (wdR cI cJ cZ cL a) A nL vv K prog S pc lv (.int i :: .ref (a 13) :: rest) := j_iald C 13 0 rfl rfl hin d h
theorem sR_R_inTray (C : Cx p s m args meth c own cc nL rt D (tyT cI cJ cZ cL) (wdR cI cJ cZ cL a) A) {i v : Int32} (hin : ¬ (i < 0 ∨ 4 ≤ i.toNatClampNeg)) (d : decode cc pc = .ok (.iastore, 1)) (h : Tj p l e R s m args below meth c D (wdR cI cJ cZ cL a) A nL vv K prog (sI S 11 i.toNatClampNeg v) (pc + 1) lv rest) : Tj p l e R s m args below meth c D (wdR cI cJ cZ cL a) A nL vv K prog S pc lv (.int v :: .int i :: .ref (a 13) :: rest) := j_iast C 13 0 rfl rfl rfl hin d h
theorem zR_R_inBin (C : Cx p s m args meth c own cc nL rt D (tyT cI cJ cZ cL) (wdR cI cJ cZ cL a) A) (d : decode cc pc = .ok (.arraylength, 1)) (h : Tj p l e R s m args below meth c D (wdR cI cJ cZ cL a) A nL vv K prog S (pc + 1) lv (.int 4 :: rest)) : Tj p l e R s m args below meth c D (wdR cI cJ cZ cL a) A nL vv K prog S pc lv (.ref (a 14) :: rest) := j_alen C 14 0 rfl rfl rfl d h
theorem lR_R_inBin (C : Cx p s m args meth c own cc nL rt D (tyT cI cJ cZ cL) (wdR cI cJ cZ cL a) A) {i : Int32} (hin : ¬ (i < 0 ∨ 4 ≤ i.toNatClampNeg)) (d : decode cc pc = .ok (.iaload, 1)) (h : Tj p l e R s m args below meth c D (wdR cI cJ cZ cL a) A nL vv K prog S (pc + 1) lv (.int (S.1 12 i.toNatClampNeg) :: rest)) : Tj p l e R s m args below meth c D (wdR cI cJ cZ cL a) A nL vv K prog S pc lv (.int i :: .ref (a 14) :: rest) := j_iald C 14 0 rfl rfl hin d h
theorem sR_R_inBin (C : Cx p s m args meth c own cc nL rt D (tyT cI cJ cZ cL) (wdR cI cJ cZ cL a) A) {i v : Int32} (hin : ¬ (i < 0 ∨ 4 ≤ i.toNatClampNeg)) (d : decode cc pc = .ok (.iastore, 1)) (h : Tj p l e R s m args below meth c D (wdR cI cJ cZ cL a) A nL vv K prog (sI S 12 i.toNatClampNeg v) (pc + 1) lv rest) : Tj p l e R s m args below meth c D (wdR cI cJ cZ cL a) A nL vv K prog S pc lv (.int v :: .int i :: .ref (a 14) :: rest) := j_iast C 14 0 rfl rfl rfl hin d h
theorem zR_R_isKept (C : Cx p s m args meth c own cc nL rt D (tyT cI cJ cZ cL) (wdR cI cJ cZ cL a) A) (d : decode cc pc = .ok (.arraylength, 1)) (h : Tj p l e R s m args below meth c D (wdR cI cJ cZ cL a) A nL vv K prog S (pc + 1) lv (.int 16 :: rest)) : Tj p l e R s m args below meth c D (wdR cI cJ cZ cL a) A nL vv K prog S pc lv (.ref (a 15) :: rest) := j_alen C 15 2 rfl rfl rfl d h
theorem lR_R_isKept (C : Cx p s m args meth c own cc nL rt D (tyT cI cJ cZ cL) (wdR cI cJ cZ cL a) A) {i : Int32} (hin : ¬ (i < 0 ∨ 16 ≤ i.toNatClampNeg)) (d : decode cc pc = .ok (.baload, 1)) (h : Tj p l e R s m args below meth c D (wdR cI cJ cZ cL a) A nL vv K prog S (pc + 1) lv (.int (S.1 13 i.toNatClampNeg) :: rest)) : Tj p l e R s m args below meth c D (wdR cI cJ cZ cL a) A nL vv K prog S pc lv (.int i :: .ref (a 15) :: rest) := j_zald C 15 2 rfl rfl hin d h
theorem sR_R_isKept (C : Cx p s m args meth c own cc nL rt D (tyT cI cJ cZ cL) (wdR cI cJ cZ cL a) A) {i v : Int32} (hz : v = 0 ∨ v = 1) (hin : ¬ (i < 0 ∨ 16 ≤ i.toNatClampNeg)) (d : decode cc pc = .ok (.bastore, 1)) (h : Tj p l e R s m args below meth c D (wdR cI cJ cZ cL a) A nL vv K prog (sI S 13 i.toNatClampNeg v) (pc + 1) lv rest) : Tj p l e R s m args below meth c D (wdR cI cJ cZ cL a) A nL vv K prog S pc lv (.int v :: .int i :: .ref (a 15) :: rest) := j_zast C 15 2 hz rfl rfl rfl hin d h
theorem zR_R_records (C : Cx p s m args meth c own cc nL rt D (tyT cI cJ cZ cL) (wdR cI cJ cZ cL a) A) (d : decode cc pc = .ok (.arraylength, 1)) (h : Tj p l e R s m args below meth c D (wdR cI cJ cZ cL a) A nL vv K prog S (pc + 1) lv (.int 1500 :: rest)) : Tj p l e R s m args below meth c D (wdR cI cJ cZ cL a) A nL vv K prog S pc lv (.ref (a 16) :: rest) := j_alen C 16 0 rfl rfl rfl d h
theorem lR_R_records (C : Cx p s m args meth c own cc nL rt D (tyT cI cJ cZ cL) (wdR cI cJ cZ cL a) A) {i : Int32} (hin : ¬ (i < 0 ∨ 1500 ≤ i.toNatClampNeg)) (d : decode cc pc = .ok (.iaload, 1)) (h : Tj p l e R s m args below meth c D (wdR cI cJ cZ cL a) A nL vv K prog S (pc + 1) lv (.int (S.1 14 i.toNatClampNeg) :: rest)) : Tj p l e R s m args below meth c D (wdR cI cJ cZ cL a) A nL vv K prog S pc lv (.int i :: .ref (a 16) :: rest) := j_iald C 16 0 rfl rfl hin d h
theorem sR_R_records (C : Cx p s m args meth c own cc nL rt D (tyT cI cJ cZ cL) (wdR cI cJ cZ cL a) A) {i v : Int32} (hin : ¬ (i < 0 ∨ 1500 ≤ i.toNatClampNeg)) (d : decode cc pc = .ok (.iastore, 1)) (h : Tj p l e R s m args below meth c D (wdR cI cJ cZ cL a) A nL vv K prog (sI S 14 i.toNatClampNeg v) (pc + 1) lv rest) : Tj p l e R s m args below meth c D (wdR cI cJ cZ cL a) A nL vv K prog S pc lv (.int v :: .int i :: .ref (a 16) :: rest) := j_iast C 16 0 rfl rfl rfl hin d h
theorem zR_R_line (C : Cx p s m args meth c own cc nL rt D (tyT cI cJ cZ cL) (wdR cI cJ cZ cL a) A) (d : decode cc pc = .ok (.arraylength, 1)) (h : Tj p l e R s m args below meth c D (wdR cI cJ cZ cL a) A nL vv K prog S (pc + 1) lv (.int 350 :: rest)) : Tj p l e R s m args below meth c D (wdR cI cJ cZ cL a) A nL vv K prog S pc lv (.ref (a 17) :: rest) := j_alen C 17 0 rfl rfl rfl d h
theorem lR_R_line (C : Cx p s m args meth c own cc nL rt D (tyT cI cJ cZ cL) (wdR cI cJ cZ cL a) A) {i : Int32} (hin : ¬ (i < 0 ∨ 350 ≤ i.toNatClampNeg)) (d : decode cc pc = .ok (.iaload, 1)) (h : Tj p l e R s m args below meth c D (wdR cI cJ cZ cL a) A nL vv K prog S (pc + 1) lv (.int (S.1 25 i.toNatClampNeg) :: rest)) : Tj p l e R s m args below meth c D (wdR cI cJ cZ cL a) A nL vv K prog S pc lv (.int i :: .ref (a 17) :: rest) := j_iald C 17 0 rfl rfl hin d h
theorem sR_R_line (C : Cx p s m args meth c own cc nL rt D (tyT cI cJ cZ cL) (wdR cI cJ cZ cL a) A) {i v : Int32} (hin : ¬ (i < 0 ∨ 350 ≤ i.toNatClampNeg)) (d : decode cc pc = .ok (.iastore, 1)) (h : Tj p l e R s m args below meth c D (wdR cI cJ cZ cL a) A nL vv K prog (sI S 25 i.toNatClampNeg v) (pc + 1) lv rest) : Tj p l e R s m args below meth c D (wdR cI cJ cZ cL a) A nL vv K prog S pc lv (.int v :: .int i :: .ref (a 17) :: rest) := j_iast C 17 0 rfl rfl rfl hin d h
theorem zR_R_letter (C : Cx p s m args meth c own cc nL rt D (tyT cI cJ cZ cL) (wdR cI cJ cZ cL a) A) (d : decode cc pc = .ok (.arraylength, 1)) (h : Tj p l e R s m args below meth c D (wdR cI cJ cZ cL a) A nL vv K prog S (pc + 1) lv (.int 14 :: rest)) : Tj p l e R s m args below meth c D (wdR cI cJ cZ cL a) A nL vv K prog S pc lv (.ref (a 18) :: rest) := j_alen C 18 0 rfl rfl rfl d h
theorem lR_R_letter (C : Cx p s m args meth c own cc nL rt D (tyT cI cJ cZ cL) (wdR cI cJ cZ cL a) A) {i : Int32} (hin : ¬ (i < 0 ∨ 14 ≤ i.toNatClampNeg)) (d : decode cc pc = .ok (.iaload, 1)) (h : Tj p l e R s m args below meth c D (wdR cI cJ cZ cL a) A nL vv K prog S (pc + 1) lv (.int (S.1 29 i.toNatClampNeg) :: rest)) : Tj p l e R s m args below meth c D (wdR cI cJ cZ cL a) A nL vv K prog S pc lv (.int i :: .ref (a 18) :: rest) := j_iald C 18 0 rfl rfl hin d h
theorem sR_R_letter (C : Cx p s m args meth c own cc nL rt D (tyT cI cJ cZ cL) (wdR cI cJ cZ cL a) A) {i v : Int32} (hin : ¬ (i < 0 ∨ 14 ≤ i.toNatClampNeg)) (d : decode cc pc = .ok (.iastore, 1)) (h : Tj p l e R s m args below meth c D (wdR cI cJ cZ cL a) A nL vv K prog (sI S 29 i.toNatClampNeg v) (pc + 1) lv rest) : Tj p l e R s m args below meth c D (wdR cI cJ cZ cL a) A nL vv K prog S pc lv (.int v :: .int i :: .ref (a 18) :: rest) := j_iast C 18 0 rfl rfl rfl hin d h
theorem zR_R_mixed (C : Cx p s m args meth c own cc nL rt D (tyT cI cJ cZ cL) (wdR cI cJ cZ cL a) A) (d : decode cc pc = .ok (.arraylength, 1)) (h : Tj p l e R s m args below meth c D (wdR cI cJ cZ cL a) A nL vv K prog S (pc + 1) lv (.int 4 :: rest)) : Tj p l e R s m args below meth c D (wdR cI cJ cZ cL a) A nL vv K prog S pc lv (.ref (a 19) :: rest) := j_alen C 19 0 rfl rfl rfl d h
theorem lR_R_mixed (C : Cx p s m args meth c own cc nL rt D (tyT cI cJ cZ cL) (wdR cI cJ cZ cL a) A) {i : Int32} (hin : ¬ (i < 0 ∨ 4 ≤ i.toNatClampNeg)) (d : decode cc pc = .ok (.iaload, 1)) (h : Tj p l e R s m args below meth c D (wdR cI cJ cZ cL a) A nL vv K prog S (pc + 1) lv (.int (S.1 30 i.toNatClampNeg) :: rest)) : Tj p l e R s m args below meth c D (wdR cI cJ cZ cL a) A nL vv K prog S pc lv (.int i :: .ref (a 19) :: rest) := j_iald C 19 0 rfl rfl hin d h
theorem sR_R_mixed (C : Cx p s m args meth c own cc nL rt D (tyT cI cJ cZ cL) (wdR cI cJ cZ cL a) A) {i v : Int32} (hin : ¬ (i < 0 ∨ 4 ≤ i.toNatClampNeg)) (d : decode cc pc = .ok (.iastore, 1)) (h : Tj p l e R s m args below meth c D (wdR cI cJ cZ cL a) A nL vv K prog (sI S 30 i.toNatClampNeg v) (pc + 1) lv rest) : Tj p l e R s m args below meth c D (wdR cI cJ cZ cL a) A nL vv K prog S pc lv (.int v :: .int i :: .ref (a 19) :: rest) := j_iast C 19 0 rfl rfl rfl hin d h
end WR
end
section
/-! more rows: named answers, counters -/
def bnd {μ γ β : Type} (o : Option (γ × μ)) (F : γ → μ → Option β) : Option β := o.bind (fun z => F z.1 z.2)
def sK (S : Mem) (j : Nat) (f : Nat → Int32) : Mem := (S.1, S.2.1, S.2.2.1, S.2.2.2.1, va_up S.2.2.2.2 j f)
section GO3
variable {p : Program} {l : Launch} {e : Env} {R : Room} {s : State} {m : MethodId} {args : Array Value} {below : List Frame} {meth : Method} {c : Code}
variable {μ : Type} {own : String} {cc : ByteArray} {nL : Nat} {rt : Option FieldType} {D : va_G} {tys : List (ClassId × FieldType)} {w : μ → va_W} {A : Nat → Prop}
variable {α β γ δ : Type} {vv : α → Option Value} {K : β → Option (α × μ)} {prog progA progB : Option β} {S : μ} {pc : Nat} {lv : List (Nat × Value)} {rest st : List Value}
theorem j_bnd {g : Option (γ × μ)} {F : γ → μ → Option β} (h : ∀ (r : γ) (S' : μ), g = some (r, S') → Tj p l e R s m args below meth c D w A nL vv K (F r S') S pc lv st) : Tj p l e R s m args below meth c D w A nL vv K (bnd g F) S pc lv st := j_bind h
theorem j_iincN (C : Cx p s m args meth c own cc nL rt D tys w A) {i : Nat} {n : Int} {x n2 : Int32} {lv2 : Int32 → List (Nat × Value)} {k : Int32 → Option β} (q : Nat) (hq : lv[q]? = some (i, .int x)) (hv : Int32.ofInt n = n2) (hn : i < nL) (hl : ∀ v, (i, Value.int v) :: lv.filter (fun q => !(q.1 == i) && !(q.1 + 1 == i && q.2.category == 2)) = lv2 v) (d : decode cc pc = .ok (.iinc i n, 3))
    (h : ∀ v : Int32, Tj p l e R s m args below meth c D w A nL vv K (k v) S (pc + 3) (lv2 v) st) : Tj p l e R s m args below meth c D w A nL vv K (lt (x + n2) k) S pc lv st := j_iinc C q hq (by rw [hv]) hn (hl (x + n2)) d (h (x + n2))
end GO3
section GO4
variable {p : Program} {l : Launch} {e : Env} {R : Room} {s : State} {m : MethodId} {args : Array Value} {below : List Frame} {meth : Method} {c : Code}
variable {own : String} {cc : ByteArray} {nL : Nat} {rt : Option FieldType} {D : va_G} {A : Nat → Prop}
variable {α β γ δ : Type} {vv : α → Option Value} {K : β → Option (α × Mem)} {prog progA progB : Option β} {S : Mem} {pc : Nat} {lv : List (Nat × Value)} {rest st : List Value}
variable {cI cJ cZ cL : ClassId} {a : Nat → Nat}
theorem wdC_setK {S : Mem} {j : Nat} {f : Nat → Int32} (hj : j < 25) : (wdC cI cJ cZ cL a S).set (51 + j) (a (200 + j), .inl (cI, 13, .inl f)) = wdC cI cJ cZ cL a (sK S j f) := by
  have hb : (wdCb cI cJ cZ cL a S).length = 26 := rfl
  have he : (wdCe a S).length = 25 := by simp [wdCe]
  unfold wdC
  rw [List.set_append_right _ _ (by omega), hb, List.set_append_right _ _ (by omega), he, show 51 + j - 26 - 25 = j by omega]
  have h1 : (wdCy cI a S).set j (a (200 + j), .inl (cI, 13, .inl f)) = wdCy cI a (sK S j f) := set_map hj (by simp [sK, va_up]) (fun i hi => by simp [sK, va_up, hi])
  rw [h1]
  rfl
theorem kC_copy (C : Cx p s m args meth c own cc nL rt D (tyT cI cJ cZ cL) (wdC cI cJ cZ cL a) A) {index j k : Nat} (hj : j < 25) (hk : k < 25) (hl : Cond.methodLink own index arraycopyName ∈ wU) (h2 : Cond.native arraycopyName ∈ wU) (h3 : Cond.static arraycopyName ∈ wU) (h4 : Cond.initialized "java/lang/System" ∈ wU) (hf : 1 ≤ R.frames) (hlo : (rest.map fun v => v.category).sum + (nativeFrameWords "java/lang/System" "arraycopy" 5 + 11) ≤ R.locals) (d : decode cc pc = .ok (.invokestatic index, 3))
    (h : Tj p l e R s m args below meth c D (wdC cI cJ cZ cL a) A nL vv K prog (sK S j (va_cpy (S.2.2.2.2 k) (S.2.2.2.2 j) 0 0 13)) (pc + 3) lv rest) : Tj p l e R s m args below meth c D (wdC cI cJ cZ cL a) A nL vv K prog S pc lv (.int 13 :: .int 0 :: .ref (a (200 + j)) :: .int 0 :: .ref (a (200 + k)) :: rest) := fun r S1 hb H locs ls hP hS hlv =>
  va_copyi (ty := .int) C.hx C.hb (C.hml.trans hlv.1.symm) C.hown (C.hts _ hl) (C.hts _ h2) (C.hts _ h3) (C.hts _ h4) C.hK hP (C.hD S) hS (51 + k) (51 + j) 0 0 (wdC_Y hk) (wdC_Y hj) rfl rfl rfl (by decide) (by decide) (by decide) (by decide) (by decide) (fun _ _ => rfl) hf hlo d (fun H1 locs1 hP1 _ hS1 => h r S1 hb H1 locs1 ls (by rw [← wdC_setK hj]; exact hP1) hS1 hlv)
end GO4
end
section
/-! methods: names, words, rooms -/
abbrev y_A_isWithin : MethodName := ⟨"AutoTeller", "isWithin", "(JJJ)Z"⟩
abbrev y_H_isAccount : MethodName := ⟨"AutoTeller$Host", "isAccount", "(I)Z"⟩
abbrev y_H_setBalance : MethodName := ⟨"AutoTeller$Host", "setBalance", "(IJ)Z"⟩
abbrev y_A_account : MethodName := ⟨"AutoTeller", "account", "(IJ)Z"⟩
abbrev y_A_isCard : MethodName := ⟨"AutoTeller", "isCard", "(I)Z"⟩
abbrev y_A_isPin : MethodName := ⟨"AutoTeller", "isPin", "(J)Z"⟩
abbrev y_H_tellCard : MethodName := ⟨"AutoTeller$Host", "tellCard", "(III)Z"⟩
abbrev y_A_card : MethodName := ⟨"AutoTeller", "card", "(III)Z"⟩
abbrev y_O_isCassette : MethodName := ⟨"AutoTeller$Notes", "isCassette", "(I)Z"⟩
abbrev y_O_fill : MethodName := ⟨"AutoTeller$Notes", "fill", "(III)Z"⟩
abbrev y_M_fillCassette : MethodName := ⟨"AutoTeller$Machine", "fillCassette", "(III)Z"⟩
abbrev y_A_load : MethodName := ⟨"AutoTeller", "load", "(III)Z"⟩
abbrev y_M_putCardIn : MethodName := ⟨"AutoTeller$Machine", "putCardIn", "(I)Z"⟩
abbrev y_A_insert : MethodName := ⟨"AutoTeller", "insert", "(I)Z"⟩
abbrev y_M_takeTrace : MethodName := ⟨"AutoTeller$Machine", "takeTrace", "()V"⟩
abbrev y_M_mayStep : MethodName := ⟨"AutoTeller$Machine", "mayStep", "()Z"⟩
abbrev y_E_writeNumber : MethodName := ⟨"AutoTeller$Letter", "writeNumber", "(IJ)V"⟩
abbrev y_E_reckonCheck : MethodName := ⟨"AutoTeller$Letter", "reckonCheck", "()I"⟩
abbrev y_E_write : MethodName := ⟨"AutoTeller$Letter", "write", "(IIIJI)V"⟩
abbrev y_N_has : MethodName := ⟨"AutoTeller$Line", "has", "(I)Z"⟩
abbrev y_N_remove : MethodName := ⟨"AutoTeller$Line", "remove", "(I)V"⟩
abbrev y_N_post : MethodName := ⟨"AutoTeller$Line", "post", "(ZIIIJI)V"⟩
abbrev y_M_send : MethodName := ⟨"AutoTeller$Machine", "send", "(II)Z"⟩
abbrev y_M_beginPinCheck : MethodName := ⟨"AutoTeller$Machine", "beginPinCheck", "(I)Z"⟩
abbrev y_A_pin : MethodName := ⟨"AutoTeller", "pin", "(I)Z"⟩
abbrev y_A_isAmount : MethodName := ⟨"AutoTeller", "isAmount", "(J)Z"⟩
abbrev y_O_findLargest : MethodName := ⟨"AutoTeller$Notes", "findLargest", "()V"⟩
abbrev y_O_mostOf : MethodName := ⟨"AutoTeller$Notes", "mostOf", "(III)I"⟩
abbrev y_O_mixRest : MethodName := ⟨"AutoTeller$Notes", "mixRest", "(III)V"⟩
abbrev y_O_findMix : MethodName := ⟨"AutoTeller$Notes", "findMix", "(I)Z"⟩
abbrev y_J_isFull : MethodName := ⟨"AutoTeller$Journal", "isFull", "()Z"⟩
abbrev y_J_add : MethodName := ⟨"AutoTeller$Journal", "add", "(IIII)V"⟩
abbrev y_M_write : MethodName := ⟨"AutoTeller$Machine", "write", "(I)Z"⟩
abbrev y_M_beginWithdrawal : MethodName := ⟨"AutoTeller$Machine", "beginWithdrawal", "(I)I"⟩
abbrev y_A_ask : MethodName := ⟨"AutoTeller", "ask", "(I)I"⟩
abbrev y_M_endWithoutCard : MethodName := ⟨"AutoTeller$Machine", "endWithoutCard", "()V"⟩
abbrev y_M_giveCardBack : MethodName := ⟨"AutoTeller$Machine", "giveCardBack", "()Z"⟩
abbrev y_A_eject : MethodName := ⟨"AutoTeller", "eject", "()Z"⟩
abbrev y_F_fill : MethodName := ⟨"java/util/Arrays", "fill", "([II)V"⟩
abbrev y_O_clearTray : MethodName := ⟨"AutoTeller$Notes", "clearTray", "()I"⟩
abbrev y_A_take : MethodName := ⟨"AutoTeller", "take", "()I"⟩
abbrev y_O_areStacked : MethodName := ⟨"AutoTeller$Notes", "areStacked", "()Z"⟩
abbrev y_O_emptyStackerInto : MethodName := ⟨"AutoTeller$Notes", "emptyStackerInto", "([I)V"⟩
abbrev y_O_moveStackerToBin : MethodName := ⟨"AutoTeller$Notes", "moveStackerToBin", "()V"⟩
abbrev y_M_reverse : MethodName := ⟨"AutoTeller$Machine", "reverse", "(Z)V"⟩
abbrev y_M_endWaiting : MethodName := ⟨"AutoTeller$Machine", "endWaiting", "()Z"⟩
abbrev y_A_timeout : MethodName := ⟨"AutoTeller", "timeout", "()Z"⟩
abbrev y_E_copyFrom : MethodName := ⟨"AutoTeller$Letter", "copyFrom", "(LAutoTeller$Letter;)V"⟩
abbrev y_N_copyTo : MethodName := ⟨"AutoTeller$Line", "copyTo", "(ILAutoTeller$Letter;)V"⟩
abbrev y_E_isSound : MethodName := ⟨"AutoTeller$Letter", "isSound", "()Z"⟩
abbrev y_E_readNumber : MethodName := ⟨"AutoTeller$Letter", "readNumber", "(I)J"⟩
abbrev y_E_trace : MethodName := ⟨"AutoTeller$Letter", "trace", "()J"⟩
abbrev y_E_kind : MethodName := ⟨"AutoTeller$Letter", "kind", "()I"⟩
abbrev y_M_isAwaited : MethodName := ⟨"AutoTeller$Machine", "isAwaited", "(LAutoTeller$Letter;)Z"⟩
abbrev y_E_code : MethodName := ⟨"AutoTeller$Letter", "code", "()I"⟩
abbrev y_M_endPinCheck : MethodName := ⟨"AutoTeller$Machine", "endPinCheck", "(I)V"⟩
abbrev y_O_stackOne : MethodName := ⟨"AutoTeller$Notes", "stackOne", "(I)V"⟩
abbrev y_M_stackMix : MethodName := ⟨"AutoTeller$Machine", "stackMix", "()Z"⟩
abbrev y_O_moveStackerToTray : MethodName := ⟨"AutoTeller$Notes", "moveStackerToTray", "()V"⟩
abbrev y_M_payOut : MethodName := ⟨"AutoTeller$Machine", "payOut", "()V"⟩
abbrev y_M_receive : MethodName := ⟨"AutoTeller$Machine", "receive", "(LAutoTeller$Letter;)V"⟩
abbrev y_E_cardNumber : MethodName := ⟨"AutoTeller$Letter", "cardNumber", "()I"⟩
abbrev y_E_value : MethodName := ⟨"AutoTeller$Letter", "value", "()J"⟩
abbrev y_H_isUsable : MethodName := ⟨"AutoTeller$Host", "isUsable", "(LAutoTeller$Letter;)Z"⟩
abbrev y_H_tryPin : MethodName := ⟨"AutoTeller$Host", "tryPin", "(IJ)I"⟩
abbrev y_H_takeOff : MethodName := ⟨"AutoTeller$Host", "takeOff", "(III)V"⟩
abbrev y_H_giveBack : MethodName := ⟨"AutoTeller$Host", "giveBack", "(I)V"⟩
abbrev y_H_decide : MethodName := ⟨"AutoTeller$Host", "decide", "(IIIJ)I"⟩
abbrev y_H_receive : MethodName := ⟨"AutoTeller$Host", "receive", "(LAutoTeller$Letter;)V"⟩
abbrev y_A_handOver : MethodName := ⟨"AutoTeller", "handOver", "()V"⟩
abbrev y_A_deliver : MethodName := ⟨"AutoTeller", "deliver", "(I)I"⟩
abbrev y_A_twice : MethodName := ⟨"AutoTeller", "twice", "(I)I"⟩
abbrev y_A_lose : MethodName := ⟨"AutoTeller", "lose", "(I)I"⟩
abbrev y_N_changeByte : MethodName := ⟨"AutoTeller$Line", "changeByte", "(III)Z"⟩
abbrev y_A_poke : MethodName := ⟨"AutoTeller", "poke", "(III)Z"⟩
abbrev y_N_byteOf : MethodName := ⟨"AutoTeller$Line", "byteOf", "(II)I"⟩
abbrev y_A_letter : MethodName := ⟨"AutoTeller", "letter", "(II)I"⟩
abbrev y_M_switchOff : MethodName := ⟨"AutoTeller$Machine", "switchOff", "()Z"⟩
abbrev y_A_cut : MethodName := ⟨"AutoTeller", "cut", "()Z"⟩
abbrev y_M_allowSteps : MethodName := ⟨"AutoTeller$Machine", "allowSteps", "(I)Z"⟩
abbrev y_A_arm : MethodName := ⟨"AutoTeller", "arm", "(I)Z"⟩
abbrev y_J_tell : MethodName := ⟨"AutoTeller$Journal", "tell", "(II)I"⟩
abbrev y_J_lastBegun : MethodName := ⟨"AutoTeller$Journal", "lastBegun", "()I"⟩
abbrev y_M_recallLastBegun : MethodName := ⟨"AutoTeller$Machine", "recallLastBegun", "()V"⟩
abbrev y_J_lastKind : MethodName := ⟨"AutoTeller$Journal", "lastKind", "()I"⟩
abbrev y_M_switchOn : MethodName := ⟨"AutoTeller$Machine", "switchOn", "()Z"⟩
abbrev y_A_power : MethodName := ⟨"AutoTeller", "power", "()Z"⟩
abbrev y_O_tell : MethodName := ⟨"AutoTeller$Notes", "tell", "(II)I"⟩
abbrev y_A_cassette : MethodName := ⟨"AutoTeller", "cassette", "(II)I"⟩
abbrev y_O_mixedOf : MethodName := ⟨"AutoTeller$Notes", "mixedOf", "(II)I"⟩
abbrev y_A_mix : MethodName := ⟨"AutoTeller", "mix", "(II)I"⟩
abbrev y_H_balanceOf : MethodName := ⟨"AutoTeller$Host", "balanceOf", "(I)J"⟩
abbrev y_A_balance : MethodName := ⟨"AutoTeller", "balance", "(I)J"⟩
abbrev y_H_triesOf : MethodName := ⟨"AutoTeller$Host", "triesOf", "(I)I"⟩
abbrev y_M_keptOf : MethodName := ⟨"AutoTeller$Machine", "keptOf", "(I)I"⟩
abbrev y_H_accountOf : MethodName := ⟨"AutoTeller$Host", "accountOf", "(I)I"⟩
abbrev y_A_ofCard : MethodName := ⟨"AutoTeller", "ofCard", "(II)I"⟩
abbrev y_A_record : MethodName := ⟨"AutoTeller", "record", "(II)I"⟩
abbrev y_A_count : MethodName := ⟨"AutoTeller", "count", "(I)J"⟩
abbrev y_R_account : MethodName := ⟨"AutoTellerModel", "account", "(IJ)Z"⟩
abbrev y_R_card : MethodName := ⟨"AutoTellerModel", "card", "(III)Z"⟩
abbrev y_R_load : MethodName := ⟨"AutoTellerModel", "load", "(III)Z"⟩
abbrev y_R_insert : MethodName := ⟨"AutoTellerModel", "insert", "(I)Z"⟩
abbrev y_R_goOff : MethodName := ⟨"AutoTellerModel", "goOff", "()V"⟩
abbrev y_R_step : MethodName := ⟨"AutoTellerModel", "step", "()Z"⟩
abbrev y_R_drop : MethodName := ⟨"AutoTellerModel", "drop", "(I)V"⟩
abbrev y_R_check : MethodName := ⟨"AutoTellerModel", "check", "([II)I"⟩
abbrev y_R_send : MethodName := ⟨"AutoTellerModel", "send", "(IIIIII)V"⟩
abbrev y_R_sendStep : MethodName := ⟨"AutoTellerModel", "sendStep", "(II)Z"⟩
abbrev y_R_pin : MethodName := ⟨"AutoTellerModel", "pin", "(I)Z"⟩
abbrev y_R_findMix : MethodName := ⟨"AutoTellerModel", "findMix", "(I)Z"⟩
abbrev y_R_record : MethodName := ⟨"AutoTellerModel", "record", "(I)Z"⟩
abbrev y_R_ask : MethodName := ⟨"AutoTellerModel", "ask", "(I)I"⟩
abbrev y_R_eject : MethodName := ⟨"AutoTellerModel", "eject", "()Z"⟩
abbrev y_R_take : MethodName := ⟨"AutoTellerModel", "take", "()I"⟩
abbrev y_R_hasStacked : MethodName := ⟨"AutoTellerModel", "hasStacked", "()Z"⟩
abbrev y_R_reverse : MethodName := ⟨"AutoTellerModel", "reverse", "(Z)V"⟩
abbrev y_R_timeout : MethodName := ⟨"AutoTellerModel", "timeout", "()Z"⟩
abbrev y_R_isLetter : MethodName := ⟨"AutoTellerModel", "isLetter", "(I)Z"⟩
abbrev y_R_numberAt : MethodName := ⟨"AutoTellerModel", "numberAt", "(I)I"⟩
abbrev y_R_giveOut : MethodName := ⟨"AutoTellerModel", "giveOut", "()V"⟩
abbrev y_R_machineTakes : MethodName := ⟨"AutoTellerModel", "machineTakes", "()Z"⟩
abbrev y_R_onPin : MethodName := ⟨"AutoTellerModel", "onPin", "(III)I"⟩
abbrev y_R_onDebit : MethodName := ⟨"AutoTellerModel", "onDebit", "(III)I"⟩
abbrev y_R_onReversal : MethodName := ⟨"AutoTellerModel", "onReversal", "(I)I"⟩
abbrev y_R_hostTakes : MethodName := ⟨"AutoTellerModel", "hostTakes", "()Z"⟩
abbrev y_R_come : MethodName := ⟨"AutoTellerModel", "come", "(IZ)V"⟩
abbrev y_R_deliver : MethodName := ⟨"AutoTellerModel", "deliver", "(I)I"⟩
abbrev y_R_twice : MethodName := ⟨"AutoTellerModel", "twice", "(I)I"⟩
abbrev y_R_lose : MethodName := ⟨"AutoTellerModel", "lose", "(I)I"⟩
abbrev y_R_poke : MethodName := ⟨"AutoTellerModel", "poke", "(III)Z"⟩
abbrev y_R_letter : MethodName := ⟨"AutoTellerModel", "letter", "(II)I"⟩
abbrev y_R_cut : MethodName := ⟨"AutoTellerModel", "cut", "()Z"⟩
abbrev y_R_arm : MethodName := ⟨"AutoTellerModel", "arm", "(I)Z"⟩
abbrev y_R_power : MethodName := ⟨"AutoTellerModel", "power", "()Z"⟩
abbrev y_R_cassette : MethodName := ⟨"AutoTellerModel", "cassette", "(II)I"⟩
abbrev y_R_mix : MethodName := ⟨"AutoTellerModel", "mix", "(II)I"⟩
abbrev y_R_balance : MethodName := ⟨"AutoTellerModel", "balance", "(I)J"⟩
abbrev y_R_ofCard : MethodName := ⟨"AutoTellerModel", "ofCard", "(II)I"⟩
abbrev y_R_recordOf : MethodName := ⟨"AutoTellerModel", "record", "(II)I"⟩
abbrev y_R_count : MethodName := ⟨"AutoTellerModel", "count", "(I)J"⟩
theorem u_1 : Cond.initialized "AutoTeller" ∈ wU := mU 1 (by decide +kernel) (by decide +kernel)
theorem u_2 : Cond.initialized "AutoTeller$Line" ∈ wU := mU 2 (by decide +kernel) (by decide +kernel)
theorem u_3 : Cond.initialized "AutoTeller$Letter" ∈ wU := mU 3 (by decide +kernel) (by decide +kernel)
theorem u_4 : Cond.initialized "AutoTeller$Host" ∈ wU := mU 4 (by decide +kernel) (by decide +kernel)
theorem u_5 : Cond.initialized "java/util/Arrays" ∈ wU := mU 5 (by decide +kernel) (by decide +kernel)
theorem u_6 : Cond.initialized "AutoTeller$Machine" ∈ wU := mU 6 (by decide +kernel) (by decide +kernel)
theorem u_7 : Cond.initialized "AutoTeller$Notes" ∈ wU := mU 7 (by decide +kernel) (by decide +kernel)
theorem u_8 : Cond.initialized "AutoTeller$Journal" ∈ wU := mU 8 (by decide +kernel) (by decide +kernel)
theorem u_9 : Cond.initialized "AutoTellerModel" ∈ wU := mU 9 (by decide +kernel) (by decide +kernel)
theorem u_10 : Cond.initialized "java/lang/Math" ∈ wU := mU 10 (by decide +kernel) (by decide +kernel)
theorem u_11 : Cond.initialized "java/lang/System" ∈ wU := mU 11 (by decide +kernel) (by decide +kernel)
theorem u_33 : Cond.fieldLink "AutoTeller$Letter" 9 "AutoTeller$Letter" "bytes" "[I" ∈ wU := mU 33 (by decide +kernel) (by decide +kernel)
theorem n_34 : Cond.fieldLinkNest "AutoTeller$Line" 53 "AutoTeller$Letter" "bytes" "[I" "AutoTeller" ∈ wN := mN 34 (by decide +kernel) (by decide +kernel)
theorem u_35 : Cond.fieldLink "AutoTeller$Letter" 29 "AutoTeller$Letter" "forHost" "Z" ∈ wU := mU 35 (by decide +kernel) (by decide +kernel)
theorem n_36 : Cond.fieldLinkNest "AutoTeller$Line" 29 "AutoTeller$Letter" "forHost" "Z" "AutoTeller" ∈ wN := mN 36 (by decide +kernel) (by decide +kernel)
theorem n_37 : Cond.fieldLinkNest "AutoTeller" 173 "AutoTeller$Letter" "forHost" "Z" "AutoTeller" ∈ wN := mN 37 (by decide +kernel) (by decide +kernel)
theorem u_44 : Cond.fieldLink "AutoTeller$Line" 11 "AutoTeller$Line" "letters" "[LAutoTeller$Letter;" ∈ wU := mU 44 (by decide +kernel) (by decide +kernel)
theorem u_45 : Cond.fieldLink "AutoTeller$Line" 18 "AutoTeller$Line" "inFlight" "I" ∈ wU := mU 45 (by decide +kernel) (by decide +kernel)
theorem n_46 : Cond.fieldLinkNest "AutoTeller" 92 "AutoTeller$Line" "inFlight" "I" "AutoTeller" ∈ wN := mN 46 (by decide +kernel) (by decide +kernel)
theorem u_47 : Cond.fieldLink "AutoTeller$Line" 26 "AutoTeller$Line" "lostForRoom" "I" ∈ wU := mU 47 (by decide +kernel) (by decide +kernel)
theorem n_48 : Cond.fieldLinkNest "AutoTeller" 163 "AutoTeller$Line" "lostForRoom" "I" "AutoTeller" ∈ wN := mN 48 (by decide +kernel) (by decide +kernel)
theorem u_63 : Cond.static ⟨"java/util/Arrays", "fill", "([II)V"⟩ ∈ wU := mU 63 (by decide +kernel) (by decide +kernel)
theorem u_64 : Cond.code ⟨"java/util/Arrays", "fill", "([II)V"⟩ prog_13_method_103_code 4 (Option.none : Option Jvm.ClassFile.FieldType) ∈ wU := mU 64 (by decide +kernel) (by decide +kernel)
theorem u_65 : Cond.fieldLink "AutoTeller$Host" 37 "AutoTeller$Host" "line" "LAutoTeller$Line;" ∈ wU := mU 65 (by decide +kernel) (by decide +kernel)
theorem u_66 : Cond.fieldLink "AutoTeller$Host" 9 "AutoTeller$Host" "balances" "[J" ∈ wU := mU 66 (by decide +kernel) (by decide +kernel)
theorem u_67 : Cond.fieldLink "AutoTeller$Host" 15 "AutoTeller$Host" "accountOfCard" "[I" ∈ wU := mU 67 (by decide +kernel) (by decide +kernel)
theorem u_68 : Cond.fieldLink "AutoTeller$Host" 19 "AutoTeller$Host" "pinOfCard" "[I" ∈ wU := mU 68 (by decide +kernel) (by decide +kernel)
theorem u_69 : Cond.fieldLink "AutoTeller$Host" 22 "AutoTeller$Host" "triesOfCard" "[I" ∈ wU := mU 69 (by decide +kernel) (by decide +kernel)
theorem u_70 : Cond.fieldLink "AutoTeller$Host" 25 "AutoTeller$Host" "pinCodes" "[I" ∈ wU := mU 70 (by decide +kernel) (by decide +kernel)
theorem u_71 : Cond.fieldLink "AutoTeller$Host" 28 "AutoTeller$Host" "debits" "[I" ∈ wU := mU 71 (by decide +kernel) (by decide +kernel)
theorem u_72 : Cond.fieldLink "AutoTeller$Host" 31 "AutoTeller$Host" "debitAmounts" "[I" ∈ wU := mU 72 (by decide +kernel) (by decide +kernel)
theorem u_73 : Cond.fieldLink "AutoTeller$Host" 34 "AutoTeller$Host" "debitAccounts" "[I" ∈ wU := mU 73 (by decide +kernel) (by decide +kernel)
theorem u_74 : Cond.fieldLink "AutoTeller$Host" 121 "AutoTeller$Host" "takenOff" "J" ∈ wU := mU 74 (by decide +kernel) (by decide +kernel)
theorem n_75 : Cond.fieldLinkNest "AutoTeller" 166 "AutoTeller$Host" "takenOff" "J" "AutoTeller" ∈ wN := mN 75 (by decide +kernel) (by decide +kernel)
theorem u_76 : Cond.fieldLink "AutoTeller$Host" 76 "AutoTeller$Host" "dropped" "I" ∈ wU := mU 76 (by decide +kernel) (by decide +kernel)
theorem n_77 : Cond.fieldLinkNest "AutoTeller" 159 "AutoTeller$Host" "dropped" "I" "AutoTeller" ∈ wN := mN 77 (by decide +kernel) (by decide +kernel)
theorem u_123 : Cond.fieldLink "AutoTeller$Notes" 18 "AutoTeller$Notes" "denominations" "[I" ∈ wU := mU 123 (by decide +kernel) (by decide +kernel)
theorem u_124 : Cond.fieldLink "AutoTeller$Notes" 23 "AutoTeller$Notes" "inCassette" "[I" ∈ wU := mU 124 (by decide +kernel) (by decide +kernel)
theorem u_125 : Cond.fieldLink "AutoTeller$Notes" 26 "AutoTeller$Notes" "inStacker" "[I" ∈ wU := mU 125 (by decide +kernel) (by decide +kernel)
theorem u_126 : Cond.fieldLink "AutoTeller$Notes" 29 "AutoTeller$Notes" "inTray" "[I" ∈ wU := mU 126 (by decide +kernel) (by decide +kernel)
theorem u_127 : Cond.fieldLink "AutoTeller$Notes" 32 "AutoTeller$Notes" "inBin" "[I" ∈ wU := mU 127 (by decide +kernel) (by decide +kernel)
theorem u_128 : Cond.fieldLink "AutoTeller$Notes" 81 "AutoTeller$Notes" "stackerWorth" "I" ∈ wU := mU 128 (by decide +kernel) (by decide +kernel)
theorem u_129 : Cond.fieldLink "AutoTeller$Notes" 88 "AutoTeller$Notes" "trayWorth" "I" ∈ wU := mU 129 (by decide +kernel) (by decide +kernel)
theorem u_130 : Cond.fieldLink "AutoTeller$Notes" 91 "AutoTeller$Notes" "everInTray" "J" ∈ wU := mU 130 (by decide +kernel) (by decide +kernel)
theorem n_131 : Cond.fieldLinkNest "AutoTeller" 170 "AutoTeller$Notes" "everInTray" "J" "AutoTeller" ∈ wN := mN 131 (by decide +kernel) (by decide +kernel)
theorem u_132 : Cond.fieldLink "AutoTeller$Notes" 35 "AutoTeller$Notes" "mixed" "[I" ∈ wU := mU 132 (by decide +kernel) (by decide +kernel)
theorem n_133 : Cond.fieldLinkNest "AutoTeller$Machine" 143 "AutoTeller$Notes" "mixed" "[I" "AutoTeller" ∈ wN := mN 133 (by decide +kernel) (by decide +kernel)
theorem u_134 : Cond.fieldLink "AutoTeller$Notes" 53 "AutoTeller$Notes" "fewest" "I" ∈ wU := mU 134 (by decide +kernel) (by decide +kernel)
theorem u_135 : Cond.fieldLink "AutoTeller$Notes" 72 "AutoTeller$Notes" "largest" "I" ∈ wU := mU 135 (by decide +kernel) (by decide +kernel)
theorem u_165 : Cond.fieldLink "AutoTeller$Journal" 9 "AutoTeller$Journal" "kinds" "[I" ∈ wU := mU 165 (by decide +kernel) (by decide +kernel)
theorem u_166 : Cond.fieldLink "AutoTeller$Journal" 15 "AutoTeller$Journal" "traces" "[I" ∈ wU := mU 166 (by decide +kernel) (by decide +kernel)
theorem u_167 : Cond.fieldLink "AutoTeller$Journal" 18 "AutoTeller$Journal" "amounts" "[I" ∈ wU := mU 167 (by decide +kernel) (by decide +kernel)
theorem u_168 : Cond.fieldLink "AutoTeller$Journal" 21 "AutoTeller$Journal" "cards" "[I" ∈ wU := mU 168 (by decide +kernel) (by decide +kernel)
theorem u_169 : Cond.fieldLink "AutoTeller$Journal" 24 "AutoTeller$Journal" "size" "I" ∈ wU := mU 169 (by decide +kernel) (by decide +kernel)
theorem n_170 : Cond.fieldLinkNest "AutoTeller$Machine" 78 "AutoTeller$Journal" "size" "I" "AutoTeller" ∈ wN := mN 170 (by decide +kernel) (by decide +kernel)
theorem n_171 : Cond.fieldLinkNest "AutoTeller" 150 "AutoTeller$Journal" "size" "I" "AutoTeller" ∈ wN := mN 171 (by decide +kernel) (by decide +kernel)
theorem u_183 : Cond.fieldLink "AutoTeller$Machine" 49 "AutoTeller$Machine" "line" "LAutoTeller$Line;" ∈ wU := mU 183 (by decide +kernel) (by decide +kernel)
theorem u_184 : Cond.fieldLink "AutoTeller$Machine" 12 "AutoTeller$Machine" "notes" "LAutoTeller$Notes;" ∈ wU := mU 184 (by decide +kernel) (by decide +kernel)
theorem n_185 : Cond.fieldLinkNest "AutoTeller" 65 "AutoTeller$Machine" "notes" "LAutoTeller$Notes;" "AutoTeller" ∈ wN := mN 185 (by decide +kernel) (by decide +kernel)
theorem u_186 : Cond.fieldLink "AutoTeller$Machine" 21 "AutoTeller$Machine" "journal" "LAutoTeller$Journal;" ∈ wU := mU 186 (by decide +kernel) (by decide +kernel)
theorem n_187 : Cond.fieldLinkNest "AutoTeller" 131 "AutoTeller$Machine" "journal" "LAutoTeller$Journal;" "AutoTeller" ∈ wN := mN 187 (by decide +kernel) (by decide +kernel)
theorem u_188 : Cond.fieldLink "AutoTeller$Machine" 25 "AutoTeller$Machine" "kept" "[Z" ∈ wU := mU 188 (by decide +kernel) (by decide +kernel)
theorem u_189 : Cond.fieldLink "AutoTeller$Machine" 29 "AutoTeller$Machine" "on" "Z" ∈ wU := mU 189 (by decide +kernel) (by decide +kernel)
theorem n_190 : Cond.fieldLinkNest "AutoTeller" 138 "AutoTeller$Machine" "on" "Z" "AutoTeller" ∈ wN := mN 190 (by decide +kernel) (by decide +kernel)
theorem u_191 : Cond.fieldLink "AutoTeller$Machine" 33 "AutoTeller$Machine" "stepsLeft" "I" ∈ wU := mU 191 (by decide +kernel) (by decide +kernel)
theorem u_192 : Cond.fieldLink "AutoTeller$Machine" 37 "AutoTeller$Machine" "phase" "I" ∈ wU := mU 192 (by decide +kernel) (by decide +kernel)
theorem n_193 : Cond.fieldLinkNest "AutoTeller" 142 "AutoTeller$Machine" "phase" "I" "AutoTeller" ∈ wN := mN 193 (by decide +kernel) (by decide +kernel)
theorem u_194 : Cond.fieldLink "AutoTeller$Machine" 40 "AutoTeller$Machine" "slot" "I" ∈ wU := mU 194 (by decide +kernel) (by decide +kernel)
theorem n_195 : Cond.fieldLinkNest "AutoTeller" 147 "AutoTeller$Machine" "slot" "I" "AutoTeller" ∈ wN := mN 195 (by decide +kernel) (by decide +kernel)
theorem u_196 : Cond.fieldLink "AutoTeller$Machine" 43 "AutoTeller$Machine" "nextTrace" "I" ∈ wU := mU 196 (by decide +kernel) (by decide +kernel)
theorem n_197 : Cond.fieldLinkNest "AutoTeller" 153 "AutoTeller$Machine" "nextTrace" "I" "AutoTeller" ∈ wN := mN 197 (by decide +kernel) (by decide +kernel)
theorem u_198 : Cond.fieldLink "AutoTeller$Machine" 90 "AutoTeller$Machine" "openings" "I" ∈ wU := mU 198 (by decide +kernel) (by decide +kernel)
theorem n_199 : Cond.fieldLinkNest "AutoTeller" 156 "AutoTeller$Machine" "openings" "I" "AutoTeller" ∈ wN := mN 199 (by decide +kernel) (by decide +kernel)
theorem u_200 : Cond.fieldLink "AutoTeller$Machine" 93 "AutoTeller$Machine" "openingsWhenBegun" "I" ∈ wU := mU 200 (by decide +kernel) (by decide +kernel)
theorem u_201 : Cond.fieldLink "AutoTeller$Machine" 110 "AutoTeller$Machine" "dropped" "I" ∈ wU := mU 201 (by decide +kernel) (by decide +kernel)
theorem n_202 : Cond.fieldLinkNest "AutoTeller" 162 "AutoTeller$Machine" "dropped" "I" "AutoTeller" ∈ wN := mN 202 (by decide +kernel) (by decide +kernel)
theorem u_203 : Cond.fieldLink "AutoTeller$Machine" 128 "AutoTeller$Machine" "traceAtHand" "I" ∈ wU := mU 203 (by decide +kernel) (by decide +kernel)
theorem u_204 : Cond.fieldLink "AutoTeller$Machine" 46 "AutoTeller$Machine" "cardAtHand" "I" ∈ wU := mU 204 (by decide +kernel) (by decide +kernel)
theorem u_205 : Cond.fieldLink "AutoTeller$Machine" 84 "AutoTeller$Machine" "amountAtHand" "I" ∈ wU := mU 205 (by decide +kernel) (by decide +kernel)
theorem u_240 : Cond.fieldLink "AutoTeller" 10 "AutoTeller" "line" "LAutoTeller$Line;" ∈ wU := mU 240 (by decide +kernel) (by decide +kernel)
theorem u_241 : Cond.fieldLink "AutoTeller" 21 "AutoTeller" "host" "LAutoTeller$Host;" ∈ wU := mU 241 (by decide +kernel) (by decide +kernel)
theorem u_242 : Cond.fieldLink "AutoTeller" 28 "AutoTeller" "machine" "LAutoTeller$Machine;" ∈ wU := mU 242 (by decide +kernel) (by decide +kernel)
theorem u_243 : Cond.fieldLink "AutoTeller" 35 "AutoTeller" "arriving" "LAutoTeller$Letter;" ∈ wU := mU 243 (by decide +kernel) (by decide +kernel)
theorem u_254 : Cond.instanceMethod ⟨"AutoTeller", "account", "(IJ)Z"⟩ ∈ wU := mU 254 (by decide +kernel) (by decide +kernel)
theorem u_255 : Cond.selects "AutoTeller" ⟨"AutoTeller", "account", "(IJ)Z"⟩ ⟨"AutoTeller", "account", "(IJ)Z"⟩ ∈ wU := mU 255 (by decide +kernel) (by decide +kernel)
theorem u_256 : Cond.code ⟨"AutoTeller", "account", "(IJ)Z"⟩ prog_1_method_2_code 4 (Option.some Jvm.ClassFile.FieldType.boolean) ∈ wU := mU 256 (by decide +kernel) (by decide +kernel)
theorem u_257 : Cond.methodLink "AutoTeller" 39 ⟨"AutoTeller$Host", "setBalance", "(IJ)Z"⟩ ∈ wU := mU 257 (by decide +kernel) (by decide +kernel)
theorem u_258 : Cond.instanceMethod ⟨"AutoTeller$Host", "setBalance", "(IJ)Z"⟩ ∈ wU := mU 258 (by decide +kernel) (by decide +kernel)
theorem u_259 : Cond.selects "AutoTeller$Host" ⟨"AutoTeller$Host", "setBalance", "(IJ)Z"⟩ ⟨"AutoTeller$Host", "setBalance", "(IJ)Z"⟩ ∈ wU := mU 259 (by decide +kernel) (by decide +kernel)
theorem u_260 : Cond.code ⟨"AutoTeller$Host", "setBalance", "(IJ)Z"⟩ prog_2_method_2_code 4 (Option.some Jvm.ClassFile.FieldType.boolean) ∈ wU := mU 260 (by decide +kernel) (by decide +kernel)
theorem u_261 : Cond.methodLink "AutoTeller$Host" 47 ⟨"AutoTeller$Host", "isAccount", "(I)Z"⟩ ∈ wU := mU 261 (by decide +kernel) (by decide +kernel)
theorem u_262 : Cond.static ⟨"AutoTeller$Host", "isAccount", "(I)Z"⟩ ∈ wU := mU 262 (by decide +kernel) (by decide +kernel)
theorem u_263 : Cond.code ⟨"AutoTeller$Host", "isAccount", "(I)Z"⟩ prog_2_method_13_code 1 (Option.some Jvm.ClassFile.FieldType.boolean) ∈ wU := mU 263 (by decide +kernel) (by decide +kernel)
theorem u_264 : Cond.constantLong "AutoTeller$Host" 125 7 ∈ wU := mU 264 (by decide +kernel) (by decide +kernel)
theorem n_265 : Cond.methodLinkNest "AutoTeller$Host" 53 ⟨"AutoTeller", "isWithin", "(JJJ)Z"⟩ "AutoTeller" ∈ wN := mN 265 (by decide +kernel) (by decide +kernel)
theorem u_266 : Cond.static ⟨"AutoTeller", "isWithin", "(JJJ)Z"⟩ ∈ wU := mU 266 (by decide +kernel) (by decide +kernel)
theorem u_267 : Cond.code ⟨"AutoTeller", "isWithin", "(JJJ)Z"⟩ prog_1_method_26_code 6 (Option.some Jvm.ClassFile.FieldType.boolean) ∈ wU := mU 267 (by decide +kernel) (by decide +kernel)
theorem u_268 : Cond.constantLong "AutoTeller$Host" 51 1000000000 ∈ wU := mU 268 (by decide +kernel) (by decide +kernel)
theorem u_270 : Cond.instanceMethod ⟨"AutoTeller", "card", "(III)Z"⟩ ∈ wU := mU 270 (by decide +kernel) (by decide +kernel)
theorem u_271 : Cond.selects "AutoTeller" ⟨"AutoTeller", "card", "(III)Z"⟩ ⟨"AutoTeller", "card", "(III)Z"⟩ ∈ wU := mU 271 (by decide +kernel) (by decide +kernel)
theorem u_272 : Cond.code ⟨"AutoTeller", "card", "(III)Z"⟩ prog_1_method_3_code 4 (Option.some Jvm.ClassFile.FieldType.boolean) ∈ wU := mU 272 (by decide +kernel) (by decide +kernel)
theorem u_273 : Cond.methodLink "AutoTeller" 43 ⟨"AutoTeller$Host", "tellCard", "(III)Z"⟩ ∈ wU := mU 273 (by decide +kernel) (by decide +kernel)
theorem u_274 : Cond.instanceMethod ⟨"AutoTeller$Host", "tellCard", "(III)Z"⟩ ∈ wU := mU 274 (by decide +kernel) (by decide +kernel)
theorem u_275 : Cond.selects "AutoTeller$Host" ⟨"AutoTeller$Host", "tellCard", "(III)Z"⟩ ⟨"AutoTeller$Host", "tellCard", "(III)Z"⟩ ∈ wU := mU 275 (by decide +kernel) (by decide +kernel)
theorem u_276 : Cond.code ⟨"AutoTeller$Host", "tellCard", "(III)Z"⟩ prog_2_method_3_code 4 (Option.some Jvm.ClassFile.FieldType.boolean) ∈ wU := mU 276 (by decide +kernel) (by decide +kernel)
theorem n_277 : Cond.methodLinkNest "AutoTeller$Host" 57 ⟨"AutoTeller", "isCard", "(I)Z"⟩ "AutoTeller" ∈ wN := mN 277 (by decide +kernel) (by decide +kernel)
theorem u_278 : Cond.static ⟨"AutoTeller", "isCard", "(I)Z"⟩ ∈ wU := mU 278 (by decide +kernel) (by decide +kernel)
theorem u_279 : Cond.code ⟨"AutoTeller", "isCard", "(I)Z"⟩ prog_1_method_27_code 1 (Option.some Jvm.ClassFile.FieldType.boolean) ∈ wU := mU 279 (by decide +kernel) (by decide +kernel)
theorem u_280 : Cond.constantLong "AutoTeller" 181 15 ∈ wU := mU 280 (by decide +kernel) (by decide +kernel)
theorem u_281 : Cond.methodLink "AutoTeller" 183 ⟨"AutoTeller", "isWithin", "(JJJ)Z"⟩ ∈ wU := mU 281 (by decide +kernel) (by decide +kernel)
theorem n_282 : Cond.methodLinkNest "AutoTeller$Host" 60 ⟨"AutoTeller", "isPin", "(J)Z"⟩ "AutoTeller" ∈ wN := mN 282 (by decide +kernel) (by decide +kernel)
theorem u_283 : Cond.static ⟨"AutoTeller", "isPin", "(J)Z"⟩ ∈ wU := mU 283 (by decide +kernel) (by decide +kernel)
theorem u_284 : Cond.code ⟨"AutoTeller", "isPin", "(J)Z"⟩ prog_1_method_28_code 2 (Option.some Jvm.ClassFile.FieldType.boolean) ∈ wU := mU 284 (by decide +kernel) (by decide +kernel)
theorem u_285 : Cond.constantLong "AutoTeller" 187 9999 ∈ wU := mU 285 (by decide +kernel) (by decide +kernel)
theorem u_287 : Cond.instanceMethod ⟨"AutoTeller", "load", "(III)Z"⟩ ∈ wU := mU 287 (by decide +kernel) (by decide +kernel)
theorem u_288 : Cond.selects "AutoTeller" ⟨"AutoTeller", "load", "(III)Z"⟩ ⟨"AutoTeller", "load", "(III)Z"⟩ ∈ wU := mU 288 (by decide +kernel) (by decide +kernel)
theorem u_289 : Cond.code ⟨"AutoTeller", "load", "(III)Z"⟩ prog_1_method_4_code 4 (Option.some Jvm.ClassFile.FieldType.boolean) ∈ wU := mU 289 (by decide +kernel) (by decide +kernel)
theorem u_290 : Cond.methodLink "AutoTeller" 47 ⟨"AutoTeller$Machine", "fillCassette", "(III)Z"⟩ ∈ wU := mU 290 (by decide +kernel) (by decide +kernel)
theorem u_291 : Cond.instanceMethod ⟨"AutoTeller$Machine", "fillCassette", "(III)Z"⟩ ∈ wU := mU 291 (by decide +kernel) (by decide +kernel)
theorem u_292 : Cond.selects "AutoTeller$Machine" ⟨"AutoTeller$Machine", "fillCassette", "(III)Z"⟩ ⟨"AutoTeller$Machine", "fillCassette", "(III)Z"⟩ ∈ wU := mU 292 (by decide +kernel) (by decide +kernel)
theorem u_293 : Cond.code ⟨"AutoTeller$Machine", "fillCassette", "(III)Z"⟩ prog_6_method_2_code 4 (Option.some Jvm.ClassFile.FieldType.boolean) ∈ wU := mU 293 (by decide +kernel) (by decide +kernel)
theorem u_294 : Cond.methodLink "AutoTeller$Machine" 53 ⟨"AutoTeller$Notes", "fill", "(III)Z"⟩ ∈ wU := mU 294 (by decide +kernel) (by decide +kernel)
theorem u_295 : Cond.instanceMethod ⟨"AutoTeller$Notes", "fill", "(III)Z"⟩ ∈ wU := mU 295 (by decide +kernel) (by decide +kernel)
theorem u_296 : Cond.selects "AutoTeller$Notes" ⟨"AutoTeller$Notes", "fill", "(III)Z"⟩ ⟨"AutoTeller$Notes", "fill", "(III)Z"⟩ ∈ wU := mU 296 (by decide +kernel) (by decide +kernel)
theorem u_297 : Cond.code ⟨"AutoTeller$Notes", "fill", "(III)Z"⟩ prog_7_method_2_code 4 (Option.some Jvm.ClassFile.FieldType.boolean) ∈ wU := mU 297 (by decide +kernel) (by decide +kernel)
theorem u_298 : Cond.methodLink "AutoTeller$Notes" 38 ⟨"AutoTeller$Notes", "isCassette", "(I)Z"⟩ ∈ wU := mU 298 (by decide +kernel) (by decide +kernel)
theorem u_299 : Cond.static ⟨"AutoTeller$Notes", "isCassette", "(I)Z"⟩ ∈ wU := mU 299 (by decide +kernel) (by decide +kernel)
theorem u_300 : Cond.code ⟨"AutoTeller$Notes", "isCassette", "(I)Z"⟩ prog_7_method_15_code 1 (Option.some Jvm.ClassFile.FieldType.boolean) ∈ wU := mU 300 (by decide +kernel) (by decide +kernel)
theorem u_301 : Cond.constantLong "AutoTeller$Notes" 42 1000 ∈ wU := mU 301 (by decide +kernel) (by decide +kernel)
theorem n_302 : Cond.methodLinkNest "AutoTeller$Notes" 44 ⟨"AutoTeller", "isWithin", "(JJJ)Z"⟩ "AutoTeller" ∈ wN := mN 302 (by decide +kernel) (by decide +kernel)
theorem u_303 : Cond.constantLong "AutoTeller$Notes" 48 200 ∈ wU := mU 303 (by decide +kernel) (by decide +kernel)
theorem u_305 : Cond.instanceMethod ⟨"AutoTeller", "insert", "(I)Z"⟩ ∈ wU := mU 305 (by decide +kernel) (by decide +kernel)
theorem u_306 : Cond.selects "AutoTeller" ⟨"AutoTeller", "insert", "(I)Z"⟩ ⟨"AutoTeller", "insert", "(I)Z"⟩ ∈ wU := mU 306 (by decide +kernel) (by decide +kernel)
theorem u_307 : Cond.code ⟨"AutoTeller", "insert", "(I)Z"⟩ prog_1_method_5_code 2 (Option.some Jvm.ClassFile.FieldType.boolean) ∈ wU := mU 307 (by decide +kernel) (by decide +kernel)
theorem u_308 : Cond.methodLink "AutoTeller" 50 ⟨"AutoTeller$Machine", "putCardIn", "(I)Z"⟩ ∈ wU := mU 308 (by decide +kernel) (by decide +kernel)
theorem u_309 : Cond.instanceMethod ⟨"AutoTeller$Machine", "putCardIn", "(I)Z"⟩ ∈ wU := mU 309 (by decide +kernel) (by decide +kernel)
theorem u_310 : Cond.selects "AutoTeller$Machine" ⟨"AutoTeller$Machine", "putCardIn", "(I)Z"⟩ ⟨"AutoTeller$Machine", "putCardIn", "(I)Z"⟩ ∈ wU := mU 310 (by decide +kernel) (by decide +kernel)
theorem u_311 : Cond.code ⟨"AutoTeller$Machine", "putCardIn", "(I)Z"⟩ prog_6_method_3_code 2 (Option.some Jvm.ClassFile.FieldType.boolean) ∈ wU := mU 311 (by decide +kernel) (by decide +kernel)
theorem n_312 : Cond.methodLinkNest "AutoTeller$Machine" 57 ⟨"AutoTeller", "isCard", "(I)Z"⟩ "AutoTeller" ∈ wN := mN 312 (by decide +kernel) (by decide +kernel)
theorem u_314 : Cond.instanceMethod ⟨"AutoTeller", "pin", "(I)Z"⟩ ∈ wU := mU 314 (by decide +kernel) (by decide +kernel)
theorem u_315 : Cond.selects "AutoTeller" ⟨"AutoTeller", "pin", "(I)Z"⟩ ⟨"AutoTeller", "pin", "(I)Z"⟩ ∈ wU := mU 315 (by decide +kernel) (by decide +kernel)
theorem u_316 : Cond.code ⟨"AutoTeller", "pin", "(I)Z"⟩ prog_1_method_6_code 2 (Option.some Jvm.ClassFile.FieldType.boolean) ∈ wU := mU 316 (by decide +kernel) (by decide +kernel)
theorem u_317 : Cond.methodLink "AutoTeller" 54 ⟨"AutoTeller$Machine", "beginPinCheck", "(I)Z"⟩ ∈ wU := mU 317 (by decide +kernel) (by decide +kernel)
theorem u_318 : Cond.instanceMethod ⟨"AutoTeller$Machine", "beginPinCheck", "(I)Z"⟩ ∈ wU := mU 318 (by decide +kernel) (by decide +kernel)
theorem u_319 : Cond.selects "AutoTeller$Machine" ⟨"AutoTeller$Machine", "beginPinCheck", "(I)Z"⟩ ⟨"AutoTeller$Machine", "beginPinCheck", "(I)Z"⟩ ∈ wU := mU 319 (by decide +kernel) (by decide +kernel)
theorem u_320 : Cond.code ⟨"AutoTeller$Machine", "beginPinCheck", "(I)Z"⟩ prog_6_method_6_code 2 (Option.some Jvm.ClassFile.FieldType.boolean) ∈ wU := mU 320 (by decide +kernel) (by decide +kernel)
theorem n_321 : Cond.methodLinkNest "AutoTeller$Machine" 64 ⟨"AutoTeller", "isPin", "(J)Z"⟩ "AutoTeller" ∈ wN := mN 321 (by decide +kernel) (by decide +kernel)
theorem u_322 : Cond.methodLink "AutoTeller$Machine" 68 ⟨"AutoTeller$Machine", "takeTrace", "()V"⟩ ∈ wU := mU 322 (by decide +kernel) (by decide +kernel)
theorem u_324 : Cond.instanceMethod ⟨"AutoTeller$Machine", "takeTrace", "()V"⟩ ∈ wU := mU 324 (by decide +kernel) (by decide +kernel)
theorem u_325 : Cond.code ⟨"AutoTeller$Machine", "takeTrace", "()V"⟩ prog_6_method_20_code 1 (Option.none : Option Jvm.ClassFile.FieldType) ∈ wU := mU 325 (by decide +kernel) (by decide +kernel)
theorem u_326 : Cond.methodLink "AutoTeller$Machine" 71 ⟨"AutoTeller$Machine", "send", "(II)Z"⟩ ∈ wU := mU 326 (by decide +kernel) (by decide +kernel)
theorem u_328 : Cond.instanceMethod ⟨"AutoTeller$Machine", "send", "(II)Z"⟩ ∈ wU := mU 328 (by decide +kernel) (by decide +kernel)
theorem u_329 : Cond.code ⟨"AutoTeller$Machine", "send", "(II)Z"⟩ prog_6_method_23_code 3 (Option.some Jvm.ClassFile.FieldType.boolean) ∈ wU := mU 329 (by decide +kernel) (by decide +kernel)
theorem u_330 : Cond.methodLink "AutoTeller$Machine" 137 ⟨"AutoTeller$Machine", "mayStep", "()Z"⟩ ∈ wU := mU 330 (by decide +kernel) (by decide +kernel)
theorem u_332 : Cond.instanceMethod ⟨"AutoTeller$Machine", "mayStep", "()Z"⟩ ∈ wU := mU 332 (by decide +kernel) (by decide +kernel)
theorem u_333 : Cond.code ⟨"AutoTeller$Machine", "mayStep", "()Z"⟩ prog_6_method_21_code 1 (Option.some Jvm.ClassFile.FieldType.boolean) ∈ wU := mU 333 (by decide +kernel) (by decide +kernel)
theorem u_334 : Cond.methodLink "AutoTeller$Machine" 182 ⟨"AutoTeller$Line", "post", "(ZIIIJI)V"⟩ ∈ wU := mU 334 (by decide +kernel) (by decide +kernel)
theorem u_335 : Cond.instanceMethod ⟨"AutoTeller$Line", "post", "(ZIIIJI)V"⟩ ∈ wU := mU 335 (by decide +kernel) (by decide +kernel)
theorem u_336 : Cond.selects "AutoTeller$Line" ⟨"AutoTeller$Line", "post", "(ZIIIJI)V"⟩ ⟨"AutoTeller$Line", "post", "(ZIIIJI)V"⟩ ∈ wU := mU 336 (by decide +kernel) (by decide +kernel)
theorem u_337 : Cond.code ⟨"AutoTeller$Line", "post", "(ZIIIJI)V"⟩ prog_5_method_3_code 9 (Option.none : Option Jvm.ClassFile.FieldType) ∈ wU := mU 337 (by decide +kernel) (by decide +kernel)
theorem u_338 : Cond.methodLink "AutoTeller$Line" 22 ⟨"AutoTeller$Line", "remove", "(I)V"⟩ ∈ wU := mU 338 (by decide +kernel) (by decide +kernel)
theorem u_339 : Cond.instanceMethod ⟨"AutoTeller$Line", "remove", "(I)V"⟩ ∈ wU := mU 339 (by decide +kernel) (by decide +kernel)
theorem u_340 : Cond.selects "AutoTeller$Line" ⟨"AutoTeller$Line", "remove", "(I)V"⟩ ⟨"AutoTeller$Line", "remove", "(I)V"⟩ ∈ wU := mU 340 (by decide +kernel) (by decide +kernel)
theorem u_341 : Cond.code ⟨"AutoTeller$Line", "remove", "(I)V"⟩ prog_5_method_5_code 4 (Option.none : Option Jvm.ClassFile.FieldType) ∈ wU := mU 341 (by decide +kernel) (by decide +kernel)
theorem u_342 : Cond.methodLink "AutoTeller$Line" 37 ⟨"AutoTeller$Line", "has", "(I)Z"⟩ ∈ wU := mU 342 (by decide +kernel) (by decide +kernel)
theorem u_343 : Cond.instanceMethod ⟨"AutoTeller$Line", "has", "(I)Z"⟩ ∈ wU := mU 343 (by decide +kernel) (by decide +kernel)
theorem u_344 : Cond.selects "AutoTeller$Line" ⟨"AutoTeller$Line", "has", "(I)Z"⟩ ⟨"AutoTeller$Line", "has", "(I)Z"⟩ ∈ wU := mU 344 (by decide +kernel) (by decide +kernel)
theorem u_345 : Cond.code ⟨"AutoTeller$Line", "has", "(I)Z"⟩ prog_5_method_2_code 2 (Option.some Jvm.ClassFile.FieldType.boolean) ∈ wU := mU 345 (by decide +kernel) (by decide +kernel)
theorem u_346 : Cond.methodLink "AutoTeller$Line" 33 ⟨"AutoTeller$Letter", "write", "(IIIJI)V"⟩ ∈ wU := mU 346 (by decide +kernel) (by decide +kernel)
theorem u_347 : Cond.instanceMethod ⟨"AutoTeller$Letter", "write", "(IIIJI)V"⟩ ∈ wU := mU 347 (by decide +kernel) (by decide +kernel)
theorem u_348 : Cond.selects "AutoTeller$Letter" ⟨"AutoTeller$Letter", "write", "(IIIJI)V"⟩ ⟨"AutoTeller$Letter", "write", "(IIIJI)V"⟩ ∈ wU := mU 348 (by decide +kernel) (by decide +kernel)
theorem u_349 : Cond.code ⟨"AutoTeller$Letter", "write", "(IIIJI)V"⟩ prog_4_method_2_code 8 (Option.none : Option Jvm.ClassFile.FieldType) ∈ wU := mU 349 (by decide +kernel) (by decide +kernel)
theorem u_350 : Cond.methodLink "AutoTeller$Letter" 15 ⟨"AutoTeller$Letter", "writeNumber", "(IJ)V"⟩ ∈ wU := mU 350 (by decide +kernel) (by decide +kernel)
theorem u_352 : Cond.instanceMethod ⟨"AutoTeller$Letter", "writeNumber", "(IJ)V"⟩ ∈ wU := mU 352 (by decide +kernel) (by decide +kernel)
theorem u_353 : Cond.code ⟨"AutoTeller$Letter", "writeNumber", "(IJ)V"⟩ prog_4_method_11_code 5 (Option.none : Option Jvm.ClassFile.FieldType) ∈ wU := mU 353 (by decide +kernel) (by decide +kernel)
theorem u_354 : Cond.methodLink "AutoTeller$Letter" 19 ⟨"AutoTeller$Letter", "reckonCheck", "()I"⟩ ∈ wU := mU 354 (by decide +kernel) (by decide +kernel)
theorem u_356 : Cond.instanceMethod ⟨"AutoTeller$Letter", "reckonCheck", "()I"⟩ ∈ wU := mU 356 (by decide +kernel) (by decide +kernel)
theorem u_357 : Cond.code ⟨"AutoTeller$Letter", "reckonCheck", "()I"⟩ prog_4_method_10_code 5 (Option.some Jvm.ClassFile.FieldType.int) ∈ wU := mU 357 (by decide +kernel) (by decide +kernel)
theorem u_358 : Cond.constant "AutoTeller$Letter" 37 65535 ∈ wU := mU 358 (by decide +kernel) (by decide +kernel)
theorem u_360 : Cond.instanceMethod ⟨"AutoTeller", "ask", "(I)I"⟩ ∈ wU := mU 360 (by decide +kernel) (by decide +kernel)
theorem u_361 : Cond.selects "AutoTeller" ⟨"AutoTeller", "ask", "(I)I"⟩ ⟨"AutoTeller", "ask", "(I)I"⟩ ∈ wU := mU 361 (by decide +kernel) (by decide +kernel)
theorem u_362 : Cond.code ⟨"AutoTeller", "ask", "(I)I"⟩ prog_1_method_7_code 2 (Option.some Jvm.ClassFile.FieldType.int) ∈ wU := mU 362 (by decide +kernel) (by decide +kernel)
theorem u_363 : Cond.methodLink "AutoTeller" 57 ⟨"AutoTeller$Machine", "beginWithdrawal", "(I)I"⟩ ∈ wU := mU 363 (by decide +kernel) (by decide +kernel)
theorem u_364 : Cond.instanceMethod ⟨"AutoTeller$Machine", "beginWithdrawal", "(I)I"⟩ ∈ wU := mU 364 (by decide +kernel) (by decide +kernel)
theorem u_365 : Cond.selects "AutoTeller$Machine" ⟨"AutoTeller$Machine", "beginWithdrawal", "(I)I"⟩ ⟨"AutoTeller$Machine", "beginWithdrawal", "(I)I"⟩ ∈ wU := mU 365 (by decide +kernel) (by decide +kernel)
theorem u_366 : Cond.code ⟨"AutoTeller$Machine", "beginWithdrawal", "(I)I"⟩ prog_6_method_7_code 2 (Option.some Jvm.ClassFile.FieldType.int) ∈ wU := mU 366 (by decide +kernel) (by decide +kernel)
theorem n_367 : Cond.methodLinkNest "AutoTeller$Machine" 75 ⟨"AutoTeller", "isAmount", "(J)Z"⟩ "AutoTeller" ∈ wN := mN 367 (by decide +kernel) (by decide +kernel)
theorem u_368 : Cond.static ⟨"AutoTeller", "isAmount", "(J)Z"⟩ ∈ wU := mU 368 (by decide +kernel) (by decide +kernel)
theorem u_369 : Cond.code ⟨"AutoTeller", "isAmount", "(J)Z"⟩ prog_1_method_29_code 2 (Option.some Jvm.ClassFile.FieldType.boolean) ∈ wU := mU 369 (by decide +kernel) (by decide +kernel)
theorem u_370 : Cond.constantLong "AutoTeller" 189 40000 ∈ wU := mU 370 (by decide +kernel) (by decide +kernel)
theorem u_371 : Cond.methodLink "AutoTeller$Machine" 81 ⟨"AutoTeller$Notes", "findMix", "(I)Z"⟩ ∈ wU := mU 371 (by decide +kernel) (by decide +kernel)
theorem u_372 : Cond.instanceMethod ⟨"AutoTeller$Notes", "findMix", "(I)Z"⟩ ∈ wU := mU 372 (by decide +kernel) (by decide +kernel)
theorem u_373 : Cond.selects "AutoTeller$Notes" ⟨"AutoTeller$Notes", "findMix", "(I)Z"⟩ ⟨"AutoTeller$Notes", "findMix", "(I)Z"⟩ ∈ wU := mU 373 (by decide +kernel) (by decide +kernel)
theorem u_374 : Cond.code ⟨"AutoTeller$Notes", "findMix", "(I)Z"⟩ prog_7_method_5_code 6 (Option.some Jvm.ClassFile.FieldType.boolean) ∈ wU := mU 374 (by decide +kernel) (by decide +kernel)
theorem n_375 : Cond.methodLinkNest "AutoTeller$Notes" 57 ⟨"AutoTeller", "isAmount", "(J)Z"⟩ "AutoTeller" ∈ wN := mN 375 (by decide +kernel) (by decide +kernel)
theorem u_376 : Cond.methodLink "AutoTeller$Notes" 61 ⟨"AutoTeller$Notes", "findLargest", "()V"⟩ ∈ wU := mU 376 (by decide +kernel) (by decide +kernel)
theorem u_378 : Cond.instanceMethod ⟨"AutoTeller$Notes", "findLargest", "()V"⟩ ∈ wU := mU 378 (by decide +kernel) (by decide +kernel)
theorem u_379 : Cond.code ⟨"AutoTeller$Notes", "findLargest", "()V"⟩ prog_7_method_7_code 2 (Option.none : Option Jvm.ClassFile.FieldType) ∈ wU := mU 379 (by decide +kernel) (by decide +kernel)
theorem u_380 : Cond.methodLink "AutoTeller$Notes" 75 ⟨"java/lang/Math", "max", "(II)I"⟩ ∈ wU := mU 380 (by decide +kernel) (by decide +kernel)
theorem u_381 : Cond.static ⟨"java/lang/Math", "max", "(II)I"⟩ ∈ wU := mU 381 (by decide +kernel) (by decide +kernel)
theorem u_382 : Cond.code ⟨"java/lang/Math", "max", "(II)I"⟩ prog_11_method_65_code 2 (Option.some Jvm.ClassFile.FieldType.int) ∈ wU := mU 382 (by decide +kernel) (by decide +kernel)
theorem u_383 : Cond.methodLink "AutoTeller$Notes" 64 ⟨"AutoTeller$Notes", "mostOf", "(III)I"⟩ ∈ wU := mU 383 (by decide +kernel) (by decide +kernel)
theorem u_385 : Cond.instanceMethod ⟨"AutoTeller$Notes", "mostOf", "(III)I"⟩ ∈ wU := mU 385 (by decide +kernel) (by decide +kernel)
theorem u_386 : Cond.code ⟨"AutoTeller$Notes", "mostOf", "(III)I"⟩ prog_7_method_8_code 7 (Option.some Jvm.ClassFile.FieldType.int) ∈ wU := mU 386 (by decide +kernel) (by decide +kernel)
theorem u_387 : Cond.methodLink "AutoTeller$Notes" 68 ⟨"AutoTeller$Notes", "mixRest", "(III)V"⟩ ∈ wU := mU 387 (by decide +kernel) (by decide +kernel)
theorem u_389 : Cond.instanceMethod ⟨"AutoTeller$Notes", "mixRest", "(III)V"⟩ ∈ wU := mU 389 (by decide +kernel) (by decide +kernel)
theorem u_390 : Cond.code ⟨"AutoTeller$Notes", "mixRest", "(III)V"⟩ prog_7_method_6_code 9 (Option.none : Option Jvm.ClassFile.FieldType) ∈ wU := mU 390 (by decide +kernel) (by decide +kernel)
theorem u_391 : Cond.methodLink "AutoTeller$Machine" 87 ⟨"AutoTeller$Machine", "write", "(I)Z"⟩ ∈ wU := mU 391 (by decide +kernel) (by decide +kernel)
theorem u_393 : Cond.instanceMethod ⟨"AutoTeller$Machine", "write", "(I)Z"⟩ ∈ wU := mU 393 (by decide +kernel) (by decide +kernel)
theorem u_394 : Cond.code ⟨"AutoTeller$Machine", "write", "(I)Z"⟩ prog_6_method_22_code 2 (Option.some Jvm.ClassFile.FieldType.boolean) ∈ wU := mU 394 (by decide +kernel) (by decide +kernel)
theorem u_395 : Cond.methodLink "AutoTeller$Machine" 175 ⟨"AutoTeller$Journal", "isFull", "()Z"⟩ ∈ wU := mU 395 (by decide +kernel) (by decide +kernel)
theorem u_396 : Cond.instanceMethod ⟨"AutoTeller$Journal", "isFull", "()Z"⟩ ∈ wU := mU 396 (by decide +kernel) (by decide +kernel)
theorem u_397 : Cond.selects "AutoTeller$Journal" ⟨"AutoTeller$Journal", "isFull", "()Z"⟩ ⟨"AutoTeller$Journal", "isFull", "()Z"⟩ ∈ wU := mU 397 (by decide +kernel) (by decide +kernel)
theorem u_398 : Cond.code ⟨"AutoTeller$Journal", "isFull", "()Z"⟩ prog_3_method_2_code 1 (Option.some Jvm.ClassFile.FieldType.boolean) ∈ wU := mU 398 (by decide +kernel) (by decide +kernel)
theorem u_399 : Cond.methodLink "AutoTeller$Machine" 178 ⟨"AutoTeller$Journal", "add", "(IIII)V"⟩ ∈ wU := mU 399 (by decide +kernel) (by decide +kernel)
theorem u_400 : Cond.instanceMethod ⟨"AutoTeller$Journal", "add", "(IIII)V"⟩ ∈ wU := mU 400 (by decide +kernel) (by decide +kernel)
theorem u_401 : Cond.selects "AutoTeller$Journal" ⟨"AutoTeller$Journal", "add", "(IIII)V"⟩ ⟨"AutoTeller$Journal", "add", "(IIII)V"⟩ ∈ wU := mU 401 (by decide +kernel) (by decide +kernel)
theorem u_402 : Cond.code ⟨"AutoTeller$Journal", "add", "(IIII)V"⟩ prog_3_method_3_code 5 (Option.none : Option Jvm.ClassFile.FieldType) ∈ wU := mU 402 (by decide +kernel) (by decide +kernel)
theorem u_403 : Cond.methodLink "AutoTeller$Journal" 28 ⟨"AutoTeller$Journal", "isFull", "()Z"⟩ ∈ wU := mU 403 (by decide +kernel) (by decide +kernel)
theorem u_405 : Cond.instanceMethod ⟨"AutoTeller", "eject", "()Z"⟩ ∈ wU := mU 405 (by decide +kernel) (by decide +kernel)
theorem u_406 : Cond.selects "AutoTeller" ⟨"AutoTeller", "eject", "()Z"⟩ ⟨"AutoTeller", "eject", "()Z"⟩ ∈ wU := mU 406 (by decide +kernel) (by decide +kernel)
theorem u_407 : Cond.code ⟨"AutoTeller", "eject", "()Z"⟩ prog_1_method_8_code 1 (Option.some Jvm.ClassFile.FieldType.boolean) ∈ wU := mU 407 (by decide +kernel) (by decide +kernel)
theorem u_408 : Cond.methodLink "AutoTeller" 61 ⟨"AutoTeller$Machine", "giveCardBack", "()Z"⟩ ∈ wU := mU 408 (by decide +kernel) (by decide +kernel)
theorem u_409 : Cond.instanceMethod ⟨"AutoTeller$Machine", "giveCardBack", "()Z"⟩ ∈ wU := mU 409 (by decide +kernel) (by decide +kernel)
theorem u_410 : Cond.selects "AutoTeller$Machine" ⟨"AutoTeller$Machine", "giveCardBack", "()Z"⟩ ⟨"AutoTeller$Machine", "giveCardBack", "()Z"⟩ ∈ wU := mU 410 (by decide +kernel) (by decide +kernel)
theorem u_411 : Cond.code ⟨"AutoTeller$Machine", "giveCardBack", "()Z"⟩ prog_6_method_4_code 1 (Option.some Jvm.ClassFile.FieldType.boolean) ∈ wU := mU 411 (by decide +kernel) (by decide +kernel)
theorem u_412 : Cond.methodLink "AutoTeller$Machine" 61 ⟨"AutoTeller$Machine", "endWithoutCard", "()V"⟩ ∈ wU := mU 412 (by decide +kernel) (by decide +kernel)
theorem u_414 : Cond.instanceMethod ⟨"AutoTeller$Machine", "endWithoutCard", "()V"⟩ ∈ wU := mU 414 (by decide +kernel) (by decide +kernel)
theorem u_415 : Cond.code ⟨"AutoTeller$Machine", "endWithoutCard", "()V"⟩ prog_6_method_19_code 1 (Option.none : Option Jvm.ClassFile.FieldType) ∈ wU := mU 415 (by decide +kernel) (by decide +kernel)
theorem u_417 : Cond.instanceMethod ⟨"AutoTeller", "take", "()I"⟩ ∈ wU := mU 417 (by decide +kernel) (by decide +kernel)
theorem u_418 : Cond.selects "AutoTeller" ⟨"AutoTeller", "take", "()I"⟩ ⟨"AutoTeller", "take", "()I"⟩ ∈ wU := mU 418 (by decide +kernel) (by decide +kernel)
theorem u_419 : Cond.code ⟨"AutoTeller", "take", "()I"⟩ prog_1_method_9_code 1 (Option.some Jvm.ClassFile.FieldType.int) ∈ wU := mU 419 (by decide +kernel) (by decide +kernel)
theorem u_420 : Cond.methodLink "AutoTeller" 69 ⟨"AutoTeller$Notes", "clearTray", "()I"⟩ ∈ wU := mU 420 (by decide +kernel) (by decide +kernel)
theorem u_421 : Cond.instanceMethod ⟨"AutoTeller$Notes", "clearTray", "()I"⟩ ∈ wU := mU 421 (by decide +kernel) (by decide +kernel)
theorem u_422 : Cond.selects "AutoTeller$Notes" ⟨"AutoTeller$Notes", "clearTray", "()I"⟩ ⟨"AutoTeller$Notes", "clearTray", "()I"⟩ ∈ wU := mU 422 (by decide +kernel) (by decide +kernel)
theorem u_423 : Cond.code ⟨"AutoTeller$Notes", "clearTray", "()I"⟩ prog_7_method_14_code 2 (Option.some Jvm.ClassFile.FieldType.int) ∈ wU := mU 423 (by decide +kernel) (by decide +kernel)
theorem u_424 : Cond.methodLink "AutoTeller$Notes" 95 ⟨"java/util/Arrays", "fill", "([II)V"⟩ ∈ wU := mU 424 (by decide +kernel) (by decide +kernel)
theorem u_426 : Cond.instanceMethod ⟨"AutoTeller", "timeout", "()Z"⟩ ∈ wU := mU 426 (by decide +kernel) (by decide +kernel)
theorem u_427 : Cond.selects "AutoTeller" ⟨"AutoTeller", "timeout", "()Z"⟩ ⟨"AutoTeller", "timeout", "()Z"⟩ ∈ wU := mU 427 (by decide +kernel) (by decide +kernel)
theorem u_428 : Cond.code ⟨"AutoTeller", "timeout", "()Z"⟩ prog_1_method_10_code 1 (Option.some Jvm.ClassFile.FieldType.boolean) ∈ wU := mU 428 (by decide +kernel) (by decide +kernel)
theorem u_429 : Cond.methodLink "AutoTeller" 75 ⟨"AutoTeller$Machine", "endWaiting", "()Z"⟩ ∈ wU := mU 429 (by decide +kernel) (by decide +kernel)
theorem u_430 : Cond.instanceMethod ⟨"AutoTeller$Machine", "endWaiting", "()Z"⟩ ∈ wU := mU 430 (by decide +kernel) (by decide +kernel)
theorem u_431 : Cond.selects "AutoTeller$Machine" ⟨"AutoTeller$Machine", "endWaiting", "()Z"⟩ ⟨"AutoTeller$Machine", "endWaiting", "()Z"⟩ ∈ wU := mU 431 (by decide +kernel) (by decide +kernel)
theorem u_432 : Cond.code ⟨"AutoTeller$Machine", "endWaiting", "()Z"⟩ prog_6_method_8_code 1 (Option.some Jvm.ClassFile.FieldType.boolean) ∈ wU := mU 432 (by decide +kernel) (by decide +kernel)
theorem u_433 : Cond.methodLink "AutoTeller$Machine" 96 ⟨"AutoTeller$Machine", "reverse", "(Z)V"⟩ ∈ wU := mU 433 (by decide +kernel) (by decide +kernel)
theorem u_435 : Cond.instanceMethod ⟨"AutoTeller$Machine", "reverse", "(Z)V"⟩ ∈ wU := mU 435 (by decide +kernel) (by decide +kernel)
theorem u_436 : Cond.code ⟨"AutoTeller$Machine", "reverse", "(Z)V"⟩ prog_6_method_14_code 2 (Option.none : Option Jvm.ClassFile.FieldType) ∈ wU := mU 436 (by decide +kernel) (by decide +kernel)
theorem u_437 : Cond.methodLink "AutoTeller$Machine" 150 ⟨"AutoTeller$Notes", "areStacked", "()Z"⟩ ∈ wU := mU 437 (by decide +kernel) (by decide +kernel)
theorem u_438 : Cond.instanceMethod ⟨"AutoTeller$Notes", "areStacked", "()Z"⟩ ∈ wU := mU 438 (by decide +kernel) (by decide +kernel)
theorem u_439 : Cond.selects "AutoTeller$Notes" ⟨"AutoTeller$Notes", "areStacked", "()Z"⟩ ⟨"AutoTeller$Notes", "areStacked", "()Z"⟩ ∈ wU := mU 439 (by decide +kernel) (by decide +kernel)
theorem u_440 : Cond.code ⟨"AutoTeller$Notes", "areStacked", "()Z"⟩ prog_7_method_10_code 3 (Option.some Jvm.ClassFile.FieldType.boolean) ∈ wU := mU 440 (by decide +kernel) (by decide +kernel)
theorem u_441 : Cond.methodLink "AutoTeller$Machine" 153 ⟨"AutoTeller$Notes", "moveStackerToBin", "()V"⟩ ∈ wU := mU 441 (by decide +kernel) (by decide +kernel)
theorem u_442 : Cond.instanceMethod ⟨"AutoTeller$Notes", "moveStackerToBin", "()V"⟩ ∈ wU := mU 442 (by decide +kernel) (by decide +kernel)
theorem u_443 : Cond.selects "AutoTeller$Notes" ⟨"AutoTeller$Notes", "moveStackerToBin", "()V"⟩ ⟨"AutoTeller$Notes", "moveStackerToBin", "()V"⟩ ∈ wU := mU 443 (by decide +kernel) (by decide +kernel)
theorem u_444 : Cond.code ⟨"AutoTeller$Notes", "moveStackerToBin", "()V"⟩ prog_7_method_12_code 1 (Option.none : Option Jvm.ClassFile.FieldType) ∈ wU := mU 444 (by decide +kernel) (by decide +kernel)
theorem u_445 : Cond.methodLink "AutoTeller$Notes" 84 ⟨"AutoTeller$Notes", "emptyStackerInto", "([I)V"⟩ ∈ wU := mU 445 (by decide +kernel) (by decide +kernel)
theorem u_447 : Cond.instanceMethod ⟨"AutoTeller$Notes", "emptyStackerInto", "([I)V"⟩ ∈ wU := mU 447 (by decide +kernel) (by decide +kernel)
theorem u_448 : Cond.code ⟨"AutoTeller$Notes", "emptyStackerInto", "([I)V"⟩ prog_7_method_13_code 3 (Option.none : Option Jvm.ClassFile.FieldType) ∈ wU := mU 448 (by decide +kernel) (by decide +kernel)
theorem u_450 : Cond.instanceMethod ⟨"AutoTeller", "deliver", "(I)I"⟩ ∈ wU := mU 450 (by decide +kernel) (by decide +kernel)
theorem u_451 : Cond.selects "AutoTeller" ⟨"AutoTeller", "deliver", "(I)I"⟩ ⟨"AutoTeller", "deliver", "(I)I"⟩ ∈ wU := mU 451 (by decide +kernel) (by decide +kernel)
theorem u_452 : Cond.code ⟨"AutoTeller", "deliver", "(I)I"⟩ prog_1_method_11_code 2 (Option.some Jvm.ClassFile.FieldType.int) ∈ wU := mU 452 (by decide +kernel) (by decide +kernel)
theorem u_453 : Cond.methodLink "AutoTeller" 78 ⟨"AutoTeller$Line", "has", "(I)Z"⟩ ∈ wU := mU 453 (by decide +kernel) (by decide +kernel)
theorem u_454 : Cond.methodLink "AutoTeller" 81 ⟨"AutoTeller$Line", "copyTo", "(ILAutoTeller$Letter;)V"⟩ ∈ wU := mU 454 (by decide +kernel) (by decide +kernel)
theorem u_455 : Cond.instanceMethod ⟨"AutoTeller$Line", "copyTo", "(ILAutoTeller$Letter;)V"⟩ ∈ wU := mU 455 (by decide +kernel) (by decide +kernel)
theorem u_456 : Cond.selects "AutoTeller$Line" ⟨"AutoTeller$Line", "copyTo", "(ILAutoTeller$Letter;)V"⟩ ⟨"AutoTeller$Line", "copyTo", "(ILAutoTeller$Letter;)V"⟩ ∈ wU := mU 456 (by decide +kernel) (by decide +kernel)
theorem u_457 : Cond.code ⟨"AutoTeller$Line", "copyTo", "(ILAutoTeller$Letter;)V"⟩ prog_5_method_4_code 3 (Option.none : Option Jvm.ClassFile.FieldType) ∈ wU := mU 457 (by decide +kernel) (by decide +kernel)
theorem u_458 : Cond.methodLink "AutoTeller$Line" 41 ⟨"AutoTeller$Letter", "copyFrom", "(LAutoTeller$Letter;)V"⟩ ∈ wU := mU 458 (by decide +kernel) (by decide +kernel)
theorem u_459 : Cond.instanceMethod ⟨"AutoTeller$Letter", "copyFrom", "(LAutoTeller$Letter;)V"⟩ ∈ wU := mU 459 (by decide +kernel) (by decide +kernel)
theorem u_460 : Cond.selects "AutoTeller$Letter" ⟨"AutoTeller$Letter", "copyFrom", "(LAutoTeller$Letter;)V"⟩ ⟨"AutoTeller$Letter", "copyFrom", "(LAutoTeller$Letter;)V"⟩ ∈ wU := mU 460 (by decide +kernel) (by decide +kernel)
theorem u_461 : Cond.code ⟨"AutoTeller$Letter", "copyFrom", "(LAutoTeller$Letter;)V"⟩ prog_4_method_3_code 2 (Option.none : Option Jvm.ClassFile.FieldType) ∈ wU := mU 461 (by decide +kernel) (by decide +kernel)
theorem u_462 : Cond.methodLink "AutoTeller$Letter" 23 ⟨"java/lang/System", "arraycopy", "(Ljava/lang/Object;ILjava/lang/Object;II)V"⟩ ∈ wU := mU 462 (by decide +kernel) (by decide +kernel)
theorem u_463 : Cond.static ⟨"java/lang/System", "arraycopy", "(Ljava/lang/Object;ILjava/lang/Object;II)V"⟩ ∈ wU := mU 463 (by decide +kernel) (by decide +kernel)
theorem u_464 : Cond.native ⟨"java/lang/System", "arraycopy", "(Ljava/lang/Object;ILjava/lang/Object;II)V"⟩ ∈ wU := mU 464 (by decide +kernel) (by decide +kernel)
theorem u_465 : Cond.methodLink "AutoTeller" 85 ⟨"AutoTeller$Line", "remove", "(I)V"⟩ ∈ wU := mU 465 (by decide +kernel) (by decide +kernel)
theorem u_466 : Cond.methodLink "AutoTeller" 89 ⟨"AutoTeller", "handOver", "()V"⟩ ∈ wU := mU 466 (by decide +kernel) (by decide +kernel)
theorem u_468 : Cond.instanceMethod ⟨"AutoTeller", "handOver", "()V"⟩ ∈ wU := mU 468 (by decide +kernel) (by decide +kernel)
theorem u_469 : Cond.code ⟨"AutoTeller", "handOver", "()V"⟩ prog_1_method_25_code 1 (Option.none : Option Jvm.ClassFile.FieldType) ∈ wU := mU 469 (by decide +kernel) (by decide +kernel)
theorem u_470 : Cond.methodLink "AutoTeller" 176 ⟨"AutoTeller$Host", "receive", "(LAutoTeller$Letter;)V"⟩ ∈ wU := mU 470 (by decide +kernel) (by decide +kernel)
theorem u_471 : Cond.instanceMethod ⟨"AutoTeller$Host", "receive", "(LAutoTeller$Letter;)V"⟩ ∈ wU := mU 471 (by decide +kernel) (by decide +kernel)
theorem u_472 : Cond.selects "AutoTeller$Host" ⟨"AutoTeller$Host", "receive", "(LAutoTeller$Letter;)V"⟩ ⟨"AutoTeller$Host", "receive", "(LAutoTeller$Letter;)V"⟩ ∈ wU := mU 472 (by decide +kernel) (by decide +kernel)
theorem u_473 : Cond.code ⟨"AutoTeller$Host", "receive", "(LAutoTeller$Letter;)V"⟩ prog_2_method_7_code 8 (Option.none : Option Jvm.ClassFile.FieldType) ∈ wU := mU 473 (by decide +kernel) (by decide +kernel)
theorem u_474 : Cond.methodLink "AutoTeller$Host" 66 ⟨"AutoTeller$Letter", "isSound", "()Z"⟩ ∈ wU := mU 474 (by decide +kernel) (by decide +kernel)
theorem u_475 : Cond.instanceMethod ⟨"AutoTeller$Letter", "isSound", "()Z"⟩ ∈ wU := mU 475 (by decide +kernel) (by decide +kernel)
theorem u_476 : Cond.selects "AutoTeller$Letter" ⟨"AutoTeller$Letter", "isSound", "()Z"⟩ ⟨"AutoTeller$Letter", "isSound", "()Z"⟩ ∈ wU := mU 476 (by decide +kernel) (by decide +kernel)
theorem u_477 : Cond.code ⟨"AutoTeller$Letter", "isSound", "()Z"⟩ prog_4_method_9_code 1 (Option.some Jvm.ClassFile.FieldType.boolean) ∈ wU := mU 477 (by decide +kernel) (by decide +kernel)
theorem u_478 : Cond.methodLink "AutoTeller$Host" 72 ⟨"AutoTeller$Host", "isUsable", "(LAutoTeller$Letter;)Z"⟩ ∈ wU := mU 478 (by decide +kernel) (by decide +kernel)
theorem u_479 : Cond.static ⟨"AutoTeller$Host", "isUsable", "(LAutoTeller$Letter;)Z"⟩ ∈ wU := mU 479 (by decide +kernel) (by decide +kernel)
theorem u_480 : Cond.code ⟨"AutoTeller$Host", "isUsable", "(LAutoTeller$Letter;)Z"⟩ prog_2_method_8_code 1 (Option.some Jvm.ClassFile.FieldType.boolean) ∈ wU := mU 480 (by decide +kernel) (by decide +kernel)
theorem u_481 : Cond.methodLink "AutoTeller$Host" 84 ⟨"AutoTeller$Letter", "trace", "()J"⟩ ∈ wU := mU 481 (by decide +kernel) (by decide +kernel)
theorem u_482 : Cond.instanceMethod ⟨"AutoTeller$Letter", "trace", "()J"⟩ ∈ wU := mU 482 (by decide +kernel) (by decide +kernel)
theorem u_483 : Cond.selects "AutoTeller$Letter" ⟨"AutoTeller$Letter", "trace", "()J"⟩ ⟨"AutoTeller$Letter", "trace", "()J"⟩ ∈ wU := mU 483 (by decide +kernel) (by decide +kernel)
theorem u_484 : Cond.code ⟨"AutoTeller$Letter", "trace", "()J"⟩ prog_4_method_5_code 1 (Option.some Jvm.ClassFile.FieldType.long) ∈ wU := mU 484 (by decide +kernel) (by decide +kernel)
theorem u_485 : Cond.methodLink "AutoTeller$Letter" 33 ⟨"AutoTeller$Letter", "readNumber", "(I)J"⟩ ∈ wU := mU 485 (by decide +kernel) (by decide +kernel)
theorem u_487 : Cond.instanceMethod ⟨"AutoTeller$Letter", "readNumber", "(I)J"⟩ ∈ wU := mU 487 (by decide +kernel) (by decide +kernel)
theorem u_488 : Cond.code ⟨"AutoTeller$Letter", "readNumber", "(I)J"⟩ prog_4_method_12_code 5 (Option.some Jvm.ClassFile.FieldType.long) ∈ wU := mU 488 (by decide +kernel) (by decide +kernel)
theorem u_489 : Cond.constantLong "AutoTeller$Letter" 38 256 ∈ wU := mU 489 (by decide +kernel) (by decide +kernel)
theorem u_490 : Cond.constantLong "AutoTeller$Host" 104 2000 ∈ wU := mU 490 (by decide +kernel) (by decide +kernel)
theorem u_491 : Cond.methodLink "AutoTeller$Host" 88 ⟨"AutoTeller$Letter", "cardNumber", "()I"⟩ ∈ wU := mU 491 (by decide +kernel) (by decide +kernel)
theorem u_492 : Cond.instanceMethod ⟨"AutoTeller$Letter", "cardNumber", "()I"⟩ ∈ wU := mU 492 (by decide +kernel) (by decide +kernel)
theorem u_493 : Cond.selects "AutoTeller$Letter" ⟨"AutoTeller$Letter", "cardNumber", "()I"⟩ ⟨"AutoTeller$Letter", "cardNumber", "()I"⟩ ∈ wU := mU 493 (by decide +kernel) (by decide +kernel)
theorem u_494 : Cond.code ⟨"AutoTeller$Letter", "cardNumber", "()I"⟩ prog_4_method_6_code 1 (Option.some Jvm.ClassFile.FieldType.int) ∈ wU := mU 494 (by decide +kernel) (by decide +kernel)
theorem u_495 : Cond.methodLink "AutoTeller$Host" 80 ⟨"AutoTeller$Letter", "kind", "()I"⟩ ∈ wU := mU 495 (by decide +kernel) (by decide +kernel)
theorem u_496 : Cond.instanceMethod ⟨"AutoTeller$Letter", "kind", "()I"⟩ ∈ wU := mU 496 (by decide +kernel) (by decide +kernel)
theorem u_497 : Cond.selects "AutoTeller$Letter" ⟨"AutoTeller$Letter", "kind", "()I"⟩ ⟨"AutoTeller$Letter", "kind", "()I"⟩ ∈ wU := mU 497 (by decide +kernel) (by decide +kernel)
theorem u_498 : Cond.code ⟨"AutoTeller$Letter", "kind", "()I"⟩ prog_4_method_4_code 1 (Option.some Jvm.ClassFile.FieldType.int) ∈ wU := mU 498 (by decide +kernel) (by decide +kernel)
theorem u_499 : Cond.methodLink "AutoTeller$Host" 91 ⟨"AutoTeller$Letter", "value", "()J"⟩ ∈ wU := mU 499 (by decide +kernel) (by decide +kernel)
theorem u_500 : Cond.instanceMethod ⟨"AutoTeller$Letter", "value", "()J"⟩ ∈ wU := mU 500 (by decide +kernel) (by decide +kernel)
theorem u_501 : Cond.selects "AutoTeller$Letter" ⟨"AutoTeller$Letter", "value", "()J"⟩ ⟨"AutoTeller$Letter", "value", "()J"⟩ ∈ wU := mU 501 (by decide +kernel) (by decide +kernel)
theorem u_502 : Cond.code ⟨"AutoTeller$Letter", "value", "()J"⟩ prog_4_method_7_code 1 (Option.some Jvm.ClassFile.FieldType.long) ∈ wU := mU 502 (by decide +kernel) (by decide +kernel)
theorem n_503 : Cond.methodLinkNest "AutoTeller$Host" 106 ⟨"AutoTeller", "isAmount", "(J)Z"⟩ "AutoTeller" ∈ wN := mN 503 (by decide +kernel) (by decide +kernel)
theorem u_504 : Cond.methodLink "AutoTeller$Host" 94 ⟨"AutoTeller$Host", "decide", "(IIIJ)I"⟩ ∈ wU := mU 504 (by decide +kernel) (by decide +kernel)
theorem u_506 : Cond.instanceMethod ⟨"AutoTeller$Host", "decide", "(IIIJ)I"⟩ ∈ wU := mU 506 (by decide +kernel) (by decide +kernel)
theorem u_507 : Cond.code ⟨"AutoTeller$Host", "decide", "(IIIJ)I"⟩ prog_2_method_9_code 6 (Option.some Jvm.ClassFile.FieldType.int) ∈ wU := mU 507 (by decide +kernel) (by decide +kernel)
theorem u_508 : Cond.methodLink "AutoTeller$Host" 109 ⟨"AutoTeller$Host", "tryPin", "(IJ)I"⟩ ∈ wU := mU 508 (by decide +kernel) (by decide +kernel)
theorem u_510 : Cond.instanceMethod ⟨"AutoTeller$Host", "tryPin", "(IJ)I"⟩ ∈ wU := mU 510 (by decide +kernel) (by decide +kernel)
theorem u_511 : Cond.code ⟨"AutoTeller$Host", "tryPin", "(IJ)I"⟩ prog_2_method_10_code 4 (Option.some Jvm.ClassFile.FieldType.int) ∈ wU := mU 511 (by decide +kernel) (by decide +kernel)
theorem u_512 : Cond.methodLink "AutoTeller$Host" 113 ⟨"AutoTeller$Host", "takeOff", "(III)V"⟩ ∈ wU := mU 512 (by decide +kernel) (by decide +kernel)
theorem u_514 : Cond.instanceMethod ⟨"AutoTeller$Host", "takeOff", "(III)V"⟩ ∈ wU := mU 514 (by decide +kernel) (by decide +kernel)
theorem u_515 : Cond.code ⟨"AutoTeller$Host", "takeOff", "(III)V"⟩ prog_2_method_11_code 5 (Option.none : Option Jvm.ClassFile.FieldType) ∈ wU := mU 515 (by decide +kernel) (by decide +kernel)
theorem u_516 : Cond.methodLink "AutoTeller$Host" 117 ⟨"AutoTeller$Host", "giveBack", "(I)V"⟩ ∈ wU := mU 516 (by decide +kernel) (by decide +kernel)
theorem u_518 : Cond.instanceMethod ⟨"AutoTeller$Host", "giveBack", "(I)V"⟩ ∈ wU := mU 518 (by decide +kernel) (by decide +kernel)
theorem u_519 : Cond.code ⟨"AutoTeller$Host", "giveBack", "(I)V"⟩ prog_2_method_12_code 3 (Option.none : Option Jvm.ClassFile.FieldType) ∈ wU := mU 519 (by decide +kernel) (by decide +kernel)
theorem u_520 : Cond.methodLink "AutoTeller$Host" 98 ⟨"AutoTeller$Line", "post", "(ZIIIJI)V"⟩ ∈ wU := mU 520 (by decide +kernel) (by decide +kernel)
theorem u_521 : Cond.methodLink "AutoTeller" 180 ⟨"AutoTeller$Machine", "receive", "(LAutoTeller$Letter;)V"⟩ ∈ wU := mU 521 (by decide +kernel) (by decide +kernel)
theorem u_522 : Cond.instanceMethod ⟨"AutoTeller$Machine", "receive", "(LAutoTeller$Letter;)V"⟩ ∈ wU := mU 522 (by decide +kernel) (by decide +kernel)
theorem u_523 : Cond.selects "AutoTeller$Machine" ⟨"AutoTeller$Machine", "receive", "(LAutoTeller$Letter;)V"⟩ ⟨"AutoTeller$Machine", "receive", "(LAutoTeller$Letter;)V"⟩ ∈ wU := mU 523 (by decide +kernel) (by decide +kernel)
theorem u_524 : Cond.code ⟨"AutoTeller$Machine", "receive", "(LAutoTeller$Letter;)V"⟩ prog_6_method_9_code 2 (Option.none : Option Jvm.ClassFile.FieldType) ∈ wU := mU 524 (by decide +kernel) (by decide +kernel)
theorem u_525 : Cond.methodLink "AutoTeller$Machine" 100 ⟨"AutoTeller$Letter", "isSound", "()Z"⟩ ∈ wU := mU 525 (by decide +kernel) (by decide +kernel)
theorem u_526 : Cond.methodLink "AutoTeller$Machine" 106 ⟨"AutoTeller$Machine", "isAwaited", "(LAutoTeller$Letter;)Z"⟩ ∈ wU := mU 526 (by decide +kernel) (by decide +kernel)
theorem u_528 : Cond.instanceMethod ⟨"AutoTeller$Machine", "isAwaited", "(LAutoTeller$Letter;)Z"⟩ ∈ wU := mU 528 (by decide +kernel) (by decide +kernel)
theorem u_529 : Cond.code ⟨"AutoTeller$Machine", "isAwaited", "(LAutoTeller$Letter;)Z"⟩ prog_6_method_10_code 2 (Option.some Jvm.ClassFile.FieldType.boolean) ∈ wU := mU 529 (by decide +kernel) (by decide +kernel)
theorem u_530 : Cond.methodLink "AutoTeller$Machine" 124 ⟨"AutoTeller$Letter", "trace", "()J"⟩ ∈ wU := mU 530 (by decide +kernel) (by decide +kernel)
theorem u_531 : Cond.methodLink "AutoTeller$Machine" 131 ⟨"AutoTeller$Letter", "kind", "()I"⟩ ∈ wU := mU 531 (by decide +kernel) (by decide +kernel)
theorem u_532 : Cond.methodLink "AutoTeller$Machine" 113 ⟨"AutoTeller$Letter", "code", "()I"⟩ ∈ wU := mU 532 (by decide +kernel) (by decide +kernel)
theorem u_533 : Cond.instanceMethod ⟨"AutoTeller$Letter", "code", "()I"⟩ ∈ wU := mU 533 (by decide +kernel) (by decide +kernel)
theorem u_534 : Cond.selects "AutoTeller$Letter" ⟨"AutoTeller$Letter", "code", "()I"⟩ ⟨"AutoTeller$Letter", "code", "()I"⟩ ∈ wU := mU 534 (by decide +kernel) (by decide +kernel)
theorem u_535 : Cond.code ⟨"AutoTeller$Letter", "code", "()I"⟩ prog_4_method_8_code 1 (Option.some Jvm.ClassFile.FieldType.int) ∈ wU := mU 535 (by decide +kernel) (by decide +kernel)
theorem u_536 : Cond.methodLink "AutoTeller$Machine" 117 ⟨"AutoTeller$Machine", "endPinCheck", "(I)V"⟩ ∈ wU := mU 536 (by decide +kernel) (by decide +kernel)
theorem u_538 : Cond.instanceMethod ⟨"AutoTeller$Machine", "endPinCheck", "(I)V"⟩ ∈ wU := mU 538 (by decide +kernel) (by decide +kernel)
theorem u_539 : Cond.code ⟨"AutoTeller$Machine", "endPinCheck", "(I)V"⟩ prog_6_method_11_code 2 (Option.none : Option Jvm.ClassFile.FieldType) ∈ wU := mU 539 (by decide +kernel) (by decide +kernel)
theorem u_540 : Cond.methodLink "AutoTeller$Machine" 121 ⟨"AutoTeller$Machine", "payOut", "()V"⟩ ∈ wU := mU 540 (by decide +kernel) (by decide +kernel)
theorem u_542 : Cond.instanceMethod ⟨"AutoTeller$Machine", "payOut", "()V"⟩ ∈ wU := mU 542 (by decide +kernel) (by decide +kernel)
theorem u_543 : Cond.code ⟨"AutoTeller$Machine", "payOut", "()V"⟩ prog_6_method_12_code 1 (Option.none : Option Jvm.ClassFile.FieldType) ∈ wU := mU 543 (by decide +kernel) (by decide +kernel)
theorem u_544 : Cond.methodLink "AutoTeller$Machine" 134 ⟨"AutoTeller$Machine", "stackMix", "()Z"⟩ ∈ wU := mU 544 (by decide +kernel) (by decide +kernel)
theorem u_546 : Cond.instanceMethod ⟨"AutoTeller$Machine", "stackMix", "()Z"⟩ ∈ wU := mU 546 (by decide +kernel) (by decide +kernel)
theorem u_547 : Cond.code ⟨"AutoTeller$Machine", "stackMix", "()Z"⟩ prog_6_method_13_code 3 (Option.some Jvm.ClassFile.FieldType.boolean) ∈ wU := mU 547 (by decide +kernel) (by decide +kernel)
theorem u_548 : Cond.methodLink "AutoTeller$Machine" 147 ⟨"AutoTeller$Notes", "stackOne", "(I)V"⟩ ∈ wU := mU 548 (by decide +kernel) (by decide +kernel)
theorem u_549 : Cond.instanceMethod ⟨"AutoTeller$Notes", "stackOne", "(I)V"⟩ ∈ wU := mU 549 (by decide +kernel) (by decide +kernel)
theorem u_550 : Cond.selects "AutoTeller$Notes" ⟨"AutoTeller$Notes", "stackOne", "(I)V"⟩ ⟨"AutoTeller$Notes", "stackOne", "(I)V"⟩ ∈ wU := mU 550 (by decide +kernel) (by decide +kernel)
theorem u_551 : Cond.code ⟨"AutoTeller$Notes", "stackOne", "(I)V"⟩ prog_7_method_9_code 2 (Option.none : Option Jvm.ClassFile.FieldType) ∈ wU := mU 551 (by decide +kernel) (by decide +kernel)
theorem u_552 : Cond.methodLink "AutoTeller$Machine" 140 ⟨"AutoTeller$Notes", "moveStackerToTray", "()V"⟩ ∈ wU := mU 552 (by decide +kernel) (by decide +kernel)
theorem u_553 : Cond.instanceMethod ⟨"AutoTeller$Notes", "moveStackerToTray", "()V"⟩ ∈ wU := mU 553 (by decide +kernel) (by decide +kernel)
theorem u_554 : Cond.selects "AutoTeller$Notes" ⟨"AutoTeller$Notes", "moveStackerToTray", "()V"⟩ ⟨"AutoTeller$Notes", "moveStackerToTray", "()V"⟩ ∈ wU := mU 554 (by decide +kernel) (by decide +kernel)
theorem u_555 : Cond.code ⟨"AutoTeller$Notes", "moveStackerToTray", "()V"⟩ prog_7_method_11_code 1 (Option.none : Option Jvm.ClassFile.FieldType) ∈ wU := mU 555 (by decide +kernel) (by decide +kernel)
theorem u_557 : Cond.instanceMethod ⟨"AutoTeller", "twice", "(I)I"⟩ ∈ wU := mU 557 (by decide +kernel) (by decide +kernel)
theorem u_558 : Cond.selects "AutoTeller" ⟨"AutoTeller", "twice", "(I)I"⟩ ⟨"AutoTeller", "twice", "(I)I"⟩ ∈ wU := mU 558 (by decide +kernel) (by decide +kernel)
theorem u_559 : Cond.code ⟨"AutoTeller", "twice", "(I)I"⟩ prog_1_method_12_code 2 (Option.some Jvm.ClassFile.FieldType.int) ∈ wU := mU 559 (by decide +kernel) (by decide +kernel)
theorem u_561 : Cond.instanceMethod ⟨"AutoTeller", "lose", "(I)I"⟩ ∈ wU := mU 561 (by decide +kernel) (by decide +kernel)
theorem u_562 : Cond.selects "AutoTeller" ⟨"AutoTeller", "lose", "(I)I"⟩ ⟨"AutoTeller", "lose", "(I)I"⟩ ∈ wU := mU 562 (by decide +kernel) (by decide +kernel)
theorem u_563 : Cond.code ⟨"AutoTeller", "lose", "(I)I"⟩ prog_1_method_13_code 2 (Option.some Jvm.ClassFile.FieldType.int) ∈ wU := mU 563 (by decide +kernel) (by decide +kernel)
theorem u_565 : Cond.instanceMethod ⟨"AutoTeller", "poke", "(III)Z"⟩ ∈ wU := mU 565 (by decide +kernel) (by decide +kernel)
theorem u_566 : Cond.selects "AutoTeller" ⟨"AutoTeller", "poke", "(III)Z"⟩ ⟨"AutoTeller", "poke", "(III)Z"⟩ ∈ wU := mU 566 (by decide +kernel) (by decide +kernel)
theorem u_567 : Cond.code ⟨"AutoTeller", "poke", "(III)Z"⟩ prog_1_method_14_code 4 (Option.some Jvm.ClassFile.FieldType.boolean) ∈ wU := mU 567 (by decide +kernel) (by decide +kernel)
theorem u_568 : Cond.methodLink "AutoTeller" 96 ⟨"AutoTeller$Line", "changeByte", "(III)Z"⟩ ∈ wU := mU 568 (by decide +kernel) (by decide +kernel)
theorem u_569 : Cond.instanceMethod ⟨"AutoTeller$Line", "changeByte", "(III)Z"⟩ ∈ wU := mU 569 (by decide +kernel) (by decide +kernel)
theorem u_570 : Cond.selects "AutoTeller$Line" ⟨"AutoTeller$Line", "changeByte", "(III)Z"⟩ ⟨"AutoTeller$Line", "changeByte", "(III)Z"⟩ ∈ wU := mU 570 (by decide +kernel) (by decide +kernel)
theorem u_571 : Cond.code ⟨"AutoTeller$Line", "changeByte", "(III)Z"⟩ prog_5_method_6_code 4 (Option.some Jvm.ClassFile.FieldType.boolean) ∈ wU := mU 571 (by decide +kernel) (by decide +kernel)
theorem u_572 : Cond.constantLong "AutoTeller$Line" 45 12 ∈ wU := mU 572 (by decide +kernel) (by decide +kernel)
theorem n_573 : Cond.methodLinkNest "AutoTeller$Line" 47 ⟨"AutoTeller", "isWithin", "(JJJ)Z"⟩ "AutoTeller" ∈ wN := mN 573 (by decide +kernel) (by decide +kernel)
theorem u_574 : Cond.constantLong "AutoTeller$Line" 51 255 ∈ wU := mU 574 (by decide +kernel) (by decide +kernel)
theorem u_576 : Cond.instanceMethod ⟨"AutoTeller", "letter", "(II)I"⟩ ∈ wU := mU 576 (by decide +kernel) (by decide +kernel)
theorem u_577 : Cond.selects "AutoTeller" ⟨"AutoTeller", "letter", "(II)I"⟩ ⟨"AutoTeller", "letter", "(II)I"⟩ ∈ wU := mU 577 (by decide +kernel) (by decide +kernel)
theorem u_578 : Cond.code ⟨"AutoTeller", "letter", "(II)I"⟩ prog_1_method_15_code 3 (Option.some Jvm.ClassFile.FieldType.int) ∈ wU := mU 578 (by decide +kernel) (by decide +kernel)
theorem u_579 : Cond.methodLink "AutoTeller" 99 ⟨"AutoTeller$Line", "byteOf", "(II)I"⟩ ∈ wU := mU 579 (by decide +kernel) (by decide +kernel)
theorem u_580 : Cond.instanceMethod ⟨"AutoTeller$Line", "byteOf", "(II)I"⟩ ∈ wU := mU 580 (by decide +kernel) (by decide +kernel)
theorem u_581 : Cond.selects "AutoTeller$Line" ⟨"AutoTeller$Line", "byteOf", "(II)I"⟩ ⟨"AutoTeller$Line", "byteOf", "(II)I"⟩ ∈ wU := mU 581 (by decide +kernel) (by decide +kernel)
theorem u_582 : Cond.code ⟨"AutoTeller$Line", "byteOf", "(II)I"⟩ prog_5_method_7_code 3 (Option.some Jvm.ClassFile.FieldType.int) ∈ wU := mU 582 (by decide +kernel) (by decide +kernel)
theorem u_584 : Cond.instanceMethod ⟨"AutoTeller", "cut", "()Z"⟩ ∈ wU := mU 584 (by decide +kernel) (by decide +kernel)
theorem u_585 : Cond.selects "AutoTeller" ⟨"AutoTeller", "cut", "()Z"⟩ ⟨"AutoTeller", "cut", "()Z"⟩ ∈ wU := mU 585 (by decide +kernel) (by decide +kernel)
theorem u_586 : Cond.code ⟨"AutoTeller", "cut", "()Z"⟩ prog_1_method_16_code 1 (Option.some Jvm.ClassFile.FieldType.boolean) ∈ wU := mU 586 (by decide +kernel) (by decide +kernel)
theorem u_587 : Cond.methodLink "AutoTeller" 103 ⟨"AutoTeller$Machine", "switchOff", "()Z"⟩ ∈ wU := mU 587 (by decide +kernel) (by decide +kernel)
theorem u_588 : Cond.instanceMethod ⟨"AutoTeller$Machine", "switchOff", "()Z"⟩ ∈ wU := mU 588 (by decide +kernel) (by decide +kernel)
theorem u_589 : Cond.selects "AutoTeller$Machine" ⟨"AutoTeller$Machine", "switchOff", "()Z"⟩ ⟨"AutoTeller$Machine", "switchOff", "()Z"⟩ ∈ wU := mU 589 (by decide +kernel) (by decide +kernel)
theorem u_590 : Cond.code ⟨"AutoTeller$Machine", "switchOff", "()Z"⟩ prog_6_method_15_code 1 (Option.some Jvm.ClassFile.FieldType.boolean) ∈ wU := mU 590 (by decide +kernel) (by decide +kernel)
theorem u_592 : Cond.instanceMethod ⟨"AutoTeller", "arm", "(I)Z"⟩ ∈ wU := mU 592 (by decide +kernel) (by decide +kernel)
theorem u_593 : Cond.selects "AutoTeller" ⟨"AutoTeller", "arm", "(I)Z"⟩ ⟨"AutoTeller", "arm", "(I)Z"⟩ ∈ wU := mU 593 (by decide +kernel) (by decide +kernel)
theorem u_594 : Cond.code ⟨"AutoTeller", "arm", "(I)Z"⟩ prog_1_method_17_code 2 (Option.some Jvm.ClassFile.FieldType.boolean) ∈ wU := mU 594 (by decide +kernel) (by decide +kernel)
theorem u_595 : Cond.methodLink "AutoTeller" 106 ⟨"AutoTeller$Machine", "allowSteps", "(I)Z"⟩ ∈ wU := mU 595 (by decide +kernel) (by decide +kernel)
theorem u_596 : Cond.instanceMethod ⟨"AutoTeller$Machine", "allowSteps", "(I)Z"⟩ ∈ wU := mU 596 (by decide +kernel) (by decide +kernel)
theorem u_597 : Cond.selects "AutoTeller$Machine" ⟨"AutoTeller$Machine", "allowSteps", "(I)Z"⟩ ⟨"AutoTeller$Machine", "allowSteps", "(I)Z"⟩ ∈ wU := mU 597 (by decide +kernel) (by decide +kernel)
theorem u_598 : Cond.code ⟨"AutoTeller$Machine", "allowSteps", "(I)Z"⟩ prog_6_method_16_code 2 (Option.some Jvm.ClassFile.FieldType.boolean) ∈ wU := mU 598 (by decide +kernel) (by decide +kernel)
theorem u_599 : Cond.constantLong "AutoTeller$Machine" 156 100 ∈ wU := mU 599 (by decide +kernel) (by decide +kernel)
theorem n_600 : Cond.methodLinkNest "AutoTeller$Machine" 158 ⟨"AutoTeller", "isWithin", "(JJJ)Z"⟩ "AutoTeller" ∈ wN := mN 600 (by decide +kernel) (by decide +kernel)
theorem u_602 : Cond.instanceMethod ⟨"AutoTeller", "power", "()Z"⟩ ∈ wU := mU 602 (by decide +kernel) (by decide +kernel)
theorem u_603 : Cond.selects "AutoTeller" ⟨"AutoTeller", "power", "()Z"⟩ ⟨"AutoTeller", "power", "()Z"⟩ ∈ wU := mU 603 (by decide +kernel) (by decide +kernel)
theorem u_604 : Cond.code ⟨"AutoTeller", "power", "()Z"⟩ prog_1_method_18_code 1 (Option.some Jvm.ClassFile.FieldType.boolean) ∈ wU := mU 604 (by decide +kernel) (by decide +kernel)
theorem u_605 : Cond.methodLink "AutoTeller" 109 ⟨"AutoTeller$Machine", "switchOn", "()Z"⟩ ∈ wU := mU 605 (by decide +kernel) (by decide +kernel)
theorem u_606 : Cond.instanceMethod ⟨"AutoTeller$Machine", "switchOn", "()Z"⟩ ∈ wU := mU 606 (by decide +kernel) (by decide +kernel)
theorem u_607 : Cond.selects "AutoTeller$Machine" ⟨"AutoTeller$Machine", "switchOn", "()Z"⟩ ⟨"AutoTeller$Machine", "switchOn", "()Z"⟩ ∈ wU := mU 607 (by decide +kernel) (by decide +kernel)
theorem u_608 : Cond.code ⟨"AutoTeller$Machine", "switchOn", "()Z"⟩ prog_6_method_17_code 1 (Option.some Jvm.ClassFile.FieldType.boolean) ∈ wU := mU 608 (by decide +kernel) (by decide +kernel)
theorem u_609 : Cond.methodLink "AutoTeller$Machine" 162 ⟨"AutoTeller$Machine", "recallLastBegun", "()V"⟩ ∈ wU := mU 609 (by decide +kernel) (by decide +kernel)
theorem u_611 : Cond.instanceMethod ⟨"AutoTeller$Machine", "recallLastBegun", "()V"⟩ ∈ wU := mU 611 (by decide +kernel) (by decide +kernel)
theorem u_612 : Cond.code ⟨"AutoTeller$Machine", "recallLastBegun", "()V"⟩ prog_6_method_18_code 2 (Option.none : Option Jvm.ClassFile.FieldType) ∈ wU := mU 612 (by decide +kernel) (by decide +kernel)
theorem u_613 : Cond.methodLink "AutoTeller$Machine" 168 ⟨"AutoTeller$Journal", "lastBegun", "()I"⟩ ∈ wU := mU 613 (by decide +kernel) (by decide +kernel)
theorem u_614 : Cond.instanceMethod ⟨"AutoTeller$Journal", "lastBegun", "()I"⟩ ∈ wU := mU 614 (by decide +kernel) (by decide +kernel)
theorem u_615 : Cond.selects "AutoTeller$Journal" ⟨"AutoTeller$Journal", "lastBegun", "()I"⟩ ⟨"AutoTeller$Journal", "lastBegun", "()I"⟩ ∈ wU := mU 615 (by decide +kernel) (by decide +kernel)
theorem u_616 : Cond.code ⟨"AutoTeller$Journal", "lastBegun", "()I"⟩ prog_3_method_6_code 2 (Option.some Jvm.ClassFile.FieldType.int) ∈ wU := mU 616 (by decide +kernel) (by decide +kernel)
theorem u_617 : Cond.methodLink "AutoTeller$Journal" 36 ⟨"AutoTeller$Journal", "tell", "(II)I"⟩ ∈ wU := mU 617 (by decide +kernel) (by decide +kernel)
theorem u_618 : Cond.instanceMethod ⟨"AutoTeller$Journal", "tell", "(II)I"⟩ ∈ wU := mU 618 (by decide +kernel) (by decide +kernel)
theorem u_619 : Cond.selects "AutoTeller$Journal" ⟨"AutoTeller$Journal", "tell", "(II)I"⟩ ⟨"AutoTeller$Journal", "tell", "(II)I"⟩ ∈ wU := mU 619 (by decide +kernel) (by decide +kernel)
theorem u_620 : Cond.code ⟨"AutoTeller$Journal", "tell", "(II)I"⟩ prog_3_method_4_code 3 (Option.some Jvm.ClassFile.FieldType.int) ∈ wU := mU 620 (by decide +kernel) (by decide +kernel)
theorem n_621 : Cond.methodLinkNest "AutoTeller$Journal" 32 ⟨"AutoTeller", "isWithin", "(JJJ)Z"⟩ "AutoTeller" ∈ wN := mN 621 (by decide +kernel) (by decide +kernel)
theorem u_622 : Cond.methodLink "AutoTeller$Machine" 171 ⟨"AutoTeller$Journal", "tell", "(II)I"⟩ ∈ wU := mU 622 (by decide +kernel) (by decide +kernel)
theorem u_623 : Cond.methodLink "AutoTeller$Machine" 165 ⟨"AutoTeller$Journal", "lastKind", "()I"⟩ ∈ wU := mU 623 (by decide +kernel) (by decide +kernel)
theorem u_624 : Cond.instanceMethod ⟨"AutoTeller$Journal", "lastKind", "()I"⟩ ∈ wU := mU 624 (by decide +kernel) (by decide +kernel)
theorem u_625 : Cond.selects "AutoTeller$Journal" ⟨"AutoTeller$Journal", "lastKind", "()I"⟩ ⟨"AutoTeller$Journal", "lastKind", "()I"⟩ ∈ wU := mU 625 (by decide +kernel) (by decide +kernel)
theorem u_626 : Cond.code ⟨"AutoTeller$Journal", "lastKind", "()I"⟩ prog_3_method_5_code 1 (Option.some Jvm.ClassFile.FieldType.int) ∈ wU := mU 626 (by decide +kernel) (by decide +kernel)
theorem u_628 : Cond.instanceMethod ⟨"AutoTeller", "cassette", "(II)I"⟩ ∈ wU := mU 628 (by decide +kernel) (by decide +kernel)
theorem u_629 : Cond.selects "AutoTeller" ⟨"AutoTeller", "cassette", "(II)I"⟩ ⟨"AutoTeller", "cassette", "(II)I"⟩ ∈ wU := mU 629 (by decide +kernel) (by decide +kernel)
theorem u_630 : Cond.code ⟨"AutoTeller", "cassette", "(II)I"⟩ prog_1_method_19_code 3 (Option.some Jvm.ClassFile.FieldType.int) ∈ wU := mU 630 (by decide +kernel) (by decide +kernel)
theorem u_631 : Cond.methodLink "AutoTeller" 112 ⟨"AutoTeller$Notes", "tell", "(II)I"⟩ ∈ wU := mU 631 (by decide +kernel) (by decide +kernel)
theorem u_632 : Cond.instanceMethod ⟨"AutoTeller$Notes", "tell", "(II)I"⟩ ∈ wU := mU 632 (by decide +kernel) (by decide +kernel)
theorem u_633 : Cond.selects "AutoTeller$Notes" ⟨"AutoTeller$Notes", "tell", "(II)I"⟩ ⟨"AutoTeller$Notes", "tell", "(II)I"⟩ ∈ wU := mU 633 (by decide +kernel) (by decide +kernel)
theorem u_634 : Cond.code ⟨"AutoTeller$Notes", "tell", "(II)I"⟩ prog_7_method_3_code 3 (Option.some Jvm.ClassFile.FieldType.int) ∈ wU := mU 634 (by decide +kernel) (by decide +kernel)
theorem u_636 : Cond.instanceMethod ⟨"AutoTeller", "mix", "(II)I"⟩ ∈ wU := mU 636 (by decide +kernel) (by decide +kernel)
theorem u_637 : Cond.selects "AutoTeller" ⟨"AutoTeller", "mix", "(II)I"⟩ ⟨"AutoTeller", "mix", "(II)I"⟩ ∈ wU := mU 637 (by decide +kernel) (by decide +kernel)
theorem u_638 : Cond.code ⟨"AutoTeller", "mix", "(II)I"⟩ prog_1_method_20_code 3 (Option.some Jvm.ClassFile.FieldType.int) ∈ wU := mU 638 (by decide +kernel) (by decide +kernel)
theorem u_639 : Cond.methodLink "AutoTeller" 115 ⟨"AutoTeller$Notes", "mixedOf", "(II)I"⟩ ∈ wU := mU 639 (by decide +kernel) (by decide +kernel)
theorem u_640 : Cond.instanceMethod ⟨"AutoTeller$Notes", "mixedOf", "(II)I"⟩ ∈ wU := mU 640 (by decide +kernel) (by decide +kernel)
theorem u_641 : Cond.selects "AutoTeller$Notes" ⟨"AutoTeller$Notes", "mixedOf", "(II)I"⟩ ⟨"AutoTeller$Notes", "mixedOf", "(II)I"⟩ ∈ wU := mU 641 (by decide +kernel) (by decide +kernel)
theorem u_642 : Cond.code ⟨"AutoTeller$Notes", "mixedOf", "(II)I"⟩ prog_7_method_4_code 3 (Option.some Jvm.ClassFile.FieldType.int) ∈ wU := mU 642 (by decide +kernel) (by decide +kernel)
theorem u_643 : Cond.methodLink "AutoTeller$Notes" 50 ⟨"AutoTeller$Notes", "findMix", "(I)Z"⟩ ∈ wU := mU 643 (by decide +kernel) (by decide +kernel)
theorem u_645 : Cond.instanceMethod ⟨"AutoTeller", "balance", "(I)J"⟩ ∈ wU := mU 645 (by decide +kernel) (by decide +kernel)
theorem u_646 : Cond.selects "AutoTeller" ⟨"AutoTeller", "balance", "(I)J"⟩ ⟨"AutoTeller", "balance", "(I)J"⟩ ∈ wU := mU 646 (by decide +kernel) (by decide +kernel)
theorem u_647 : Cond.code ⟨"AutoTeller", "balance", "(I)J"⟩ prog_1_method_21_code 2 (Option.some Jvm.ClassFile.FieldType.long) ∈ wU := mU 647 (by decide +kernel) (by decide +kernel)
theorem u_648 : Cond.methodLink "AutoTeller" 118 ⟨"AutoTeller$Host", "balanceOf", "(I)J"⟩ ∈ wU := mU 648 (by decide +kernel) (by decide +kernel)
theorem u_649 : Cond.instanceMethod ⟨"AutoTeller$Host", "balanceOf", "(I)J"⟩ ∈ wU := mU 649 (by decide +kernel) (by decide +kernel)
theorem u_650 : Cond.selects "AutoTeller$Host" ⟨"AutoTeller$Host", "balanceOf", "(I)J"⟩ ⟨"AutoTeller$Host", "balanceOf", "(I)J"⟩ ∈ wU := mU 650 (by decide +kernel) (by decide +kernel)
theorem u_651 : Cond.code ⟨"AutoTeller$Host", "balanceOf", "(I)J"⟩ prog_2_method_4_code 2 (Option.some Jvm.ClassFile.FieldType.long) ∈ wU := mU 651 (by decide +kernel) (by decide +kernel)
theorem u_652 : Cond.constantLong "AutoTeller$Host" 64 (-1) ∈ wU := mU 652 (by decide +kernel) (by decide +kernel)
theorem u_654 : Cond.instanceMethod ⟨"AutoTeller", "ofCard", "(II)I"⟩ ∈ wU := mU 654 (by decide +kernel) (by decide +kernel)
theorem u_655 : Cond.selects "AutoTeller" ⟨"AutoTeller", "ofCard", "(II)I"⟩ ⟨"AutoTeller", "ofCard", "(II)I"⟩ ∈ wU := mU 655 (by decide +kernel) (by decide +kernel)
theorem u_656 : Cond.code ⟨"AutoTeller", "ofCard", "(II)I"⟩ prog_1_method_22_code 3 (Option.some Jvm.ClassFile.FieldType.int) ∈ wU := mU 656 (by decide +kernel) (by decide +kernel)
theorem u_657 : Cond.methodLink "AutoTeller" 122 ⟨"AutoTeller$Host", "triesOf", "(I)I"⟩ ∈ wU := mU 657 (by decide +kernel) (by decide +kernel)
theorem u_658 : Cond.instanceMethod ⟨"AutoTeller$Host", "triesOf", "(I)I"⟩ ∈ wU := mU 658 (by decide +kernel) (by decide +kernel)
theorem u_659 : Cond.selects "AutoTeller$Host" ⟨"AutoTeller$Host", "triesOf", "(I)I"⟩ ⟨"AutoTeller$Host", "triesOf", "(I)I"⟩ ∈ wU := mU 659 (by decide +kernel) (by decide +kernel)
theorem u_660 : Cond.code ⟨"AutoTeller$Host", "triesOf", "(I)I"⟩ prog_2_method_5_code 2 (Option.some Jvm.ClassFile.FieldType.int) ∈ wU := mU 660 (by decide +kernel) (by decide +kernel)
theorem u_661 : Cond.methodLink "AutoTeller" 125 ⟨"AutoTeller$Machine", "keptOf", "(I)I"⟩ ∈ wU := mU 661 (by decide +kernel) (by decide +kernel)
theorem u_662 : Cond.instanceMethod ⟨"AutoTeller$Machine", "keptOf", "(I)I"⟩ ∈ wU := mU 662 (by decide +kernel) (by decide +kernel)
theorem u_663 : Cond.selects "AutoTeller$Machine" ⟨"AutoTeller$Machine", "keptOf", "(I)I"⟩ ⟨"AutoTeller$Machine", "keptOf", "(I)I"⟩ ∈ wU := mU 663 (by decide +kernel) (by decide +kernel)
theorem u_664 : Cond.code ⟨"AutoTeller$Machine", "keptOf", "(I)I"⟩ prog_6_method_5_code 2 (Option.some Jvm.ClassFile.FieldType.int) ∈ wU := mU 664 (by decide +kernel) (by decide +kernel)
theorem u_665 : Cond.methodLink "AutoTeller" 128 ⟨"AutoTeller$Host", "accountOf", "(I)I"⟩ ∈ wU := mU 665 (by decide +kernel) (by decide +kernel)
theorem u_666 : Cond.instanceMethod ⟨"AutoTeller$Host", "accountOf", "(I)I"⟩ ∈ wU := mU 666 (by decide +kernel) (by decide +kernel)
theorem u_667 : Cond.selects "AutoTeller$Host" ⟨"AutoTeller$Host", "accountOf", "(I)I"⟩ ⟨"AutoTeller$Host", "accountOf", "(I)I"⟩ ∈ wU := mU 667 (by decide +kernel) (by decide +kernel)
theorem u_668 : Cond.code ⟨"AutoTeller$Host", "accountOf", "(I)I"⟩ prog_2_method_6_code 2 (Option.some Jvm.ClassFile.FieldType.int) ∈ wU := mU 668 (by decide +kernel) (by decide +kernel)
theorem u_670 : Cond.instanceMethod ⟨"AutoTeller", "record", "(II)I"⟩ ∈ wU := mU 670 (by decide +kernel) (by decide +kernel)
theorem u_671 : Cond.selects "AutoTeller" ⟨"AutoTeller", "record", "(II)I"⟩ ⟨"AutoTeller", "record", "(II)I"⟩ ∈ wU := mU 671 (by decide +kernel) (by decide +kernel)
theorem u_672 : Cond.code ⟨"AutoTeller", "record", "(II)I"⟩ prog_1_method_23_code 3 (Option.some Jvm.ClassFile.FieldType.int) ∈ wU := mU 672 (by decide +kernel) (by decide +kernel)
theorem u_673 : Cond.methodLink "AutoTeller" 135 ⟨"AutoTeller$Journal", "tell", "(II)I"⟩ ∈ wU := mU 673 (by decide +kernel) (by decide +kernel)
theorem u_675 : Cond.instanceMethod ⟨"AutoTeller", "count", "(I)J"⟩ ∈ wU := mU 675 (by decide +kernel) (by decide +kernel)
theorem u_676 : Cond.selects "AutoTeller" ⟨"AutoTeller", "count", "(I)J"⟩ ⟨"AutoTeller", "count", "(I)J"⟩ ∈ wU := mU 676 (by decide +kernel) (by decide +kernel)
theorem u_677 : Cond.code ⟨"AutoTeller", "count", "(I)J"⟩ prog_1_method_24_code 2 (Option.some Jvm.ClassFile.FieldType.long) ∈ wU := mU 677 (by decide +kernel) (by decide +kernel)
theorem u_678 : Cond.constantLong "AutoTeller" 145 (-1) ∈ wU := mU 678 (by decide +kernel) (by decide +kernel)
theorem u_685 : Cond.fieldLink "AutoTellerModel" 7 "AutoTellerModel" "balances" "[J" ∈ wU := mU 685 (by decide +kernel) (by decide +kernel)
theorem u_686 : Cond.fieldLink "AutoTellerModel" 13 "AutoTellerModel" "accountOf" "[I" ∈ wU := mU 686 (by decide +kernel) (by decide +kernel)
theorem u_687 : Cond.fieldLink "AutoTellerModel" 17 "AutoTellerModel" "pinOf" "[I" ∈ wU := mU 687 (by decide +kernel) (by decide +kernel)
theorem u_688 : Cond.fieldLink "AutoTellerModel" 20 "AutoTellerModel" "tries" "[I" ∈ wU := mU 688 (by decide +kernel) (by decide +kernel)
theorem u_689 : Cond.fieldLink "AutoTellerModel" 23 "AutoTellerModel" "pinCode" "[I" ∈ wU := mU 689 (by decide +kernel) (by decide +kernel)
theorem u_690 : Cond.fieldLink "AutoTellerModel" 26 "AutoTellerModel" "debitCode" "[I" ∈ wU := mU 690 (by decide +kernel) (by decide +kernel)
theorem u_691 : Cond.fieldLink "AutoTellerModel" 29 "AutoTellerModel" "debitAccount" "[I" ∈ wU := mU 691 (by decide +kernel) (by decide +kernel)
theorem u_692 : Cond.fieldLink "AutoTellerModel" 32 "AutoTellerModel" "debitAmount" "[I" ∈ wU := mU 692 (by decide +kernel) (by decide +kernel)
theorem u_693 : Cond.fieldLink "AutoTellerModel" 35 "AutoTellerModel" "isReversed" "[Z" ∈ wU := mU 693 (by decide +kernel) (by decide +kernel)
theorem u_694 : Cond.fieldLink "AutoTellerModel" 132 "AutoTellerModel" "off" "J" ∈ wU := mU 694 (by decide +kernel) (by decide +kernel)
theorem u_695 : Cond.fieldLink "AutoTellerModel" 39 "AutoTellerModel" "denomination" "[I" ∈ wU := mU 695 (by decide +kernel) (by decide +kernel)
theorem u_696 : Cond.fieldLink "AutoTellerModel" 42 "AutoTellerModel" "notes" "[I" ∈ wU := mU 696 (by decide +kernel) (by decide +kernel)
theorem u_697 : Cond.fieldLink "AutoTellerModel" 45 "AutoTellerModel" "stacked" "[I" ∈ wU := mU 697 (by decide +kernel) (by decide +kernel)
theorem u_698 : Cond.fieldLink "AutoTellerModel" 48 "AutoTellerModel" "inTray" "[I" ∈ wU := mU 698 (by decide +kernel) (by decide +kernel)
theorem u_699 : Cond.fieldLink "AutoTellerModel" 51 "AutoTellerModel" "inBin" "[I" ∈ wU := mU 699 (by decide +kernel) (by decide +kernel)
theorem u_700 : Cond.fieldLink "AutoTellerModel" 161 "AutoTellerModel" "stackedWorth" "J" ∈ wU := mU 700 (by decide +kernel) (by decide +kernel)
theorem u_701 : Cond.fieldLink "AutoTellerModel" 177 "AutoTellerModel" "trayWorth" "J" ∈ wU := mU 701 (by decide +kernel) (by decide +kernel)
theorem u_702 : Cond.fieldLink "AutoTellerModel" 180 "AutoTellerModel" "everWorth" "J" ∈ wU := mU 702 (by decide +kernel) (by decide +kernel)
theorem u_703 : Cond.fieldLink "AutoTellerModel" 54 "AutoTellerModel" "isKept" "[Z" ∈ wU := mU 703 (by decide +kernel) (by decide +kernel)
theorem u_704 : Cond.fieldLink "AutoTellerModel" 57 "AutoTellerModel" "records" "[I" ∈ wU := mU 704 (by decide +kernel) (by decide +kernel)
theorem u_705 : Cond.fieldLink "AutoTellerModel" 139 "AutoTellerModel" "recordCount" "I" ∈ wU := mU 705 (by decide +kernel) (by decide +kernel)
theorem u_706 : Cond.fieldLink "AutoTellerModel" 60 "AutoTellerModel" "nextTrace" "I" ∈ wU := mU 706 (by decide +kernel) (by decide +kernel)
theorem u_707 : Cond.fieldLink "AutoTellerModel" 151 "AutoTellerModel" "openings" "I" ∈ wU := mU 707 (by decide +kernel) (by decide +kernel)
theorem u_708 : Cond.fieldLink "AutoTellerModel" 64 "AutoTellerModel" "isOn" "Z" ∈ wU := mU 708 (by decide +kernel) (by decide +kernel)
theorem u_709 : Cond.fieldLink "AutoTellerModel" 68 "AutoTellerModel" "armed" "I" ∈ wU := mU 709 (by decide +kernel) (by decide +kernel)
theorem u_710 : Cond.fieldLink "AutoTellerModel" 168 "AutoTellerModel" "phase" "I" ∈ wU := mU 710 (by decide +kernel) (by decide +kernel)
theorem u_711 : Cond.fieldLink "AutoTellerModel" 71 "AutoTellerModel" "slotCard" "I" ∈ wU := mU 711 (by decide +kernel) (by decide +kernel)
theorem u_712 : Cond.fieldLink "AutoTellerModel" 145 "AutoTellerModel" "trace" "I" ∈ wU := mU 712 (by decide +kernel) (by decide +kernel)
theorem u_713 : Cond.fieldLink "AutoTellerModel" 74 "AutoTellerModel" "cardAtHand" "I" ∈ wU := mU 713 (by decide +kernel) (by decide +kernel)
theorem u_714 : Cond.fieldLink "AutoTellerModel" 148 "AutoTellerModel" "amount" "I" ∈ wU := mU 714 (by decide +kernel) (by decide +kernel)
theorem u_715 : Cond.fieldLink "AutoTellerModel" 77 "AutoTellerModel" "line" "[I" ∈ wU := mU 715 (by decide +kernel) (by decide +kernel)
theorem u_716 : Cond.fieldLink "AutoTellerModel" 89 "AutoTellerModel" "flying" "I" ∈ wU := mU 716 (by decide +kernel) (by decide +kernel)
theorem u_717 : Cond.fieldLink "AutoTellerModel" 110 "AutoTellerModel" "dropped" "I" ∈ wU := mU 717 (by decide +kernel) (by decide +kernel)
theorem u_718 : Cond.fieldLink "AutoTellerModel" 96 "AutoTellerModel" "lost" "I" ∈ wU := mU 718 (by decide +kernel) (by decide +kernel)
theorem u_719 : Cond.fieldLink "AutoTellerModel" 80 "AutoTellerModel" "letter" "[I" ∈ wU := mU 719 (by decide +kernel) (by decide +kernel)
theorem u_720 : Cond.fieldLink "AutoTellerModel" 83 "AutoTellerModel" "mixed" "[I" ∈ wU := mU 720 (by decide +kernel) (by decide +kernel)
theorem u_795 : Cond.instanceMethod ⟨"AutoTellerModel", "account", "(IJ)Z"⟩ ∈ wU := mU 795 (by decide +kernel) (by decide +kernel)
theorem u_796 : Cond.selects "AutoTellerModel" ⟨"AutoTellerModel", "account", "(IJ)Z"⟩ ⟨"AutoTellerModel", "account", "(IJ)Z"⟩ ∈ wU := mU 796 (by decide +kernel) (by decide +kernel)
theorem u_797 : Cond.code ⟨"AutoTellerModel", "account", "(IJ)Z"⟩ prog_9_method_3_code 4 (Option.some Jvm.ClassFile.FieldType.boolean) ∈ wU := mU 797 (by decide +kernel) (by decide +kernel)
theorem u_798 : Cond.constantLong "AutoTellerModel" 86 1000000000 ∈ wU := mU 798 (by decide +kernel) (by decide +kernel)
theorem u_800 : Cond.instanceMethod ⟨"AutoTellerModel", "card", "(III)Z"⟩ ∈ wU := mU 800 (by decide +kernel) (by decide +kernel)
theorem u_801 : Cond.selects "AutoTellerModel" ⟨"AutoTellerModel", "card", "(III)Z"⟩ ⟨"AutoTellerModel", "card", "(III)Z"⟩ ∈ wU := mU 801 (by decide +kernel) (by decide +kernel)
theorem u_802 : Cond.code ⟨"AutoTellerModel", "card", "(III)Z"⟩ prog_9_method_4_code 4 (Option.some Jvm.ClassFile.FieldType.boolean) ∈ wU := mU 802 (by decide +kernel) (by decide +kernel)
theorem u_804 : Cond.instanceMethod ⟨"AutoTellerModel", "load", "(III)Z"⟩ ∈ wU := mU 804 (by decide +kernel) (by decide +kernel)
theorem u_805 : Cond.selects "AutoTellerModel" ⟨"AutoTellerModel", "load", "(III)Z"⟩ ⟨"AutoTellerModel", "load", "(III)Z"⟩ ∈ wU := mU 805 (by decide +kernel) (by decide +kernel)
theorem u_806 : Cond.code ⟨"AutoTellerModel", "load", "(III)Z"⟩ prog_9_method_23_code 4 (Option.some Jvm.ClassFile.FieldType.boolean) ∈ wU := mU 806 (by decide +kernel) (by decide +kernel)
theorem u_808 : Cond.instanceMethod ⟨"AutoTellerModel", "insert", "(I)Z"⟩ ∈ wU := mU 808 (by decide +kernel) (by decide +kernel)
theorem u_809 : Cond.selects "AutoTellerModel" ⟨"AutoTellerModel", "insert", "(I)Z"⟩ ⟨"AutoTellerModel", "insert", "(I)Z"⟩ ∈ wU := mU 809 (by decide +kernel) (by decide +kernel)
theorem u_810 : Cond.code ⟨"AutoTellerModel", "insert", "(I)Z"⟩ prog_9_method_24_code 2 (Option.some Jvm.ClassFile.FieldType.boolean) ∈ wU := mU 810 (by decide +kernel) (by decide +kernel)
theorem u_812 : Cond.instanceMethod ⟨"AutoTellerModel", "pin", "(I)Z"⟩ ∈ wU := mU 812 (by decide +kernel) (by decide +kernel)
theorem u_813 : Cond.selects "AutoTellerModel" ⟨"AutoTellerModel", "pin", "(I)Z"⟩ ⟨"AutoTellerModel", "pin", "(I)Z"⟩ ∈ wU := mU 813 (by decide +kernel) (by decide +kernel)
theorem u_814 : Cond.code ⟨"AutoTellerModel", "pin", "(I)Z"⟩ prog_9_method_25_code 2 (Option.some Jvm.ClassFile.FieldType.boolean) ∈ wU := mU 814 (by decide +kernel) (by decide +kernel)
theorem u_815 : Cond.methodLink "AutoTellerModel" 164 ⟨"AutoTellerModel", "sendStep", "(II)Z"⟩ ∈ wU := mU 815 (by decide +kernel) (by decide +kernel)
theorem u_817 : Cond.instanceMethod ⟨"AutoTellerModel", "sendStep", "(II)Z"⟩ ∈ wU := mU 817 (by decide +kernel) (by decide +kernel)
theorem u_818 : Cond.code ⟨"AutoTellerModel", "sendStep", "(II)Z"⟩ prog_9_method_17_code 3 (Option.some Jvm.ClassFile.FieldType.boolean) ∈ wU := mU 818 (by decide +kernel) (by decide +kernel)
theorem u_819 : Cond.methodLink "AutoTellerModel" 142 ⟨"AutoTellerModel", "step", "()Z"⟩ ∈ wU := mU 819 (by decide +kernel) (by decide +kernel)
theorem u_821 : Cond.instanceMethod ⟨"AutoTellerModel", "step", "()Z"⟩ ∈ wU := mU 821 (by decide +kernel) (by decide +kernel)
theorem u_822 : Cond.code ⟨"AutoTellerModel", "step", "()Z"⟩ prog_9_method_14_code 1 (Option.some Jvm.ClassFile.FieldType.boolean) ∈ wU := mU 822 (by decide +kernel) (by decide +kernel)
theorem u_823 : Cond.methodLink "AutoTellerModel" 136 ⟨"AutoTellerModel", "goOff", "()V"⟩ ∈ wU := mU 823 (by decide +kernel) (by decide +kernel)
theorem u_825 : Cond.instanceMethod ⟨"AutoTellerModel", "goOff", "()V"⟩ ∈ wU := mU 825 (by decide +kernel) (by decide +kernel)
theorem u_826 : Cond.code ⟨"AutoTellerModel", "goOff", "()V"⟩ prog_9_method_15_code 1 (Option.none : Option Jvm.ClassFile.FieldType) ∈ wU := mU 826 (by decide +kernel) (by decide +kernel)
theorem u_827 : Cond.methodLink "AutoTellerModel" 128 ⟨"AutoTellerModel", "send", "(IIIIII)V"⟩ ∈ wU := mU 827 (by decide +kernel) (by decide +kernel)
theorem u_829 : Cond.instanceMethod ⟨"AutoTellerModel", "send", "(IIIIII)V"⟩ ∈ wU := mU 829 (by decide +kernel) (by decide +kernel)
theorem u_830 : Cond.code ⟨"AutoTellerModel", "send", "(IIIIII)V"⟩ prog_9_method_7_code 9 (Option.none : Option Jvm.ClassFile.FieldType) ∈ wU := mU 830 (by decide +kernel) (by decide +kernel)
theorem u_831 : Cond.methodLink "AutoTellerModel" 92 ⟨"AutoTellerModel", "drop", "(I)V"⟩ ∈ wU := mU 831 (by decide +kernel) (by decide +kernel)
theorem u_833 : Cond.instanceMethod ⟨"AutoTellerModel", "drop", "(I)V"⟩ ∈ wU := mU 833 (by decide +kernel) (by decide +kernel)
theorem u_834 : Cond.code ⟨"AutoTellerModel", "drop", "(I)V"⟩ prog_9_method_6_code 3 (Option.none : Option Jvm.ClassFile.FieldType) ∈ wU := mU 834 (by decide +kernel) (by decide +kernel)
theorem u_835 : Cond.methodLink "AutoTellerModel" 99 ⟨"AutoTellerModel", "check", "([II)I"⟩ ∈ wU := mU 835 (by decide +kernel) (by decide +kernel)
theorem u_836 : Cond.static ⟨"AutoTellerModel", "check", "([II)I"⟩ ∈ wU := mU 836 (by decide +kernel) (by decide +kernel)
theorem u_837 : Cond.code ⟨"AutoTellerModel", "check", "([II)I"⟩ prog_9_method_5_code 6 (Option.some Jvm.ClassFile.FieldType.int) ∈ wU := mU 837 (by decide +kernel) (by decide +kernel)
theorem u_838 : Cond.constant "AutoTellerModel" 88 65535 ∈ wU := mU 838 (by decide +kernel) (by decide +kernel)
theorem u_840 : Cond.instanceMethod ⟨"AutoTellerModel", "ask", "(I)I"⟩ ∈ wU := mU 840 (by decide +kernel) (by decide +kernel)
theorem u_841 : Cond.selects "AutoTellerModel" ⟨"AutoTellerModel", "ask", "(I)I"⟩ ⟨"AutoTellerModel", "ask", "(I)I"⟩ ∈ wU := mU 841 (by decide +kernel) (by decide +kernel)
theorem u_842 : Cond.code ⟨"AutoTellerModel", "ask", "(I)I"⟩ prog_9_method_26_code 2 (Option.some Jvm.ClassFile.FieldType.int) ∈ wU := mU 842 (by decide +kernel) (by decide +kernel)
theorem u_843 : Cond.constant "AutoTellerModel" 117 40000 ∈ wU := mU 843 (by decide +kernel) (by decide +kernel)
theorem u_844 : Cond.methodLink "AutoTellerModel" 174 ⟨"AutoTellerModel", "findMix", "(I)Z"⟩ ∈ wU := mU 844 (by decide +kernel) (by decide +kernel)
theorem u_846 : Cond.instanceMethod ⟨"AutoTellerModel", "findMix", "(I)Z"⟩ ∈ wU := mU 846 (by decide +kernel) (by decide +kernel)
theorem u_847 : Cond.code ⟨"AutoTellerModel", "findMix", "(I)Z"⟩ prog_9_method_22_code 8 (Option.some Jvm.ClassFile.FieldType.boolean) ∈ wU := mU 847 (by decide +kernel) (by decide +kernel)
theorem u_848 : Cond.methodLink "AutoTellerModel" 154 ⟨"AutoTellerModel", "record", "(I)Z"⟩ ∈ wU := mU 848 (by decide +kernel) (by decide +kernel)
theorem u_850 : Cond.instanceMethod ⟨"AutoTellerModel", "record", "(I)Z"⟩ ∈ wU := mU 850 (by decide +kernel) (by decide +kernel)
theorem u_851 : Cond.code ⟨"AutoTellerModel", "record", "(I)Z"⟩ prog_9_method_16_code 3 (Option.some Jvm.ClassFile.FieldType.boolean) ∈ wU := mU 851 (by decide +kernel) (by decide +kernel)
theorem u_853 : Cond.instanceMethod ⟨"AutoTellerModel", "eject", "()Z"⟩ ∈ wU := mU 853 (by decide +kernel) (by decide +kernel)
theorem u_854 : Cond.selects "AutoTellerModel" ⟨"AutoTellerModel", "eject", "()Z"⟩ ⟨"AutoTellerModel", "eject", "()Z"⟩ ∈ wU := mU 854 (by decide +kernel) (by decide +kernel)
theorem u_855 : Cond.code ⟨"AutoTellerModel", "eject", "()Z"⟩ prog_9_method_27_code 1 (Option.some Jvm.ClassFile.FieldType.boolean) ∈ wU := mU 855 (by decide +kernel) (by decide +kernel)
theorem u_857 : Cond.instanceMethod ⟨"AutoTellerModel", "take", "()I"⟩ ∈ wU := mU 857 (by decide +kernel) (by decide +kernel)
theorem u_858 : Cond.selects "AutoTellerModel" ⟨"AutoTellerModel", "take", "()I"⟩ ⟨"AutoTellerModel", "take", "()I"⟩ ∈ wU := mU 858 (by decide +kernel) (by decide +kernel)
theorem u_859 : Cond.code ⟨"AutoTellerModel", "take", "()I"⟩ prog_9_method_28_code 3 (Option.some Jvm.ClassFile.FieldType.int) ∈ wU := mU 859 (by decide +kernel) (by decide +kernel)
theorem u_861 : Cond.instanceMethod ⟨"AutoTellerModel", "timeout", "()Z"⟩ ∈ wU := mU 861 (by decide +kernel) (by decide +kernel)
theorem u_862 : Cond.selects "AutoTellerModel" ⟨"AutoTellerModel", "timeout", "()Z"⟩ ⟨"AutoTellerModel", "timeout", "()Z"⟩ ∈ wU := mU 862 (by decide +kernel) (by decide +kernel)
theorem u_863 : Cond.code ⟨"AutoTellerModel", "timeout", "()Z"⟩ prog_9_method_29_code 1 (Option.some Jvm.ClassFile.FieldType.boolean) ∈ wU := mU 863 (by decide +kernel) (by decide +kernel)
theorem u_864 : Cond.methodLink "AutoTellerModel" 183 ⟨"AutoTellerModel", "reverse", "(Z)V"⟩ ∈ wU := mU 864 (by decide +kernel) (by decide +kernel)
theorem u_866 : Cond.instanceMethod ⟨"AutoTellerModel", "reverse", "(Z)V"⟩ ∈ wU := mU 866 (by decide +kernel) (by decide +kernel)
theorem u_867 : Cond.code ⟨"AutoTellerModel", "reverse", "(Z)V"⟩ prog_9_method_19_code 3 (Option.none : Option Jvm.ClassFile.FieldType) ∈ wU := mU 867 (by decide +kernel) (by decide +kernel)
theorem u_868 : Cond.methodLink "AutoTellerModel" 158 ⟨"AutoTellerModel", "hasStacked", "()Z"⟩ ∈ wU := mU 868 (by decide +kernel) (by decide +kernel)
theorem u_870 : Cond.instanceMethod ⟨"AutoTellerModel", "hasStacked", "()Z"⟩ ∈ wU := mU 870 (by decide +kernel) (by decide +kernel)
theorem u_871 : Cond.code ⟨"AutoTellerModel", "hasStacked", "()Z"⟩ prog_9_method_18_code 1 (Option.some Jvm.ClassFile.FieldType.boolean) ∈ wU := mU 871 (by decide +kernel) (by decide +kernel)
theorem u_873 : Cond.instanceMethod ⟨"AutoTellerModel", "deliver", "(I)I"⟩ ∈ wU := mU 873 (by decide +kernel) (by decide +kernel)
theorem u_874 : Cond.selects "AutoTellerModel" ⟨"AutoTellerModel", "deliver", "(I)I"⟩ ⟨"AutoTellerModel", "deliver", "(I)I"⟩ ∈ wU := mU 874 (by decide +kernel) (by decide +kernel)
theorem u_875 : Cond.code ⟨"AutoTellerModel", "deliver", "(I)I"⟩ prog_9_method_31_code 2 (Option.some Jvm.ClassFile.FieldType.int) ∈ wU := mU 875 (by decide +kernel) (by decide +kernel)
theorem u_876 : Cond.methodLink "AutoTellerModel" 187 ⟨"AutoTellerModel", "isLetter", "(I)Z"⟩ ∈ wU := mU 876 (by decide +kernel) (by decide +kernel)
theorem u_878 : Cond.instanceMethod ⟨"AutoTellerModel", "isLetter", "(I)Z"⟩ ∈ wU := mU 878 (by decide +kernel) (by decide +kernel)
theorem u_879 : Cond.code ⟨"AutoTellerModel", "isLetter", "(I)Z"⟩ prog_9_method_30_code 2 (Option.some Jvm.ClassFile.FieldType.boolean) ∈ wU := mU 879 (by decide +kernel) (by decide +kernel)
theorem u_880 : Cond.methodLink "AutoTellerModel" 190 ⟨"AutoTellerModel", "come", "(IZ)V"⟩ ∈ wU := mU 880 (by decide +kernel) (by decide +kernel)
theorem u_882 : Cond.instanceMethod ⟨"AutoTellerModel", "come", "(IZ)V"⟩ ∈ wU := mU 882 (by decide +kernel) (by decide +kernel)
theorem u_883 : Cond.code ⟨"AutoTellerModel", "come", "(IZ)V"⟩ prog_9_method_9_code 6 (Option.none : Option Jvm.ClassFile.FieldType) ∈ wU := mU 883 (by decide +kernel) (by decide +kernel)
theorem u_884 : Cond.methodLink "AutoTellerModel" 103 ⟨"AutoTellerModel", "machineTakes", "()Z"⟩ ∈ wU := mU 884 (by decide +kernel) (by decide +kernel)
theorem u_886 : Cond.instanceMethod ⟨"AutoTellerModel", "machineTakes", "()Z"⟩ ∈ wU := mU 886 (by decide +kernel) (by decide +kernel)
theorem u_887 : Cond.code ⟨"AutoTellerModel", "machineTakes", "()Z"⟩ prog_9_method_20_code 3 (Option.some Jvm.ClassFile.FieldType.boolean) ∈ wU := mU 887 (by decide +kernel) (by decide +kernel)
theorem u_888 : Cond.methodLink "AutoTellerModel" 113 ⟨"AutoTellerModel", "numberAt", "(I)I"⟩ ∈ wU := mU 888 (by decide +kernel) (by decide +kernel)
theorem u_890 : Cond.instanceMethod ⟨"AutoTellerModel", "numberAt", "(I)I"⟩ ∈ wU := mU 890 (by decide +kernel) (by decide +kernel)
theorem u_891 : Cond.code ⟨"AutoTellerModel", "numberAt", "(I)I"⟩ prog_9_method_8_code 2 (Option.some Jvm.ClassFile.FieldType.int) ∈ wU := mU 891 (by decide +kernel) (by decide +kernel)
theorem u_892 : Cond.methodLink "AutoTellerModel" 171 ⟨"AutoTellerModel", "giveOut", "()V"⟩ ∈ wU := mU 892 (by decide +kernel) (by decide +kernel)
theorem u_894 : Cond.instanceMethod ⟨"AutoTellerModel", "giveOut", "()V"⟩ ∈ wU := mU 894 (by decide +kernel) (by decide +kernel)
theorem u_895 : Cond.code ⟨"AutoTellerModel", "giveOut", "()V"⟩ prog_9_method_21_code 3 (Option.none : Option Jvm.ClassFile.FieldType) ∈ wU := mU 895 (by decide +kernel) (by decide +kernel)
theorem u_896 : Cond.methodLink "AutoTellerModel" 107 ⟨"AutoTellerModel", "hostTakes", "()Z"⟩ ∈ wU := mU 896 (by decide +kernel) (by decide +kernel)
theorem u_898 : Cond.instanceMethod ⟨"AutoTellerModel", "hostTakes", "()Z"⟩ ∈ wU := mU 898 (by decide +kernel) (by decide +kernel)
theorem u_899 : Cond.code ⟨"AutoTellerModel", "hostTakes", "()Z"⟩ prog_9_method_10_code 7 (Option.some Jvm.ClassFile.FieldType.boolean) ∈ wU := mU 899 (by decide +kernel) (by decide +kernel)
theorem u_900 : Cond.methodLink "AutoTellerModel" 118 ⟨"AutoTellerModel", "onPin", "(III)I"⟩ ∈ wU := mU 900 (by decide +kernel) (by decide +kernel)
theorem u_902 : Cond.instanceMethod ⟨"AutoTellerModel", "onPin", "(III)I"⟩ ∈ wU := mU 902 (by decide +kernel) (by decide +kernel)
theorem u_903 : Cond.code ⟨"AutoTellerModel", "onPin", "(III)I"⟩ prog_9_method_11_code 5 (Option.some Jvm.ClassFile.FieldType.int) ∈ wU := mU 903 (by decide +kernel) (by decide +kernel)
theorem u_904 : Cond.methodLink "AutoTellerModel" 122 ⟨"AutoTellerModel", "onDebit", "(III)I"⟩ ∈ wU := mU 904 (by decide +kernel) (by decide +kernel)
theorem u_906 : Cond.instanceMethod ⟨"AutoTellerModel", "onDebit", "(III)I"⟩ ∈ wU := mU 906 (by decide +kernel) (by decide +kernel)
theorem u_907 : Cond.code ⟨"AutoTellerModel", "onDebit", "(III)I"⟩ prog_9_method_12_code 5 (Option.some Jvm.ClassFile.FieldType.int) ∈ wU := mU 907 (by decide +kernel) (by decide +kernel)
theorem u_908 : Cond.methodLink "AutoTellerModel" 125 ⟨"AutoTellerModel", "onReversal", "(I)I"⟩ ∈ wU := mU 908 (by decide +kernel) (by decide +kernel)
theorem u_910 : Cond.instanceMethod ⟨"AutoTellerModel", "onReversal", "(I)I"⟩ ∈ wU := mU 910 (by decide +kernel) (by decide +kernel)
theorem u_911 : Cond.code ⟨"AutoTellerModel", "onReversal", "(I)I"⟩ prog_9_method_13_code 2 (Option.some Jvm.ClassFile.FieldType.int) ∈ wU := mU 911 (by decide +kernel) (by decide +kernel)
theorem u_913 : Cond.instanceMethod ⟨"AutoTellerModel", "twice", "(I)I"⟩ ∈ wU := mU 913 (by decide +kernel) (by decide +kernel)
theorem u_914 : Cond.selects "AutoTellerModel" ⟨"AutoTellerModel", "twice", "(I)I"⟩ ⟨"AutoTellerModel", "twice", "(I)I"⟩ ∈ wU := mU 914 (by decide +kernel) (by decide +kernel)
theorem u_915 : Cond.code ⟨"AutoTellerModel", "twice", "(I)I"⟩ prog_9_method_32_code 2 (Option.some Jvm.ClassFile.FieldType.int) ∈ wU := mU 915 (by decide +kernel) (by decide +kernel)
theorem u_917 : Cond.instanceMethod ⟨"AutoTellerModel", "lose", "(I)I"⟩ ∈ wU := mU 917 (by decide +kernel) (by decide +kernel)
theorem u_918 : Cond.selects "AutoTellerModel" ⟨"AutoTellerModel", "lose", "(I)I"⟩ ⟨"AutoTellerModel", "lose", "(I)I"⟩ ∈ wU := mU 918 (by decide +kernel) (by decide +kernel)
theorem u_919 : Cond.code ⟨"AutoTellerModel", "lose", "(I)I"⟩ prog_9_method_33_code 2 (Option.some Jvm.ClassFile.FieldType.int) ∈ wU := mU 919 (by decide +kernel) (by decide +kernel)
theorem u_921 : Cond.instanceMethod ⟨"AutoTellerModel", "poke", "(III)Z"⟩ ∈ wU := mU 921 (by decide +kernel) (by decide +kernel)
theorem u_922 : Cond.selects "AutoTellerModel" ⟨"AutoTellerModel", "poke", "(III)Z"⟩ ⟨"AutoTellerModel", "poke", "(III)Z"⟩ ∈ wU := mU 922 (by decide +kernel) (by decide +kernel)
theorem u_923 : Cond.code ⟨"AutoTellerModel", "poke", "(III)Z"⟩ prog_9_method_34_code 4 (Option.some Jvm.ClassFile.FieldType.boolean) ∈ wU := mU 923 (by decide +kernel) (by decide +kernel)
theorem u_925 : Cond.instanceMethod ⟨"AutoTellerModel", "letter", "(II)I"⟩ ∈ wU := mU 925 (by decide +kernel) (by decide +kernel)
theorem u_926 : Cond.selects "AutoTellerModel" ⟨"AutoTellerModel", "letter", "(II)I"⟩ ⟨"AutoTellerModel", "letter", "(II)I"⟩ ∈ wU := mU 926 (by decide +kernel) (by decide +kernel)
theorem u_927 : Cond.code ⟨"AutoTellerModel", "letter", "(II)I"⟩ prog_9_method_35_code 3 (Option.some Jvm.ClassFile.FieldType.int) ∈ wU := mU 927 (by decide +kernel) (by decide +kernel)
theorem u_929 : Cond.instanceMethod ⟨"AutoTellerModel", "cut", "()Z"⟩ ∈ wU := mU 929 (by decide +kernel) (by decide +kernel)
theorem u_930 : Cond.selects "AutoTellerModel" ⟨"AutoTellerModel", "cut", "()Z"⟩ ⟨"AutoTellerModel", "cut", "()Z"⟩ ∈ wU := mU 930 (by decide +kernel) (by decide +kernel)
theorem u_931 : Cond.code ⟨"AutoTellerModel", "cut", "()Z"⟩ prog_9_method_36_code 1 (Option.some Jvm.ClassFile.FieldType.boolean) ∈ wU := mU 931 (by decide +kernel) (by decide +kernel)
theorem u_933 : Cond.instanceMethod ⟨"AutoTellerModel", "arm", "(I)Z"⟩ ∈ wU := mU 933 (by decide +kernel) (by decide +kernel)
theorem u_934 : Cond.selects "AutoTellerModel" ⟨"AutoTellerModel", "arm", "(I)Z"⟩ ⟨"AutoTellerModel", "arm", "(I)Z"⟩ ∈ wU := mU 934 (by decide +kernel) (by decide +kernel)
theorem u_935 : Cond.code ⟨"AutoTellerModel", "arm", "(I)Z"⟩ prog_9_method_37_code 2 (Option.some Jvm.ClassFile.FieldType.boolean) ∈ wU := mU 935 (by decide +kernel) (by decide +kernel)
theorem u_937 : Cond.instanceMethod ⟨"AutoTellerModel", "power", "()Z"⟩ ∈ wU := mU 937 (by decide +kernel) (by decide +kernel)
theorem u_938 : Cond.selects "AutoTellerModel" ⟨"AutoTellerModel", "power", "()Z"⟩ ⟨"AutoTellerModel", "power", "()Z"⟩ ∈ wU := mU 938 (by decide +kernel) (by decide +kernel)
theorem u_939 : Cond.code ⟨"AutoTellerModel", "power", "()Z"⟩ prog_9_method_38_code 4 (Option.some Jvm.ClassFile.FieldType.boolean) ∈ wU := mU 939 (by decide +kernel) (by decide +kernel)
theorem u_941 : Cond.instanceMethod ⟨"AutoTellerModel", "cassette", "(II)I"⟩ ∈ wU := mU 941 (by decide +kernel) (by decide +kernel)
theorem u_942 : Cond.selects "AutoTellerModel" ⟨"AutoTellerModel", "cassette", "(II)I"⟩ ⟨"AutoTellerModel", "cassette", "(II)I"⟩ ∈ wU := mU 942 (by decide +kernel) (by decide +kernel)
theorem u_943 : Cond.code ⟨"AutoTellerModel", "cassette", "(II)I"⟩ prog_9_method_39_code 3 (Option.some Jvm.ClassFile.FieldType.int) ∈ wU := mU 943 (by decide +kernel) (by decide +kernel)
theorem u_945 : Cond.instanceMethod ⟨"AutoTellerModel", "mix", "(II)I"⟩ ∈ wU := mU 945 (by decide +kernel) (by decide +kernel)
theorem u_946 : Cond.selects "AutoTellerModel" ⟨"AutoTellerModel", "mix", "(II)I"⟩ ⟨"AutoTellerModel", "mix", "(II)I"⟩ ∈ wU := mU 946 (by decide +kernel) (by decide +kernel)
theorem u_947 : Cond.code ⟨"AutoTellerModel", "mix", "(II)I"⟩ prog_9_method_40_code 3 (Option.some Jvm.ClassFile.FieldType.int) ∈ wU := mU 947 (by decide +kernel) (by decide +kernel)
theorem u_949 : Cond.instanceMethod ⟨"AutoTellerModel", "balance", "(I)J"⟩ ∈ wU := mU 949 (by decide +kernel) (by decide +kernel)
theorem u_950 : Cond.selects "AutoTellerModel" ⟨"AutoTellerModel", "balance", "(I)J"⟩ ⟨"AutoTellerModel", "balance", "(I)J"⟩ ∈ wU := mU 950 (by decide +kernel) (by decide +kernel)
theorem u_951 : Cond.code ⟨"AutoTellerModel", "balance", "(I)J"⟩ prog_9_method_41_code 2 (Option.some Jvm.ClassFile.FieldType.long) ∈ wU := mU 951 (by decide +kernel) (by decide +kernel)
theorem u_952 : Cond.constantLong "AutoTellerModel" 194 (-1) ∈ wU := mU 952 (by decide +kernel) (by decide +kernel)
theorem u_954 : Cond.instanceMethod ⟨"AutoTellerModel", "ofCard", "(II)I"⟩ ∈ wU := mU 954 (by decide +kernel) (by decide +kernel)
theorem u_955 : Cond.selects "AutoTellerModel" ⟨"AutoTellerModel", "ofCard", "(II)I"⟩ ⟨"AutoTellerModel", "ofCard", "(II)I"⟩ ∈ wU := mU 955 (by decide +kernel) (by decide +kernel)
theorem u_956 : Cond.code ⟨"AutoTellerModel", "ofCard", "(II)I"⟩ prog_9_method_42_code 3 (Option.some Jvm.ClassFile.FieldType.int) ∈ wU := mU 956 (by decide +kernel) (by decide +kernel)
theorem u_958 : Cond.instanceMethod ⟨"AutoTellerModel", "record", "(II)I"⟩ ∈ wU := mU 958 (by decide +kernel) (by decide +kernel)
theorem u_959 : Cond.selects "AutoTellerModel" ⟨"AutoTellerModel", "record", "(II)I"⟩ ⟨"AutoTellerModel", "record", "(II)I"⟩ ∈ wU := mU 959 (by decide +kernel) (by decide +kernel)
theorem u_960 : Cond.code ⟨"AutoTellerModel", "record", "(II)I"⟩ prog_9_method_43_code 3 (Option.some Jvm.ClassFile.FieldType.int) ∈ wU := mU 960 (by decide +kernel) (by decide +kernel)
theorem u_962 : Cond.instanceMethod ⟨"AutoTellerModel", "count", "(I)J"⟩ ∈ wU := mU 962 (by decide +kernel) (by decide +kernel)
theorem u_963 : Cond.selects "AutoTellerModel" ⟨"AutoTellerModel", "count", "(I)J"⟩ ⟨"AutoTellerModel", "count", "(I)J"⟩ ∈ wU := mU 963 (by decide +kernel) (by decide +kernel)
theorem u_964 : Cond.code ⟨"AutoTellerModel", "count", "(I)J"⟩ prog_9_method_44_code 2 (Option.some Jvm.ClassFile.FieldType.long) ∈ wU := mU 964 (by decide +kernel) (by decide +kernel)
theorem Y_A_isWithin : Ys y_A_isWithin prog_1_method_26_code 6 (some .boolean) 3 := ⟨u_266, u_1, u_267, by decide, by decide, by decide +kernel⟩
theorem Y_H_isAccount : Ys y_H_isAccount prog_2_method_13_code 1 (some .boolean) 1 := ⟨u_262, u_4, u_263, by decide, by decide, by decide +kernel⟩
theorem Y_H_setBalance : Yv y_H_setBalance prog_2_method_2_code 4 (some .boolean) 2 := ⟨u_258, u_259, u_4, u_260, by decide, by decide, by decide +kernel⟩
theorem Y_A_account : Yv y_A_account prog_1_method_2_code 4 (some .boolean) 2 := ⟨u_254, u_255, u_1, u_256, by decide, by decide, by decide +kernel⟩
theorem Y_A_isCard : Ys y_A_isCard prog_1_method_27_code 1 (some .boolean) 1 := ⟨u_278, u_1, u_279, by decide, by decide, by decide +kernel⟩
theorem Y_A_isPin : Ys y_A_isPin prog_1_method_28_code 2 (some .boolean) 1 := ⟨u_283, u_1, u_284, by decide, by decide, by decide +kernel⟩
theorem Y_H_tellCard : Yv y_H_tellCard prog_2_method_3_code 4 (some .boolean) 3 := ⟨u_274, u_275, u_4, u_276, by decide, by decide, by decide +kernel⟩
theorem Y_A_card : Yv y_A_card prog_1_method_3_code 4 (some .boolean) 3 := ⟨u_270, u_271, u_1, u_272, by decide, by decide, by decide +kernel⟩
theorem Y_O_isCassette : Ys y_O_isCassette prog_7_method_15_code 1 (some .boolean) 1 := ⟨u_299, u_7, u_300, by decide, by decide, by decide +kernel⟩
theorem Y_O_fill : Yv y_O_fill prog_7_method_2_code 4 (some .boolean) 3 := ⟨u_295, u_296, u_7, u_297, by decide, by decide, by decide +kernel⟩
theorem Y_M_fillCassette : Yv y_M_fillCassette prog_6_method_2_code 4 (some .boolean) 3 := ⟨u_291, u_292, u_6, u_293, by decide, by decide, by decide +kernel⟩
theorem Y_A_load : Yv y_A_load prog_1_method_4_code 4 (some .boolean) 3 := ⟨u_287, u_288, u_1, u_289, by decide, by decide, by decide +kernel⟩
theorem Y_M_putCardIn : Yv y_M_putCardIn prog_6_method_3_code 2 (some .boolean) 1 := ⟨u_309, u_310, u_6, u_311, by decide, by decide, by decide +kernel⟩
theorem Y_A_insert : Yv y_A_insert prog_1_method_5_code 2 (some .boolean) 1 := ⟨u_305, u_306, u_1, u_307, by decide, by decide, by decide +kernel⟩
theorem Y_M_takeTrace : Yv y_M_takeTrace prog_6_method_20_code 1 none 0 := ⟨u_324, (mUs (q := y_M_takeTrace) 0 (by decide +kernel) (by decide +kernel)), u_6, u_325, by decide, by decide, by decide +kernel⟩
theorem Y_M_mayStep : Yv y_M_mayStep prog_6_method_21_code 1 (some .boolean) 0 := ⟨u_332, (mUs (q := y_M_mayStep) 2 (by decide +kernel) (by decide +kernel)), u_6, u_333, by decide, by decide, by decide +kernel⟩
theorem Y_E_writeNumber : Yv y_E_writeNumber prog_4_method_11_code 5 none 2 := ⟨u_352, (mUs (q := y_E_writeNumber) 3 (by decide +kernel) (by decide +kernel)), u_3, u_353, by decide, by decide, by decide +kernel⟩
theorem Y_E_reckonCheck : Yv y_E_reckonCheck prog_4_method_10_code 5 (some .int) 0 := ⟨u_356, (mUs (q := y_E_reckonCheck) 4 (by decide +kernel) (by decide +kernel)), u_3, u_357, by decide, by decide, by decide +kernel⟩
theorem Y_E_write : Yv y_E_write prog_4_method_2_code 8 none 5 := ⟨u_347, u_348, u_3, u_349, by decide, by decide, by decide +kernel⟩
theorem Y_N_has : Yv y_N_has prog_5_method_2_code 2 (some .boolean) 1 := ⟨u_343, u_344, u_2, u_345, by decide, by decide, by decide +kernel⟩
theorem Y_N_remove : Yv y_N_remove prog_5_method_5_code 4 none 1 := ⟨u_339, u_340, u_2, u_341, by decide, by decide, by decide +kernel⟩
theorem Y_N_post : Yv y_N_post prog_5_method_3_code 9 none 6 := ⟨u_335, u_336, u_2, u_337, by decide, by decide, by decide +kernel⟩
theorem Y_M_send : Yv y_M_send prog_6_method_23_code 3 (some .boolean) 2 := ⟨u_328, (mUs (q := y_M_send) 1 (by decide +kernel) (by decide +kernel)), u_6, u_329, by decide, by decide, by decide +kernel⟩
theorem Y_M_beginPinCheck : Yv y_M_beginPinCheck prog_6_method_6_code 2 (some .boolean) 1 := ⟨u_318, u_319, u_6, u_320, by decide, by decide, by decide +kernel⟩
theorem Y_A_pin : Yv y_A_pin prog_1_method_6_code 2 (some .boolean) 1 := ⟨u_314, u_315, u_1, u_316, by decide, by decide, by decide +kernel⟩
theorem Y_A_isAmount : Ys y_A_isAmount prog_1_method_29_code 2 (some .boolean) 1 := ⟨u_368, u_1, u_369, by decide, by decide, by decide +kernel⟩
theorem Y_O_findLargest : Yv y_O_findLargest prog_7_method_7_code 2 none 0 := ⟨u_378, (mUs (q := y_O_findLargest) 5 (by decide +kernel) (by decide +kernel)), u_7, u_379, by decide, by decide, by decide +kernel⟩
theorem Y_O_mostOf : Yv y_O_mostOf prog_7_method_8_code 7 (some .int) 3 := ⟨u_385, (mUs (q := y_O_mostOf) 6 (by decide +kernel) (by decide +kernel)), u_7, u_386, by decide, by decide, by decide +kernel⟩
theorem Y_O_mixRest : Yv y_O_mixRest prog_7_method_6_code 9 none 3 := ⟨u_389, (mUs (q := y_O_mixRest) 7 (by decide +kernel) (by decide +kernel)), u_7, u_390, by decide, by decide, by decide +kernel⟩
theorem Y_O_findMix : Yv y_O_findMix prog_7_method_5_code 6 (some .boolean) 1 := ⟨u_372, u_373, u_7, u_374, by decide, by decide, by decide +kernel⟩
theorem Y_J_isFull : Yv y_J_isFull prog_3_method_2_code 1 (some .boolean) 0 := ⟨u_396, u_397, u_8, u_398, by decide, by decide, by decide +kernel⟩
theorem Y_J_add : Yv y_J_add prog_3_method_3_code 5 none 4 := ⟨u_400, u_401, u_8, u_402, by decide, by decide, by decide +kernel⟩
theorem Y_M_write : Yv y_M_write prog_6_method_22_code 2 (some .boolean) 1 := ⟨u_393, (mUs (q := y_M_write) 8 (by decide +kernel) (by decide +kernel)), u_6, u_394, by decide, by decide, by decide +kernel⟩
theorem Y_M_beginWithdrawal : Yv y_M_beginWithdrawal prog_6_method_7_code 2 (some .int) 1 := ⟨u_364, u_365, u_6, u_366, by decide, by decide, by decide +kernel⟩
theorem Y_A_ask : Yv y_A_ask prog_1_method_7_code 2 (some .int) 1 := ⟨u_360, u_361, u_1, u_362, by decide, by decide, by decide +kernel⟩
theorem Y_M_endWithoutCard : Yv y_M_endWithoutCard prog_6_method_19_code 1 none 0 := ⟨u_414, (mUs (q := y_M_endWithoutCard) 9 (by decide +kernel) (by decide +kernel)), u_6, u_415, by decide, by decide, by decide +kernel⟩
theorem Y_M_giveCardBack : Yv y_M_giveCardBack prog_6_method_4_code 1 (some .boolean) 0 := ⟨u_409, u_410, u_6, u_411, by decide, by decide, by decide +kernel⟩
theorem Y_A_eject : Yv y_A_eject prog_1_method_8_code 1 (some .boolean) 0 := ⟨u_405, u_406, u_1, u_407, by decide, by decide, by decide +kernel⟩
theorem Y_F_fill : Ys y_F_fill prog_13_method_103_code 4 none 2 := ⟨u_63, u_5, u_64, by decide, by decide, by decide +kernel⟩
theorem Y_O_clearTray : Yv y_O_clearTray prog_7_method_14_code 2 (some .int) 0 := ⟨u_421, u_422, u_7, u_423, by decide, by decide, by decide +kernel⟩
theorem Y_A_take : Yv y_A_take prog_1_method_9_code 1 (some .int) 0 := ⟨u_417, u_418, u_1, u_419, by decide, by decide, by decide +kernel⟩
theorem Y_O_areStacked : Yv y_O_areStacked prog_7_method_10_code 3 (some .boolean) 0 := ⟨u_438, u_439, u_7, u_440, by decide, by decide, by decide +kernel⟩
theorem Y_O_emptyStackerInto : Yv y_O_emptyStackerInto prog_7_method_13_code 3 none 1 := ⟨u_447, (mUs (q := y_O_emptyStackerInto) 11 (by decide +kernel) (by decide +kernel)), u_7, u_448, by decide, by decide, by decide +kernel⟩
theorem Y_O_moveStackerToBin : Yv y_O_moveStackerToBin prog_7_method_12_code 1 none 0 := ⟨u_442, u_443, u_7, u_444, by decide, by decide, by decide +kernel⟩
theorem Y_M_reverse : Yv y_M_reverse prog_6_method_14_code 2 none 1 := ⟨u_435, (mUs (q := y_M_reverse) 10 (by decide +kernel) (by decide +kernel)), u_6, u_436, by decide, by decide, by decide +kernel⟩
theorem Y_M_endWaiting : Yv y_M_endWaiting prog_6_method_8_code 1 (some .boolean) 0 := ⟨u_430, u_431, u_6, u_432, by decide, by decide, by decide +kernel⟩
theorem Y_A_timeout : Yv y_A_timeout prog_1_method_10_code 1 (some .boolean) 0 := ⟨u_426, u_427, u_1, u_428, by decide, by decide, by decide +kernel⟩
theorem Y_E_copyFrom : Yv y_E_copyFrom prog_4_method_3_code 2 none 1 := ⟨u_459, u_460, u_3, u_461, by decide, by decide, by decide +kernel⟩
theorem Y_N_copyTo : Yv y_N_copyTo prog_5_method_4_code 3 none 2 := ⟨u_455, u_456, u_2, u_457, by decide, by decide, by decide +kernel⟩
theorem Y_E_isSound : Yv y_E_isSound prog_4_method_9_code 1 (some .boolean) 0 := ⟨u_475, u_476, u_3, u_477, by decide, by decide, by decide +kernel⟩
theorem Y_E_readNumber : Yv y_E_readNumber prog_4_method_12_code 5 (some .long) 1 := ⟨u_487, (mUs (q := y_E_readNumber) 13 (by decide +kernel) (by decide +kernel)), u_3, u_488, by decide, by decide, by decide +kernel⟩
theorem Y_E_trace : Yv y_E_trace prog_4_method_5_code 1 (some .long) 0 := ⟨u_482, u_483, u_3, u_484, by decide, by decide, by decide +kernel⟩
theorem Y_E_kind : Yv y_E_kind prog_4_method_4_code 1 (some .int) 0 := ⟨u_496, u_497, u_3, u_498, by decide, by decide, by decide +kernel⟩
theorem Y_M_isAwaited : Yv y_M_isAwaited prog_6_method_10_code 2 (some .boolean) 1 := ⟨u_528, (mUs (q := y_M_isAwaited) 18 (by decide +kernel) (by decide +kernel)), u_6, u_529, by decide, by decide, by decide +kernel⟩
theorem Y_E_code : Yv y_E_code prog_4_method_8_code 1 (some .int) 0 := ⟨u_533, u_534, u_3, u_535, by decide, by decide, by decide +kernel⟩
theorem Y_M_endPinCheck : Yv y_M_endPinCheck prog_6_method_11_code 2 none 1 := ⟨u_538, (mUs (q := y_M_endPinCheck) 19 (by decide +kernel) (by decide +kernel)), u_6, u_539, by decide, by decide, by decide +kernel⟩
theorem Y_O_stackOne : Yv y_O_stackOne prog_7_method_9_code 2 none 1 := ⟨u_549, u_550, u_7, u_551, by decide, by decide, by decide +kernel⟩
theorem Y_M_stackMix : Yv y_M_stackMix prog_6_method_13_code 3 (some .boolean) 0 := ⟨u_546, (mUs (q := y_M_stackMix) 21 (by decide +kernel) (by decide +kernel)), u_6, u_547, by decide, by decide, by decide +kernel⟩
theorem Y_O_moveStackerToTray : Yv y_O_moveStackerToTray prog_7_method_11_code 1 none 0 := ⟨u_553, u_554, u_7, u_555, by decide, by decide, by decide +kernel⟩
theorem Y_M_payOut : Yv y_M_payOut prog_6_method_12_code 1 none 0 := ⟨u_542, (mUs (q := y_M_payOut) 20 (by decide +kernel) (by decide +kernel)), u_6, u_543, by decide, by decide, by decide +kernel⟩
theorem Y_M_receive : Yv y_M_receive prog_6_method_9_code 2 none 1 := ⟨u_522, u_523, u_6, u_524, by decide, by decide, by decide +kernel⟩
theorem Y_E_cardNumber : Yv y_E_cardNumber prog_4_method_6_code 1 (some .int) 0 := ⟨u_492, u_493, u_3, u_494, by decide, by decide, by decide +kernel⟩
theorem Y_E_value : Yv y_E_value prog_4_method_7_code 1 (some .long) 0 := ⟨u_500, u_501, u_3, u_502, by decide, by decide, by decide +kernel⟩
theorem Y_H_isUsable : Ys y_H_isUsable prog_2_method_8_code 1 (some .boolean) 1 := ⟨u_479, u_4, u_480, by decide, by decide, by decide +kernel⟩
theorem Y_H_tryPin : Yv y_H_tryPin prog_2_method_10_code 4 (some .int) 2 := ⟨u_510, (mUs (q := y_H_tryPin) 15 (by decide +kernel) (by decide +kernel)), u_4, u_511, by decide, by decide, by decide +kernel⟩
theorem Y_H_takeOff : Yv y_H_takeOff prog_2_method_11_code 5 none 3 := ⟨u_514, (mUs (q := y_H_takeOff) 16 (by decide +kernel) (by decide +kernel)), u_4, u_515, by decide, by decide, by decide +kernel⟩
theorem Y_H_giveBack : Yv y_H_giveBack prog_2_method_12_code 3 none 1 := ⟨u_518, (mUs (q := y_H_giveBack) 17 (by decide +kernel) (by decide +kernel)), u_4, u_519, by decide, by decide, by decide +kernel⟩
theorem Y_H_decide : Yv y_H_decide prog_2_method_9_code 6 (some .int) 4 := ⟨u_506, (mUs (q := y_H_decide) 14 (by decide +kernel) (by decide +kernel)), u_4, u_507, by decide, by decide, by decide +kernel⟩
theorem Y_H_receive : Yv y_H_receive prog_2_method_7_code 8 none 1 := ⟨u_471, u_472, u_4, u_473, by decide, by decide, by decide +kernel⟩
theorem Y_A_handOver : Yv y_A_handOver prog_1_method_25_code 1 none 0 := ⟨u_468, (mUs (q := y_A_handOver) 12 (by decide +kernel) (by decide +kernel)), u_1, u_469, by decide, by decide, by decide +kernel⟩
theorem Y_A_deliver : Yv y_A_deliver prog_1_method_11_code 2 (some .int) 1 := ⟨u_450, u_451, u_1, u_452, by decide, by decide, by decide +kernel⟩
theorem Y_A_twice : Yv y_A_twice prog_1_method_12_code 2 (some .int) 1 := ⟨u_557, u_558, u_1, u_559, by decide, by decide, by decide +kernel⟩
theorem Y_A_lose : Yv y_A_lose prog_1_method_13_code 2 (some .int) 1 := ⟨u_561, u_562, u_1, u_563, by decide, by decide, by decide +kernel⟩
theorem Y_N_changeByte : Yv y_N_changeByte prog_5_method_6_code 4 (some .boolean) 3 := ⟨u_569, u_570, u_2, u_571, by decide, by decide, by decide +kernel⟩
theorem Y_A_poke : Yv y_A_poke prog_1_method_14_code 4 (some .boolean) 3 := ⟨u_565, u_566, u_1, u_567, by decide, by decide, by decide +kernel⟩
theorem Y_N_byteOf : Yv y_N_byteOf prog_5_method_7_code 3 (some .int) 2 := ⟨u_580, u_581, u_2, u_582, by decide, by decide, by decide +kernel⟩
theorem Y_A_letter : Yv y_A_letter prog_1_method_15_code 3 (some .int) 2 := ⟨u_576, u_577, u_1, u_578, by decide, by decide, by decide +kernel⟩
theorem Y_M_switchOff : Yv y_M_switchOff prog_6_method_15_code 1 (some .boolean) 0 := ⟨u_588, u_589, u_6, u_590, by decide, by decide, by decide +kernel⟩
theorem Y_A_cut : Yv y_A_cut prog_1_method_16_code 1 (some .boolean) 0 := ⟨u_584, u_585, u_1, u_586, by decide, by decide, by decide +kernel⟩
theorem Y_M_allowSteps : Yv y_M_allowSteps prog_6_method_16_code 2 (some .boolean) 1 := ⟨u_596, u_597, u_6, u_598, by decide, by decide, by decide +kernel⟩
theorem Y_A_arm : Yv y_A_arm prog_1_method_17_code 2 (some .boolean) 1 := ⟨u_592, u_593, u_1, u_594, by decide, by decide, by decide +kernel⟩
theorem Y_J_tell : Yv y_J_tell prog_3_method_4_code 3 (some .int) 2 := ⟨u_618, u_619, u_8, u_620, by decide, by decide, by decide +kernel⟩
theorem Y_J_lastBegun : Yv y_J_lastBegun prog_3_method_6_code 2 (some .int) 0 := ⟨u_614, u_615, u_8, u_616, by decide, by decide, by decide +kernel⟩
theorem Y_M_recallLastBegun : Yv y_M_recallLastBegun prog_6_method_18_code 2 none 0 := ⟨u_611, (mUs (q := y_M_recallLastBegun) 22 (by decide +kernel) (by decide +kernel)), u_6, u_612, by decide, by decide, by decide +kernel⟩
theorem Y_J_lastKind : Yv y_J_lastKind prog_3_method_5_code 1 (some .int) 0 := ⟨u_624, u_625, u_8, u_626, by decide, by decide, by decide +kernel⟩
theorem Y_M_switchOn : Yv y_M_switchOn prog_6_method_17_code 1 (some .boolean) 0 := ⟨u_606, u_607, u_6, u_608, by decide, by decide, by decide +kernel⟩
theorem Y_A_power : Yv y_A_power prog_1_method_18_code 1 (some .boolean) 0 := ⟨u_602, u_603, u_1, u_604, by decide, by decide, by decide +kernel⟩
theorem Y_O_tell : Yv y_O_tell prog_7_method_3_code 3 (some .int) 2 := ⟨u_632, u_633, u_7, u_634, by decide, by decide, by decide +kernel⟩
theorem Y_A_cassette : Yv y_A_cassette prog_1_method_19_code 3 (some .int) 2 := ⟨u_628, u_629, u_1, u_630, by decide, by decide, by decide +kernel⟩
theorem Y_O_mixedOf : Yv y_O_mixedOf prog_7_method_4_code 3 (some .int) 2 := ⟨u_640, u_641, u_7, u_642, by decide, by decide, by decide +kernel⟩
theorem Y_A_mix : Yv y_A_mix prog_1_method_20_code 3 (some .int) 2 := ⟨u_636, u_637, u_1, u_638, by decide, by decide, by decide +kernel⟩
theorem Y_H_balanceOf : Yv y_H_balanceOf prog_2_method_4_code 2 (some .long) 1 := ⟨u_649, u_650, u_4, u_651, by decide, by decide, by decide +kernel⟩
theorem Y_A_balance : Yv y_A_balance prog_1_method_21_code 2 (some .long) 1 := ⟨u_645, u_646, u_1, u_647, by decide, by decide, by decide +kernel⟩
theorem Y_H_triesOf : Yv y_H_triesOf prog_2_method_5_code 2 (some .int) 1 := ⟨u_658, u_659, u_4, u_660, by decide, by decide, by decide +kernel⟩
theorem Y_M_keptOf : Yv y_M_keptOf prog_6_method_5_code 2 (some .int) 1 := ⟨u_662, u_663, u_6, u_664, by decide, by decide, by decide +kernel⟩
theorem Y_H_accountOf : Yv y_H_accountOf prog_2_method_6_code 2 (some .int) 1 := ⟨u_666, u_667, u_4, u_668, by decide, by decide, by decide +kernel⟩
theorem Y_A_ofCard : Yv y_A_ofCard prog_1_method_22_code 3 (some .int) 2 := ⟨u_654, u_655, u_1, u_656, by decide, by decide, by decide +kernel⟩
theorem Y_A_record : Yv y_A_record prog_1_method_23_code 3 (some .int) 2 := ⟨u_670, u_671, u_1, u_672, by decide, by decide, by decide +kernel⟩
theorem Y_A_count : Yv y_A_count prog_1_method_24_code 2 (some .long) 1 := ⟨u_675, u_676, u_1, u_677, by decide, by decide, by decide +kernel⟩
theorem Y_R_account : Yv y_R_account prog_9_method_3_code 4 (some .boolean) 2 := ⟨u_795, u_796, u_9, u_797, by decide, by decide, by decide +kernel⟩
theorem Y_R_card : Yv y_R_card prog_9_method_4_code 4 (some .boolean) 3 := ⟨u_800, u_801, u_9, u_802, by decide, by decide, by decide +kernel⟩
theorem Y_R_load : Yv y_R_load prog_9_method_23_code 4 (some .boolean) 3 := ⟨u_804, u_805, u_9, u_806, by decide, by decide, by decide +kernel⟩
theorem Y_R_insert : Yv y_R_insert prog_9_method_24_code 2 (some .boolean) 1 := ⟨u_808, u_809, u_9, u_810, by decide, by decide, by decide +kernel⟩
theorem Y_R_goOff : Yv y_R_goOff prog_9_method_15_code 1 none 0 := ⟨u_825, (mUs (q := y_R_goOff) 25 (by decide +kernel) (by decide +kernel)), u_9, u_826, by decide, by decide, by decide +kernel⟩
theorem Y_R_step : Yv y_R_step prog_9_method_14_code 1 (some .boolean) 0 := ⟨u_821, (mUs (q := y_R_step) 24 (by decide +kernel) (by decide +kernel)), u_9, u_822, by decide, by decide, by decide +kernel⟩
theorem Y_R_drop : Yv y_R_drop prog_9_method_6_code 3 none 1 := ⟨u_833, (mUs (q := y_R_drop) 27 (by decide +kernel) (by decide +kernel)), u_9, u_834, by decide, by decide, by decide +kernel⟩
theorem Y_R_check : Ys y_R_check prog_9_method_5_code 6 (some .int) 2 := ⟨u_836, u_9, u_837, by decide, by decide, by decide +kernel⟩
theorem Y_R_send : Yv y_R_send prog_9_method_7_code 9 none 6 := ⟨u_829, (mUs (q := y_R_send) 26 (by decide +kernel) (by decide +kernel)), u_9, u_830, by decide, by decide, by decide +kernel⟩
theorem Y_R_sendStep : Yv y_R_sendStep prog_9_method_17_code 3 (some .boolean) 2 := ⟨u_817, (mUs (q := y_R_sendStep) 23 (by decide +kernel) (by decide +kernel)), u_9, u_818, by decide, by decide, by decide +kernel⟩
theorem Y_R_pin : Yv y_R_pin prog_9_method_25_code 2 (some .boolean) 1 := ⟨u_812, u_813, u_9, u_814, by decide, by decide, by decide +kernel⟩
theorem Y_R_findMix : Yv y_R_findMix prog_9_method_22_code 8 (some .boolean) 1 := ⟨u_846, (mUs (q := y_R_findMix) 28 (by decide +kernel) (by decide +kernel)), u_9, u_847, by decide, by decide, by decide +kernel⟩
theorem Y_R_record : Yv y_R_record prog_9_method_16_code 3 (some .boolean) 1 := ⟨u_850, (mUs (q := y_R_record) 29 (by decide +kernel) (by decide +kernel)), u_9, u_851, by decide, by decide, by decide +kernel⟩
theorem Y_R_ask : Yv y_R_ask prog_9_method_26_code 2 (some .int) 1 := ⟨u_840, u_841, u_9, u_842, by decide, by decide, by decide +kernel⟩
theorem Y_R_eject : Yv y_R_eject prog_9_method_27_code 1 (some .boolean) 0 := ⟨u_853, u_854, u_9, u_855, by decide, by decide, by decide +kernel⟩
theorem Y_R_take : Yv y_R_take prog_9_method_28_code 3 (some .int) 0 := ⟨u_857, u_858, u_9, u_859, by decide, by decide, by decide +kernel⟩
theorem Y_R_hasStacked : Yv y_R_hasStacked prog_9_method_18_code 1 (some .boolean) 0 := ⟨u_870, (mUs (q := y_R_hasStacked) 31 (by decide +kernel) (by decide +kernel)), u_9, u_871, by decide, by decide, by decide +kernel⟩
theorem Y_R_reverse : Yv y_R_reverse prog_9_method_19_code 3 none 1 := ⟨u_866, (mUs (q := y_R_reverse) 30 (by decide +kernel) (by decide +kernel)), u_9, u_867, by decide, by decide, by decide +kernel⟩
theorem Y_R_timeout : Yv y_R_timeout prog_9_method_29_code 1 (some .boolean) 0 := ⟨u_861, u_862, u_9, u_863, by decide, by decide, by decide +kernel⟩
theorem Y_R_isLetter : Yv y_R_isLetter prog_9_method_30_code 2 (some .boolean) 1 := ⟨u_878, (mUs (q := y_R_isLetter) 32 (by decide +kernel) (by decide +kernel)), u_9, u_879, by decide, by decide, by decide +kernel⟩
theorem Y_R_numberAt : Yv y_R_numberAt prog_9_method_8_code 2 (some .int) 1 := ⟨u_890, (mUs (q := y_R_numberAt) 35 (by decide +kernel) (by decide +kernel)), u_9, u_891, by decide, by decide, by decide +kernel⟩
theorem Y_R_giveOut : Yv y_R_giveOut prog_9_method_21_code 3 none 0 := ⟨u_894, (mUs (q := y_R_giveOut) 36 (by decide +kernel) (by decide +kernel)), u_9, u_895, by decide, by decide, by decide +kernel⟩
theorem Y_R_machineTakes : Yv y_R_machineTakes prog_9_method_20_code 3 (some .boolean) 0 := ⟨u_886, (mUs (q := y_R_machineTakes) 34 (by decide +kernel) (by decide +kernel)), u_9, u_887, by decide, by decide, by decide +kernel⟩
theorem Y_R_onPin : Yv y_R_onPin prog_9_method_11_code 5 (some .int) 3 := ⟨u_902, (mUs (q := y_R_onPin) 38 (by decide +kernel) (by decide +kernel)), u_9, u_903, by decide, by decide, by decide +kernel⟩
theorem Y_R_onDebit : Yv y_R_onDebit prog_9_method_12_code 5 (some .int) 3 := ⟨u_906, (mUs (q := y_R_onDebit) 39 (by decide +kernel) (by decide +kernel)), u_9, u_907, by decide, by decide, by decide +kernel⟩
theorem Y_R_onReversal : Yv y_R_onReversal prog_9_method_13_code 2 (some .int) 1 := ⟨u_910, (mUs (q := y_R_onReversal) 40 (by decide +kernel) (by decide +kernel)), u_9, u_911, by decide, by decide, by decide +kernel⟩
theorem Y_R_hostTakes : Yv y_R_hostTakes prog_9_method_10_code 7 (some .boolean) 0 := ⟨u_898, (mUs (q := y_R_hostTakes) 37 (by decide +kernel) (by decide +kernel)), u_9, u_899, by decide, by decide, by decide +kernel⟩
theorem Y_R_come : Yv y_R_come prog_9_method_9_code 6 none 2 := ⟨u_882, (mUs (q := y_R_come) 33 (by decide +kernel) (by decide +kernel)), u_9, u_883, by decide, by decide, by decide +kernel⟩
theorem Y_R_deliver : Yv y_R_deliver prog_9_method_31_code 2 (some .int) 1 := ⟨u_873, u_874, u_9, u_875, by decide, by decide, by decide +kernel⟩
theorem Y_R_twice : Yv y_R_twice prog_9_method_32_code 2 (some .int) 1 := ⟨u_913, u_914, u_9, u_915, by decide, by decide, by decide +kernel⟩
theorem Y_R_lose : Yv y_R_lose prog_9_method_33_code 2 (some .int) 1 := ⟨u_917, u_918, u_9, u_919, by decide, by decide, by decide +kernel⟩
theorem Y_R_poke : Yv y_R_poke prog_9_method_34_code 4 (some .boolean) 3 := ⟨u_921, u_922, u_9, u_923, by decide, by decide, by decide +kernel⟩
theorem Y_R_letter : Yv y_R_letter prog_9_method_35_code 3 (some .int) 2 := ⟨u_925, u_926, u_9, u_927, by decide, by decide, by decide +kernel⟩
theorem Y_R_cut : Yv y_R_cut prog_9_method_36_code 1 (some .boolean) 0 := ⟨u_929, u_930, u_9, u_931, by decide, by decide, by decide +kernel⟩
theorem Y_R_arm : Yv y_R_arm prog_9_method_37_code 2 (some .boolean) 1 := ⟨u_933, u_934, u_9, u_935, by decide, by decide, by decide +kernel⟩
theorem Y_R_power : Yv y_R_power prog_9_method_38_code 4 (some .boolean) 0 := ⟨u_937, u_938, u_9, u_939, by decide, by decide, by decide +kernel⟩
theorem Y_R_cassette : Yv y_R_cassette prog_9_method_39_code 3 (some .int) 2 := ⟨u_941, u_942, u_9, u_943, by decide, by decide, by decide +kernel⟩
theorem Y_R_mix : Yv y_R_mix prog_9_method_40_code 3 (some .int) 2 := ⟨u_945, u_946, u_9, u_947, by decide, by decide, by decide +kernel⟩
theorem Y_R_balance : Yv y_R_balance prog_9_method_41_code 2 (some .long) 1 := ⟨u_949, u_950, u_9, u_951, by decide, by decide, by decide +kernel⟩
theorem Y_R_ofCard : Yv y_R_ofCard prog_9_method_42_code 3 (some .int) 2 := ⟨u_954, u_955, u_9, u_956, by decide, by decide, by decide +kernel⟩
theorem Y_R_recordOf : Yv y_R_recordOf prog_9_method_43_code 3 (some .int) 2 := ⟨u_958, u_959, u_9, u_960, by decide, by decide, by decide +kernel⟩
theorem Y_R_count : Yv y_R_count prog_9_method_44_code 2 (some .long) 1 := ⟨u_962, u_963, u_9, u_964, by decide, by decide, by decide +kernel⟩
def rm_A_isWithin : Room := { frames := 0, cells := 0, slots := 0, locals := 0 }
def rm_H_isAccount : Room := { frames := 1, cells := 0, slots := 0, locals := 25 }
def rm_H_setBalance : Room := { frames := 2, cells := 0, slots := 0, locals := 45 }
def rm_A_account : Room := { frames := 3, cells := 0, slots := 0, locals := 68 }
def rm_A_isCard : Room := { frames := 1, cells := 0, slots := 0, locals := 25 }
def rm_A_isPin : Room := { frames := 1, cells := 0, slots := 0, locals := 25 }
def rm_H_tellCard : Room := { frames := 2, cells := 0, slots := 0, locals := 46 }
def rm_A_card : Room := { frames := 3, cells := 0, slots := 0, locals := 69 }
def rm_O_isCassette : Room := { frames := 0, cells := 0, slots := 0, locals := 0 }
def rm_O_fill : Room := { frames := 1, cells := 0, slots := 0, locals := 25 }
def rm_M_fillCassette : Room := { frames := 2, cells := 0, slots := 0, locals := 48 }
def rm_A_load : Room := { frames := 3, cells := 0, slots := 0, locals := 71 }
def rm_M_putCardIn : Room := { frames := 2, cells := 0, slots := 0, locals := 45 }
def rm_A_insert : Room := { frames := 3, cells := 0, slots := 0, locals := 66 }
def rm_M_takeTrace : Room := { frames := 0, cells := 0, slots := 0, locals := 0 }
def rm_M_mayStep : Room := { frames := 0, cells := 0, slots := 0, locals := 0 }
def rm_E_writeNumber : Room := { frames := 0, cells := 0, slots := 0, locals := 0 }
def rm_E_reckonCheck : Room := { frames := 0, cells := 0, slots := 0, locals := 0 }
def rm_E_write : Room := { frames := 1, cells := 0, slots := 0, locals := 24 }
def rm_N_has : Room := { frames := 0, cells := 0, slots := 0, locals := 0 }
def rm_N_remove : Room := { frames := 1, cells := 0, slots := 0, locals := 21 }
def rm_N_post : Room := { frames := 2, cells := 0, slots := 0, locals := 51 }
def rm_M_send : Room := { frames := 3, cells := 0, slots := 0, locals := 79 }
def rm_M_beginPinCheck : Room := { frames := 4, cells := 0, slots := 0, locals := 101 }
def rm_A_pin : Room := { frames := 5, cells := 0, slots := 0, locals := 122 }
def rm_A_isAmount : Room := { frames := 1, cells := 0, slots := 0, locals := 25 }
def rm_O_findLargest : Room := { frames := 1, cells := 0, slots := 0, locals := 14 }
def rm_O_mostOf : Room := { frames := 0, cells := 0, slots := 0, locals := 0 }
def rm_O_mixRest : Room := { frames := 1, cells := 0, slots := 0, locals := 26 }
def rm_O_findMix : Room := { frames := 2, cells := 0, slots := 0, locals := 54 }
def rm_J_isFull : Room := { frames := 0, cells := 0, slots := 0, locals := 0 }
def rm_J_add : Room := { frames := 1, cells := 0, slots := 0, locals := 20 }
def rm_M_write : Room := { frames := 2, cells := 0, slots := 0, locals := 44 }
def rm_M_beginWithdrawal : Room := { frames := 4, cells := 0, slots := 0, locals := 101 }
def rm_A_ask : Room := { frames := 5, cells := 0, slots := 0, locals := 122 }
def rm_M_endWithoutCard : Room := { frames := 0, cells := 0, slots := 0, locals := 0 }
def rm_M_giveCardBack : Room := { frames := 1, cells := 0, slots := 0, locals := 20 }
def rm_A_eject : Room := { frames := 2, cells := 0, slots := 0, locals := 40 }
def rm_F_fill_inTrayC : Room := { frames := 0, cells := 0, slots := 0, locals := 0 }
def rm_O_clearTray : Room := { frames := 1, cells := 0, slots := 0, locals := 23 }
def rm_A_take : Room := { frames := 2, cells := 0, slots := 0, locals := 44 }
def rm_O_areStacked : Room := { frames := 0, cells := 0, slots := 0, locals := 0 }
def rm_O_emptyStackerInto_inBin : Room := { frames := 0, cells := 0, slots := 0, locals := 0 }
def rm_O_moveStackerToBin : Room := { frames := 1, cells := 0, slots := 0, locals := 22 }
def rm_M_reverse : Room := { frames := 4, cells := 0, slots := 0, locals := 101 }
def rm_M_endWaiting : Room := { frames := 5, cells := 0, slots := 0, locals := 122 }
def rm_A_timeout : Room := { frames := 6, cells := 0, slots := 0, locals := 142 }
def rm_E_copyFrom : Room := { frames := 1, cells := 0, slots := 0, locals := 41 }
def rm_N_copyTo : Room := { frames := 2, cells := 0, slots := 0, locals := 62 }
def rm_E_isSound : Room := { frames := 1, cells := 0, slots := 0, locals := 24 }
def rm_E_readNumber : Room := { frames := 0, cells := 0, slots := 0, locals := 0 }
def rm_E_trace : Room := { frames := 1, cells := 0, slots := 0, locals := 24 }
def rm_E_kind : Room := { frames := 0, cells := 0, slots := 0, locals := 0 }
def rm_M_isAwaited : Room := { frames := 2, cells := 0, slots := 0, locals := 44 }
def rm_E_code : Room := { frames := 0, cells := 0, slots := 0, locals := 0 }
def rm_M_endPinCheck : Room := { frames := 2, cells := 0, slots := 0, locals := 45 }
def rm_O_stackOne : Room := { frames := 1, cells := 0, slots := 0, locals := 20 }
def rm_M_stackMix : Room := { frames := 2, cells := 0, slots := 0, locals := 41 }
def rm_O_emptyStackerInto_inTray : Room := { frames := 0, cells := 0, slots := 0, locals := 0 }
def rm_O_moveStackerToTray : Room := { frames := 1, cells := 0, slots := 0, locals := 22 }
def rm_M_payOut : Room := { frames := 3, cells := 0, slots := 0, locals := 79 }
def rm_M_receive : Room := { frames := 4, cells := 0, slots := 0, locals := 99 }
def rm_E_cardNumber : Room := { frames := 0, cells := 0, slots := 0, locals := 0 }
def rm_E_value : Room := { frames := 1, cells := 0, slots := 0, locals := 24 }
def rm_H_isUsable : Room := { frames := 2, cells := 0, slots := 0, locals := 46 }
def rm_H_tryPin : Room := { frames := 0, cells := 0, slots := 0, locals := 0 }
def rm_H_takeOff : Room := { frames := 2, cells := 0, slots := 0, locals := 45 }
def rm_H_giveBack : Room := { frames := 2, cells := 0, slots := 0, locals := 45 }
def rm_H_decide : Room := { frames := 3, cells := 0, slots := 0, locals := 69 }
def rm_H_receive : Room := { frames := 4, cells := 0, slots := 0, locals := 94 }
def rm_A_handOver : Room := { frames := 5, cells := 0, slots := 0, locals := 121 }
def rm_A_deliver : Room := { frames := 6, cells := 0, slots := 0, locals := 141 }
def rm_A_twice : Room := { frames := 6, cells := 0, slots := 0, locals := 141 }
def rm_A_lose : Room := { frames := 2, cells := 0, slots := 0, locals := 44 }
def rm_N_changeByte : Room := { frames := 1, cells := 0, slots := 0, locals := 25 }
def rm_A_poke : Room := { frames := 2, cells := 0, slots := 0, locals := 48 }
def rm_N_byteOf : Room := { frames := 1, cells := 0, slots := 0, locals := 25 }
def rm_A_letter : Room := { frames := 2, cells := 0, slots := 0, locals := 47 }
def rm_M_switchOff : Room := { frames := 0, cells := 0, slots := 0, locals := 0 }
def rm_A_cut : Room := { frames := 1, cells := 0, slots := 0, locals := 20 }
def rm_M_allowSteps : Room := { frames := 1, cells := 0, slots := 0, locals := 25 }
def rm_A_arm : Room := { frames := 2, cells := 0, slots := 0, locals := 46 }
def rm_J_tell : Room := { frames := 1, cells := 0, slots := 0, locals := 25 }
def rm_J_lastBegun : Room := { frames := 2, cells := 0, slots := 0, locals := 47 }
def rm_M_recallLastBegun : Room := { frames := 3, cells := 0, slots := 0, locals := 68 }
def rm_J_lastKind : Room := { frames := 2, cells := 0, slots := 0, locals := 47 }
def rm_M_switchOn : Room := { frames := 5, cells := 0, slots := 0, locals := 122 }
def rm_A_power : Room := { frames := 6, cells := 0, slots := 0, locals := 142 }
def rm_O_tell : Room := { frames := 1, cells := 0, slots := 0, locals := 20 }
def rm_A_cassette : Room := { frames := 2, cells := 0, slots := 0, locals := 42 }
def rm_O_mixedOf : Room := { frames := 3, cells := 0, slots := 0, locals := 79 }
def rm_A_mix : Room := { frames := 4, cells := 0, slots := 0, locals := 101 }
def rm_H_balanceOf : Room := { frames := 2, cells := 0, slots := 0, locals := 45 }
def rm_A_balance : Room := { frames := 3, cells := 0, slots := 0, locals := 66 }
def rm_H_triesOf : Room := { frames := 2, cells := 0, slots := 0, locals := 45 }
def rm_M_keptOf : Room := { frames := 2, cells := 0, slots := 0, locals := 45 }
def rm_H_accountOf : Room := { frames := 2, cells := 0, slots := 0, locals := 45 }
def rm_A_ofCard : Room := { frames := 3, cells := 0, slots := 0, locals := 66 }
def rm_A_record : Room := { frames := 2, cells := 0, slots := 0, locals := 47 }
def rm_A_count : Room := { frames := 0, cells := 0, slots := 0, locals := 0 }
def rm_R_account : Room := { frames := 0, cells := 0, slots := 0, locals := 0 }
def rm_R_card : Room := { frames := 0, cells := 0, slots := 0, locals := 0 }
def rm_R_load : Room := { frames := 0, cells := 0, slots := 0, locals := 0 }
def rm_R_insert : Room := { frames := 0, cells := 0, slots := 0, locals := 0 }
def rm_R_goOff : Room := { frames := 0, cells := 0, slots := 0, locals := 0 }
def rm_R_step : Room := { frames := 1, cells := 0, slots := 0, locals := 20 }
def rm_R_drop : Room := { frames := 0, cells := 0, slots := 0, locals := 0 }
def rm_R_check_line : Room := { frames := 0, cells := 0, slots := 0, locals := 0 }
def rm_R_send : Room := { frames := 1, cells := 0, slots := 0, locals := 25 }
def rm_R_sendStep : Room := { frames := 2, cells := 0, slots := 0, locals := 53 }
def rm_R_pin : Room := { frames := 3, cells := 0, slots := 0, locals := 75 }
def rm_R_findMix : Room := { frames := 0, cells := 0, slots := 0, locals := 0 }
def rm_R_record : Room := { frames := 2, cells := 0, slots := 0, locals := 40 }
def rm_R_ask : Room := { frames := 3, cells := 0, slots := 0, locals := 75 }
def rm_R_eject : Room := { frames := 0, cells := 0, slots := 0, locals := 0 }
def rm_R_take : Room := { frames := 0, cells := 0, slots := 0, locals := 0 }
def rm_R_hasStacked : Room := { frames := 0, cells := 0, slots := 0, locals := 0 }
def rm_R_reverse : Room := { frames := 3, cells := 0, slots := 0, locals := 75 }
def rm_R_timeout : Room := { frames := 4, cells := 0, slots := 0, locals := 97 }
def rm_R_isLetter : Room := { frames := 0, cells := 0, slots := 0, locals := 0 }
def rm_R_check_letter : Room := { frames := 0, cells := 0, slots := 0, locals := 0 }
def rm_R_numberAt : Room := { frames := 0, cells := 0, slots := 0, locals := 0 }
def rm_R_giveOut : Room := { frames := 3, cells := 0, slots := 0, locals := 62 }
def rm_R_machineTakes : Room := { frames := 4, cells := 0, slots := 0, locals := 84 }
def rm_R_onPin : Room := { frames := 0, cells := 0, slots := 0, locals := 0 }
def rm_R_onDebit : Room := { frames := 0, cells := 0, slots := 0, locals := 0 }
def rm_R_onReversal : Room := { frames := 0, cells := 0, slots := 0, locals := 0 }
def rm_R_hostTakes : Room := { frames := 2, cells := 0, slots := 0, locals := 53 }
def rm_R_come : Room := { frames := 5, cells := 0, slots := 0, locals := 106 }
def rm_R_deliver : Room := { frames := 6, cells := 0, slots := 0, locals := 131 }
def rm_R_twice : Room := { frames := 6, cells := 0, slots := 0, locals := 131 }
def rm_R_lose : Room := { frames := 1, cells := 0, slots := 0, locals := 22 }
def rm_R_poke : Room := { frames := 1, cells := 0, slots := 0, locals := 21 }
def rm_R_letter : Room := { frames := 1, cells := 0, slots := 0, locals := 21 }
def rm_R_cut : Room := { frames := 1, cells := 0, slots := 0, locals := 20 }
def rm_R_arm : Room := { frames := 0, cells := 0, slots := 0, locals := 0 }
def rm_R_power : Room := { frames := 4, cells := 0, slots := 0, locals := 97 }
def rm_R_cassette : Room := { frames := 0, cells := 0, slots := 0, locals := 0 }
def rm_R_mix : Room := { frames := 1, cells := 0, slots := 0, locals := 27 }
def rm_R_balance : Room := { frames := 0, cells := 0, slots := 0, locals := 0 }
def rm_R_ofCard : Room := { frames := 0, cells := 0, slots := 0, locals := 0 }
def rm_R_recordOf : Room := { frames := 0, cells := 0, slots := 0, locals := 0 }
def rm_R_count : Room := { frames := 0, cells := 0, slots := 0, locals := 0 }
end
section
theorem d_A_isWithin_0 : decode prog_1_method_26_code 0 = .ok (.lload_n 0, 1) := by decide +kernel
theorem d_A_isWithin_1 : decode prog_1_method_26_code 1 = .ok (.lload_n 2, 1) := by decide +kernel
theorem d_A_isWithin_2 : decode prog_1_method_26_code 2 = .ok (.lcmp, 1) := by decide +kernel
theorem d_A_isWithin_3 : decode prog_1_method_26_code 3 = .ok (.ifCond .lt 14, 3) := by decide +kernel
theorem d_A_isWithin_6 : decode prog_1_method_26_code 6 = .ok (.lload_n 0, 1) := by decide +kernel
theorem d_A_isWithin_7 : decode prog_1_method_26_code 7 = .ok (.lload 4, 2) := by decide +kernel
theorem d_A_isWithin_9 : decode prog_1_method_26_code 9 = .ok (.lcmp, 1) := by decide +kernel
theorem d_A_isWithin_10 : decode prog_1_method_26_code 10 = .ok (.ifCond .gt 7, 3) := by decide +kernel
theorem d_A_isWithin_13 : decode prog_1_method_26_code 13 = .ok (.iconst 1, 1) := by decide +kernel
theorem d_A_isWithin_14 : decode prog_1_method_26_code 14 = .ok (.goto 4, 3) := by decide +kernel
theorem d_A_isWithin_17 : decode prog_1_method_26_code 17 = .ok (.iconst 0, 1) := by decide +kernel
theorem d_A_isWithin_18 : decode prog_1_method_26_code 18 = .ok (.ireturn, 1) := by decide +kernel
theorem d_H_isAccount_0 : decode prog_2_method_13_code 0 = .ok (.iload_n 0, 1) := by decide +kernel
theorem d_H_isAccount_1 : decode prog_2_method_13_code 1 = .ok (.i2l, 1) := by decide +kernel
theorem d_H_isAccount_2 : decode prog_2_method_13_code 2 = .ok (.lconst 0, 1) := by decide +kernel
theorem d_H_isAccount_3 : decode prog_2_method_13_code 3 = .ok (.ldc2_w 125, 3) := by decide +kernel
theorem d_H_isAccount_6 : decode prog_2_method_13_code 6 = .ok (.invokestatic 53, 3) := by decide +kernel
theorem d_H_isAccount_9 : decode prog_2_method_13_code 9 = .ok (.ireturn, 1) := by decide +kernel
theorem d_H_setBalance_0 : decode prog_2_method_2_code 0 = .ok (.iload_n 1, 1) := by decide +kernel
theorem d_H_setBalance_1 : decode prog_2_method_2_code 1 = .ok (.invokestatic 47, 3) := by decide +kernel
theorem d_H_setBalance_4 : decode prog_2_method_2_code 4 = .ok (.ifCond .eq 14, 3) := by decide +kernel
theorem d_H_setBalance_7 : decode prog_2_method_2_code 7 = .ok (.lload_n 2, 1) := by decide +kernel
theorem d_H_setBalance_8 : decode prog_2_method_2_code 8 = .ok (.lconst 0, 1) := by decide +kernel
theorem d_H_setBalance_9 : decode prog_2_method_2_code 9 = .ok (.ldc2_w 51, 3) := by decide +kernel
theorem d_H_setBalance_12 : decode prog_2_method_2_code 12 = .ok (.invokestatic 53, 3) := by decide +kernel
theorem d_H_setBalance_15 : decode prog_2_method_2_code 15 = .ok (.ifCond .ne 5, 3) := by decide +kernel
theorem d_H_setBalance_18 : decode prog_2_method_2_code 18 = .ok (.iconst 0, 1) := by decide +kernel
theorem d_H_setBalance_19 : decode prog_2_method_2_code 19 = .ok (.ireturn, 1) := by decide +kernel
theorem d_H_setBalance_20 : decode prog_2_method_2_code 20 = .ok (.aload_n 0, 1) := by decide +kernel
theorem d_H_setBalance_21 : decode prog_2_method_2_code 21 = .ok (.getfield 9, 3) := by decide +kernel
theorem d_H_setBalance_24 : decode prog_2_method_2_code 24 = .ok (.iload_n 1, 1) := by decide +kernel
theorem d_H_setBalance_25 : decode prog_2_method_2_code 25 = .ok (.lload_n 2, 1) := by decide +kernel
theorem d_H_setBalance_26 : decode prog_2_method_2_code 26 = .ok (.lastore, 1) := by decide +kernel
theorem d_H_setBalance_27 : decode prog_2_method_2_code 27 = .ok (.iconst 1, 1) := by decide +kernel
theorem d_H_setBalance_28 : decode prog_2_method_2_code 28 = .ok (.ireturn, 1) := by decide +kernel
theorem d_A_account_0 : decode prog_1_method_2_code 0 = .ok (.aload_n 0, 1) := by decide +kernel
theorem d_A_account_1 : decode prog_1_method_2_code 1 = .ok (.getfield 21, 3) := by decide +kernel
theorem d_A_account_4 : decode prog_1_method_2_code 4 = .ok (.iload_n 1, 1) := by decide +kernel
theorem d_A_account_5 : decode prog_1_method_2_code 5 = .ok (.lload_n 2, 1) := by decide +kernel
theorem d_A_account_6 : decode prog_1_method_2_code 6 = .ok (.invokevirtual 39, 3) := by decide +kernel
theorem d_A_account_9 : decode prog_1_method_2_code 9 = .ok (.ireturn, 1) := by decide +kernel
theorem d_A_isCard_0 : decode prog_1_method_27_code 0 = .ok (.iload_n 0, 1) := by decide +kernel
theorem d_A_isCard_1 : decode prog_1_method_27_code 1 = .ok (.i2l, 1) := by decide +kernel
theorem d_A_isCard_2 : decode prog_1_method_27_code 2 = .ok (.lconst 0, 1) := by decide +kernel
theorem d_A_isCard_3 : decode prog_1_method_27_code 3 = .ok (.ldc2_w 181, 3) := by decide +kernel
theorem d_A_isCard_6 : decode prog_1_method_27_code 6 = .ok (.invokestatic 183, 3) := by decide +kernel
theorem d_A_isCard_9 : decode prog_1_method_27_code 9 = .ok (.ireturn, 1) := by decide +kernel
theorem d_A_isPin_0 : decode prog_1_method_28_code 0 = .ok (.lload_n 0, 1) := by decide +kernel
theorem d_A_isPin_1 : decode prog_1_method_28_code 1 = .ok (.lconst 0, 1) := by decide +kernel
theorem d_A_isPin_2 : decode prog_1_method_28_code 2 = .ok (.ldc2_w 187, 3) := by decide +kernel
theorem d_A_isPin_5 : decode prog_1_method_28_code 5 = .ok (.invokestatic 183, 3) := by decide +kernel
theorem d_A_isPin_8 : decode prog_1_method_28_code 8 = .ok (.ireturn, 1) := by decide +kernel
theorem d_H_tellCard_0 : decode prog_2_method_3_code 0 = .ok (.iload_n 1, 1) := by decide +kernel
theorem d_H_tellCard_1 : decode prog_2_method_3_code 1 = .ok (.invokestatic 57, 3) := by decide +kernel
theorem d_H_tellCard_4 : decode prog_2_method_3_code 4 = .ok (.ifCond .eq 18, 3) := by decide +kernel
theorem d_H_tellCard_7 : decode prog_2_method_3_code 7 = .ok (.iload_n 2, 1) := by decide +kernel
theorem d_H_tellCard_8 : decode prog_2_method_3_code 8 = .ok (.invokestatic 47, 3) := by decide +kernel
theorem d_H_tellCard_11 : decode prog_2_method_3_code 11 = .ok (.ifCond .eq 11, 3) := by decide +kernel
theorem d_H_tellCard_14 : decode prog_2_method_3_code 14 = .ok (.iload_n 3, 1) := by decide +kernel
theorem d_H_tellCard_15 : decode prog_2_method_3_code 15 = .ok (.i2l, 1) := by decide +kernel
theorem d_H_tellCard_16 : decode prog_2_method_3_code 16 = .ok (.invokestatic 60, 3) := by decide +kernel
theorem d_H_tellCard_19 : decode prog_2_method_3_code 19 = .ok (.ifCond .ne 5, 3) := by decide +kernel
theorem d_H_tellCard_22 : decode prog_2_method_3_code 22 = .ok (.iconst 0, 1) := by decide +kernel
theorem d_H_tellCard_23 : decode prog_2_method_3_code 23 = .ok (.ireturn, 1) := by decide +kernel
theorem d_H_tellCard_24 : decode prog_2_method_3_code 24 = .ok (.aload_n 0, 1) := by decide +kernel
theorem d_H_tellCard_25 : decode prog_2_method_3_code 25 = .ok (.getfield 15, 3) := by decide +kernel
theorem d_H_tellCard_28 : decode prog_2_method_3_code 28 = .ok (.iload_n 1, 1) := by decide +kernel
theorem d_H_tellCard_29 : decode prog_2_method_3_code 29 = .ok (.iload_n 2, 1) := by decide +kernel
theorem d_H_tellCard_30 : decode prog_2_method_3_code 30 = .ok (.iastore, 1) := by decide +kernel
theorem d_H_tellCard_31 : decode prog_2_method_3_code 31 = .ok (.aload_n 0, 1) := by decide +kernel
theorem d_H_tellCard_32 : decode prog_2_method_3_code 32 = .ok (.getfield 19, 3) := by decide +kernel
theorem d_H_tellCard_35 : decode prog_2_method_3_code 35 = .ok (.iload_n 1, 1) := by decide +kernel
theorem d_H_tellCard_36 : decode prog_2_method_3_code 36 = .ok (.iload_n 3, 1) := by decide +kernel
theorem d_H_tellCard_37 : decode prog_2_method_3_code 37 = .ok (.iastore, 1) := by decide +kernel
theorem d_H_tellCard_38 : decode prog_2_method_3_code 38 = .ok (.aload_n 0, 1) := by decide +kernel
theorem d_H_tellCard_39 : decode prog_2_method_3_code 39 = .ok (.getfield 22, 3) := by decide +kernel
theorem d_H_tellCard_42 : decode prog_2_method_3_code 42 = .ok (.iload_n 1, 1) := by decide +kernel
theorem d_H_tellCard_43 : decode prog_2_method_3_code 43 = .ok (.iconst 0, 1) := by decide +kernel
theorem d_H_tellCard_44 : decode prog_2_method_3_code 44 = .ok (.iastore, 1) := by decide +kernel
theorem d_H_tellCard_45 : decode prog_2_method_3_code 45 = .ok (.iconst 1, 1) := by decide +kernel
theorem d_H_tellCard_46 : decode prog_2_method_3_code 46 = .ok (.ireturn, 1) := by decide +kernel
theorem d_A_card_0 : decode prog_1_method_3_code 0 = .ok (.aload_n 0, 1) := by decide +kernel
theorem d_A_card_1 : decode prog_1_method_3_code 1 = .ok (.getfield 21, 3) := by decide +kernel
theorem d_A_card_4 : decode prog_1_method_3_code 4 = .ok (.iload_n 1, 1) := by decide +kernel
theorem d_A_card_5 : decode prog_1_method_3_code 5 = .ok (.iload_n 2, 1) := by decide +kernel
theorem d_A_card_6 : decode prog_1_method_3_code 6 = .ok (.iload_n 3, 1) := by decide +kernel
theorem d_A_card_7 : decode prog_1_method_3_code 7 = .ok (.invokevirtual 43, 3) := by decide +kernel
theorem d_A_card_10 : decode prog_1_method_3_code 10 = .ok (.ireturn, 1) := by decide +kernel
theorem d_O_isCassette_0 : decode prog_7_method_15_code 0 = .ok (.iload_n 0, 1) := by decide +kernel
theorem d_O_isCassette_1 : decode prog_7_method_15_code 1 = .ok (.ifCond .lt 12, 3) := by decide +kernel
theorem d_O_isCassette_4 : decode prog_7_method_15_code 4 = .ok (.iload_n 0, 1) := by decide +kernel
theorem d_O_isCassette_5 : decode prog_7_method_15_code 5 = .ok (.iconst 4, 1) := by decide +kernel
theorem d_O_isCassette_6 : decode prog_7_method_15_code 6 = .ok (.if_icmp .ge 7, 3) := by decide +kernel
theorem d_O_isCassette_9 : decode prog_7_method_15_code 9 = .ok (.iconst 1, 1) := by decide +kernel
theorem d_O_isCassette_10 : decode prog_7_method_15_code 10 = .ok (.goto 4, 3) := by decide +kernel
theorem d_O_isCassette_13 : decode prog_7_method_15_code 13 = .ok (.iconst 0, 1) := by decide +kernel
theorem d_O_isCassette_14 : decode prog_7_method_15_code 14 = .ok (.ireturn, 1) := by decide +kernel
theorem d_O_fill_0 : decode prog_7_method_2_code 0 = .ok (.iload_n 1, 1) := by decide +kernel
theorem d_O_fill_1 : decode prog_7_method_2_code 1 = .ok (.invokestatic 38, 3) := by decide +kernel
theorem d_O_fill_4 : decode prog_7_method_2_code 4 = .ok (.ifCond .eq 27, 3) := by decide +kernel
theorem d_O_fill_7 : decode prog_7_method_2_code 7 = .ok (.iload_n 2, 1) := by decide +kernel
theorem d_O_fill_8 : decode prog_7_method_2_code 8 = .ok (.i2l, 1) := by decide +kernel
theorem d_O_fill_9 : decode prog_7_method_2_code 9 = .ok (.lconst 1, 1) := by decide +kernel
theorem d_O_fill_10 : decode prog_7_method_2_code 10 = .ok (.ldc2_w 42, 3) := by decide +kernel
theorem d_O_fill_13 : decode prog_7_method_2_code 13 = .ok (.invokestatic 44, 3) := by decide +kernel
theorem d_O_fill_16 : decode prog_7_method_2_code 16 = .ok (.ifCond .eq 15, 3) := by decide +kernel
theorem d_O_fill_19 : decode prog_7_method_2_code 19 = .ok (.iload_n 3, 1) := by decide +kernel
theorem d_O_fill_20 : decode prog_7_method_2_code 20 = .ok (.i2l, 1) := by decide +kernel
theorem d_O_fill_21 : decode prog_7_method_2_code 21 = .ok (.lconst 0, 1) := by decide +kernel
theorem d_O_fill_22 : decode prog_7_method_2_code 22 = .ok (.ldc2_w 48, 3) := by decide +kernel
theorem d_O_fill_25 : decode prog_7_method_2_code 25 = .ok (.invokestatic 44, 3) := by decide +kernel
theorem d_O_fill_28 : decode prog_7_method_2_code 28 = .ok (.ifCond .ne 5, 3) := by decide +kernel
theorem d_O_fill_31 : decode prog_7_method_2_code 31 = .ok (.iconst 0, 1) := by decide +kernel
theorem d_O_fill_32 : decode prog_7_method_2_code 32 = .ok (.ireturn, 1) := by decide +kernel
theorem d_O_fill_33 : decode prog_7_method_2_code 33 = .ok (.aload_n 0, 1) := by decide +kernel
theorem d_O_fill_34 : decode prog_7_method_2_code 34 = .ok (.getfield 18, 3) := by decide +kernel
theorem d_O_fill_37 : decode prog_7_method_2_code 37 = .ok (.iload_n 1, 1) := by decide +kernel
theorem d_O_fill_38 : decode prog_7_method_2_code 38 = .ok (.iload_n 2, 1) := by decide +kernel
theorem d_O_fill_39 : decode prog_7_method_2_code 39 = .ok (.iastore, 1) := by decide +kernel
theorem d_O_fill_40 : decode prog_7_method_2_code 40 = .ok (.aload_n 0, 1) := by decide +kernel
theorem d_O_fill_41 : decode prog_7_method_2_code 41 = .ok (.getfield 23, 3) := by decide +kernel
theorem d_O_fill_44 : decode prog_7_method_2_code 44 = .ok (.iload_n 1, 1) := by decide +kernel
theorem d_O_fill_45 : decode prog_7_method_2_code 45 = .ok (.iload_n 3, 1) := by decide +kernel
theorem d_O_fill_46 : decode prog_7_method_2_code 46 = .ok (.iastore, 1) := by decide +kernel
theorem d_O_fill_47 : decode prog_7_method_2_code 47 = .ok (.iconst 1, 1) := by decide +kernel
theorem d_O_fill_48 : decode prog_7_method_2_code 48 = .ok (.ireturn, 1) := by decide +kernel
theorem d_M_fillCassette_0 : decode prog_6_method_2_code 0 = .ok (.aload_n 0, 1) := by decide +kernel
theorem d_M_fillCassette_1 : decode prog_6_method_2_code 1 = .ok (.getfield 29, 3) := by decide +kernel
theorem d_M_fillCassette_4 : decode prog_6_method_2_code 4 = .ok (.ifCond .eq 28, 3) := by decide +kernel
theorem d_M_fillCassette_7 : decode prog_6_method_2_code 7 = .ok (.aload_n 0, 1) := by decide +kernel
theorem d_M_fillCassette_8 : decode prog_6_method_2_code 8 = .ok (.getfield 37, 3) := by decide +kernel
theorem d_M_fillCassette_11 : decode prog_6_method_2_code 11 = .ok (.iconst 4, 1) := by decide +kernel
theorem d_M_fillCassette_12 : decode prog_6_method_2_code 12 = .ok (.if_icmp .eq 20, 3) := by decide +kernel
theorem d_M_fillCassette_15 : decode prog_6_method_2_code 15 = .ok (.aload_n 0, 1) := by decide +kernel
theorem d_M_fillCassette_16 : decode prog_6_method_2_code 16 = .ok (.getfield 12, 3) := by decide +kernel
theorem d_M_fillCassette_19 : decode prog_6_method_2_code 19 = .ok (.iload_n 1, 1) := by decide +kernel
theorem d_M_fillCassette_20 : decode prog_6_method_2_code 20 = .ok (.iload_n 2, 1) := by decide +kernel
theorem d_M_fillCassette_21 : decode prog_6_method_2_code 21 = .ok (.iload_n 3, 1) := by decide +kernel
theorem d_M_fillCassette_22 : decode prog_6_method_2_code 22 = .ok (.invokevirtual 53, 3) := by decide +kernel
theorem d_M_fillCassette_25 : decode prog_6_method_2_code 25 = .ok (.ifCond .eq 7, 3) := by decide +kernel
theorem d_M_fillCassette_28 : decode prog_6_method_2_code 28 = .ok (.iconst 1, 1) := by decide +kernel
theorem d_M_fillCassette_29 : decode prog_6_method_2_code 29 = .ok (.goto 4, 3) := by decide +kernel
theorem d_M_fillCassette_32 : decode prog_6_method_2_code 32 = .ok (.iconst 0, 1) := by decide +kernel
theorem d_M_fillCassette_33 : decode prog_6_method_2_code 33 = .ok (.ireturn, 1) := by decide +kernel
theorem d_A_load_0 : decode prog_1_method_4_code 0 = .ok (.aload_n 0, 1) := by decide +kernel
theorem d_A_load_1 : decode prog_1_method_4_code 1 = .ok (.getfield 28, 3) := by decide +kernel
theorem d_A_load_4 : decode prog_1_method_4_code 4 = .ok (.iload_n 1, 1) := by decide +kernel
theorem d_A_load_5 : decode prog_1_method_4_code 5 = .ok (.iload_n 2, 1) := by decide +kernel
theorem d_A_load_6 : decode prog_1_method_4_code 6 = .ok (.iload_n 3, 1) := by decide +kernel
theorem d_A_load_7 : decode prog_1_method_4_code 7 = .ok (.invokevirtual 47, 3) := by decide +kernel
theorem d_A_load_10 : decode prog_1_method_4_code 10 = .ok (.ireturn, 1) := by decide +kernel
theorem d_M_putCardIn_0 : decode prog_6_method_3_code 0 = .ok (.aload_n 0, 1) := by decide +kernel
theorem d_M_putCardIn_1 : decode prog_6_method_3_code 1 = .ok (.getfield 29, 3) := by decide +kernel
theorem d_M_putCardIn_4 : decode prog_6_method_3_code 4 = .ok (.ifCond .eq 26, 3) := by decide +kernel
theorem d_M_putCardIn_7 : decode prog_6_method_3_code 7 = .ok (.aload_n 0, 1) := by decide +kernel
theorem d_M_putCardIn_8 : decode prog_6_method_3_code 8 = .ok (.getfield 37, 3) := by decide +kernel
theorem d_M_putCardIn_11 : decode prog_6_method_3_code 11 = .ok (.ifCond .ne 19, 3) := by decide +kernel
theorem d_M_putCardIn_14 : decode prog_6_method_3_code 14 = .ok (.iload_n 1, 1) := by decide +kernel
theorem d_M_putCardIn_15 : decode prog_6_method_3_code 15 = .ok (.invokestatic 57, 3) := by decide +kernel
theorem d_M_putCardIn_18 : decode prog_6_method_3_code 18 = .ok (.ifCond .eq 12, 3) := by decide +kernel
theorem d_M_putCardIn_21 : decode prog_6_method_3_code 21 = .ok (.aload_n 0, 1) := by decide +kernel
theorem d_M_putCardIn_22 : decode prog_6_method_3_code 22 = .ok (.getfield 25, 3) := by decide +kernel
theorem d_M_putCardIn_25 : decode prog_6_method_3_code 25 = .ok (.iload_n 1, 1) := by decide +kernel
theorem d_M_putCardIn_26 : decode prog_6_method_3_code 26 = .ok (.baload, 1) := by decide +kernel
theorem d_M_putCardIn_27 : decode prog_6_method_3_code 27 = .ok (.ifCond .eq 5, 3) := by decide +kernel
theorem d_M_putCardIn_30 : decode prog_6_method_3_code 30 = .ok (.iconst 0, 1) := by decide +kernel
theorem d_M_putCardIn_31 : decode prog_6_method_3_code 31 = .ok (.ireturn, 1) := by decide +kernel
theorem d_M_putCardIn_32 : decode prog_6_method_3_code 32 = .ok (.aload_n 0, 1) := by decide +kernel
theorem d_M_putCardIn_33 : decode prog_6_method_3_code 33 = .ok (.iload_n 1, 1) := by decide +kernel
theorem d_M_putCardIn_34 : decode prog_6_method_3_code 34 = .ok (.putfield 40, 3) := by decide +kernel
theorem d_M_putCardIn_37 : decode prog_6_method_3_code 37 = .ok (.aload_n 0, 1) := by decide +kernel
theorem d_M_putCardIn_38 : decode prog_6_method_3_code 38 = .ok (.iconst 1, 1) := by decide +kernel
theorem d_M_putCardIn_39 : decode prog_6_method_3_code 39 = .ok (.putfield 37, 3) := by decide +kernel
theorem d_M_putCardIn_42 : decode prog_6_method_3_code 42 = .ok (.iconst 1, 1) := by decide +kernel
theorem d_M_putCardIn_43 : decode prog_6_method_3_code 43 = .ok (.ireturn, 1) := by decide +kernel
theorem d_A_insert_0 : decode prog_1_method_5_code 0 = .ok (.aload_n 0, 1) := by decide +kernel
theorem d_A_insert_1 : decode prog_1_method_5_code 1 = .ok (.getfield 28, 3) := by decide +kernel
theorem d_A_insert_4 : decode prog_1_method_5_code 4 = .ok (.iload_n 1, 1) := by decide +kernel
theorem d_A_insert_5 : decode prog_1_method_5_code 5 = .ok (.invokevirtual 50, 3) := by decide +kernel
theorem d_A_insert_8 : decode prog_1_method_5_code 8 = .ok (.ireturn, 1) := by decide +kernel
theorem d_M_takeTrace_0 : decode prog_6_method_20_code 0 = .ok (.aload_n 0, 1) := by decide +kernel
theorem d_M_takeTrace_1 : decode prog_6_method_20_code 1 = .ok (.aload_n 0, 1) := by decide +kernel
theorem d_M_takeTrace_2 : decode prog_6_method_20_code 2 = .ok (.getfield 43, 3) := by decide +kernel
theorem d_M_takeTrace_5 : decode prog_6_method_20_code 5 = .ok (.putfield 128, 3) := by decide +kernel
theorem d_M_takeTrace_8 : decode prog_6_method_20_code 8 = .ok (.aload_n 0, 1) := by decide +kernel
theorem d_M_takeTrace_9 : decode prog_6_method_20_code 9 = .ok (.aload_n 0, 1) := by decide +kernel
theorem d_M_takeTrace_10 : decode prog_6_method_20_code 10 = .ok (.getfield 40, 3) := by decide +kernel
theorem d_M_takeTrace_13 : decode prog_6_method_20_code 13 = .ok (.putfield 46, 3) := by decide +kernel
theorem d_M_takeTrace_16 : decode prog_6_method_20_code 16 = .ok (.aload_n 0, 1) := by decide +kernel
theorem d_M_takeTrace_17 : decode prog_6_method_20_code 17 = .ok (.dup, 1) := by decide +kernel
theorem d_M_takeTrace_18 : decode prog_6_method_20_code 18 = .ok (.getfield 43, 3) := by decide +kernel
theorem d_M_takeTrace_21 : decode prog_6_method_20_code 21 = .ok (.iconst 1, 1) := by decide +kernel
theorem d_M_takeTrace_22 : decode prog_6_method_20_code 22 = .ok (.iadd, 1) := by decide +kernel
theorem d_M_takeTrace_23 : decode prog_6_method_20_code 23 = .ok (.putfield 43, 3) := by decide +kernel
theorem d_M_takeTrace_26 : decode prog_6_method_20_code 26 = .ok (.return_, 1) := by decide +kernel
theorem d_M_mayStep_0 : decode prog_6_method_21_code 0 = .ok (.aload_n 0, 1) := by decide +kernel
theorem d_M_mayStep_1 : decode prog_6_method_21_code 1 = .ok (.getfield 33, 3) := by decide +kernel
theorem d_M_mayStep_4 : decode prog_6_method_21_code 4 = .ok (.ifCond .ne 11, 3) := by decide +kernel
theorem d_M_mayStep_7 : decode prog_6_method_21_code 7 = .ok (.aload_n 0, 1) := by decide +kernel
theorem d_M_mayStep_8 : decode prog_6_method_21_code 8 = .ok (.iconst 0, 1) := by decide +kernel
theorem d_M_mayStep_9 : decode prog_6_method_21_code 9 = .ok (.putfield 29, 3) := by decide +kernel
theorem d_M_mayStep_12 : decode prog_6_method_21_code 12 = .ok (.goto 20, 3) := by decide +kernel
theorem d_M_mayStep_15 : decode prog_6_method_21_code 15 = .ok (.aload_n 0, 1) := by decide +kernel
theorem d_M_mayStep_16 : decode prog_6_method_21_code 16 = .ok (.getfield 33, 3) := by decide +kernel
theorem d_M_mayStep_19 : decode prog_6_method_21_code 19 = .ok (.ifCond .le 13, 3) := by decide +kernel
theorem d_M_mayStep_22 : decode prog_6_method_21_code 22 = .ok (.aload_n 0, 1) := by decide +kernel
theorem d_M_mayStep_23 : decode prog_6_method_21_code 23 = .ok (.dup, 1) := by decide +kernel
theorem d_M_mayStep_24 : decode prog_6_method_21_code 24 = .ok (.getfield 33, 3) := by decide +kernel
theorem d_M_mayStep_27 : decode prog_6_method_21_code 27 = .ok (.iconst 1, 1) := by decide +kernel
theorem d_M_mayStep_28 : decode prog_6_method_21_code 28 = .ok (.isub, 1) := by decide +kernel
theorem d_M_mayStep_29 : decode prog_6_method_21_code 29 = .ok (.putfield 33, 3) := by decide +kernel
theorem d_M_mayStep_32 : decode prog_6_method_21_code 32 = .ok (.aload_n 0, 1) := by decide +kernel
theorem d_M_mayStep_33 : decode prog_6_method_21_code 33 = .ok (.getfield 29, 3) := by decide +kernel
theorem d_M_mayStep_36 : decode prog_6_method_21_code 36 = .ok (.ireturn, 1) := by decide +kernel
theorem d_E_writeNumber_0 : decode prog_4_method_11_code 0 = .ok (.iconst 0, 1) := by decide +kernel
theorem d_E_writeNumber_1 : decode prog_4_method_11_code 1 = .ok (.istore 4, 2) := by decide +kernel
theorem d_E_writeNumber_3 : decode prog_4_method_11_code 3 = .ok (.iload 4, 2) := by decide +kernel
theorem d_E_writeNumber_5 : decode prog_4_method_11_code 5 = .ok (.iconst 4, 1) := by decide +kernel
theorem d_E_writeNumber_6 : decode prog_4_method_11_code 6 = .ok (.if_icmp .ge 42, 3) := by decide +kernel
theorem d_E_writeNumber_9 : decode prog_4_method_11_code 9 = .ok (.iload_n 1, 1) := by decide +kernel
theorem d_E_writeNumber_10 : decode prog_4_method_11_code 10 = .ok (.iload 4, 2) := by decide +kernel
theorem d_E_writeNumber_12 : decode prog_4_method_11_code 12 = .ok (.iadd, 1) := by decide +kernel
theorem d_E_writeNumber_13 : decode prog_4_method_11_code 13 = .ok (.bipush 13, 2) := by decide +kernel
theorem d_E_writeNumber_15 : decode prog_4_method_11_code 15 = .ok (.if_icmp .ge 33, 3) := by decide +kernel
theorem d_E_writeNumber_18 : decode prog_4_method_11_code 18 = .ok (.aload_n 0, 1) := by decide +kernel
theorem d_E_writeNumber_19 : decode prog_4_method_11_code 19 = .ok (.getfield 9, 3) := by decide +kernel
theorem d_E_writeNumber_22 : decode prog_4_method_11_code 22 = .ok (.iload_n 1, 1) := by decide +kernel
theorem d_E_writeNumber_23 : decode prog_4_method_11_code 23 = .ok (.iload 4, 2) := by decide +kernel
theorem d_E_writeNumber_25 : decode prog_4_method_11_code 25 = .ok (.iadd, 1) := by decide +kernel
theorem d_E_writeNumber_26 : decode prog_4_method_11_code 26 = .ok (.lload_n 2, 1) := by decide +kernel
theorem d_E_writeNumber_27 : decode prog_4_method_11_code 27 = .ok (.bipush 24, 2) := by decide +kernel
theorem d_E_writeNumber_29 : decode prog_4_method_11_code 29 = .ok (.bipush 8, 2) := by decide +kernel
theorem d_E_writeNumber_31 : decode prog_4_method_11_code 31 = .ok (.iload 4, 2) := by decide +kernel
theorem d_E_writeNumber_33 : decode prog_4_method_11_code 33 = .ok (.imul, 1) := by decide +kernel
theorem d_E_writeNumber_34 : decode prog_4_method_11_code 34 = .ok (.isub, 1) := by decide +kernel
theorem d_E_writeNumber_35 : decode prog_4_method_11_code 35 = .ok (.lshr, 1) := by decide +kernel
theorem d_E_writeNumber_36 : decode prog_4_method_11_code 36 = .ok (.l2i, 1) := by decide +kernel
theorem d_E_writeNumber_37 : decode prog_4_method_11_code 37 = .ok (.sipush 255, 3) := by decide +kernel
theorem d_E_writeNumber_40 : decode prog_4_method_11_code 40 = .ok (.iand, 1) := by decide +kernel
theorem d_E_writeNumber_41 : decode prog_4_method_11_code 41 = .ok (.iastore, 1) := by decide +kernel
theorem d_E_writeNumber_42 : decode prog_4_method_11_code 42 = .ok (.iinc 4 1, 3) := by decide +kernel
theorem d_E_writeNumber_45 : decode prog_4_method_11_code 45 = .ok (.goto (-42), 3) := by decide +kernel
theorem d_E_writeNumber_48 : decode prog_4_method_11_code 48 = .ok (.return_, 1) := by decide +kernel
theorem d_E_reckonCheck_0 : decode prog_4_method_10_code 0 = .ok (.ldc 37, 2) := by decide +kernel
theorem d_E_reckonCheck_2 : decode prog_4_method_10_code 2 = .ok (.istore_n 1, 1) := by decide +kernel
theorem d_E_reckonCheck_3 : decode prog_4_method_10_code 3 = .ok (.iconst 0, 1) := by decide +kernel
theorem d_E_reckonCheck_4 : decode prog_4_method_10_code 4 = .ok (.istore_n 2, 1) := by decide +kernel
theorem d_E_reckonCheck_5 : decode prog_4_method_10_code 5 = .ok (.iload_n 2, 1) := by decide +kernel
theorem d_E_reckonCheck_6 : decode prog_4_method_10_code 6 = .ok (.bipush 11, 2) := by decide +kernel
theorem d_E_reckonCheck_8 : decode prog_4_method_10_code 8 = .ok (.if_icmp .ge 67, 3) := by decide +kernel
theorem d_E_reckonCheck_11 : decode prog_4_method_10_code 11 = .ok (.iload_n 1, 1) := by decide +kernel
theorem d_E_reckonCheck_12 : decode prog_4_method_10_code 12 = .ok (.aload_n 0, 1) := by decide +kernel
theorem d_E_reckonCheck_13 : decode prog_4_method_10_code 13 = .ok (.getfield 9, 3) := by decide +kernel
theorem d_E_reckonCheck_16 : decode prog_4_method_10_code 16 = .ok (.iload_n 2, 1) := by decide +kernel
theorem d_E_reckonCheck_17 : decode prog_4_method_10_code 17 = .ok (.iaload, 1) := by decide +kernel
theorem d_E_reckonCheck_18 : decode prog_4_method_10_code 18 = .ok (.bipush 8, 2) := by decide +kernel
theorem d_E_reckonCheck_20 : decode prog_4_method_10_code 20 = .ok (.ishl, 1) := by decide +kernel
theorem d_E_reckonCheck_21 : decode prog_4_method_10_code 21 = .ok (.ixor, 1) := by decide +kernel
theorem d_E_reckonCheck_22 : decode prog_4_method_10_code 22 = .ok (.istore_n 1, 1) := by decide +kernel
theorem d_E_reckonCheck_23 : decode prog_4_method_10_code 23 = .ok (.iconst 0, 1) := by decide +kernel
theorem d_E_reckonCheck_24 : decode prog_4_method_10_code 24 = .ok (.istore_n 3, 1) := by decide +kernel
theorem d_E_reckonCheck_25 : decode prog_4_method_10_code 25 = .ok (.iload_n 3, 1) := by decide +kernel
theorem d_E_reckonCheck_26 : decode prog_4_method_10_code 26 = .ok (.bipush 8, 2) := by decide +kernel
theorem d_E_reckonCheck_28 : decode prog_4_method_10_code 28 = .ok (.if_icmp .ge 41, 3) := by decide +kernel
theorem d_E_reckonCheck_31 : decode prog_4_method_10_code 31 = .ok (.iload_n 1, 1) := by decide +kernel
theorem d_E_reckonCheck_32 : decode prog_4_method_10_code 32 = .ok (.sipush 32767, 3) := by decide +kernel
theorem d_E_reckonCheck_35 : decode prog_4_method_10_code 35 = .ok (.if_icmp .le 7, 3) := by decide +kernel
theorem d_E_reckonCheck_38 : decode prog_4_method_10_code 38 = .ok (.iconst 1, 1) := by decide +kernel
theorem d_E_reckonCheck_39 : decode prog_4_method_10_code 39 = .ok (.goto 4, 3) := by decide +kernel
theorem d_E_reckonCheck_42 : decode prog_4_method_10_code 42 = .ok (.iconst 0, 1) := by decide +kernel
theorem d_E_reckonCheck_43 : decode prog_4_method_10_code 43 = .ok (.istore 4, 2) := by decide +kernel
theorem d_E_reckonCheck_45 : decode prog_4_method_10_code 45 = .ok (.iload_n 1, 1) := by decide +kernel
theorem d_E_reckonCheck_46 : decode prog_4_method_10_code 46 = .ok (.iconst 1, 1) := by decide +kernel
theorem d_E_reckonCheck_47 : decode prog_4_method_10_code 47 = .ok (.ishl, 1) := by decide +kernel
theorem d_E_reckonCheck_48 : decode prog_4_method_10_code 48 = .ok (.ldc 37, 2) := by decide +kernel
theorem d_E_reckonCheck_50 : decode prog_4_method_10_code 50 = .ok (.iand, 1) := by decide +kernel
theorem d_E_reckonCheck_51 : decode prog_4_method_10_code 51 = .ok (.istore_n 1, 1) := by decide +kernel
theorem d_E_reckonCheck_52 : decode prog_4_method_10_code 52 = .ok (.iload 4, 2) := by decide +kernel
theorem d_E_reckonCheck_54 : decode prog_4_method_10_code 54 = .ok (.ifCond .eq 9, 3) := by decide +kernel
theorem d_E_reckonCheck_57 : decode prog_4_method_10_code 57 = .ok (.iload_n 1, 1) := by decide +kernel
theorem d_E_reckonCheck_58 : decode prog_4_method_10_code 58 = .ok (.sipush 4129, 3) := by decide +kernel
theorem d_E_reckonCheck_61 : decode prog_4_method_10_code 61 = .ok (.ixor, 1) := by decide +kernel
theorem d_E_reckonCheck_62 : decode prog_4_method_10_code 62 = .ok (.istore_n 1, 1) := by decide +kernel
theorem d_E_reckonCheck_63 : decode prog_4_method_10_code 63 = .ok (.iinc 3 1, 3) := by decide +kernel
theorem d_E_reckonCheck_66 : decode prog_4_method_10_code 66 = .ok (.goto (-41), 3) := by decide +kernel
theorem d_E_reckonCheck_69 : decode prog_4_method_10_code 69 = .ok (.iinc 2 1, 3) := by decide +kernel
theorem d_E_reckonCheck_72 : decode prog_4_method_10_code 72 = .ok (.goto (-67), 3) := by decide +kernel
theorem d_E_reckonCheck_75 : decode prog_4_method_10_code 75 = .ok (.iload_n 1, 1) := by decide +kernel
theorem d_E_reckonCheck_76 : decode prog_4_method_10_code 76 = .ok (.ireturn, 1) := by decide +kernel
theorem d_E_write_0 : decode prog_4_method_2_code 0 = .ok (.aload_n 0, 1) := by decide +kernel
theorem d_E_write_1 : decode prog_4_method_2_code 1 = .ok (.getfield 9, 3) := by decide +kernel
theorem d_E_write_4 : decode prog_4_method_2_code 4 = .ok (.iconst 0, 1) := by decide +kernel
theorem d_E_write_5 : decode prog_4_method_2_code 5 = .ok (.iload_n 1, 1) := by decide +kernel
theorem d_E_write_6 : decode prog_4_method_2_code 6 = .ok (.iastore, 1) := by decide +kernel
theorem d_E_write_7 : decode prog_4_method_2_code 7 = .ok (.aload_n 0, 1) := by decide +kernel
theorem d_E_write_8 : decode prog_4_method_2_code 8 = .ok (.iconst 1, 1) := by decide +kernel
theorem d_E_write_9 : decode prog_4_method_2_code 9 = .ok (.iload_n 2, 1) := by decide +kernel
theorem d_E_write_10 : decode prog_4_method_2_code 10 = .ok (.i2l, 1) := by decide +kernel
theorem d_E_write_11 : decode prog_4_method_2_code 11 = .ok (.invokevirtual 15, 3) := by decide +kernel
theorem d_E_write_14 : decode prog_4_method_2_code 14 = .ok (.aload_n 0, 1) := by decide +kernel
theorem d_E_write_15 : decode prog_4_method_2_code 15 = .ok (.getfield 9, 3) := by decide +kernel
theorem d_E_write_18 : decode prog_4_method_2_code 18 = .ok (.iconst 5, 1) := by decide +kernel
theorem d_E_write_19 : decode prog_4_method_2_code 19 = .ok (.iload_n 3, 1) := by decide +kernel
theorem d_E_write_20 : decode prog_4_method_2_code 20 = .ok (.iastore, 1) := by decide +kernel
theorem d_E_write_21 : decode prog_4_method_2_code 21 = .ok (.aload_n 0, 1) := by decide +kernel
theorem d_E_write_22 : decode prog_4_method_2_code 22 = .ok (.bipush 6, 2) := by decide +kernel
theorem d_E_write_24 : decode prog_4_method_2_code 24 = .ok (.lload 4, 2) := by decide +kernel
theorem d_E_write_26 : decode prog_4_method_2_code 26 = .ok (.invokevirtual 15, 3) := by decide +kernel
theorem d_E_write_29 : decode prog_4_method_2_code 29 = .ok (.aload_n 0, 1) := by decide +kernel
theorem d_E_write_30 : decode prog_4_method_2_code 30 = .ok (.getfield 9, 3) := by decide +kernel
theorem d_E_write_33 : decode prog_4_method_2_code 33 = .ok (.bipush 10, 2) := by decide +kernel
theorem d_E_write_35 : decode prog_4_method_2_code 35 = .ok (.iload 6, 2) := by decide +kernel
theorem d_E_write_37 : decode prog_4_method_2_code 37 = .ok (.iastore, 1) := by decide +kernel
theorem d_E_write_38 : decode prog_4_method_2_code 38 = .ok (.aload_n 0, 1) := by decide +kernel
theorem d_E_write_39 : decode prog_4_method_2_code 39 = .ok (.invokevirtual 19, 3) := by decide +kernel
theorem d_E_write_42 : decode prog_4_method_2_code 42 = .ok (.istore 7, 2) := by decide +kernel
theorem d_E_write_44 : decode prog_4_method_2_code 44 = .ok (.aload_n 0, 1) := by decide +kernel
theorem d_E_write_45 : decode prog_4_method_2_code 45 = .ok (.getfield 9, 3) := by decide +kernel
theorem d_E_write_48 : decode prog_4_method_2_code 48 = .ok (.bipush 11, 2) := by decide +kernel
theorem d_E_write_50 : decode prog_4_method_2_code 50 = .ok (.iload 7, 2) := by decide +kernel
theorem d_E_write_52 : decode prog_4_method_2_code 52 = .ok (.bipush 8, 2) := by decide +kernel
theorem d_E_write_54 : decode prog_4_method_2_code 54 = .ok (.ishr, 1) := by decide +kernel
theorem d_E_write_55 : decode prog_4_method_2_code 55 = .ok (.iastore, 1) := by decide +kernel
theorem d_E_write_56 : decode prog_4_method_2_code 56 = .ok (.aload_n 0, 1) := by decide +kernel
theorem d_E_write_57 : decode prog_4_method_2_code 57 = .ok (.getfield 9, 3) := by decide +kernel
theorem d_E_write_60 : decode prog_4_method_2_code 60 = .ok (.bipush 12, 2) := by decide +kernel
theorem d_E_write_62 : decode prog_4_method_2_code 62 = .ok (.iload 7, 2) := by decide +kernel
theorem d_E_write_64 : decode prog_4_method_2_code 64 = .ok (.sipush 255, 3) := by decide +kernel
theorem d_E_write_67 : decode prog_4_method_2_code 67 = .ok (.iand, 1) := by decide +kernel
theorem d_E_write_68 : decode prog_4_method_2_code 68 = .ok (.iastore, 1) := by decide +kernel
theorem d_E_write_69 : decode prog_4_method_2_code 69 = .ok (.return_, 1) := by decide +kernel
theorem d_N_has_0 : decode prog_5_method_2_code 0 = .ok (.iload_n 1, 1) := by decide +kernel
theorem d_N_has_1 : decode prog_5_method_2_code 1 = .ok (.ifCond .lt 15, 3) := by decide +kernel
theorem d_N_has_4 : decode prog_5_method_2_code 4 = .ok (.iload_n 1, 1) := by decide +kernel
theorem d_N_has_5 : decode prog_5_method_2_code 5 = .ok (.aload_n 0, 1) := by decide +kernel
theorem d_N_has_6 : decode prog_5_method_2_code 6 = .ok (.getfield 18, 3) := by decide +kernel
theorem d_N_has_9 : decode prog_5_method_2_code 9 = .ok (.if_icmp .ge 7, 3) := by decide +kernel
theorem d_N_has_12 : decode prog_5_method_2_code 12 = .ok (.iconst 1, 1) := by decide +kernel
theorem d_N_has_13 : decode prog_5_method_2_code 13 = .ok (.goto 4, 3) := by decide +kernel
theorem d_N_has_16 : decode prog_5_method_2_code 16 = .ok (.iconst 0, 1) := by decide +kernel
theorem d_N_has_17 : decode prog_5_method_2_code 17 = .ok (.ireturn, 1) := by decide +kernel
theorem d_N_remove_0 : decode prog_5_method_5_code 0 = .ok (.aload_n 0, 1) := by decide +kernel
theorem d_N_remove_1 : decode prog_5_method_5_code 1 = .ok (.iload_n 1, 1) := by decide +kernel
theorem d_N_remove_2 : decode prog_5_method_5_code 2 = .ok (.invokevirtual 37, 3) := by decide +kernel
theorem d_N_remove_5 : decode prog_5_method_5_code 5 = .ok (.ifCond .ne 4, 3) := by decide +kernel
theorem d_N_remove_8 : decode prog_5_method_5_code 8 = .ok (.return_, 1) := by decide +kernel
theorem d_N_remove_9 : decode prog_5_method_5_code 9 = .ok (.aload_n 0, 1) := by decide +kernel
theorem d_N_remove_10 : decode prog_5_method_5_code 10 = .ok (.getfield 11, 3) := by decide +kernel
theorem d_N_remove_13 : decode prog_5_method_5_code 13 = .ok (.iload_n 1, 1) := by decide +kernel
theorem d_N_remove_14 : decode prog_5_method_5_code 14 = .ok (.aaload, 1) := by decide +kernel
theorem d_N_remove_15 : decode prog_5_method_5_code 15 = .ok (.astore_n 2, 1) := by decide +kernel
theorem d_N_remove_16 : decode prog_5_method_5_code 16 = .ok (.iload_n 1, 1) := by decide +kernel
theorem d_N_remove_17 : decode prog_5_method_5_code 17 = .ok (.istore_n 3, 1) := by decide +kernel
theorem d_N_remove_18 : decode prog_5_method_5_code 18 = .ok (.iload_n 3, 1) := by decide +kernel
theorem d_N_remove_19 : decode prog_5_method_5_code 19 = .ok (.aload_n 0, 1) := by decide +kernel
theorem d_N_remove_20 : decode prog_5_method_5_code 20 = .ok (.getfield 18, 3) := by decide +kernel
theorem d_N_remove_23 : decode prog_5_method_5_code 23 = .ok (.iconst 1, 1) := by decide +kernel
theorem d_N_remove_24 : decode prog_5_method_5_code 24 = .ok (.isub, 1) := by decide +kernel
theorem d_N_remove_25 : decode prog_5_method_5_code 25 = .ok (.if_icmp .ge 23, 3) := by decide +kernel
theorem d_N_remove_28 : decode prog_5_method_5_code 28 = .ok (.aload_n 0, 1) := by decide +kernel
theorem d_N_remove_29 : decode prog_5_method_5_code 29 = .ok (.getfield 11, 3) := by decide +kernel
theorem d_N_remove_32 : decode prog_5_method_5_code 32 = .ok (.iload_n 3, 1) := by decide +kernel
theorem d_N_remove_33 : decode prog_5_method_5_code 33 = .ok (.aload_n 0, 1) := by decide +kernel
theorem d_N_remove_34 : decode prog_5_method_5_code 34 = .ok (.getfield 11, 3) := by decide +kernel
theorem d_N_remove_37 : decode prog_5_method_5_code 37 = .ok (.iload_n 3, 1) := by decide +kernel
theorem d_N_remove_38 : decode prog_5_method_5_code 38 = .ok (.iconst 1, 1) := by decide +kernel
theorem d_N_remove_39 : decode prog_5_method_5_code 39 = .ok (.iadd, 1) := by decide +kernel
theorem d_N_remove_40 : decode prog_5_method_5_code 40 = .ok (.aaload, 1) := by decide +kernel
theorem d_N_remove_41 : decode prog_5_method_5_code 41 = .ok (.aastore, 1) := by decide +kernel
theorem d_N_remove_42 : decode prog_5_method_5_code 42 = .ok (.iinc 3 1, 3) := by decide +kernel
theorem d_N_remove_45 : decode prog_5_method_5_code 45 = .ok (.goto (-27), 3) := by decide +kernel
theorem d_N_remove_48 : decode prog_5_method_5_code 48 = .ok (.aload_n 0, 1) := by decide +kernel
theorem d_N_remove_49 : decode prog_5_method_5_code 49 = .ok (.dup, 1) := by decide +kernel
theorem d_N_remove_50 : decode prog_5_method_5_code 50 = .ok (.getfield 18, 3) := by decide +kernel
theorem d_N_remove_53 : decode prog_5_method_5_code 53 = .ok (.iconst 1, 1) := by decide +kernel
theorem d_N_remove_54 : decode prog_5_method_5_code 54 = .ok (.isub, 1) := by decide +kernel
theorem d_N_remove_55 : decode prog_5_method_5_code 55 = .ok (.putfield 18, 3) := by decide +kernel
theorem d_N_remove_58 : decode prog_5_method_5_code 58 = .ok (.aload_n 0, 1) := by decide +kernel
theorem d_N_remove_59 : decode prog_5_method_5_code 59 = .ok (.getfield 11, 3) := by decide +kernel
theorem d_N_remove_62 : decode prog_5_method_5_code 62 = .ok (.aload_n 0, 1) := by decide +kernel
theorem d_N_remove_63 : decode prog_5_method_5_code 63 = .ok (.getfield 18, 3) := by decide +kernel
theorem d_N_remove_66 : decode prog_5_method_5_code 66 = .ok (.aload_n 2, 1) := by decide +kernel
theorem d_N_remove_67 : decode prog_5_method_5_code 67 = .ok (.aastore, 1) := by decide +kernel
theorem d_N_remove_68 : decode prog_5_method_5_code 68 = .ok (.return_, 1) := by decide +kernel
theorem d_N_post_0 : decode prog_5_method_3_code 0 = .ok (.aload_n 0, 1) := by decide +kernel
theorem d_N_post_1 : decode prog_5_method_3_code 1 = .ok (.getfield 18, 3) := by decide +kernel
theorem d_N_post_4 : decode prog_5_method_3_code 4 = .ok (.bipush 24, 2) := by decide +kernel
theorem d_N_post_6 : decode prog_5_method_3_code 6 = .ok (.if_icmp .lt 18, 3) := by decide +kernel
theorem d_N_post_9 : decode prog_5_method_3_code 9 = .ok (.aload_n 0, 1) := by decide +kernel
theorem d_N_post_10 : decode prog_5_method_3_code 10 = .ok (.iconst 0, 1) := by decide +kernel
theorem d_N_post_11 : decode prog_5_method_3_code 11 = .ok (.invokevirtual 22, 3) := by decide +kernel
theorem d_N_post_14 : decode prog_5_method_3_code 14 = .ok (.aload_n 0, 1) := by decide +kernel
theorem d_N_post_15 : decode prog_5_method_3_code 15 = .ok (.dup, 1) := by decide +kernel
theorem d_N_post_16 : decode prog_5_method_3_code 16 = .ok (.getfield 26, 3) := by decide +kernel
theorem d_N_post_19 : decode prog_5_method_3_code 19 = .ok (.iconst 1, 1) := by decide +kernel
theorem d_N_post_20 : decode prog_5_method_3_code 20 = .ok (.iadd, 1) := by decide +kernel
theorem d_N_post_21 : decode prog_5_method_3_code 21 = .ok (.putfield 26, 3) := by decide +kernel
theorem d_N_post_24 : decode prog_5_method_3_code 24 = .ok (.aload_n 0, 1) := by decide +kernel
theorem d_N_post_25 : decode prog_5_method_3_code 25 = .ok (.getfield 11, 3) := by decide +kernel
theorem d_N_post_28 : decode prog_5_method_3_code 28 = .ok (.aload_n 0, 1) := by decide +kernel
theorem d_N_post_29 : decode prog_5_method_3_code 29 = .ok (.getfield 18, 3) := by decide +kernel
theorem d_N_post_32 : decode prog_5_method_3_code 32 = .ok (.aaload, 1) := by decide +kernel
theorem d_N_post_33 : decode prog_5_method_3_code 33 = .ok (.astore 8, 2) := by decide +kernel
theorem d_N_post_35 : decode prog_5_method_3_code 35 = .ok (.aload 8, 2) := by decide +kernel
theorem d_N_post_37 : decode prog_5_method_3_code 37 = .ok (.iload_n 1, 1) := by decide +kernel
theorem d_N_post_38 : decode prog_5_method_3_code 38 = .ok (.putfield 29, 3) := by decide +kernel
theorem d_N_post_41 : decode prog_5_method_3_code 41 = .ok (.aload 8, 2) := by decide +kernel
theorem d_N_post_43 : decode prog_5_method_3_code 43 = .ok (.iload_n 2, 1) := by decide +kernel
theorem d_N_post_44 : decode prog_5_method_3_code 44 = .ok (.iload_n 3, 1) := by decide +kernel
theorem d_N_post_45 : decode prog_5_method_3_code 45 = .ok (.iload 4, 2) := by decide +kernel
theorem d_N_post_47 : decode prog_5_method_3_code 47 = .ok (.lload 5, 2) := by decide +kernel
theorem d_N_post_49 : decode prog_5_method_3_code 49 = .ok (.iload 7, 2) := by decide +kernel
theorem d_N_post_51 : decode prog_5_method_3_code 51 = .ok (.invokevirtual 33, 3) := by decide +kernel
theorem d_N_post_54 : decode prog_5_method_3_code 54 = .ok (.aload_n 0, 1) := by decide +kernel
theorem d_N_post_55 : decode prog_5_method_3_code 55 = .ok (.dup, 1) := by decide +kernel
theorem d_N_post_56 : decode prog_5_method_3_code 56 = .ok (.getfield 18, 3) := by decide +kernel
theorem d_N_post_59 : decode prog_5_method_3_code 59 = .ok (.iconst 1, 1) := by decide +kernel
theorem d_N_post_60 : decode prog_5_method_3_code 60 = .ok (.iadd, 1) := by decide +kernel
theorem d_N_post_61 : decode prog_5_method_3_code 61 = .ok (.putfield 18, 3) := by decide +kernel
theorem d_N_post_64 : decode prog_5_method_3_code 64 = .ok (.return_, 1) := by decide +kernel
theorem d_M_send_0 : decode prog_6_method_23_code 0 = .ok (.aload_n 0, 1) := by decide +kernel
theorem d_M_send_1 : decode prog_6_method_23_code 1 = .ok (.invokevirtual 137, 3) := by decide +kernel
theorem d_M_send_4 : decode prog_6_method_23_code 4 = .ok (.ifCond .ne 5, 3) := by decide +kernel
theorem d_M_send_7 : decode prog_6_method_23_code 7 = .ok (.iconst 0, 1) := by decide +kernel
theorem d_M_send_8 : decode prog_6_method_23_code 8 = .ok (.ireturn, 1) := by decide +kernel
theorem d_M_send_9 : decode prog_6_method_23_code 9 = .ok (.aload_n 0, 1) := by decide +kernel
theorem d_M_send_10 : decode prog_6_method_23_code 10 = .ok (.getfield 49, 3) := by decide +kernel
theorem d_M_send_13 : decode prog_6_method_23_code 13 = .ok (.iconst 1, 1) := by decide +kernel
theorem d_M_send_14 : decode prog_6_method_23_code 14 = .ok (.iload_n 1, 1) := by decide +kernel
theorem d_M_send_15 : decode prog_6_method_23_code 15 = .ok (.aload_n 0, 1) := by decide +kernel
theorem d_M_send_16 : decode prog_6_method_23_code 16 = .ok (.getfield 128, 3) := by decide +kernel
theorem d_M_send_19 : decode prog_6_method_23_code 19 = .ok (.aload_n 0, 1) := by decide +kernel
theorem d_M_send_20 : decode prog_6_method_23_code 20 = .ok (.getfield 46, 3) := by decide +kernel
theorem d_M_send_23 : decode prog_6_method_23_code 23 = .ok (.iload_n 2, 1) := by decide +kernel
theorem d_M_send_24 : decode prog_6_method_23_code 24 = .ok (.i2l, 1) := by decide +kernel
theorem d_M_send_25 : decode prog_6_method_23_code 25 = .ok (.iconst 0, 1) := by decide +kernel
theorem d_M_send_26 : decode prog_6_method_23_code 26 = .ok (.invokevirtual 182, 3) := by decide +kernel
theorem d_M_send_29 : decode prog_6_method_23_code 29 = .ok (.iconst 1, 1) := by decide +kernel
theorem d_M_send_30 : decode prog_6_method_23_code 30 = .ok (.ireturn, 1) := by decide +kernel
theorem d_M_beginPinCheck_0 : decode prog_6_method_6_code 0 = .ok (.aload_n 0, 1) := by decide +kernel
theorem d_M_beginPinCheck_1 : decode prog_6_method_6_code 1 = .ok (.getfield 29, 3) := by decide +kernel
theorem d_M_beginPinCheck_4 : decode prog_6_method_6_code 4 = .ok (.ifCond .eq 29, 3) := by decide +kernel
theorem d_M_beginPinCheck_7 : decode prog_6_method_6_code 7 = .ok (.aload_n 0, 1) := by decide +kernel
theorem d_M_beginPinCheck_8 : decode prog_6_method_6_code 8 = .ok (.getfield 37, 3) := by decide +kernel
theorem d_M_beginPinCheck_11 : decode prog_6_method_6_code 11 = .ok (.iconst 1, 1) := by decide +kernel
theorem d_M_beginPinCheck_12 : decode prog_6_method_6_code 12 = .ok (.if_icmp .ne 21, 3) := by decide +kernel
theorem d_M_beginPinCheck_15 : decode prog_6_method_6_code 15 = .ok (.iload_n 1, 1) := by decide +kernel
theorem d_M_beginPinCheck_16 : decode prog_6_method_6_code 16 = .ok (.i2l, 1) := by decide +kernel
theorem d_M_beginPinCheck_17 : decode prog_6_method_6_code 17 = .ok (.invokestatic 64, 3) := by decide +kernel
theorem d_M_beginPinCheck_20 : decode prog_6_method_6_code 20 = .ok (.ifCond .eq 13, 3) := by decide +kernel
theorem d_M_beginPinCheck_23 : decode prog_6_method_6_code 23 = .ok (.aload_n 0, 1) := by decide +kernel
theorem d_M_beginPinCheck_24 : decode prog_6_method_6_code 24 = .ok (.getfield 43, 3) := by decide +kernel
theorem d_M_beginPinCheck_27 : decode prog_6_method_6_code 27 = .ok (.sipush 2000, 3) := by decide +kernel
theorem d_M_beginPinCheck_30 : decode prog_6_method_6_code 30 = .ok (.if_icmp .le 5, 3) := by decide +kernel
theorem d_M_beginPinCheck_33 : decode prog_6_method_6_code 33 = .ok (.iconst 0, 1) := by decide +kernel
theorem d_M_beginPinCheck_34 : decode prog_6_method_6_code 34 = .ok (.ireturn, 1) := by decide +kernel
theorem d_M_beginPinCheck_35 : decode prog_6_method_6_code 35 = .ok (.aload_n 0, 1) := by decide +kernel
theorem d_M_beginPinCheck_36 : decode prog_6_method_6_code 36 = .ok (.invokevirtual 68, 3) := by decide +kernel
theorem d_M_beginPinCheck_39 : decode prog_6_method_6_code 39 = .ok (.aload_n 0, 1) := by decide +kernel
theorem d_M_beginPinCheck_40 : decode prog_6_method_6_code 40 = .ok (.iconst 1, 1) := by decide +kernel
theorem d_M_beginPinCheck_41 : decode prog_6_method_6_code 41 = .ok (.iload_n 1, 1) := by decide +kernel
theorem d_M_beginPinCheck_42 : decode prog_6_method_6_code 42 = .ok (.invokevirtual 71, 3) := by decide +kernel
theorem d_M_beginPinCheck_45 : decode prog_6_method_6_code 45 = .ok (.ifCond .eq 8, 3) := by decide +kernel
theorem d_M_beginPinCheck_48 : decode prog_6_method_6_code 48 = .ok (.aload_n 0, 1) := by decide +kernel
theorem d_M_beginPinCheck_49 : decode prog_6_method_6_code 49 = .ok (.iconst 2, 1) := by decide +kernel
theorem d_M_beginPinCheck_50 : decode prog_6_method_6_code 50 = .ok (.putfield 37, 3) := by decide +kernel
theorem d_M_beginPinCheck_53 : decode prog_6_method_6_code 53 = .ok (.iconst 1, 1) := by decide +kernel
theorem d_M_beginPinCheck_54 : decode prog_6_method_6_code 54 = .ok (.ireturn, 1) := by decide +kernel
theorem d_A_pin_0 : decode prog_1_method_6_code 0 = .ok (.aload_n 0, 1) := by decide +kernel
theorem d_A_pin_1 : decode prog_1_method_6_code 1 = .ok (.getfield 28, 3) := by decide +kernel
theorem d_A_pin_4 : decode prog_1_method_6_code 4 = .ok (.iload_n 1, 1) := by decide +kernel
theorem d_A_pin_5 : decode prog_1_method_6_code 5 = .ok (.invokevirtual 54, 3) := by decide +kernel
theorem d_A_pin_8 : decode prog_1_method_6_code 8 = .ok (.ireturn, 1) := by decide +kernel
theorem d_A_isAmount_0 : decode prog_1_method_29_code 0 = .ok (.lload_n 0, 1) := by decide +kernel
theorem d_A_isAmount_1 : decode prog_1_method_29_code 1 = .ok (.lconst 1, 1) := by decide +kernel
theorem d_A_isAmount_2 : decode prog_1_method_29_code 2 = .ok (.ldc2_w 189, 3) := by decide +kernel
theorem d_A_isAmount_5 : decode prog_1_method_29_code 5 = .ok (.invokestatic 183, 3) := by decide +kernel
theorem d_A_isAmount_8 : decode prog_1_method_29_code 8 = .ok (.ireturn, 1) := by decide +kernel
theorem d_O_findLargest_0 : decode prog_7_method_7_code 0 = .ok (.aload_n 0, 1) := by decide +kernel
theorem d_O_findLargest_1 : decode prog_7_method_7_code 1 = .ok (.iconst 0, 1) := by decide +kernel
theorem d_O_findLargest_2 : decode prog_7_method_7_code 2 = .ok (.putfield 72, 3) := by decide +kernel
theorem d_O_findLargest_5 : decode prog_7_method_7_code 5 = .ok (.iconst 0, 1) := by decide +kernel
theorem d_O_findLargest_6 : decode prog_7_method_7_code 6 = .ok (.istore_n 1, 1) := by decide +kernel
theorem d_O_findLargest_7 : decode prog_7_method_7_code 7 = .ok (.iload_n 1, 1) := by decide +kernel
theorem d_O_findLargest_8 : decode prog_7_method_7_code 8 = .ok (.iconst 4, 1) := by decide +kernel
theorem d_O_findLargest_9 : decode prog_7_method_7_code 9 = .ok (.if_icmp .ge 26, 3) := by decide +kernel
theorem d_O_findLargest_12 : decode prog_7_method_7_code 12 = .ok (.aload_n 0, 1) := by decide +kernel
theorem d_O_findLargest_13 : decode prog_7_method_7_code 13 = .ok (.aload_n 0, 1) := by decide +kernel
theorem d_O_findLargest_14 : decode prog_7_method_7_code 14 = .ok (.getfield 72, 3) := by decide +kernel
theorem d_O_findLargest_17 : decode prog_7_method_7_code 17 = .ok (.aload_n 0, 1) := by decide +kernel
theorem d_O_findLargest_18 : decode prog_7_method_7_code 18 = .ok (.getfield 18, 3) := by decide +kernel
theorem d_O_findLargest_21 : decode prog_7_method_7_code 21 = .ok (.iload_n 1, 1) := by decide +kernel
theorem d_O_findLargest_22 : decode prog_7_method_7_code 22 = .ok (.iaload, 1) := by decide +kernel
theorem d_O_findLargest_23 : decode prog_7_method_7_code 23 = .ok (.invokestatic 75, 3) := by decide +kernel
theorem d_O_findLargest_26 : decode prog_7_method_7_code 26 = .ok (.putfield 72, 3) := by decide +kernel
theorem d_O_findLargest_29 : decode prog_7_method_7_code 29 = .ok (.iinc 1 1, 3) := by decide +kernel
theorem d_O_findLargest_32 : decode prog_7_method_7_code 32 = .ok (.goto (-25), 3) := by decide +kernel
theorem d_O_findLargest_35 : decode prog_7_method_7_code 35 = .ok (.return_, 1) := by decide +kernel
theorem d_O_mostOf_0 : decode prog_7_method_8_code 0 = .ok (.iload_n 1, 1) := by decide +kernel
theorem d_O_mostOf_1 : decode prog_7_method_8_code 1 = .ok (.ifCond .lt 22, 3) := by decide +kernel
theorem d_O_mostOf_4 : decode prog_7_method_8_code 4 = .ok (.iload_n 1, 1) := by decide +kernel
theorem d_O_mostOf_5 : decode prog_7_method_8_code 5 = .ok (.iconst 4, 1) := by decide +kernel
theorem d_O_mostOf_6 : decode prog_7_method_8_code 6 = .ok (.if_icmp .ge 17, 3) := by decide +kernel
theorem d_O_mostOf_9 : decode prog_7_method_8_code 9 = .ok (.iload_n 3, 1) := by decide +kernel
theorem d_O_mostOf_10 : decode prog_7_method_8_code 10 = .ok (.ifCond .lt 13, 3) := by decide +kernel
theorem d_O_mostOf_13 : decode prog_7_method_8_code 13 = .ok (.iload_n 2, 1) := by decide +kernel
theorem d_O_mostOf_14 : decode prog_7_method_8_code 14 = .ok (.iload_n 3, 1) := by decide +kernel
theorem d_O_mostOf_15 : decode prog_7_method_8_code 15 = .ok (.aload_n 0, 1) := by decide +kernel
theorem d_O_mostOf_16 : decode prog_7_method_8_code 16 = .ok (.getfield 72, 3) := by decide +kernel
theorem d_O_mostOf_19 : decode prog_7_method_8_code 19 = .ok (.imul, 1) := by decide +kernel
theorem d_O_mostOf_20 : decode prog_7_method_8_code 20 = .ok (.if_icmp .le 5, 3) := by decide +kernel
theorem d_O_mostOf_23 : decode prog_7_method_8_code 23 = .ok (.iconst (-1), 1) := by decide +kernel
theorem d_O_mostOf_24 : decode prog_7_method_8_code 24 = .ok (.ireturn, 1) := by decide +kernel
theorem d_O_mostOf_25 : decode prog_7_method_8_code 25 = .ok (.aload_n 0, 1) := by decide +kernel
theorem d_O_mostOf_26 : decode prog_7_method_8_code 26 = .ok (.getfield 18, 3) := by decide +kernel
theorem d_O_mostOf_29 : decode prog_7_method_8_code 29 = .ok (.iload_n 1, 1) := by decide +kernel
theorem d_O_mostOf_30 : decode prog_7_method_8_code 30 = .ok (.iaload, 1) := by decide +kernel
theorem d_O_mostOf_31 : decode prog_7_method_8_code 31 = .ok (.istore 4, 2) := by decide +kernel
theorem d_O_mostOf_33 : decode prog_7_method_8_code 33 = .ok (.iload 4, 2) := by decide +kernel
theorem d_O_mostOf_35 : decode prog_7_method_8_code 35 = .ok (.iconst 1, 1) := by decide +kernel
theorem d_O_mostOf_36 : decode prog_7_method_8_code 36 = .ok (.if_icmp .ge 7, 3) := by decide +kernel
theorem d_O_mostOf_39 : decode prog_7_method_8_code 39 = .ok (.iconst 0, 1) := by decide +kernel
theorem d_O_mostOf_40 : decode prog_7_method_8_code 40 = .ok (.goto 7, 3) := by decide +kernel
theorem d_O_mostOf_43 : decode prog_7_method_8_code 43 = .ok (.iload_n 2, 1) := by decide +kernel
theorem d_O_mostOf_44 : decode prog_7_method_8_code 44 = .ok (.iload 4, 2) := by decide +kernel
theorem d_O_mostOf_46 : decode prog_7_method_8_code 46 = .ok (.idiv, 1) := by decide +kernel
theorem d_O_mostOf_47 : decode prog_7_method_8_code 47 = .ok (.istore 5, 2) := by decide +kernel
theorem d_O_mostOf_49 : decode prog_7_method_8_code 49 = .ok (.aload_n 0, 1) := by decide +kernel
theorem d_O_mostOf_50 : decode prog_7_method_8_code 50 = .ok (.getfield 23, 3) := by decide +kernel
theorem d_O_mostOf_53 : decode prog_7_method_8_code 53 = .ok (.iload_n 1, 1) := by decide +kernel
theorem d_O_mostOf_54 : decode prog_7_method_8_code 54 = .ok (.iaload, 1) := by decide +kernel
theorem d_O_mostOf_55 : decode prog_7_method_8_code 55 = .ok (.iload_n 3, 1) := by decide +kernel
theorem d_O_mostOf_56 : decode prog_7_method_8_code 56 = .ok (.if_icmp .ge 12, 3) := by decide +kernel
theorem d_O_mostOf_59 : decode prog_7_method_8_code 59 = .ok (.aload_n 0, 1) := by decide +kernel
theorem d_O_mostOf_60 : decode prog_7_method_8_code 60 = .ok (.getfield 23, 3) := by decide +kernel
theorem d_O_mostOf_63 : decode prog_7_method_8_code 63 = .ok (.iload_n 1, 1) := by decide +kernel
theorem d_O_mostOf_64 : decode prog_7_method_8_code 64 = .ok (.iaload, 1) := by decide +kernel
theorem d_O_mostOf_65 : decode prog_7_method_8_code 65 = .ok (.goto 4, 3) := by decide +kernel
theorem d_O_mostOf_68 : decode prog_7_method_8_code 68 = .ok (.iload_n 3, 1) := by decide +kernel
theorem d_O_mostOf_69 : decode prog_7_method_8_code 69 = .ok (.istore 6, 2) := by decide +kernel
theorem d_O_mostOf_71 : decode prog_7_method_8_code 71 = .ok (.iload 5, 2) := by decide +kernel
theorem d_O_mostOf_73 : decode prog_7_method_8_code 73 = .ok (.iload 6, 2) := by decide +kernel
theorem d_O_mostOf_75 : decode prog_7_method_8_code 75 = .ok (.if_icmp .ge 8, 3) := by decide +kernel
theorem d_O_mostOf_78 : decode prog_7_method_8_code 78 = .ok (.iload 5, 2) := by decide +kernel
theorem d_O_mostOf_80 : decode prog_7_method_8_code 80 = .ok (.goto 5, 3) := by decide +kernel
theorem d_O_mostOf_83 : decode prog_7_method_8_code 83 = .ok (.iload 6, 2) := by decide +kernel
theorem d_O_mostOf_85 : decode prog_7_method_8_code 85 = .ok (.ireturn, 1) := by decide +kernel
theorem d_O_mixRest_0 : decode prog_7_method_6_code 0 = .ok (.aload_n 0, 1) := by decide +kernel
theorem d_O_mixRest_1 : decode prog_7_method_6_code 1 = .ok (.getfield 18, 3) := by decide +kernel
theorem d_O_mixRest_4 : decode prog_7_method_6_code 4 = .ok (.iconst 3, 1) := by decide +kernel
theorem d_O_mixRest_5 : decode prog_7_method_6_code 5 = .ok (.iaload, 1) := by decide +kernel
theorem d_O_mixRest_6 : decode prog_7_method_6_code 6 = .ok (.istore 4, 2) := by decide +kernel
theorem d_O_mixRest_8 : decode prog_7_method_6_code 8 = .ok (.aload_n 0, 1) := by decide +kernel
theorem d_O_mixRest_9 : decode prog_7_method_6_code 9 = .ok (.iconst 2, 1) := by decide +kernel
theorem d_O_mixRest_10 : decode prog_7_method_6_code 10 = .ok (.iload_n 3, 1) := by decide +kernel
theorem d_O_mixRest_11 : decode prog_7_method_6_code 11 = .ok (.aload_n 0, 1) := by decide +kernel
theorem d_O_mixRest_12 : decode prog_7_method_6_code 12 = .ok (.getfield 53, 3) := by decide +kernel
theorem d_O_mixRest_15 : decode prog_7_method_6_code 15 = .ok (.iconst 1, 1) := by decide +kernel
theorem d_O_mixRest_16 : decode prog_7_method_6_code 16 = .ok (.isub, 1) := by decide +kernel
theorem d_O_mixRest_17 : decode prog_7_method_6_code 17 = .ok (.iload_n 1, 1) := by decide +kernel
theorem d_O_mixRest_18 : decode prog_7_method_6_code 18 = .ok (.isub, 1) := by decide +kernel
theorem d_O_mixRest_19 : decode prog_7_method_6_code 19 = .ok (.iload_n 2, 1) := by decide +kernel
theorem d_O_mixRest_20 : decode prog_7_method_6_code 20 = .ok (.isub, 1) := by decide +kernel
theorem d_O_mixRest_21 : decode prog_7_method_6_code 21 = .ok (.invokevirtual 64, 3) := by decide +kernel
theorem d_O_mixRest_24 : decode prog_7_method_6_code 24 = .ok (.istore 5, 2) := by decide +kernel
theorem d_O_mixRest_26 : decode prog_7_method_6_code 26 = .ok (.iload 5, 2) := by decide +kernel
theorem d_O_mixRest_28 : decode prog_7_method_6_code 28 = .ok (.ifCond .lt 116, 3) := by decide +kernel
theorem d_O_mixRest_31 : decode prog_7_method_6_code 31 = .ok (.iload_n 3, 1) := by decide +kernel
theorem d_O_mixRest_32 : decode prog_7_method_6_code 32 = .ok (.iload 5, 2) := by decide +kernel
theorem d_O_mixRest_34 : decode prog_7_method_6_code 34 = .ok (.aload_n 0, 1) := by decide +kernel
theorem d_O_mixRest_35 : decode prog_7_method_6_code 35 = .ok (.getfield 18, 3) := by decide +kernel
theorem d_O_mixRest_38 : decode prog_7_method_6_code 38 = .ok (.iconst 2, 1) := by decide +kernel
theorem d_O_mixRest_39 : decode prog_7_method_6_code 39 = .ok (.iaload, 1) := by decide +kernel
theorem d_O_mixRest_40 : decode prog_7_method_6_code 40 = .ok (.imul, 1) := by decide +kernel
theorem d_O_mixRest_41 : decode prog_7_method_6_code 41 = .ok (.isub, 1) := by decide +kernel
theorem d_O_mixRest_42 : decode prog_7_method_6_code 42 = .ok (.istore 6, 2) := by decide +kernel
theorem d_O_mixRest_44 : decode prog_7_method_6_code 44 = .ok (.iload 4, 2) := by decide +kernel
theorem d_O_mixRest_46 : decode prog_7_method_6_code 46 = .ok (.iconst 1, 1) := by decide +kernel
theorem d_O_mixRest_47 : decode prog_7_method_6_code 47 = .ok (.if_icmp .ge 7, 3) := by decide +kernel
theorem d_O_mixRest_50 : decode prog_7_method_6_code 50 = .ok (.iconst 0, 1) := by decide +kernel
theorem d_O_mixRest_51 : decode prog_7_method_6_code 51 = .ok (.goto 8, 3) := by decide +kernel
theorem d_O_mixRest_54 : decode prog_7_method_6_code 54 = .ok (.iload 6, 2) := by decide +kernel
theorem d_O_mixRest_56 : decode prog_7_method_6_code 56 = .ok (.iload 4, 2) := by decide +kernel
theorem d_O_mixRest_58 : decode prog_7_method_6_code 58 = .ok (.idiv, 1) := by decide +kernel
theorem d_O_mixRest_59 : decode prog_7_method_6_code 59 = .ok (.istore 7, 2) := by decide +kernel
theorem d_O_mixRest_61 : decode prog_7_method_6_code 61 = .ok (.iload_n 1, 1) := by decide +kernel
theorem d_O_mixRest_62 : decode prog_7_method_6_code 62 = .ok (.iload_n 2, 1) := by decide +kernel
theorem d_O_mixRest_63 : decode prog_7_method_6_code 63 = .ok (.iadd, 1) := by decide +kernel
theorem d_O_mixRest_64 : decode prog_7_method_6_code 64 = .ok (.iload 5, 2) := by decide +kernel
theorem d_O_mixRest_66 : decode prog_7_method_6_code 66 = .ok (.iadd, 1) := by decide +kernel
theorem d_O_mixRest_67 : decode prog_7_method_6_code 67 = .ok (.iload 7, 2) := by decide +kernel
theorem d_O_mixRest_69 : decode prog_7_method_6_code 69 = .ok (.iadd, 1) := by decide +kernel
theorem d_O_mixRest_70 : decode prog_7_method_6_code 70 = .ok (.istore 8, 2) := by decide +kernel
theorem d_O_mixRest_72 : decode prog_7_method_6_code 72 = .ok (.iload 7, 2) := by decide +kernel
theorem d_O_mixRest_74 : decode prog_7_method_6_code 74 = .ok (.iload 4, 2) := by decide +kernel
theorem d_O_mixRest_76 : decode prog_7_method_6_code 76 = .ok (.imul, 1) := by decide +kernel
theorem d_O_mixRest_77 : decode prog_7_method_6_code 77 = .ok (.iload 6, 2) := by decide +kernel
theorem d_O_mixRest_79 : decode prog_7_method_6_code 79 = .ok (.if_icmp .ne 59, 3) := by decide +kernel
theorem d_O_mixRest_82 : decode prog_7_method_6_code 82 = .ok (.iload 7, 2) := by decide +kernel
theorem d_O_mixRest_84 : decode prog_7_method_6_code 84 = .ok (.aload_n 0, 1) := by decide +kernel
theorem d_O_mixRest_85 : decode prog_7_method_6_code 85 = .ok (.getfield 23, 3) := by decide +kernel
theorem d_O_mixRest_88 : decode prog_7_method_6_code 88 = .ok (.iconst 3, 1) := by decide +kernel
theorem d_O_mixRest_89 : decode prog_7_method_6_code 89 = .ok (.iaload, 1) := by decide +kernel
theorem d_O_mixRest_90 : decode prog_7_method_6_code 90 = .ok (.if_icmp .gt 48, 3) := by decide +kernel
theorem d_O_mixRest_93 : decode prog_7_method_6_code 93 = .ok (.iload 8, 2) := by decide +kernel
theorem d_O_mixRest_95 : decode prog_7_method_6_code 95 = .ok (.aload_n 0, 1) := by decide +kernel
theorem d_O_mixRest_96 : decode prog_7_method_6_code 96 = .ok (.getfield 53, 3) := by decide +kernel
theorem d_O_mixRest_99 : decode prog_7_method_6_code 99 = .ok (.if_icmp .ge 39, 3) := by decide +kernel
theorem d_O_mixRest_102 : decode prog_7_method_6_code 102 = .ok (.aload_n 0, 1) := by decide +kernel
theorem d_O_mixRest_103 : decode prog_7_method_6_code 103 = .ok (.iload 8, 2) := by decide +kernel
theorem d_O_mixRest_105 : decode prog_7_method_6_code 105 = .ok (.putfield 53, 3) := by decide +kernel
theorem d_O_mixRest_108 : decode prog_7_method_6_code 108 = .ok (.aload_n 0, 1) := by decide +kernel
theorem d_O_mixRest_109 : decode prog_7_method_6_code 109 = .ok (.getfield 35, 3) := by decide +kernel
theorem d_O_mixRest_112 : decode prog_7_method_6_code 112 = .ok (.iconst 0, 1) := by decide +kernel
theorem d_O_mixRest_113 : decode prog_7_method_6_code 113 = .ok (.iload_n 1, 1) := by decide +kernel
theorem d_O_mixRest_114 : decode prog_7_method_6_code 114 = .ok (.iastore, 1) := by decide +kernel
theorem d_O_mixRest_115 : decode prog_7_method_6_code 115 = .ok (.aload_n 0, 1) := by decide +kernel
theorem d_O_mixRest_116 : decode prog_7_method_6_code 116 = .ok (.getfield 35, 3) := by decide +kernel
theorem d_O_mixRest_119 : decode prog_7_method_6_code 119 = .ok (.iconst 1, 1) := by decide +kernel
theorem d_O_mixRest_120 : decode prog_7_method_6_code 120 = .ok (.iload_n 2, 1) := by decide +kernel
theorem d_O_mixRest_121 : decode prog_7_method_6_code 121 = .ok (.iastore, 1) := by decide +kernel
theorem d_O_mixRest_122 : decode prog_7_method_6_code 122 = .ok (.aload_n 0, 1) := by decide +kernel
theorem d_O_mixRest_123 : decode prog_7_method_6_code 123 = .ok (.getfield 35, 3) := by decide +kernel
theorem d_O_mixRest_126 : decode prog_7_method_6_code 126 = .ok (.iconst 2, 1) := by decide +kernel
theorem d_O_mixRest_127 : decode prog_7_method_6_code 127 = .ok (.iload 5, 2) := by decide +kernel
theorem d_O_mixRest_129 : decode prog_7_method_6_code 129 = .ok (.iastore, 1) := by decide +kernel
theorem d_O_mixRest_130 : decode prog_7_method_6_code 130 = .ok (.aload_n 0, 1) := by decide +kernel
theorem d_O_mixRest_131 : decode prog_7_method_6_code 131 = .ok (.getfield 35, 3) := by decide +kernel
theorem d_O_mixRest_134 : decode prog_7_method_6_code 134 = .ok (.iconst 3, 1) := by decide +kernel
theorem d_O_mixRest_135 : decode prog_7_method_6_code 135 = .ok (.iload 7, 2) := by decide +kernel
theorem d_O_mixRest_137 : decode prog_7_method_6_code 137 = .ok (.iastore, 1) := by decide +kernel
theorem d_O_mixRest_138 : decode prog_7_method_6_code 138 = .ok (.iinc 5 (-1), 3) := by decide +kernel
theorem d_O_mixRest_141 : decode prog_7_method_6_code 141 = .ok (.goto (-115), 3) := by decide +kernel
theorem d_O_mixRest_144 : decode prog_7_method_6_code 144 = .ok (.return_, 1) := by decide +kernel
theorem d_O_findMix_0 : decode prog_7_method_5_code 0 = .ok (.aload_n 0, 1) := by decide +kernel
theorem d_O_findMix_1 : decode prog_7_method_5_code 1 = .ok (.bipush 41, 2) := by decide +kernel
theorem d_O_findMix_3 : decode prog_7_method_5_code 3 = .ok (.putfield 53, 3) := by decide +kernel
theorem d_O_findMix_6 : decode prog_7_method_5_code 6 = .ok (.iload_n 1, 1) := by decide +kernel
theorem d_O_findMix_7 : decode prog_7_method_5_code 7 = .ok (.i2l, 1) := by decide +kernel
theorem d_O_findMix_8 : decode prog_7_method_5_code 8 = .ok (.invokestatic 57, 3) := by decide +kernel
theorem d_O_findMix_11 : decode prog_7_method_5_code 11 = .ok (.ifCond .ne 5, 3) := by decide +kernel
theorem d_O_findMix_14 : decode prog_7_method_5_code 14 = .ok (.iconst 0, 1) := by decide +kernel
theorem d_O_findMix_15 : decode prog_7_method_5_code 15 = .ok (.ireturn, 1) := by decide +kernel
theorem d_O_findMix_16 : decode prog_7_method_5_code 16 = .ok (.aload_n 0, 1) := by decide +kernel
theorem d_O_findMix_17 : decode prog_7_method_5_code 17 = .ok (.invokevirtual 61, 3) := by decide +kernel
theorem d_O_findMix_20 : decode prog_7_method_5_code 20 = .ok (.aload_n 0, 1) := by decide +kernel
theorem d_O_findMix_21 : decode prog_7_method_5_code 21 = .ok (.iconst 0, 1) := by decide +kernel
theorem d_O_findMix_22 : decode prog_7_method_5_code 22 = .ok (.iload_n 1, 1) := by decide +kernel
theorem d_O_findMix_23 : decode prog_7_method_5_code 23 = .ok (.bipush 40, 2) := by decide +kernel
theorem d_O_findMix_25 : decode prog_7_method_5_code 25 = .ok (.invokevirtual 64, 3) := by decide +kernel
theorem d_O_findMix_28 : decode prog_7_method_5_code 28 = .ok (.istore_n 2, 1) := by decide +kernel
theorem d_O_findMix_29 : decode prog_7_method_5_code 29 = .ok (.iload_n 2, 1) := by decide +kernel
theorem d_O_findMix_30 : decode prog_7_method_5_code 30 = .ok (.ifCond .lt 69, 3) := by decide +kernel
theorem d_O_findMix_33 : decode prog_7_method_5_code 33 = .ok (.iload_n 1, 1) := by decide +kernel
theorem d_O_findMix_34 : decode prog_7_method_5_code 34 = .ok (.iload_n 2, 1) := by decide +kernel
theorem d_O_findMix_35 : decode prog_7_method_5_code 35 = .ok (.aload_n 0, 1) := by decide +kernel
theorem d_O_findMix_36 : decode prog_7_method_5_code 36 = .ok (.getfield 18, 3) := by decide +kernel
theorem d_O_findMix_39 : decode prog_7_method_5_code 39 = .ok (.iconst 0, 1) := by decide +kernel
theorem d_O_findMix_40 : decode prog_7_method_5_code 40 = .ok (.iaload, 1) := by decide +kernel
theorem d_O_findMix_41 : decode prog_7_method_5_code 41 = .ok (.imul, 1) := by decide +kernel
theorem d_O_findMix_42 : decode prog_7_method_5_code 42 = .ok (.isub, 1) := by decide +kernel
theorem d_O_findMix_43 : decode prog_7_method_5_code 43 = .ok (.istore_n 3, 1) := by decide +kernel
theorem d_O_findMix_44 : decode prog_7_method_5_code 44 = .ok (.aload_n 0, 1) := by decide +kernel
theorem d_O_findMix_45 : decode prog_7_method_5_code 45 = .ok (.getfield 53, 3) := by decide +kernel
theorem d_O_findMix_48 : decode prog_7_method_5_code 48 = .ok (.iconst 1, 1) := by decide +kernel
theorem d_O_findMix_49 : decode prog_7_method_5_code 49 = .ok (.isub, 1) := by decide +kernel
theorem d_O_findMix_50 : decode prog_7_method_5_code 50 = .ok (.iload_n 2, 1) := by decide +kernel
theorem d_O_findMix_51 : decode prog_7_method_5_code 51 = .ok (.isub, 1) := by decide +kernel
theorem d_O_findMix_52 : decode prog_7_method_5_code 52 = .ok (.istore 4, 2) := by decide +kernel
theorem d_O_findMix_54 : decode prog_7_method_5_code 54 = .ok (.aload_n 0, 1) := by decide +kernel
theorem d_O_findMix_55 : decode prog_7_method_5_code 55 = .ok (.iconst 1, 1) := by decide +kernel
theorem d_O_findMix_56 : decode prog_7_method_5_code 56 = .ok (.iload_n 3, 1) := by decide +kernel
theorem d_O_findMix_57 : decode prog_7_method_5_code 57 = .ok (.iload 4, 2) := by decide +kernel
theorem d_O_findMix_59 : decode prog_7_method_5_code 59 = .ok (.invokevirtual 64, 3) := by decide +kernel
theorem d_O_findMix_62 : decode prog_7_method_5_code 62 = .ok (.istore 5, 2) := by decide +kernel
theorem d_O_findMix_64 : decode prog_7_method_5_code 64 = .ok (.iload 5, 2) := by decide +kernel
theorem d_O_findMix_66 : decode prog_7_method_5_code 66 = .ok (.ifCond .lt 27, 3) := by decide +kernel
theorem d_O_findMix_69 : decode prog_7_method_5_code 69 = .ok (.aload_n 0, 1) := by decide +kernel
theorem d_O_findMix_70 : decode prog_7_method_5_code 70 = .ok (.iload_n 2, 1) := by decide +kernel
theorem d_O_findMix_71 : decode prog_7_method_5_code 71 = .ok (.iload 5, 2) := by decide +kernel
theorem d_O_findMix_73 : decode prog_7_method_5_code 73 = .ok (.iload_n 3, 1) := by decide +kernel
theorem d_O_findMix_74 : decode prog_7_method_5_code 74 = .ok (.iload 5, 2) := by decide +kernel
theorem d_O_findMix_76 : decode prog_7_method_5_code 76 = .ok (.aload_n 0, 1) := by decide +kernel
theorem d_O_findMix_77 : decode prog_7_method_5_code 77 = .ok (.getfield 18, 3) := by decide +kernel
theorem d_O_findMix_80 : decode prog_7_method_5_code 80 = .ok (.iconst 1, 1) := by decide +kernel
theorem d_O_findMix_81 : decode prog_7_method_5_code 81 = .ok (.iaload, 1) := by decide +kernel
theorem d_O_findMix_82 : decode prog_7_method_5_code 82 = .ok (.imul, 1) := by decide +kernel
theorem d_O_findMix_83 : decode prog_7_method_5_code 83 = .ok (.isub, 1) := by decide +kernel
theorem d_O_findMix_84 : decode prog_7_method_5_code 84 = .ok (.invokevirtual 68, 3) := by decide +kernel
theorem d_O_findMix_87 : decode prog_7_method_5_code 87 = .ok (.iinc 5 (-1), 3) := by decide +kernel
theorem d_O_findMix_90 : decode prog_7_method_5_code 90 = .ok (.goto (-26), 3) := by decide +kernel
theorem d_O_findMix_93 : decode prog_7_method_5_code 93 = .ok (.iinc 2 (-1), 3) := by decide +kernel
theorem d_O_findMix_96 : decode prog_7_method_5_code 96 = .ok (.goto (-67), 3) := by decide +kernel
theorem d_O_findMix_99 : decode prog_7_method_5_code 99 = .ok (.aload_n 0, 1) := by decide +kernel
theorem d_O_findMix_100 : decode prog_7_method_5_code 100 = .ok (.getfield 53, 3) := by decide +kernel
theorem d_O_findMix_103 : decode prog_7_method_5_code 103 = .ok (.bipush 40, 2) := by decide +kernel
theorem d_O_findMix_105 : decode prog_7_method_5_code 105 = .ok (.if_icmp .gt 7, 3) := by decide +kernel
theorem d_O_findMix_108 : decode prog_7_method_5_code 108 = .ok (.iconst 1, 1) := by decide +kernel
theorem d_O_findMix_109 : decode prog_7_method_5_code 109 = .ok (.goto 4, 3) := by decide +kernel
theorem d_O_findMix_112 : decode prog_7_method_5_code 112 = .ok (.iconst 0, 1) := by decide +kernel
theorem d_O_findMix_113 : decode prog_7_method_5_code 113 = .ok (.ireturn, 1) := by decide +kernel
theorem d_J_isFull_0 : decode prog_3_method_2_code 0 = .ok (.aload_n 0, 1) := by decide +kernel
theorem d_J_isFull_1 : decode prog_3_method_2_code 1 = .ok (.getfield 24, 3) := by decide +kernel
theorem d_J_isFull_4 : decode prog_3_method_2_code 4 = .ok (.sipush 300, 3) := by decide +kernel
theorem d_J_isFull_7 : decode prog_3_method_2_code 7 = .ok (.if_icmp .lt 7, 3) := by decide +kernel
theorem d_J_isFull_10 : decode prog_3_method_2_code 10 = .ok (.iconst 1, 1) := by decide +kernel
theorem d_J_isFull_11 : decode prog_3_method_2_code 11 = .ok (.goto 4, 3) := by decide +kernel
theorem d_J_isFull_14 : decode prog_3_method_2_code 14 = .ok (.iconst 0, 1) := by decide +kernel
theorem d_J_isFull_15 : decode prog_3_method_2_code 15 = .ok (.ireturn, 1) := by decide +kernel
theorem d_J_add_0 : decode prog_3_method_3_code 0 = .ok (.aload_n 0, 1) := by decide +kernel
theorem d_J_add_1 : decode prog_3_method_3_code 1 = .ok (.invokevirtual 28, 3) := by decide +kernel
theorem d_J_add_4 : decode prog_3_method_3_code 4 = .ok (.ifCond .eq 4, 3) := by decide +kernel
theorem d_J_add_7 : decode prog_3_method_3_code 7 = .ok (.return_, 1) := by decide +kernel
theorem d_J_add_8 : decode prog_3_method_3_code 8 = .ok (.aload_n 0, 1) := by decide +kernel
theorem d_J_add_9 : decode prog_3_method_3_code 9 = .ok (.getfield 9, 3) := by decide +kernel
theorem d_J_add_12 : decode prog_3_method_3_code 12 = .ok (.aload_n 0, 1) := by decide +kernel
theorem d_J_add_13 : decode prog_3_method_3_code 13 = .ok (.getfield 24, 3) := by decide +kernel
theorem d_J_add_16 : decode prog_3_method_3_code 16 = .ok (.iload_n 1, 1) := by decide +kernel
theorem d_J_add_17 : decode prog_3_method_3_code 17 = .ok (.iastore, 1) := by decide +kernel
theorem d_J_add_18 : decode prog_3_method_3_code 18 = .ok (.aload_n 0, 1) := by decide +kernel
theorem d_J_add_19 : decode prog_3_method_3_code 19 = .ok (.getfield 15, 3) := by decide +kernel
theorem d_J_add_22 : decode prog_3_method_3_code 22 = .ok (.aload_n 0, 1) := by decide +kernel
theorem d_J_add_23 : decode prog_3_method_3_code 23 = .ok (.getfield 24, 3) := by decide +kernel
theorem d_J_add_26 : decode prog_3_method_3_code 26 = .ok (.iload_n 2, 1) := by decide +kernel
theorem d_J_add_27 : decode prog_3_method_3_code 27 = .ok (.iastore, 1) := by decide +kernel
theorem d_J_add_28 : decode prog_3_method_3_code 28 = .ok (.aload_n 0, 1) := by decide +kernel
theorem d_J_add_29 : decode prog_3_method_3_code 29 = .ok (.getfield 18, 3) := by decide +kernel
theorem d_J_add_32 : decode prog_3_method_3_code 32 = .ok (.aload_n 0, 1) := by decide +kernel
theorem d_J_add_33 : decode prog_3_method_3_code 33 = .ok (.getfield 24, 3) := by decide +kernel
theorem d_J_add_36 : decode prog_3_method_3_code 36 = .ok (.iload_n 3, 1) := by decide +kernel
theorem d_J_add_37 : decode prog_3_method_3_code 37 = .ok (.iastore, 1) := by decide +kernel
theorem d_J_add_38 : decode prog_3_method_3_code 38 = .ok (.aload_n 0, 1) := by decide +kernel
theorem d_J_add_39 : decode prog_3_method_3_code 39 = .ok (.getfield 21, 3) := by decide +kernel
theorem d_J_add_42 : decode prog_3_method_3_code 42 = .ok (.aload_n 0, 1) := by decide +kernel
theorem d_J_add_43 : decode prog_3_method_3_code 43 = .ok (.getfield 24, 3) := by decide +kernel
theorem d_J_add_46 : decode prog_3_method_3_code 46 = .ok (.iload 4, 2) := by decide +kernel
theorem d_J_add_48 : decode prog_3_method_3_code 48 = .ok (.iastore, 1) := by decide +kernel
theorem d_J_add_49 : decode prog_3_method_3_code 49 = .ok (.aload_n 0, 1) := by decide +kernel
theorem d_J_add_50 : decode prog_3_method_3_code 50 = .ok (.dup, 1) := by decide +kernel
theorem d_J_add_51 : decode prog_3_method_3_code 51 = .ok (.getfield 24, 3) := by decide +kernel
theorem d_J_add_54 : decode prog_3_method_3_code 54 = .ok (.iconst 1, 1) := by decide +kernel
theorem d_J_add_55 : decode prog_3_method_3_code 55 = .ok (.iadd, 1) := by decide +kernel
theorem d_J_add_56 : decode prog_3_method_3_code 56 = .ok (.putfield 24, 3) := by decide +kernel
theorem d_J_add_59 : decode prog_3_method_3_code 59 = .ok (.return_, 1) := by decide +kernel
theorem d_M_write_0 : decode prog_6_method_22_code 0 = .ok (.aload_n 0, 1) := by decide +kernel
theorem d_M_write_1 : decode prog_6_method_22_code 1 = .ok (.getfield 21, 3) := by decide +kernel
theorem d_M_write_4 : decode prog_6_method_22_code 4 = .ok (.invokevirtual 175, 3) := by decide +kernel
theorem d_M_write_7 : decode prog_6_method_22_code 7 = .ok (.ifCond .eq 5, 3) := by decide +kernel
theorem d_M_write_10 : decode prog_6_method_22_code 10 = .ok (.iconst 1, 1) := by decide +kernel
theorem d_M_write_11 : decode prog_6_method_22_code 11 = .ok (.ireturn, 1) := by decide +kernel
theorem d_M_write_12 : decode prog_6_method_22_code 12 = .ok (.aload_n 0, 1) := by decide +kernel
theorem d_M_write_13 : decode prog_6_method_22_code 13 = .ok (.invokevirtual 137, 3) := by decide +kernel
theorem d_M_write_16 : decode prog_6_method_22_code 16 = .ok (.ifCond .ne 5, 3) := by decide +kernel
theorem d_M_write_19 : decode prog_6_method_22_code 19 = .ok (.iconst 0, 1) := by decide +kernel
theorem d_M_write_20 : decode prog_6_method_22_code 20 = .ok (.ireturn, 1) := by decide +kernel
theorem d_M_write_21 : decode prog_6_method_22_code 21 = .ok (.aload_n 0, 1) := by decide +kernel
theorem d_M_write_22 : decode prog_6_method_22_code 22 = .ok (.getfield 21, 3) := by decide +kernel
theorem d_M_write_25 : decode prog_6_method_22_code 25 = .ok (.iload_n 1, 1) := by decide +kernel
theorem d_M_write_26 : decode prog_6_method_22_code 26 = .ok (.aload_n 0, 1) := by decide +kernel
theorem d_M_write_27 : decode prog_6_method_22_code 27 = .ok (.getfield 128, 3) := by decide +kernel
theorem d_M_write_30 : decode prog_6_method_22_code 30 = .ok (.aload_n 0, 1) := by decide +kernel
theorem d_M_write_31 : decode prog_6_method_22_code 31 = .ok (.getfield 84, 3) := by decide +kernel
theorem d_M_write_34 : decode prog_6_method_22_code 34 = .ok (.aload_n 0, 1) := by decide +kernel
theorem d_M_write_35 : decode prog_6_method_22_code 35 = .ok (.getfield 46, 3) := by decide +kernel
theorem d_M_write_38 : decode prog_6_method_22_code 38 = .ok (.invokevirtual 178, 3) := by decide +kernel
theorem d_M_write_41 : decode prog_6_method_22_code 41 = .ok (.iconst 1, 1) := by decide +kernel
theorem d_M_write_42 : decode prog_6_method_22_code 42 = .ok (.ireturn, 1) := by decide +kernel
theorem d_M_beginWithdrawal_0 : decode prog_6_method_7_code 0 = .ok (.aload_n 0, 1) := by decide +kernel
theorem d_M_beginWithdrawal_1 : decode prog_6_method_7_code 1 = .ok (.getfield 29, 3) := by decide +kernel
theorem d_M_beginWithdrawal_4 : decode prog_6_method_7_code 4 = .ok (.ifCond .eq 42, 3) := by decide +kernel
theorem d_M_beginWithdrawal_7 : decode prog_6_method_7_code 7 = .ok (.aload_n 0, 1) := by decide +kernel
theorem d_M_beginWithdrawal_8 : decode prog_6_method_7_code 8 = .ok (.getfield 37, 3) := by decide +kernel
theorem d_M_beginWithdrawal_11 : decode prog_6_method_7_code 11 = .ok (.iconst 3, 1) := by decide +kernel
theorem d_M_beginWithdrawal_12 : decode prog_6_method_7_code 12 = .ok (.if_icmp .ne 34, 3) := by decide +kernel
theorem d_M_beginWithdrawal_15 : decode prog_6_method_7_code 15 = .ok (.iload_n 1, 1) := by decide +kernel
theorem d_M_beginWithdrawal_16 : decode prog_6_method_7_code 16 = .ok (.i2l, 1) := by decide +kernel
theorem d_M_beginWithdrawal_17 : decode prog_6_method_7_code 17 = .ok (.invokestatic 75, 3) := by decide +kernel
theorem d_M_beginWithdrawal_20 : decode prog_6_method_7_code 20 = .ok (.ifCond .eq 26, 3) := by decide +kernel
theorem d_M_beginWithdrawal_23 : decode prog_6_method_7_code 23 = .ok (.aload_n 0, 1) := by decide +kernel
theorem d_M_beginWithdrawal_24 : decode prog_6_method_7_code 24 = .ok (.getfield 21, 3) := by decide +kernel
theorem d_M_beginWithdrawal_27 : decode prog_6_method_7_code 27 = .ok (.getfield 78, 3) := by decide +kernel
theorem d_M_beginWithdrawal_30 : decode prog_6_method_7_code 30 = .ok (.sipush 290, 3) := by decide +kernel
theorem d_M_beginWithdrawal_33 : decode prog_6_method_7_code 33 = .ok (.if_icmp .gt 13, 3) := by decide +kernel
theorem d_M_beginWithdrawal_36 : decode prog_6_method_7_code 36 = .ok (.aload_n 0, 1) := by decide +kernel
theorem d_M_beginWithdrawal_37 : decode prog_6_method_7_code 37 = .ok (.getfield 43, 3) := by decide +kernel
theorem d_M_beginWithdrawal_40 : decode prog_6_method_7_code 40 = .ok (.sipush 2000, 3) := by decide +kernel
theorem d_M_beginWithdrawal_43 : decode prog_6_method_7_code 43 = .ok (.if_icmp .le 5, 3) := by decide +kernel
theorem d_M_beginWithdrawal_46 : decode prog_6_method_7_code 46 = .ok (.iconst (-1), 1) := by decide +kernel
theorem d_M_beginWithdrawal_47 : decode prog_6_method_7_code 47 = .ok (.ireturn, 1) := by decide +kernel
theorem d_M_beginWithdrawal_48 : decode prog_6_method_7_code 48 = .ok (.aload_n 0, 1) := by decide +kernel
theorem d_M_beginWithdrawal_49 : decode prog_6_method_7_code 49 = .ok (.getfield 12, 3) := by decide +kernel
theorem d_M_beginWithdrawal_52 : decode prog_6_method_7_code 52 = .ok (.iload_n 1, 1) := by decide +kernel
theorem d_M_beginWithdrawal_53 : decode prog_6_method_7_code 53 = .ok (.invokevirtual 81, 3) := by decide +kernel
theorem d_M_beginWithdrawal_56 : decode prog_6_method_7_code 56 = .ok (.ifCond .ne 5, 3) := by decide +kernel
theorem d_M_beginWithdrawal_59 : decode prog_6_method_7_code 59 = .ok (.iconst 0, 1) := by decide +kernel
theorem d_M_beginWithdrawal_60 : decode prog_6_method_7_code 60 = .ok (.ireturn, 1) := by decide +kernel
theorem d_M_beginWithdrawal_61 : decode prog_6_method_7_code 61 = .ok (.aload_n 0, 1) := by decide +kernel
theorem d_M_beginWithdrawal_62 : decode prog_6_method_7_code 62 = .ok (.invokevirtual 68, 3) := by decide +kernel
theorem d_M_beginWithdrawal_65 : decode prog_6_method_7_code 65 = .ok (.aload_n 0, 1) := by decide +kernel
theorem d_M_beginWithdrawal_66 : decode prog_6_method_7_code 66 = .ok (.iload_n 1, 1) := by decide +kernel
theorem d_M_beginWithdrawal_67 : decode prog_6_method_7_code 67 = .ok (.putfield 84, 3) := by decide +kernel
theorem d_M_beginWithdrawal_70 : decode prog_6_method_7_code 70 = .ok (.aload_n 0, 1) := by decide +kernel
theorem d_M_beginWithdrawal_71 : decode prog_6_method_7_code 71 = .ok (.iconst 1, 1) := by decide +kernel
theorem d_M_beginWithdrawal_72 : decode prog_6_method_7_code 72 = .ok (.invokevirtual 87, 3) := by decide +kernel
theorem d_M_beginWithdrawal_75 : decode prog_6_method_7_code 75 = .ok (.ifCond .eq 25, 3) := by decide +kernel
theorem d_M_beginWithdrawal_78 : decode prog_6_method_7_code 78 = .ok (.aload_n 0, 1) := by decide +kernel
theorem d_M_beginWithdrawal_79 : decode prog_6_method_7_code 79 = .ok (.aload_n 0, 1) := by decide +kernel
theorem d_M_beginWithdrawal_80 : decode prog_6_method_7_code 80 = .ok (.getfield 90, 3) := by decide +kernel
theorem d_M_beginWithdrawal_83 : decode prog_6_method_7_code 83 = .ok (.putfield 93, 3) := by decide +kernel
theorem d_M_beginWithdrawal_86 : decode prog_6_method_7_code 86 = .ok (.aload_n 0, 1) := by decide +kernel
theorem d_M_beginWithdrawal_87 : decode prog_6_method_7_code 87 = .ok (.iconst 2, 1) := by decide +kernel
theorem d_M_beginWithdrawal_88 : decode prog_6_method_7_code 88 = .ok (.iload_n 1, 1) := by decide +kernel
theorem d_M_beginWithdrawal_89 : decode prog_6_method_7_code 89 = .ok (.invokevirtual 71, 3) := by decide +kernel
theorem d_M_beginWithdrawal_92 : decode prog_6_method_7_code 92 = .ok (.ifCond .eq 8, 3) := by decide +kernel
theorem d_M_beginWithdrawal_95 : decode prog_6_method_7_code 95 = .ok (.aload_n 0, 1) := by decide +kernel
theorem d_M_beginWithdrawal_96 : decode prog_6_method_7_code 96 = .ok (.iconst 4, 1) := by decide +kernel
theorem d_M_beginWithdrawal_97 : decode prog_6_method_7_code 97 = .ok (.putfield 37, 3) := by decide +kernel
theorem d_M_beginWithdrawal_100 : decode prog_6_method_7_code 100 = .ok (.iconst 1, 1) := by decide +kernel
theorem d_M_beginWithdrawal_101 : decode prog_6_method_7_code 101 = .ok (.ireturn, 1) := by decide +kernel
theorem d_A_ask_0 : decode prog_1_method_7_code 0 = .ok (.aload_n 0, 1) := by decide +kernel
theorem d_A_ask_1 : decode prog_1_method_7_code 1 = .ok (.getfield 28, 3) := by decide +kernel
theorem d_A_ask_4 : decode prog_1_method_7_code 4 = .ok (.iload_n 1, 1) := by decide +kernel
theorem d_A_ask_5 : decode prog_1_method_7_code 5 = .ok (.invokevirtual 57, 3) := by decide +kernel
theorem d_A_ask_8 : decode prog_1_method_7_code 8 = .ok (.ireturn, 1) := by decide +kernel
theorem d_M_endWithoutCard_0 : decode prog_6_method_19_code 0 = .ok (.aload_n 0, 1) := by decide +kernel
theorem d_M_endWithoutCard_1 : decode prog_6_method_19_code 1 = .ok (.iconst (-1), 1) := by decide +kernel
theorem d_M_endWithoutCard_2 : decode prog_6_method_19_code 2 = .ok (.putfield 40, 3) := by decide +kernel
theorem d_M_endWithoutCard_5 : decode prog_6_method_19_code 5 = .ok (.aload_n 0, 1) := by decide +kernel
theorem d_M_endWithoutCard_6 : decode prog_6_method_19_code 6 = .ok (.iconst 0, 1) := by decide +kernel
theorem d_M_endWithoutCard_7 : decode prog_6_method_19_code 7 = .ok (.putfield 37, 3) := by decide +kernel
theorem d_M_endWithoutCard_10 : decode prog_6_method_19_code 10 = .ok (.return_, 1) := by decide +kernel
theorem d_M_giveCardBack_0 : decode prog_6_method_4_code 0 = .ok (.aload_n 0, 1) := by decide +kernel
theorem d_M_giveCardBack_1 : decode prog_6_method_4_code 1 = .ok (.getfield 29, 3) := by decide +kernel
theorem d_M_giveCardBack_4 : decode prog_6_method_4_code 4 = .ok (.ifCond .eq 19, 3) := by decide +kernel
theorem d_M_giveCardBack_7 : decode prog_6_method_4_code 7 = .ok (.aload_n 0, 1) := by decide +kernel
theorem d_M_giveCardBack_8 : decode prog_6_method_4_code 8 = .ok (.getfield 37, 3) := by decide +kernel
theorem d_M_giveCardBack_11 : decode prog_6_method_4_code 11 = .ok (.iconst 1, 1) := by decide +kernel
theorem d_M_giveCardBack_12 : decode prog_6_method_4_code 12 = .ok (.if_icmp .eq 13, 3) := by decide +kernel
theorem d_M_giveCardBack_15 : decode prog_6_method_4_code 15 = .ok (.aload_n 0, 1) := by decide +kernel
theorem d_M_giveCardBack_16 : decode prog_6_method_4_code 16 = .ok (.getfield 37, 3) := by decide +kernel
theorem d_M_giveCardBack_19 : decode prog_6_method_4_code 19 = .ok (.iconst 3, 1) := by decide +kernel
theorem d_M_giveCardBack_20 : decode prog_6_method_4_code 20 = .ok (.if_icmp .eq 5, 3) := by decide +kernel
theorem d_M_giveCardBack_23 : decode prog_6_method_4_code 23 = .ok (.iconst 0, 1) := by decide +kernel
theorem d_M_giveCardBack_24 : decode prog_6_method_4_code 24 = .ok (.ireturn, 1) := by decide +kernel
theorem d_M_giveCardBack_25 : decode prog_6_method_4_code 25 = .ok (.aload_n 0, 1) := by decide +kernel
theorem d_M_giveCardBack_26 : decode prog_6_method_4_code 26 = .ok (.invokevirtual 61, 3) := by decide +kernel
theorem d_M_giveCardBack_29 : decode prog_6_method_4_code 29 = .ok (.iconst 1, 1) := by decide +kernel
theorem d_M_giveCardBack_30 : decode prog_6_method_4_code 30 = .ok (.ireturn, 1) := by decide +kernel
theorem d_A_eject_0 : decode prog_1_method_8_code 0 = .ok (.aload_n 0, 1) := by decide +kernel
theorem d_A_eject_1 : decode prog_1_method_8_code 1 = .ok (.getfield 28, 3) := by decide +kernel
theorem d_A_eject_4 : decode prog_1_method_8_code 4 = .ok (.invokevirtual 61, 3) := by decide +kernel
theorem d_A_eject_7 : decode prog_1_method_8_code 7 = .ok (.ireturn, 1) := by decide +kernel
theorem d_F_fill_0 : decode prog_13_method_103_code 0 = .ok (.iconst 0, 1) := by decide +kernel
theorem d_F_fill_1 : decode prog_13_method_103_code 1 = .ok (.istore_n 2, 1) := by decide +kernel
theorem d_F_fill_2 : decode prog_13_method_103_code 2 = .ok (.aload_n 0, 1) := by decide +kernel
theorem d_F_fill_3 : decode prog_13_method_103_code 3 = .ok (.arraylength, 1) := by decide +kernel
theorem d_F_fill_4 : decode prog_13_method_103_code 4 = .ok (.istore_n 3, 1) := by decide +kernel
theorem d_F_fill_5 : decode prog_13_method_103_code 5 = .ok (.iload_n 2, 1) := by decide +kernel
theorem d_F_fill_6 : decode prog_13_method_103_code 6 = .ok (.iload_n 3, 1) := by decide +kernel
theorem d_F_fill_7 : decode prog_13_method_103_code 7 = .ok (.if_icmp .ge 13, 3) := by decide +kernel
theorem d_F_fill_10 : decode prog_13_method_103_code 10 = .ok (.aload_n 0, 1) := by decide +kernel
theorem d_F_fill_11 : decode prog_13_method_103_code 11 = .ok (.iload_n 2, 1) := by decide +kernel
theorem d_F_fill_12 : decode prog_13_method_103_code 12 = .ok (.iload_n 1, 1) := by decide +kernel
theorem d_F_fill_13 : decode prog_13_method_103_code 13 = .ok (.iastore, 1) := by decide +kernel
theorem d_F_fill_14 : decode prog_13_method_103_code 14 = .ok (.iinc 2 1, 3) := by decide +kernel
theorem d_F_fill_17 : decode prog_13_method_103_code 17 = .ok (.goto (-12), 3) := by decide +kernel
theorem d_F_fill_20 : decode prog_13_method_103_code 20 = .ok (.return_, 1) := by decide +kernel
theorem d_O_clearTray_0 : decode prog_7_method_14_code 0 = .ok (.aload_n 0, 1) := by decide +kernel
theorem d_O_clearTray_1 : decode prog_7_method_14_code 1 = .ok (.getfield 88, 3) := by decide +kernel
theorem d_O_clearTray_4 : decode prog_7_method_14_code 4 = .ok (.istore_n 1, 1) := by decide +kernel
theorem d_O_clearTray_5 : decode prog_7_method_14_code 5 = .ok (.aload_n 0, 1) := by decide +kernel
theorem d_O_clearTray_6 : decode prog_7_method_14_code 6 = .ok (.getfield 29, 3) := by decide +kernel
theorem d_O_clearTray_9 : decode prog_7_method_14_code 9 = .ok (.iconst 0, 1) := by decide +kernel
theorem d_O_clearTray_10 : decode prog_7_method_14_code 10 = .ok (.invokestatic 95, 3) := by decide +kernel
theorem d_O_clearTray_13 : decode prog_7_method_14_code 13 = .ok (.aload_n 0, 1) := by decide +kernel
theorem d_O_clearTray_14 : decode prog_7_method_14_code 14 = .ok (.iconst 0, 1) := by decide +kernel
theorem d_O_clearTray_15 : decode prog_7_method_14_code 15 = .ok (.putfield 88, 3) := by decide +kernel
theorem d_O_clearTray_18 : decode prog_7_method_14_code 18 = .ok (.iload_n 1, 1) := by decide +kernel
theorem d_O_clearTray_19 : decode prog_7_method_14_code 19 = .ok (.ireturn, 1) := by decide +kernel
theorem d_A_take_0 : decode prog_1_method_9_code 0 = .ok (.aload_n 0, 1) := by decide +kernel
theorem d_A_take_1 : decode prog_1_method_9_code 1 = .ok (.getfield 28, 3) := by decide +kernel
theorem d_A_take_4 : decode prog_1_method_9_code 4 = .ok (.getfield 65, 3) := by decide +kernel
theorem d_A_take_7 : decode prog_1_method_9_code 7 = .ok (.invokevirtual 69, 3) := by decide +kernel
theorem d_A_take_10 : decode prog_1_method_9_code 10 = .ok (.ireturn, 1) := by decide +kernel
theorem d_O_areStacked_0 : decode prog_7_method_10_code 0 = .ok (.iconst 0, 1) := by decide +kernel
theorem d_O_areStacked_1 : decode prog_7_method_10_code 1 = .ok (.istore_n 1, 1) := by decide +kernel
theorem d_O_areStacked_2 : decode prog_7_method_10_code 2 = .ok (.iconst 0, 1) := by decide +kernel
theorem d_O_areStacked_3 : decode prog_7_method_10_code 3 = .ok (.istore_n 2, 1) := by decide +kernel
theorem d_O_areStacked_4 : decode prog_7_method_10_code 4 = .ok (.iload_n 2, 1) := by decide +kernel
theorem d_O_areStacked_5 : decode prog_7_method_10_code 5 = .ok (.iconst 4, 1) := by decide +kernel
theorem d_O_areStacked_6 : decode prog_7_method_10_code 6 = .ok (.if_icmp .ge 28, 3) := by decide +kernel
theorem d_O_areStacked_9 : decode prog_7_method_10_code 9 = .ok (.iload_n 1, 1) := by decide +kernel
theorem d_O_areStacked_10 : decode prog_7_method_10_code 10 = .ok (.ifCond .ne 12, 3) := by decide +kernel
theorem d_O_areStacked_13 : decode prog_7_method_10_code 13 = .ok (.aload_n 0, 1) := by decide +kernel
theorem d_O_areStacked_14 : decode prog_7_method_10_code 14 = .ok (.getfield 26, 3) := by decide +kernel
theorem d_O_areStacked_17 : decode prog_7_method_10_code 17 = .ok (.iload_n 2, 1) := by decide +kernel
theorem d_O_areStacked_18 : decode prog_7_method_10_code 18 = .ok (.iaload, 1) := by decide +kernel
theorem d_O_areStacked_19 : decode prog_7_method_10_code 19 = .ok (.ifCond .le 7, 3) := by decide +kernel
theorem d_O_areStacked_22 : decode prog_7_method_10_code 22 = .ok (.iconst 1, 1) := by decide +kernel
theorem d_O_areStacked_23 : decode prog_7_method_10_code 23 = .ok (.goto 4, 3) := by decide +kernel
theorem d_O_areStacked_26 : decode prog_7_method_10_code 26 = .ok (.iconst 0, 1) := by decide +kernel
theorem d_O_areStacked_27 : decode prog_7_method_10_code 27 = .ok (.istore_n 1, 1) := by decide +kernel
theorem d_O_areStacked_28 : decode prog_7_method_10_code 28 = .ok (.iinc 2 1, 3) := by decide +kernel
theorem d_O_areStacked_31 : decode prog_7_method_10_code 31 = .ok (.goto (-27), 3) := by decide +kernel
theorem d_O_areStacked_34 : decode prog_7_method_10_code 34 = .ok (.iload_n 1, 1) := by decide +kernel
theorem d_O_areStacked_35 : decode prog_7_method_10_code 35 = .ok (.ireturn, 1) := by decide +kernel
end
section
theorem d_O_emptyStackerInto_0 : decode prog_7_method_13_code 0 = .ok (.iconst 0, 1) := by decide +kernel
theorem d_O_emptyStackerInto_1 : decode prog_7_method_13_code 1 = .ok (.istore_n 2, 1) := by decide +kernel
theorem d_O_emptyStackerInto_2 : decode prog_7_method_13_code 2 = .ok (.iload_n 2, 1) := by decide +kernel
theorem d_O_emptyStackerInto_3 : decode prog_7_method_13_code 3 = .ok (.iconst 4, 1) := by decide +kernel
theorem d_O_emptyStackerInto_4 : decode prog_7_method_13_code 4 = .ok (.if_icmp .ge 34, 3) := by decide +kernel
theorem d_O_emptyStackerInto_7 : decode prog_7_method_13_code 7 = .ok (.iload_n 2, 1) := by decide +kernel
theorem d_O_emptyStackerInto_8 : decode prog_7_method_13_code 8 = .ok (.aload_n 1, 1) := by decide +kernel
theorem d_O_emptyStackerInto_9 : decode prog_7_method_13_code 9 = .ok (.arraylength, 1) := by decide +kernel
theorem d_O_emptyStackerInto_10 : decode prog_7_method_13_code 10 = .ok (.if_icmp .ge 28, 3) := by decide +kernel
theorem d_O_emptyStackerInto_13 : decode prog_7_method_13_code 13 = .ok (.aload_n 1, 1) := by decide +kernel
theorem d_O_emptyStackerInto_14 : decode prog_7_method_13_code 14 = .ok (.iload_n 2, 1) := by decide +kernel
theorem d_O_emptyStackerInto_15 : decode prog_7_method_13_code 15 = .ok (.dup2, 1) := by decide +kernel
theorem d_O_emptyStackerInto_16 : decode prog_7_method_13_code 16 = .ok (.iaload, 1) := by decide +kernel
theorem d_O_emptyStackerInto_17 : decode prog_7_method_13_code 17 = .ok (.aload_n 0, 1) := by decide +kernel
theorem d_O_emptyStackerInto_18 : decode prog_7_method_13_code 18 = .ok (.getfield 26, 3) := by decide +kernel
theorem d_O_emptyStackerInto_21 : decode prog_7_method_13_code 21 = .ok (.iload_n 2, 1) := by decide +kernel
theorem d_O_emptyStackerInto_22 : decode prog_7_method_13_code 22 = .ok (.iaload, 1) := by decide +kernel
theorem d_O_emptyStackerInto_23 : decode prog_7_method_13_code 23 = .ok (.iadd, 1) := by decide +kernel
theorem d_O_emptyStackerInto_24 : decode prog_7_method_13_code 24 = .ok (.iastore, 1) := by decide +kernel
theorem d_O_emptyStackerInto_25 : decode prog_7_method_13_code 25 = .ok (.aload_n 0, 1) := by decide +kernel
theorem d_O_emptyStackerInto_26 : decode prog_7_method_13_code 26 = .ok (.getfield 26, 3) := by decide +kernel
theorem d_O_emptyStackerInto_29 : decode prog_7_method_13_code 29 = .ok (.iload_n 2, 1) := by decide +kernel
theorem d_O_emptyStackerInto_30 : decode prog_7_method_13_code 30 = .ok (.iconst 0, 1) := by decide +kernel
theorem d_O_emptyStackerInto_31 : decode prog_7_method_13_code 31 = .ok (.iastore, 1) := by decide +kernel
theorem d_O_emptyStackerInto_32 : decode prog_7_method_13_code 32 = .ok (.iinc 2 1, 3) := by decide +kernel
theorem d_O_emptyStackerInto_35 : decode prog_7_method_13_code 35 = .ok (.goto (-33), 3) := by decide +kernel
theorem d_O_emptyStackerInto_38 : decode prog_7_method_13_code 38 = .ok (.return_, 1) := by decide +kernel
theorem d_O_moveStackerToBin_0 : decode prog_7_method_12_code 0 = .ok (.aload_n 0, 1) := by decide +kernel
theorem d_O_moveStackerToBin_1 : decode prog_7_method_12_code 1 = .ok (.aload_n 0, 1) := by decide +kernel
theorem d_O_moveStackerToBin_2 : decode prog_7_method_12_code 2 = .ok (.getfield 32, 3) := by decide +kernel
theorem d_O_moveStackerToBin_5 : decode prog_7_method_12_code 5 = .ok (.invokevirtual 84, 3) := by decide +kernel
theorem d_O_moveStackerToBin_8 : decode prog_7_method_12_code 8 = .ok (.aload_n 0, 1) := by decide +kernel
theorem d_O_moveStackerToBin_9 : decode prog_7_method_12_code 9 = .ok (.iconst 0, 1) := by decide +kernel
theorem d_O_moveStackerToBin_10 : decode prog_7_method_12_code 10 = .ok (.putfield 81, 3) := by decide +kernel
theorem d_O_moveStackerToBin_13 : decode prog_7_method_12_code 13 = .ok (.return_, 1) := by decide +kernel
theorem d_M_reverse_0 : decode prog_6_method_14_code 0 = .ok (.iload_n 1, 1) := by decide +kernel
theorem d_M_reverse_1 : decode prog_6_method_14_code 1 = .ok (.ifCond .eq 12, 3) := by decide +kernel
theorem d_M_reverse_4 : decode prog_6_method_14_code 4 = .ok (.aload_n 0, 1) := by decide +kernel
theorem d_M_reverse_5 : decode prog_6_method_14_code 5 = .ok (.iconst 4, 1) := by decide +kernel
theorem d_M_reverse_6 : decode prog_6_method_14_code 6 = .ok (.invokevirtual 87, 3) := by decide +kernel
theorem d_M_reverse_9 : decode prog_6_method_14_code 9 = .ok (.ifCond .ne 4, 3) := by decide +kernel
theorem d_M_reverse_12 : decode prog_6_method_14_code 12 = .ok (.return_, 1) := by decide +kernel
theorem d_M_reverse_13 : decode prog_6_method_14_code 13 = .ok (.aload_n 0, 1) := by decide +kernel
theorem d_M_reverse_14 : decode prog_6_method_14_code 14 = .ok (.getfield 12, 3) := by decide +kernel
theorem d_M_reverse_17 : decode prog_6_method_14_code 17 = .ok (.invokevirtual 150, 3) := by decide +kernel
theorem d_M_reverse_20 : decode prog_6_method_14_code 20 = .ok (.ifCond .eq 18, 3) := by decide +kernel
theorem d_M_reverse_23 : decode prog_6_method_14_code 23 = .ok (.aload_n 0, 1) := by decide +kernel
theorem d_M_reverse_24 : decode prog_6_method_14_code 24 = .ok (.invokevirtual 137, 3) := by decide +kernel
theorem d_M_reverse_27 : decode prog_6_method_14_code 27 = .ok (.ifCond .ne 4, 3) := by decide +kernel
theorem d_M_reverse_30 : decode prog_6_method_14_code 30 = .ok (.return_, 1) := by decide +kernel
theorem d_M_reverse_31 : decode prog_6_method_14_code 31 = .ok (.aload_n 0, 1) := by decide +kernel
theorem d_M_reverse_32 : decode prog_6_method_14_code 32 = .ok (.getfield 12, 3) := by decide +kernel
theorem d_M_reverse_35 : decode prog_6_method_14_code 35 = .ok (.invokevirtual 153, 3) := by decide +kernel
theorem d_M_reverse_38 : decode prog_6_method_14_code 38 = .ok (.aload_n 0, 1) := by decide +kernel
theorem d_M_reverse_39 : decode prog_6_method_14_code 39 = .ok (.iconst 3, 1) := by decide +kernel
theorem d_M_reverse_40 : decode prog_6_method_14_code 40 = .ok (.aload_n 0, 1) := by decide +kernel
theorem d_M_reverse_41 : decode prog_6_method_14_code 41 = .ok (.getfield 84, 3) := by decide +kernel
theorem d_M_reverse_44 : decode prog_6_method_14_code 44 = .ok (.invokevirtual 71, 3) := by decide +kernel
theorem d_M_reverse_47 : decode prog_6_method_14_code 47 = .ok (.ifCond .eq 13, 3) := by decide +kernel
theorem d_M_reverse_50 : decode prog_6_method_14_code 50 = .ok (.aload_n 0, 1) := by decide +kernel
theorem d_M_reverse_51 : decode prog_6_method_14_code 51 = .ok (.iconst (-1), 1) := by decide +kernel
theorem d_M_reverse_52 : decode prog_6_method_14_code 52 = .ok (.putfield 40, 3) := by decide +kernel
theorem d_M_reverse_55 : decode prog_6_method_14_code 55 = .ok (.aload_n 0, 1) := by decide +kernel
theorem d_M_reverse_56 : decode prog_6_method_14_code 56 = .ok (.iconst 5, 1) := by decide +kernel
theorem d_M_reverse_57 : decode prog_6_method_14_code 57 = .ok (.putfield 37, 3) := by decide +kernel
theorem d_M_reverse_60 : decode prog_6_method_14_code 60 = .ok (.return_, 1) := by decide +kernel
theorem d_M_endWaiting_0 : decode prog_6_method_8_code 0 = .ok (.aload_n 0, 1) := by decide +kernel
theorem d_M_endWaiting_1 : decode prog_6_method_8_code 1 = .ok (.getfield 29, 3) := by decide +kernel
theorem d_M_endWaiting_4 : decode prog_6_method_8_code 4 = .ok (.ifCond .ne 5, 3) := by decide +kernel
theorem d_M_endWaiting_7 : decode prog_6_method_8_code 7 = .ok (.iconst 0, 1) := by decide +kernel
theorem d_M_endWaiting_8 : decode prog_6_method_8_code 8 = .ok (.ireturn, 1) := by decide +kernel
theorem d_M_endWaiting_9 : decode prog_6_method_8_code 9 = .ok (.aload_n 0, 1) := by decide +kernel
theorem d_M_endWaiting_10 : decode prog_6_method_8_code 10 = .ok (.getfield 37, 3) := by decide +kernel
theorem d_M_endWaiting_13 : decode prog_6_method_8_code 13 = .ok (.tableswitch 56 2 5 #[31, 56, 37, 44], 31) := by decide +kernel
theorem d_M_endWaiting_44 : decode prog_6_method_8_code 44 = .ok (.aload_n 0, 1) := by decide +kernel
theorem d_M_endWaiting_45 : decode prog_6_method_8_code 45 = .ok (.invokevirtual 61, 3) := by decide +kernel
theorem d_M_endWaiting_48 : decode prog_6_method_8_code 48 = .ok (.iconst 1, 1) := by decide +kernel
theorem d_M_endWaiting_49 : decode prog_6_method_8_code 49 = .ok (.ireturn, 1) := by decide +kernel
theorem d_M_endWaiting_50 : decode prog_6_method_8_code 50 = .ok (.aload_n 0, 1) := by decide +kernel
theorem d_M_endWaiting_51 : decode prog_6_method_8_code 51 = .ok (.iconst 1, 1) := by decide +kernel
theorem d_M_endWaiting_52 : decode prog_6_method_8_code 52 = .ok (.invokevirtual 96, 3) := by decide +kernel
theorem d_M_endWaiting_55 : decode prog_6_method_8_code 55 = .ok (.iconst 1, 1) := by decide +kernel
theorem d_M_endWaiting_56 : decode prog_6_method_8_code 56 = .ok (.ireturn, 1) := by decide +kernel
theorem d_M_endWaiting_57 : decode prog_6_method_8_code 57 = .ok (.aload_n 0, 1) := by decide +kernel
theorem d_M_endWaiting_58 : decode prog_6_method_8_code 58 = .ok (.iconst 3, 1) := by decide +kernel
theorem d_M_endWaiting_59 : decode prog_6_method_8_code 59 = .ok (.aload_n 0, 1) := by decide +kernel
theorem d_M_endWaiting_60 : decode prog_6_method_8_code 60 = .ok (.getfield 84, 3) := by decide +kernel
theorem d_M_endWaiting_63 : decode prog_6_method_8_code 63 = .ok (.invokevirtual 71, 3) := by decide +kernel
theorem d_M_endWaiting_66 : decode prog_6_method_8_code 66 = .ok (.pop, 1) := by decide +kernel
theorem d_M_endWaiting_67 : decode prog_6_method_8_code 67 = .ok (.iconst 1, 1) := by decide +kernel
theorem d_M_endWaiting_68 : decode prog_6_method_8_code 68 = .ok (.ireturn, 1) := by decide +kernel
theorem d_M_endWaiting_69 : decode prog_6_method_8_code 69 = .ok (.iconst 0, 1) := by decide +kernel
theorem d_M_endWaiting_70 : decode prog_6_method_8_code 70 = .ok (.ireturn, 1) := by decide +kernel
theorem d_A_timeout_0 : decode prog_1_method_10_code 0 = .ok (.aload_n 0, 1) := by decide +kernel
theorem d_A_timeout_1 : decode prog_1_method_10_code 1 = .ok (.getfield 28, 3) := by decide +kernel
theorem d_A_timeout_4 : decode prog_1_method_10_code 4 = .ok (.invokevirtual 75, 3) := by decide +kernel
theorem d_A_timeout_7 : decode prog_1_method_10_code 7 = .ok (.ireturn, 1) := by decide +kernel
theorem d_E_copyFrom_0 : decode prog_4_method_3_code 0 = .ok (.aload_n 1, 1) := by decide +kernel
theorem d_E_copyFrom_1 : decode prog_4_method_3_code 1 = .ok (.getfield 9, 3) := by decide +kernel
theorem d_E_copyFrom_4 : decode prog_4_method_3_code 4 = .ok (.iconst 0, 1) := by decide +kernel
theorem d_E_copyFrom_5 : decode prog_4_method_3_code 5 = .ok (.aload_n 0, 1) := by decide +kernel
theorem d_E_copyFrom_6 : decode prog_4_method_3_code 6 = .ok (.getfield 9, 3) := by decide +kernel
theorem d_E_copyFrom_9 : decode prog_4_method_3_code 9 = .ok (.iconst 0, 1) := by decide +kernel
theorem d_E_copyFrom_10 : decode prog_4_method_3_code 10 = .ok (.bipush 13, 2) := by decide +kernel
theorem d_E_copyFrom_12 : decode prog_4_method_3_code 12 = .ok (.invokestatic 23, 3) := by decide +kernel
theorem d_E_copyFrom_15 : decode prog_4_method_3_code 15 = .ok (.aload_n 0, 1) := by decide +kernel
theorem d_E_copyFrom_16 : decode prog_4_method_3_code 16 = .ok (.aload_n 1, 1) := by decide +kernel
theorem d_E_copyFrom_17 : decode prog_4_method_3_code 17 = .ok (.getfield 29, 3) := by decide +kernel
theorem d_E_copyFrom_20 : decode prog_4_method_3_code 20 = .ok (.putfield 29, 3) := by decide +kernel
theorem d_E_copyFrom_23 : decode prog_4_method_3_code 23 = .ok (.return_, 1) := by decide +kernel
theorem d_N_copyTo_0 : decode prog_5_method_4_code 0 = .ok (.aload_n 0, 1) := by decide +kernel
theorem d_N_copyTo_1 : decode prog_5_method_4_code 1 = .ok (.iload_n 1, 1) := by decide +kernel
theorem d_N_copyTo_2 : decode prog_5_method_4_code 2 = .ok (.invokevirtual 37, 3) := by decide +kernel
theorem d_N_copyTo_5 : decode prog_5_method_4_code 5 = .ok (.ifCond .eq 13, 3) := by decide +kernel
theorem d_N_copyTo_8 : decode prog_5_method_4_code 8 = .ok (.aload_n 2, 1) := by decide +kernel
theorem d_N_copyTo_9 : decode prog_5_method_4_code 9 = .ok (.aload_n 0, 1) := by decide +kernel
theorem d_N_copyTo_10 : decode prog_5_method_4_code 10 = .ok (.getfield 11, 3) := by decide +kernel
theorem d_N_copyTo_13 : decode prog_5_method_4_code 13 = .ok (.iload_n 1, 1) := by decide +kernel
theorem d_N_copyTo_14 : decode prog_5_method_4_code 14 = .ok (.aaload, 1) := by decide +kernel
theorem d_N_copyTo_15 : decode prog_5_method_4_code 15 = .ok (.invokevirtual 41, 3) := by decide +kernel
theorem d_N_copyTo_18 : decode prog_5_method_4_code 18 = .ok (.return_, 1) := by decide +kernel
theorem d_E_isSound_0 : decode prog_4_method_9_code 0 = .ok (.aload_n 0, 1) := by decide +kernel
theorem d_E_isSound_1 : decode prog_4_method_9_code 1 = .ok (.invokevirtual 19, 3) := by decide +kernel
theorem d_E_isSound_4 : decode prog_4_method_9_code 4 = .ok (.aload_n 0, 1) := by decide +kernel
theorem d_E_isSound_5 : decode prog_4_method_9_code 5 = .ok (.getfield 9, 3) := by decide +kernel
theorem d_E_isSound_8 : decode prog_4_method_9_code 8 = .ok (.bipush 11, 2) := by decide +kernel
theorem d_E_isSound_10 : decode prog_4_method_9_code 10 = .ok (.iaload, 1) := by decide +kernel
theorem d_E_isSound_11 : decode prog_4_method_9_code 11 = .ok (.sipush 256, 3) := by decide +kernel
theorem d_E_isSound_14 : decode prog_4_method_9_code 14 = .ok (.imul, 1) := by decide +kernel
theorem d_E_isSound_15 : decode prog_4_method_9_code 15 = .ok (.aload_n 0, 1) := by decide +kernel
theorem d_E_isSound_16 : decode prog_4_method_9_code 16 = .ok (.getfield 9, 3) := by decide +kernel
theorem d_E_isSound_19 : decode prog_4_method_9_code 19 = .ok (.bipush 12, 2) := by decide +kernel
theorem d_E_isSound_21 : decode prog_4_method_9_code 21 = .ok (.iaload, 1) := by decide +kernel
theorem d_E_isSound_22 : decode prog_4_method_9_code 22 = .ok (.iadd, 1) := by decide +kernel
theorem d_E_isSound_23 : decode prog_4_method_9_code 23 = .ok (.if_icmp .ne 7, 3) := by decide +kernel
theorem d_E_isSound_26 : decode prog_4_method_9_code 26 = .ok (.iconst 1, 1) := by decide +kernel
theorem d_E_isSound_27 : decode prog_4_method_9_code 27 = .ok (.goto 4, 3) := by decide +kernel
theorem d_E_isSound_30 : decode prog_4_method_9_code 30 = .ok (.iconst 0, 1) := by decide +kernel
theorem d_E_isSound_31 : decode prog_4_method_9_code 31 = .ok (.ireturn, 1) := by decide +kernel
theorem d_E_readNumber_0 : decode prog_4_method_12_code 0 = .ok (.lconst 0, 1) := by decide +kernel
theorem d_E_readNumber_1 : decode prog_4_method_12_code 1 = .ok (.lstore_n 2, 1) := by decide +kernel
theorem d_E_readNumber_2 : decode prog_4_method_12_code 2 = .ok (.iconst 0, 1) := by decide +kernel
theorem d_E_readNumber_3 : decode prog_4_method_12_code 3 = .ok (.istore 4, 2) := by decide +kernel
theorem d_E_readNumber_5 : decode prog_4_method_12_code 5 = .ok (.iload 4, 2) := by decide +kernel
theorem d_E_readNumber_7 : decode prog_4_method_12_code 7 = .ok (.iconst 4, 1) := by decide +kernel
theorem d_E_readNumber_8 : decode prog_4_method_12_code 8 = .ok (.if_icmp .ge 35, 3) := by decide +kernel
theorem d_E_readNumber_11 : decode prog_4_method_12_code 11 = .ok (.iload_n 1, 1) := by decide +kernel
theorem d_E_readNumber_12 : decode prog_4_method_12_code 12 = .ok (.iload 4, 2) := by decide +kernel
theorem d_E_readNumber_14 : decode prog_4_method_12_code 14 = .ok (.iadd, 1) := by decide +kernel
theorem d_E_readNumber_15 : decode prog_4_method_12_code 15 = .ok (.bipush 13, 2) := by decide +kernel
theorem d_E_readNumber_17 : decode prog_4_method_12_code 17 = .ok (.if_icmp .ge 26, 3) := by decide +kernel
theorem d_E_readNumber_20 : decode prog_4_method_12_code 20 = .ok (.lload_n 2, 1) := by decide +kernel
theorem d_E_readNumber_21 : decode prog_4_method_12_code 21 = .ok (.ldc2_w 38, 3) := by decide +kernel
theorem d_E_readNumber_24 : decode prog_4_method_12_code 24 = .ok (.lmul, 1) := by decide +kernel
theorem d_E_readNumber_25 : decode prog_4_method_12_code 25 = .ok (.aload_n 0, 1) := by decide +kernel
theorem d_E_readNumber_26 : decode prog_4_method_12_code 26 = .ok (.getfield 9, 3) := by decide +kernel
theorem d_E_readNumber_29 : decode prog_4_method_12_code 29 = .ok (.iload_n 1, 1) := by decide +kernel
theorem d_E_readNumber_30 : decode prog_4_method_12_code 30 = .ok (.iload 4, 2) := by decide +kernel
theorem d_E_readNumber_32 : decode prog_4_method_12_code 32 = .ok (.iadd, 1) := by decide +kernel
theorem d_E_readNumber_33 : decode prog_4_method_12_code 33 = .ok (.iaload, 1) := by decide +kernel
theorem d_E_readNumber_34 : decode prog_4_method_12_code 34 = .ok (.i2l, 1) := by decide +kernel
theorem d_E_readNumber_35 : decode prog_4_method_12_code 35 = .ok (.ladd, 1) := by decide +kernel
theorem d_E_readNumber_36 : decode prog_4_method_12_code 36 = .ok (.lstore_n 2, 1) := by decide +kernel
theorem d_E_readNumber_37 : decode prog_4_method_12_code 37 = .ok (.iinc 4 1, 3) := by decide +kernel
theorem d_E_readNumber_40 : decode prog_4_method_12_code 40 = .ok (.goto (-35), 3) := by decide +kernel
theorem d_E_readNumber_43 : decode prog_4_method_12_code 43 = .ok (.lload_n 2, 1) := by decide +kernel
theorem d_E_readNumber_44 : decode prog_4_method_12_code 44 = .ok (.lreturn, 1) := by decide +kernel
theorem d_E_trace_0 : decode prog_4_method_5_code 0 = .ok (.aload_n 0, 1) := by decide +kernel
theorem d_E_trace_1 : decode prog_4_method_5_code 1 = .ok (.iconst 1, 1) := by decide +kernel
theorem d_E_trace_2 : decode prog_4_method_5_code 2 = .ok (.invokevirtual 33, 3) := by decide +kernel
theorem d_E_trace_5 : decode prog_4_method_5_code 5 = .ok (.lreturn, 1) := by decide +kernel
theorem d_E_kind_0 : decode prog_4_method_4_code 0 = .ok (.aload_n 0, 1) := by decide +kernel
theorem d_E_kind_1 : decode prog_4_method_4_code 1 = .ok (.getfield 9, 3) := by decide +kernel
theorem d_E_kind_4 : decode prog_4_method_4_code 4 = .ok (.iconst 0, 1) := by decide +kernel
theorem d_E_kind_5 : decode prog_4_method_4_code 5 = .ok (.iaload, 1) := by decide +kernel
theorem d_E_kind_6 : decode prog_4_method_4_code 6 = .ok (.ireturn, 1) := by decide +kernel
theorem d_M_isAwaited_0 : decode prog_6_method_10_code 0 = .ok (.aload_n 1, 1) := by decide +kernel
theorem d_M_isAwaited_1 : decode prog_6_method_10_code 1 = .ok (.invokevirtual 124, 3) := by decide +kernel
theorem d_M_isAwaited_4 : decode prog_6_method_10_code 4 = .ok (.aload_n 0, 1) := by decide +kernel
theorem d_M_isAwaited_5 : decode prog_6_method_10_code 5 = .ok (.getfield 128, 3) := by decide +kernel
theorem d_M_isAwaited_8 : decode prog_6_method_10_code 8 = .ok (.i2l, 1) := by decide +kernel
theorem d_M_isAwaited_9 : decode prog_6_method_10_code 9 = .ok (.lcmp, 1) := by decide +kernel
theorem d_M_isAwaited_10 : decode prog_6_method_10_code 10 = .ok (.ifCond .eq 5, 3) := by decide +kernel
theorem d_M_isAwaited_13 : decode prog_6_method_10_code 13 = .ok (.iconst 0, 1) := by decide +kernel
theorem d_M_isAwaited_14 : decode prog_6_method_10_code 14 = .ok (.ireturn, 1) := by decide +kernel
theorem d_M_isAwaited_15 : decode prog_6_method_10_code 15 = .ok (.aload_n 0, 1) := by decide +kernel
theorem d_M_isAwaited_16 : decode prog_6_method_10_code 16 = .ok (.getfield 37, 3) := by decide +kernel
theorem d_M_isAwaited_19 : decode prog_6_method_10_code 19 = .ok (.tableswitch 77 2 5 #[29, 77, 45, 61], 29) := by decide +kernel
theorem d_M_isAwaited_48 : decode prog_6_method_10_code 48 = .ok (.aload_n 1, 1) := by decide +kernel
theorem d_M_isAwaited_49 : decode prog_6_method_10_code 49 = .ok (.invokevirtual 131, 3) := by decide +kernel
theorem d_M_isAwaited_52 : decode prog_6_method_10_code 52 = .ok (.sipush 129, 3) := by decide +kernel
theorem d_M_isAwaited_55 : decode prog_6_method_10_code 55 = .ok (.if_icmp .ne 7, 3) := by decide +kernel
theorem d_M_isAwaited_58 : decode prog_6_method_10_code 58 = .ok (.iconst 1, 1) := by decide +kernel
theorem d_M_isAwaited_59 : decode prog_6_method_10_code 59 = .ok (.goto 4, 3) := by decide +kernel
theorem d_M_isAwaited_62 : decode prog_6_method_10_code 62 = .ok (.iconst 0, 1) := by decide +kernel
theorem d_M_isAwaited_63 : decode prog_6_method_10_code 63 = .ok (.ireturn, 1) := by decide +kernel
theorem d_M_isAwaited_64 : decode prog_6_method_10_code 64 = .ok (.aload_n 1, 1) := by decide +kernel
theorem d_M_isAwaited_65 : decode prog_6_method_10_code 65 = .ok (.invokevirtual 131, 3) := by decide +kernel
theorem d_M_isAwaited_68 : decode prog_6_method_10_code 68 = .ok (.sipush 130, 3) := by decide +kernel
theorem d_M_isAwaited_71 : decode prog_6_method_10_code 71 = .ok (.if_icmp .ne 7, 3) := by decide +kernel
theorem d_M_isAwaited_74 : decode prog_6_method_10_code 74 = .ok (.iconst 1, 1) := by decide +kernel
theorem d_M_isAwaited_75 : decode prog_6_method_10_code 75 = .ok (.goto 4, 3) := by decide +kernel
theorem d_M_isAwaited_78 : decode prog_6_method_10_code 78 = .ok (.iconst 0, 1) := by decide +kernel
theorem d_M_isAwaited_79 : decode prog_6_method_10_code 79 = .ok (.ireturn, 1) := by decide +kernel
theorem d_M_isAwaited_80 : decode prog_6_method_10_code 80 = .ok (.aload_n 1, 1) := by decide +kernel
theorem d_M_isAwaited_81 : decode prog_6_method_10_code 81 = .ok (.invokevirtual 131, 3) := by decide +kernel
theorem d_M_isAwaited_84 : decode prog_6_method_10_code 84 = .ok (.sipush 131, 3) := by decide +kernel
theorem d_M_isAwaited_87 : decode prog_6_method_10_code 87 = .ok (.if_icmp .ne 7, 3) := by decide +kernel
theorem d_M_isAwaited_90 : decode prog_6_method_10_code 90 = .ok (.iconst 1, 1) := by decide +kernel
theorem d_M_isAwaited_91 : decode prog_6_method_10_code 91 = .ok (.goto 4, 3) := by decide +kernel
theorem d_M_isAwaited_94 : decode prog_6_method_10_code 94 = .ok (.iconst 0, 1) := by decide +kernel
theorem d_M_isAwaited_95 : decode prog_6_method_10_code 95 = .ok (.ireturn, 1) := by decide +kernel
theorem d_M_isAwaited_96 : decode prog_6_method_10_code 96 = .ok (.iconst 0, 1) := by decide +kernel
theorem d_M_isAwaited_97 : decode prog_6_method_10_code 97 = .ok (.ireturn, 1) := by decide +kernel
theorem d_E_code_0 : decode prog_4_method_8_code 0 = .ok (.aload_n 0, 1) := by decide +kernel
theorem d_E_code_1 : decode prog_4_method_8_code 1 = .ok (.getfield 9, 3) := by decide +kernel
theorem d_E_code_4 : decode prog_4_method_8_code 4 = .ok (.bipush 10, 2) := by decide +kernel
theorem d_E_code_6 : decode prog_4_method_8_code 6 = .ok (.iaload, 1) := by decide +kernel
theorem d_E_code_7 : decode prog_4_method_8_code 7 = .ok (.ireturn, 1) := by decide +kernel
theorem d_M_endPinCheck_0 : decode prog_6_method_11_code 0 = .ok (.iload_n 1, 1) := by decide +kernel
theorem d_M_endPinCheck_1 : decode prog_6_method_11_code 1 = .ok (.ifCond .ne 11, 3) := by decide +kernel
theorem d_M_endPinCheck_4 : decode prog_6_method_11_code 4 = .ok (.aload_n 0, 1) := by decide +kernel
theorem d_M_endPinCheck_5 : decode prog_6_method_11_code 5 = .ok (.iconst 3, 1) := by decide +kernel
theorem d_M_endPinCheck_6 : decode prog_6_method_11_code 6 = .ok (.putfield 37, 3) := by decide +kernel
theorem d_M_endPinCheck_9 : decode prog_6_method_11_code 9 = .ok (.goto 40, 3) := by decide +kernel
theorem d_M_endPinCheck_12 : decode prog_6_method_11_code 12 = .ok (.iload_n 1, 1) := by decide +kernel
theorem d_M_endPinCheck_13 : decode prog_6_method_11_code 13 = .ok (.iconst 2, 1) := by decide +kernel
theorem d_M_endPinCheck_14 : decode prog_6_method_11_code 14 = .ok (.if_icmp .ne 30, 3) := by decide +kernel
theorem d_M_endPinCheck_17 : decode prog_6_method_11_code 17 = .ok (.aload_n 0, 1) := by decide +kernel
theorem d_M_endPinCheck_18 : decode prog_6_method_11_code 18 = .ok (.getfield 40, 3) := by decide +kernel
theorem d_M_endPinCheck_21 : decode prog_6_method_11_code 21 = .ok (.invokestatic 57, 3) := by decide +kernel
theorem d_M_endPinCheck_24 : decode prog_6_method_11_code 24 = .ok (.ifCond .eq 13, 3) := by decide +kernel
theorem d_M_endPinCheck_27 : decode prog_6_method_11_code 27 = .ok (.aload_n 0, 1) := by decide +kernel
theorem d_M_endPinCheck_28 : decode prog_6_method_11_code 28 = .ok (.getfield 25, 3) := by decide +kernel
theorem d_M_endPinCheck_31 : decode prog_6_method_11_code 31 = .ok (.aload_n 0, 1) := by decide +kernel
theorem d_M_endPinCheck_32 : decode prog_6_method_11_code 32 = .ok (.getfield 40, 3) := by decide +kernel
theorem d_M_endPinCheck_35 : decode prog_6_method_11_code 35 = .ok (.iconst 1, 1) := by decide +kernel
theorem d_M_endPinCheck_36 : decode prog_6_method_11_code 36 = .ok (.bastore, 1) := by decide +kernel
theorem d_M_endPinCheck_37 : decode prog_6_method_11_code 37 = .ok (.aload_n 0, 1) := by decide +kernel
theorem d_M_endPinCheck_38 : decode prog_6_method_11_code 38 = .ok (.invokevirtual 61, 3) := by decide +kernel
theorem d_M_endPinCheck_41 : decode prog_6_method_11_code 41 = .ok (.goto 8, 3) := by decide +kernel
theorem d_M_endPinCheck_44 : decode prog_6_method_11_code 44 = .ok (.aload_n 0, 1) := by decide +kernel
theorem d_M_endPinCheck_45 : decode prog_6_method_11_code 45 = .ok (.iconst 1, 1) := by decide +kernel
theorem d_M_endPinCheck_46 : decode prog_6_method_11_code 46 = .ok (.putfield 37, 3) := by decide +kernel
theorem d_M_endPinCheck_49 : decode prog_6_method_11_code 49 = .ok (.return_, 1) := by decide +kernel
theorem d_O_stackOne_0 : decode prog_7_method_9_code 0 = .ok (.iload_n 1, 1) := by decide +kernel
theorem d_O_stackOne_1 : decode prog_7_method_9_code 1 = .ok (.invokestatic 38, 3) := by decide +kernel
theorem d_O_stackOne_4 : decode prog_7_method_9_code 4 = .ok (.ifCond .eq 47, 3) := by decide +kernel
theorem d_O_stackOne_7 : decode prog_7_method_9_code 7 = .ok (.aload_n 0, 1) := by decide +kernel
theorem d_O_stackOne_8 : decode prog_7_method_9_code 8 = .ok (.getfield 23, 3) := by decide +kernel
theorem d_O_stackOne_11 : decode prog_7_method_9_code 11 = .ok (.iload_n 1, 1) := by decide +kernel
theorem d_O_stackOne_12 : decode prog_7_method_9_code 12 = .ok (.iaload, 1) := by decide +kernel
theorem d_O_stackOne_13 : decode prog_7_method_9_code 13 = .ok (.ifCond .le 38, 3) := by decide +kernel
theorem d_O_stackOne_16 : decode prog_7_method_9_code 16 = .ok (.aload_n 0, 1) := by decide +kernel
theorem d_O_stackOne_17 : decode prog_7_method_9_code 17 = .ok (.getfield 23, 3) := by decide +kernel
theorem d_O_stackOne_20 : decode prog_7_method_9_code 20 = .ok (.iload_n 1, 1) := by decide +kernel
theorem d_O_stackOne_21 : decode prog_7_method_9_code 21 = .ok (.dup2, 1) := by decide +kernel
theorem d_O_stackOne_22 : decode prog_7_method_9_code 22 = .ok (.iaload, 1) := by decide +kernel
theorem d_O_stackOne_23 : decode prog_7_method_9_code 23 = .ok (.iconst 1, 1) := by decide +kernel
theorem d_O_stackOne_24 : decode prog_7_method_9_code 24 = .ok (.isub, 1) := by decide +kernel
theorem d_O_stackOne_25 : decode prog_7_method_9_code 25 = .ok (.iastore, 1) := by decide +kernel
theorem d_O_stackOne_26 : decode prog_7_method_9_code 26 = .ok (.aload_n 0, 1) := by decide +kernel
theorem d_O_stackOne_27 : decode prog_7_method_9_code 27 = .ok (.getfield 26, 3) := by decide +kernel
theorem d_O_stackOne_30 : decode prog_7_method_9_code 30 = .ok (.iload_n 1, 1) := by decide +kernel
theorem d_O_stackOne_31 : decode prog_7_method_9_code 31 = .ok (.dup2, 1) := by decide +kernel
theorem d_O_stackOne_32 : decode prog_7_method_9_code 32 = .ok (.iaload, 1) := by decide +kernel
theorem d_O_stackOne_33 : decode prog_7_method_9_code 33 = .ok (.iconst 1, 1) := by decide +kernel
theorem d_O_stackOne_34 : decode prog_7_method_9_code 34 = .ok (.iadd, 1) := by decide +kernel
theorem d_O_stackOne_35 : decode prog_7_method_9_code 35 = .ok (.iastore, 1) := by decide +kernel
theorem d_O_stackOne_36 : decode prog_7_method_9_code 36 = .ok (.aload_n 0, 1) := by decide +kernel
theorem d_O_stackOne_37 : decode prog_7_method_9_code 37 = .ok (.dup, 1) := by decide +kernel
theorem d_O_stackOne_38 : decode prog_7_method_9_code 38 = .ok (.getfield 81, 3) := by decide +kernel
theorem d_O_stackOne_41 : decode prog_7_method_9_code 41 = .ok (.aload_n 0, 1) := by decide +kernel
theorem d_O_stackOne_42 : decode prog_7_method_9_code 42 = .ok (.getfield 18, 3) := by decide +kernel
theorem d_O_stackOne_45 : decode prog_7_method_9_code 45 = .ok (.iload_n 1, 1) := by decide +kernel
theorem d_O_stackOne_46 : decode prog_7_method_9_code 46 = .ok (.iaload, 1) := by decide +kernel
theorem d_O_stackOne_47 : decode prog_7_method_9_code 47 = .ok (.iadd, 1) := by decide +kernel
theorem d_O_stackOne_48 : decode prog_7_method_9_code 48 = .ok (.putfield 81, 3) := by decide +kernel
theorem d_O_stackOne_51 : decode prog_7_method_9_code 51 = .ok (.return_, 1) := by decide +kernel
theorem d_M_stackMix_0 : decode prog_6_method_13_code 0 = .ok (.iconst 0, 1) := by decide +kernel
theorem d_M_stackMix_1 : decode prog_6_method_13_code 1 = .ok (.istore_n 1, 1) := by decide +kernel
theorem d_M_stackMix_2 : decode prog_6_method_13_code 2 = .ok (.iload_n 1, 1) := by decide +kernel
theorem d_M_stackMix_3 : decode prog_6_method_13_code 3 = .ok (.iconst 4, 1) := by decide +kernel
theorem d_M_stackMix_4 : decode prog_6_method_13_code 4 = .ok (.if_icmp .ge 47, 3) := by decide +kernel
theorem d_M_stackMix_7 : decode prog_6_method_13_code 7 = .ok (.iconst 0, 1) := by decide +kernel
theorem d_M_stackMix_8 : decode prog_6_method_13_code 8 = .ok (.istore_n 2, 1) := by decide +kernel
theorem d_M_stackMix_9 : decode prog_6_method_13_code 9 = .ok (.iload_n 2, 1) := by decide +kernel
theorem d_M_stackMix_10 : decode prog_6_method_13_code 10 = .ok (.aload_n 0, 1) := by decide +kernel
theorem d_M_stackMix_11 : decode prog_6_method_13_code 11 = .ok (.getfield 12, 3) := by decide +kernel
theorem d_M_stackMix_14 : decode prog_6_method_13_code 14 = .ok (.getfield 143, 3) := by decide +kernel
theorem d_M_stackMix_17 : decode prog_6_method_13_code 17 = .ok (.iload_n 1, 1) := by decide +kernel
theorem d_M_stackMix_18 : decode prog_6_method_13_code 18 = .ok (.iaload, 1) := by decide +kernel
theorem d_M_stackMix_19 : decode prog_6_method_13_code 19 = .ok (.if_icmp .ge 26, 3) := by decide +kernel
theorem d_M_stackMix_22 : decode prog_6_method_13_code 22 = .ok (.aload_n 0, 1) := by decide +kernel
theorem d_M_stackMix_23 : decode prog_6_method_13_code 23 = .ok (.invokevirtual 137, 3) := by decide +kernel
theorem d_M_stackMix_26 : decode prog_6_method_13_code 26 = .ok (.ifCond .ne 5, 3) := by decide +kernel
theorem d_M_stackMix_29 : decode prog_6_method_13_code 29 = .ok (.iconst 0, 1) := by decide +kernel
theorem d_M_stackMix_30 : decode prog_6_method_13_code 30 = .ok (.ireturn, 1) := by decide +kernel
theorem d_M_stackMix_31 : decode prog_6_method_13_code 31 = .ok (.aload_n 0, 1) := by decide +kernel
theorem d_M_stackMix_32 : decode prog_6_method_13_code 32 = .ok (.getfield 12, 3) := by decide +kernel
theorem d_M_stackMix_35 : decode prog_6_method_13_code 35 = .ok (.iload_n 1, 1) := by decide +kernel
theorem d_M_stackMix_36 : decode prog_6_method_13_code 36 = .ok (.invokevirtual 147, 3) := by decide +kernel
theorem d_M_stackMix_39 : decode prog_6_method_13_code 39 = .ok (.iinc 2 1, 3) := by decide +kernel
theorem d_M_stackMix_42 : decode prog_6_method_13_code 42 = .ok (.goto (-33), 3) := by decide +kernel
theorem d_M_stackMix_45 : decode prog_6_method_13_code 45 = .ok (.iinc 1 1, 3) := by decide +kernel
theorem d_M_stackMix_48 : decode prog_6_method_13_code 48 = .ok (.goto (-46), 3) := by decide +kernel
theorem d_M_stackMix_51 : decode prog_6_method_13_code 51 = .ok (.iconst 1, 1) := by decide +kernel
theorem d_M_stackMix_52 : decode prog_6_method_13_code 52 = .ok (.ireturn, 1) := by decide +kernel
theorem d_O_moveStackerToTray_0 : decode prog_7_method_11_code 0 = .ok (.aload_n 0, 1) := by decide +kernel
theorem d_O_moveStackerToTray_1 : decode prog_7_method_11_code 1 = .ok (.aload_n 0, 1) := by decide +kernel
theorem d_O_moveStackerToTray_2 : decode prog_7_method_11_code 2 = .ok (.getfield 29, 3) := by decide +kernel
theorem d_O_moveStackerToTray_5 : decode prog_7_method_11_code 5 = .ok (.invokevirtual 84, 3) := by decide +kernel
theorem d_O_moveStackerToTray_8 : decode prog_7_method_11_code 8 = .ok (.aload_n 0, 1) := by decide +kernel
theorem d_O_moveStackerToTray_9 : decode prog_7_method_11_code 9 = .ok (.dup, 1) := by decide +kernel
theorem d_O_moveStackerToTray_10 : decode prog_7_method_11_code 10 = .ok (.getfield 88, 3) := by decide +kernel
theorem d_O_moveStackerToTray_13 : decode prog_7_method_11_code 13 = .ok (.aload_n 0, 1) := by decide +kernel
theorem d_O_moveStackerToTray_14 : decode prog_7_method_11_code 14 = .ok (.getfield 81, 3) := by decide +kernel
theorem d_O_moveStackerToTray_17 : decode prog_7_method_11_code 17 = .ok (.iadd, 1) := by decide +kernel
theorem d_O_moveStackerToTray_18 : decode prog_7_method_11_code 18 = .ok (.putfield 88, 3) := by decide +kernel
theorem d_O_moveStackerToTray_21 : decode prog_7_method_11_code 21 = .ok (.aload_n 0, 1) := by decide +kernel
theorem d_O_moveStackerToTray_22 : decode prog_7_method_11_code 22 = .ok (.dup, 1) := by decide +kernel
theorem d_O_moveStackerToTray_23 : decode prog_7_method_11_code 23 = .ok (.getfield 91, 3) := by decide +kernel
theorem d_O_moveStackerToTray_26 : decode prog_7_method_11_code 26 = .ok (.aload_n 0, 1) := by decide +kernel
theorem d_O_moveStackerToTray_27 : decode prog_7_method_11_code 27 = .ok (.getfield 81, 3) := by decide +kernel
theorem d_O_moveStackerToTray_30 : decode prog_7_method_11_code 30 = .ok (.i2l, 1) := by decide +kernel
theorem d_O_moveStackerToTray_31 : decode prog_7_method_11_code 31 = .ok (.ladd, 1) := by decide +kernel
theorem d_O_moveStackerToTray_32 : decode prog_7_method_11_code 32 = .ok (.putfield 91, 3) := by decide +kernel
theorem d_O_moveStackerToTray_35 : decode prog_7_method_11_code 35 = .ok (.aload_n 0, 1) := by decide +kernel
theorem d_O_moveStackerToTray_36 : decode prog_7_method_11_code 36 = .ok (.iconst 0, 1) := by decide +kernel
theorem d_O_moveStackerToTray_37 : decode prog_7_method_11_code 37 = .ok (.putfield 81, 3) := by decide +kernel
theorem d_O_moveStackerToTray_40 : decode prog_7_method_11_code 40 = .ok (.return_, 1) := by decide +kernel
theorem d_M_payOut_0 : decode prog_6_method_12_code 0 = .ok (.aload_n 0, 1) := by decide +kernel
theorem d_M_payOut_1 : decode prog_6_method_12_code 1 = .ok (.iconst 2, 1) := by decide +kernel
theorem d_M_payOut_2 : decode prog_6_method_12_code 2 = .ok (.invokevirtual 87, 3) := by decide +kernel
theorem d_M_payOut_5 : decode prog_6_method_12_code 5 = .ok (.ifCond .eq 24, 3) := by decide +kernel
theorem d_M_payOut_8 : decode prog_6_method_12_code 8 = .ok (.aload_n 0, 1) := by decide +kernel
theorem d_M_payOut_9 : decode prog_6_method_12_code 9 = .ok (.getfield 12, 3) := by decide +kernel
theorem d_M_payOut_12 : decode prog_6_method_12_code 12 = .ok (.aload_n 0, 1) := by decide +kernel
theorem d_M_payOut_13 : decode prog_6_method_12_code 13 = .ok (.getfield 84, 3) := by decide +kernel
theorem d_M_payOut_16 : decode prog_6_method_12_code 16 = .ok (.invokevirtual 81, 3) := by decide +kernel
theorem d_M_payOut_19 : decode prog_6_method_12_code 19 = .ok (.ifCond .eq 10, 3) := by decide +kernel
theorem d_M_payOut_22 : decode prog_6_method_12_code 22 = .ok (.aload_n 0, 1) := by decide +kernel
theorem d_M_payOut_23 : decode prog_6_method_12_code 23 = .ok (.invokevirtual 134, 3) := by decide +kernel
theorem d_M_payOut_26 : decode prog_6_method_12_code 26 = .ok (.ifCond .ne 4, 3) := by decide +kernel
theorem d_M_payOut_29 : decode prog_6_method_12_code 29 = .ok (.return_, 1) := by decide +kernel
theorem d_M_payOut_30 : decode prog_6_method_12_code 30 = .ok (.aload_n 0, 1) := by decide +kernel
theorem d_M_payOut_31 : decode prog_6_method_12_code 31 = .ok (.invokevirtual 137, 3) := by decide +kernel
theorem d_M_payOut_34 : decode prog_6_method_12_code 34 = .ok (.ifCond .ne 4, 3) := by decide +kernel
theorem d_M_payOut_37 : decode prog_6_method_12_code 37 = .ok (.return_, 1) := by decide +kernel
theorem d_M_payOut_38 : decode prog_6_method_12_code 38 = .ok (.aload_n 0, 1) := by decide +kernel
theorem d_M_payOut_39 : decode prog_6_method_12_code 39 = .ok (.getfield 12, 3) := by decide +kernel
theorem d_M_payOut_42 : decode prog_6_method_12_code 42 = .ok (.invokevirtual 140, 3) := by decide +kernel
theorem d_M_payOut_45 : decode prog_6_method_12_code 45 = .ok (.aload_n 0, 1) := by decide +kernel
theorem d_M_payOut_46 : decode prog_6_method_12_code 46 = .ok (.dup, 1) := by decide +kernel
theorem d_M_payOut_47 : decode prog_6_method_12_code 47 = .ok (.getfield 90, 3) := by decide +kernel
theorem d_M_payOut_50 : decode prog_6_method_12_code 50 = .ok (.iconst 1, 1) := by decide +kernel
theorem d_M_payOut_51 : decode prog_6_method_12_code 51 = .ok (.iadd, 1) := by decide +kernel
theorem d_M_payOut_52 : decode prog_6_method_12_code 52 = .ok (.putfield 90, 3) := by decide +kernel
theorem d_M_payOut_55 : decode prog_6_method_12_code 55 = .ok (.aload_n 0, 1) := by decide +kernel
theorem d_M_payOut_56 : decode prog_6_method_12_code 56 = .ok (.iconst 3, 1) := by decide +kernel
theorem d_M_payOut_57 : decode prog_6_method_12_code 57 = .ok (.invokevirtual 87, 3) := by decide +kernel
theorem d_M_payOut_60 : decode prog_6_method_12_code 60 = .ok (.ifCond .eq 8, 3) := by decide +kernel
theorem d_M_payOut_63 : decode prog_6_method_12_code 63 = .ok (.aload_n 0, 1) := by decide +kernel
theorem d_M_payOut_64 : decode prog_6_method_12_code 64 = .ok (.iconst 3, 1) := by decide +kernel
theorem d_M_payOut_65 : decode prog_6_method_12_code 65 = .ok (.putfield 37, 3) := by decide +kernel
theorem d_M_payOut_68 : decode prog_6_method_12_code 68 = .ok (.return_, 1) := by decide +kernel
theorem d_M_receive_0 : decode prog_6_method_9_code 0 = .ok (.aload_n 0, 1) := by decide +kernel
theorem d_M_receive_1 : decode prog_6_method_9_code 1 = .ok (.getfield 29, 3) := by decide +kernel
theorem d_M_receive_4 : decode prog_6_method_9_code 4 = .ok (.ifCond .ne 4, 3) := by decide +kernel
theorem d_M_receive_7 : decode prog_6_method_9_code 7 = .ok (.return_, 1) := by decide +kernel
theorem d_M_receive_8 : decode prog_6_method_9_code 8 = .ok (.aload_n 1, 1) := by decide +kernel
theorem d_M_receive_9 : decode prog_6_method_9_code 9 = .ok (.invokevirtual 100, 3) := by decide +kernel
theorem d_M_receive_12 : decode prog_6_method_9_code 12 = .ok (.ifCond .eq 11, 3) := by decide +kernel
theorem d_M_receive_15 : decode prog_6_method_9_code 15 = .ok (.aload_n 0, 1) := by decide +kernel
theorem d_M_receive_16 : decode prog_6_method_9_code 16 = .ok (.aload_n 1, 1) := by decide +kernel
theorem d_M_receive_17 : decode prog_6_method_9_code 17 = .ok (.invokevirtual 106, 3) := by decide +kernel
theorem d_M_receive_20 : decode prog_6_method_9_code 20 = .ok (.ifCond .ne 14, 3) := by decide +kernel
theorem d_M_receive_23 : decode prog_6_method_9_code 23 = .ok (.aload_n 0, 1) := by decide +kernel
theorem d_M_receive_24 : decode prog_6_method_9_code 24 = .ok (.dup, 1) := by decide +kernel
theorem d_M_receive_25 : decode prog_6_method_9_code 25 = .ok (.getfield 110, 3) := by decide +kernel
theorem d_M_receive_28 : decode prog_6_method_9_code 28 = .ok (.iconst 1, 1) := by decide +kernel
theorem d_M_receive_29 : decode prog_6_method_9_code 29 = .ok (.iadd, 1) := by decide +kernel
theorem d_M_receive_30 : decode prog_6_method_9_code 30 = .ok (.putfield 110, 3) := by decide +kernel
theorem d_M_receive_33 : decode prog_6_method_9_code 33 = .ok (.return_, 1) := by decide +kernel
theorem d_M_receive_34 : decode prog_6_method_9_code 34 = .ok (.aload_n 0, 1) := by decide +kernel
theorem d_M_receive_35 : decode prog_6_method_9_code 35 = .ok (.getfield 37, 3) := by decide +kernel
theorem d_M_receive_38 : decode prog_6_method_9_code 38 = .ok (.lookupswitch 68 #[(2, 26), (4, 37)], 26) := by decide +kernel
theorem d_M_receive_64 : decode prog_6_method_9_code 64 = .ok (.aload_n 0, 1) := by decide +kernel
theorem d_M_receive_65 : decode prog_6_method_9_code 65 = .ok (.aload_n 1, 1) := by decide +kernel
theorem d_M_receive_66 : decode prog_6_method_9_code 66 = .ok (.invokevirtual 113, 3) := by decide +kernel
theorem d_M_receive_69 : decode prog_6_method_9_code 69 = .ok (.invokevirtual 117, 3) := by decide +kernel
theorem d_M_receive_72 : decode prog_6_method_9_code 72 = .ok (.goto 47, 3) := by decide +kernel
theorem d_M_receive_75 : decode prog_6_method_9_code 75 = .ok (.aload_n 1, 1) := by decide +kernel
theorem d_M_receive_76 : decode prog_6_method_9_code 76 = .ok (.invokevirtual 113, 3) := by decide +kernel
theorem d_M_receive_79 : decode prog_6_method_9_code 79 = .ok (.ifCond .ne 10, 3) := by decide +kernel
theorem d_M_receive_82 : decode prog_6_method_9_code 82 = .ok (.aload_n 0, 1) := by decide +kernel
theorem d_M_receive_83 : decode prog_6_method_9_code 83 = .ok (.invokevirtual 121, 3) := by decide +kernel
theorem d_M_receive_86 : decode prog_6_method_9_code 86 = .ok (.goto 33, 3) := by decide +kernel
theorem d_M_receive_89 : decode prog_6_method_9_code 89 = .ok (.aload_n 0, 1) := by decide +kernel
theorem d_M_receive_90 : decode prog_6_method_9_code 90 = .ok (.bipush 6, 2) := by decide +kernel
theorem d_M_receive_92 : decode prog_6_method_9_code 92 = .ok (.invokevirtual 87, 3) := by decide +kernel
theorem d_M_receive_95 : decode prog_6_method_9_code 95 = .ok (.ifCond .eq 24, 3) := by decide +kernel
theorem d_M_receive_98 : decode prog_6_method_9_code 98 = .ok (.aload_n 0, 1) := by decide +kernel
theorem d_M_receive_99 : decode prog_6_method_9_code 99 = .ok (.iconst 3, 1) := by decide +kernel
theorem d_M_receive_100 : decode prog_6_method_9_code 100 = .ok (.putfield 37, 3) := by decide +kernel
theorem d_M_receive_103 : decode prog_6_method_9_code 103 = .ok (.goto 16, 3) := by decide +kernel
theorem d_M_receive_106 : decode prog_6_method_9_code 106 = .ok (.aload_n 0, 1) := by decide +kernel
theorem d_M_receive_107 : decode prog_6_method_9_code 107 = .ok (.iconst 5, 1) := by decide +kernel
theorem d_M_receive_108 : decode prog_6_method_9_code 108 = .ok (.invokevirtual 87, 3) := by decide +kernel
theorem d_M_receive_111 : decode prog_6_method_9_code 111 = .ok (.ifCond .eq 8, 3) := by decide +kernel
theorem d_M_receive_114 : decode prog_6_method_9_code 114 = .ok (.aload_n 0, 1) := by decide +kernel
theorem d_M_receive_115 : decode prog_6_method_9_code 115 = .ok (.iconst 0, 1) := by decide +kernel
theorem d_M_receive_116 : decode prog_6_method_9_code 116 = .ok (.putfield 37, 3) := by decide +kernel
theorem d_M_receive_119 : decode prog_6_method_9_code 119 = .ok (.return_, 1) := by decide +kernel
theorem d_E_cardNumber_0 : decode prog_4_method_6_code 0 = .ok (.aload_n 0, 1) := by decide +kernel
theorem d_E_cardNumber_1 : decode prog_4_method_6_code 1 = .ok (.getfield 9, 3) := by decide +kernel
theorem d_E_cardNumber_4 : decode prog_4_method_6_code 4 = .ok (.iconst 5, 1) := by decide +kernel
theorem d_E_cardNumber_5 : decode prog_4_method_6_code 5 = .ok (.iaload, 1) := by decide +kernel
theorem d_E_cardNumber_6 : decode prog_4_method_6_code 6 = .ok (.ireturn, 1) := by decide +kernel
theorem d_E_value_0 : decode prog_4_method_7_code 0 = .ok (.aload_n 0, 1) := by decide +kernel
theorem d_E_value_1 : decode prog_4_method_7_code 1 = .ok (.bipush 6, 2) := by decide +kernel
theorem d_E_value_3 : decode prog_4_method_7_code 3 = .ok (.invokevirtual 33, 3) := by decide +kernel
theorem d_E_value_6 : decode prog_4_method_7_code 6 = .ok (.lreturn, 1) := by decide +kernel
theorem d_H_isUsable_0 : decode prog_2_method_8_code 0 = .ok (.aload_n 0, 1) := by decide +kernel
theorem d_H_isUsable_1 : decode prog_2_method_8_code 1 = .ok (.invokevirtual 84, 3) := by decide +kernel
theorem d_H_isUsable_4 : decode prog_2_method_8_code 4 = .ok (.lconst 1, 1) := by decide +kernel
theorem d_H_isUsable_5 : decode prog_2_method_8_code 5 = .ok (.ldc2_w 104, 3) := by decide +kernel
theorem d_H_isUsable_8 : decode prog_2_method_8_code 8 = .ok (.invokestatic 53, 3) := by decide +kernel
theorem d_H_isUsable_11 : decode prog_2_method_8_code 11 = .ok (.ifCond .eq 13, 3) := by decide +kernel
theorem d_H_isUsable_14 : decode prog_2_method_8_code 14 = .ok (.aload_n 0, 1) := by decide +kernel
theorem d_H_isUsable_15 : decode prog_2_method_8_code 15 = .ok (.invokevirtual 88, 3) := by decide +kernel
theorem d_H_isUsable_18 : decode prog_2_method_8_code 18 = .ok (.invokestatic 57, 3) := by decide +kernel
theorem d_H_isUsable_21 : decode prog_2_method_8_code 21 = .ok (.ifCond .ne 5, 3) := by decide +kernel
theorem d_H_isUsable_24 : decode prog_2_method_8_code 24 = .ok (.iconst 0, 1) := by decide +kernel
theorem d_H_isUsable_25 : decode prog_2_method_8_code 25 = .ok (.ireturn, 1) := by decide +kernel
theorem d_H_isUsable_26 : decode prog_2_method_8_code 26 = .ok (.aload_n 0, 1) := by decide +kernel
theorem d_H_isUsable_27 : decode prog_2_method_8_code 27 = .ok (.invokevirtual 80, 3) := by decide +kernel
theorem d_H_isUsable_30 : decode prog_2_method_8_code 30 = .ok (.tableswitch 44 1 3 #[26, 34, 42], 26) := by decide +kernel
theorem d_H_isUsable_56 : decode prog_2_method_8_code 56 = .ok (.aload_n 0, 1) := by decide +kernel
theorem d_H_isUsable_57 : decode prog_2_method_8_code 57 = .ok (.invokevirtual 91, 3) := by decide +kernel
theorem d_H_isUsable_60 : decode prog_2_method_8_code 60 = .ok (.invokestatic 60, 3) := by decide +kernel
theorem d_H_isUsable_63 : decode prog_2_method_8_code 63 = .ok (.ireturn, 1) := by decide +kernel
theorem d_H_isUsable_64 : decode prog_2_method_8_code 64 = .ok (.aload_n 0, 1) := by decide +kernel
theorem d_H_isUsable_65 : decode prog_2_method_8_code 65 = .ok (.invokevirtual 91, 3) := by decide +kernel
theorem d_H_isUsable_68 : decode prog_2_method_8_code 68 = .ok (.invokestatic 106, 3) := by decide +kernel
theorem d_H_isUsable_71 : decode prog_2_method_8_code 71 = .ok (.ireturn, 1) := by decide +kernel
theorem d_H_isUsable_72 : decode prog_2_method_8_code 72 = .ok (.iconst 1, 1) := by decide +kernel
theorem d_H_isUsable_73 : decode prog_2_method_8_code 73 = .ok (.ireturn, 1) := by decide +kernel
theorem d_H_isUsable_74 : decode prog_2_method_8_code 74 = .ok (.iconst 0, 1) := by decide +kernel
theorem d_H_isUsable_75 : decode prog_2_method_8_code 75 = .ok (.ireturn, 1) := by decide +kernel
theorem d_H_tryPin_0 : decode prog_2_method_10_code 0 = .ok (.aload_n 0, 1) := by decide +kernel
theorem d_H_tryPin_1 : decode prog_2_method_10_code 1 = .ok (.getfield 15, 3) := by decide +kernel
theorem d_H_tryPin_4 : decode prog_2_method_10_code 4 = .ok (.iload_n 1, 1) := by decide +kernel
theorem d_H_tryPin_5 : decode prog_2_method_10_code 5 = .ok (.iaload, 1) := by decide +kernel
theorem d_H_tryPin_6 : decode prog_2_method_10_code 6 = .ok (.iconst (-1), 1) := by decide +kernel
theorem d_H_tryPin_7 : decode prog_2_method_10_code 7 = .ok (.if_icmp .ne 5, 3) := by decide +kernel
theorem d_H_tryPin_10 : decode prog_2_method_10_code 10 = .ok (.iconst 1, 1) := by decide +kernel
theorem d_H_tryPin_11 : decode prog_2_method_10_code 11 = .ok (.ireturn, 1) := by decide +kernel
theorem d_H_tryPin_12 : decode prog_2_method_10_code 12 = .ok (.aload_n 0, 1) := by decide +kernel
theorem d_H_tryPin_13 : decode prog_2_method_10_code 13 = .ok (.getfield 22, 3) := by decide +kernel
theorem d_H_tryPin_16 : decode prog_2_method_10_code 16 = .ok (.iload_n 1, 1) := by decide +kernel
theorem d_H_tryPin_17 : decode prog_2_method_10_code 17 = .ok (.iaload, 1) := by decide +kernel
theorem d_H_tryPin_18 : decode prog_2_method_10_code 18 = .ok (.iconst 3, 1) := by decide +kernel
theorem d_H_tryPin_19 : decode prog_2_method_10_code 19 = .ok (.if_icmp .lt 5, 3) := by decide +kernel
theorem d_H_tryPin_22 : decode prog_2_method_10_code 22 = .ok (.iconst 2, 1) := by decide +kernel
theorem d_H_tryPin_23 : decode prog_2_method_10_code 23 = .ok (.ireturn, 1) := by decide +kernel
theorem d_H_tryPin_24 : decode prog_2_method_10_code 24 = .ok (.aload_n 0, 1) := by decide +kernel
theorem d_H_tryPin_25 : decode prog_2_method_10_code 25 = .ok (.getfield 19, 3) := by decide +kernel
theorem d_H_tryPin_28 : decode prog_2_method_10_code 28 = .ok (.iload_n 1, 1) := by decide +kernel
theorem d_H_tryPin_29 : decode prog_2_method_10_code 29 = .ok (.iaload, 1) := by decide +kernel
theorem d_H_tryPin_30 : decode prog_2_method_10_code 30 = .ok (.i2l, 1) := by decide +kernel
theorem d_H_tryPin_31 : decode prog_2_method_10_code 31 = .ok (.lload_n 2, 1) := by decide +kernel
theorem d_H_tryPin_32 : decode prog_2_method_10_code 32 = .ok (.lcmp, 1) := by decide +kernel
theorem d_H_tryPin_33 : decode prog_2_method_10_code 33 = .ok (.ifCond .ne 12, 3) := by decide +kernel
theorem d_H_tryPin_36 : decode prog_2_method_10_code 36 = .ok (.aload_n 0, 1) := by decide +kernel
theorem d_H_tryPin_37 : decode prog_2_method_10_code 37 = .ok (.getfield 22, 3) := by decide +kernel
theorem d_H_tryPin_40 : decode prog_2_method_10_code 40 = .ok (.iload_n 1, 1) := by decide +kernel
theorem d_H_tryPin_41 : decode prog_2_method_10_code 41 = .ok (.iconst 0, 1) := by decide +kernel
theorem d_H_tryPin_42 : decode prog_2_method_10_code 42 = .ok (.iastore, 1) := by decide +kernel
theorem d_H_tryPin_43 : decode prog_2_method_10_code 43 = .ok (.iconst 0, 1) := by decide +kernel
theorem d_H_tryPin_44 : decode prog_2_method_10_code 44 = .ok (.ireturn, 1) := by decide +kernel
theorem d_H_tryPin_45 : decode prog_2_method_10_code 45 = .ok (.aload_n 0, 1) := by decide +kernel
theorem d_H_tryPin_46 : decode prog_2_method_10_code 46 = .ok (.getfield 22, 3) := by decide +kernel
theorem d_H_tryPin_49 : decode prog_2_method_10_code 49 = .ok (.iload_n 1, 1) := by decide +kernel
theorem d_H_tryPin_50 : decode prog_2_method_10_code 50 = .ok (.dup2, 1) := by decide +kernel
theorem d_H_tryPin_51 : decode prog_2_method_10_code 51 = .ok (.iaload, 1) := by decide +kernel
theorem d_H_tryPin_52 : decode prog_2_method_10_code 52 = .ok (.iconst 1, 1) := by decide +kernel
theorem d_H_tryPin_53 : decode prog_2_method_10_code 53 = .ok (.iadd, 1) := by decide +kernel
theorem d_H_tryPin_54 : decode prog_2_method_10_code 54 = .ok (.iastore, 1) := by decide +kernel
theorem d_H_tryPin_55 : decode prog_2_method_10_code 55 = .ok (.aload_n 0, 1) := by decide +kernel
theorem d_H_tryPin_56 : decode prog_2_method_10_code 56 = .ok (.getfield 22, 3) := by decide +kernel
theorem d_H_tryPin_59 : decode prog_2_method_10_code 59 = .ok (.iload_n 1, 1) := by decide +kernel
theorem d_H_tryPin_60 : decode prog_2_method_10_code 60 = .ok (.iaload, 1) := by decide +kernel
theorem d_H_tryPin_61 : decode prog_2_method_10_code 61 = .ok (.iconst 3, 1) := by decide +kernel
theorem d_H_tryPin_62 : decode prog_2_method_10_code 62 = .ok (.if_icmp .lt 7, 3) := by decide +kernel
theorem d_H_tryPin_65 : decode prog_2_method_10_code 65 = .ok (.iconst 2, 1) := by decide +kernel
theorem d_H_tryPin_66 : decode prog_2_method_10_code 66 = .ok (.goto 4, 3) := by decide +kernel
theorem d_H_tryPin_69 : decode prog_2_method_10_code 69 = .ok (.iconst 1, 1) := by decide +kernel
theorem d_H_tryPin_70 : decode prog_2_method_10_code 70 = .ok (.ireturn, 1) := by decide +kernel
theorem d_H_takeOff_0 : decode prog_2_method_11_code 0 = .ok (.aload_n 0, 1) := by decide +kernel
theorem d_H_takeOff_1 : decode prog_2_method_11_code 1 = .ok (.getfield 15, 3) := by decide +kernel
theorem d_H_takeOff_4 : decode prog_2_method_11_code 4 = .ok (.iload_n 2, 1) := by decide +kernel
theorem d_H_takeOff_5 : decode prog_2_method_11_code 5 = .ok (.iaload, 1) := by decide +kernel
theorem d_H_takeOff_6 : decode prog_2_method_11_code 6 = .ok (.istore 4, 2) := by decide +kernel
theorem d_H_takeOff_8 : decode prog_2_method_11_code 8 = .ok (.iload 4, 2) := by decide +kernel
theorem d_H_takeOff_10 : decode prog_2_method_11_code 10 = .ok (.invokestatic 47, 3) := by decide +kernel
theorem d_H_takeOff_13 : decode prog_2_method_11_code 13 = .ok (.ifCond .eq 16, 3) := by decide +kernel
theorem d_H_takeOff_16 : decode prog_2_method_11_code 16 = .ok (.aload_n 0, 1) := by decide +kernel
theorem d_H_takeOff_17 : decode prog_2_method_11_code 17 = .ok (.getfield 9, 3) := by decide +kernel
theorem d_H_takeOff_20 : decode prog_2_method_11_code 20 = .ok (.iload 4, 2) := by decide +kernel
theorem d_H_takeOff_22 : decode prog_2_method_11_code 22 = .ok (.laload, 1) := by decide +kernel
theorem d_H_takeOff_23 : decode prog_2_method_11_code 23 = .ok (.iload_n 3, 1) := by decide +kernel
theorem d_H_takeOff_24 : decode prog_2_method_11_code 24 = .ok (.i2l, 1) := by decide +kernel
theorem d_H_takeOff_25 : decode prog_2_method_11_code 25 = .ok (.lcmp, 1) := by decide +kernel
theorem d_H_takeOff_26 : decode prog_2_method_11_code 26 = .ok (.ifCond .ge 11, 3) := by decide +kernel
theorem d_H_takeOff_29 : decode prog_2_method_11_code 29 = .ok (.aload_n 0, 1) := by decide +kernel
theorem d_H_takeOff_30 : decode prog_2_method_11_code 30 = .ok (.getfield 28, 3) := by decide +kernel
theorem d_H_takeOff_33 : decode prog_2_method_11_code 33 = .ok (.iload_n 1, 1) := by decide +kernel
theorem d_H_takeOff_34 : decode prog_2_method_11_code 34 = .ok (.iconst 1, 1) := by decide +kernel
theorem d_H_takeOff_35 : decode prog_2_method_11_code 35 = .ok (.iastore, 1) := by decide +kernel
theorem d_H_takeOff_36 : decode prog_2_method_11_code 36 = .ok (.return_, 1) := by decide +kernel
theorem d_H_takeOff_37 : decode prog_2_method_11_code 37 = .ok (.aload_n 0, 1) := by decide +kernel
theorem d_H_takeOff_38 : decode prog_2_method_11_code 38 = .ok (.getfield 9, 3) := by decide +kernel
theorem d_H_takeOff_41 : decode prog_2_method_11_code 41 = .ok (.iload 4, 2) := by decide +kernel
theorem d_H_takeOff_43 : decode prog_2_method_11_code 43 = .ok (.dup2, 1) := by decide +kernel
theorem d_H_takeOff_44 : decode prog_2_method_11_code 44 = .ok (.laload, 1) := by decide +kernel
theorem d_H_takeOff_45 : decode prog_2_method_11_code 45 = .ok (.iload_n 3, 1) := by decide +kernel
theorem d_H_takeOff_46 : decode prog_2_method_11_code 46 = .ok (.i2l, 1) := by decide +kernel
theorem d_H_takeOff_47 : decode prog_2_method_11_code 47 = .ok (.lsub, 1) := by decide +kernel
theorem d_H_takeOff_48 : decode prog_2_method_11_code 48 = .ok (.lastore, 1) := by decide +kernel
theorem d_H_takeOff_49 : decode prog_2_method_11_code 49 = .ok (.aload_n 0, 1) := by decide +kernel
theorem d_H_takeOff_50 : decode prog_2_method_11_code 50 = .ok (.dup, 1) := by decide +kernel
theorem d_H_takeOff_51 : decode prog_2_method_11_code 51 = .ok (.getfield 121, 3) := by decide +kernel
theorem d_H_takeOff_54 : decode prog_2_method_11_code 54 = .ok (.iload_n 3, 1) := by decide +kernel
theorem d_H_takeOff_55 : decode prog_2_method_11_code 55 = .ok (.i2l, 1) := by decide +kernel
theorem d_H_takeOff_56 : decode prog_2_method_11_code 56 = .ok (.ladd, 1) := by decide +kernel
theorem d_H_takeOff_57 : decode prog_2_method_11_code 57 = .ok (.putfield 121, 3) := by decide +kernel
theorem d_H_takeOff_60 : decode prog_2_method_11_code 60 = .ok (.aload_n 0, 1) := by decide +kernel
theorem d_H_takeOff_61 : decode prog_2_method_11_code 61 = .ok (.getfield 28, 3) := by decide +kernel
theorem d_H_takeOff_64 : decode prog_2_method_11_code 64 = .ok (.iload_n 1, 1) := by decide +kernel
theorem d_H_takeOff_65 : decode prog_2_method_11_code 65 = .ok (.iconst 2, 1) := by decide +kernel
theorem d_H_takeOff_66 : decode prog_2_method_11_code 66 = .ok (.iastore, 1) := by decide +kernel
theorem d_H_takeOff_67 : decode prog_2_method_11_code 67 = .ok (.aload_n 0, 1) := by decide +kernel
theorem d_H_takeOff_68 : decode prog_2_method_11_code 68 = .ok (.getfield 31, 3) := by decide +kernel
theorem d_H_takeOff_71 : decode prog_2_method_11_code 71 = .ok (.iload_n 1, 1) := by decide +kernel
theorem d_H_takeOff_72 : decode prog_2_method_11_code 72 = .ok (.iload_n 3, 1) := by decide +kernel
theorem d_H_takeOff_73 : decode prog_2_method_11_code 73 = .ok (.iastore, 1) := by decide +kernel
theorem d_H_takeOff_74 : decode prog_2_method_11_code 74 = .ok (.aload_n 0, 1) := by decide +kernel
theorem d_H_takeOff_75 : decode prog_2_method_11_code 75 = .ok (.getfield 34, 3) := by decide +kernel
theorem d_H_takeOff_78 : decode prog_2_method_11_code 78 = .ok (.iload_n 1, 1) := by decide +kernel
theorem d_H_takeOff_79 : decode prog_2_method_11_code 79 = .ok (.iload 4, 2) := by decide +kernel
theorem d_H_takeOff_81 : decode prog_2_method_11_code 81 = .ok (.iastore, 1) := by decide +kernel
theorem d_H_takeOff_82 : decode prog_2_method_11_code 82 = .ok (.return_, 1) := by decide +kernel
theorem d_H_giveBack_0 : decode prog_2_method_12_code 0 = .ok (.aload_n 0, 1) := by decide +kernel
theorem d_H_giveBack_1 : decode prog_2_method_12_code 1 = .ok (.getfield 34, 3) := by decide +kernel
theorem d_H_giveBack_4 : decode prog_2_method_12_code 4 = .ok (.iload_n 1, 1) := by decide +kernel
theorem d_H_giveBack_5 : decode prog_2_method_12_code 5 = .ok (.iaload, 1) := by decide +kernel
theorem d_H_giveBack_6 : decode prog_2_method_12_code 6 = .ok (.istore_n 2, 1) := by decide +kernel
theorem d_H_giveBack_7 : decode prog_2_method_12_code 7 = .ok (.iload_n 2, 1) := by decide +kernel
theorem d_H_giveBack_8 : decode prog_2_method_12_code 8 = .ok (.invokestatic 47, 3) := by decide +kernel
theorem d_H_giveBack_11 : decode prog_2_method_12_code 11 = .ok (.ifCond .eq 35, 3) := by decide +kernel
theorem d_H_giveBack_14 : decode prog_2_method_12_code 14 = .ok (.aload_n 0, 1) := by decide +kernel
theorem d_H_giveBack_15 : decode prog_2_method_12_code 15 = .ok (.getfield 9, 3) := by decide +kernel
theorem d_H_giveBack_18 : decode prog_2_method_12_code 18 = .ok (.iload_n 2, 1) := by decide +kernel
theorem d_H_giveBack_19 : decode prog_2_method_12_code 19 = .ok (.dup2, 1) := by decide +kernel
theorem d_H_giveBack_20 : decode prog_2_method_12_code 20 = .ok (.laload, 1) := by decide +kernel
theorem d_H_giveBack_21 : decode prog_2_method_12_code 21 = .ok (.aload_n 0, 1) := by decide +kernel
theorem d_H_giveBack_22 : decode prog_2_method_12_code 22 = .ok (.getfield 31, 3) := by decide +kernel
theorem d_H_giveBack_25 : decode prog_2_method_12_code 25 = .ok (.iload_n 1, 1) := by decide +kernel
theorem d_H_giveBack_26 : decode prog_2_method_12_code 26 = .ok (.iaload, 1) := by decide +kernel
theorem d_H_giveBack_27 : decode prog_2_method_12_code 27 = .ok (.i2l, 1) := by decide +kernel
theorem d_H_giveBack_28 : decode prog_2_method_12_code 28 = .ok (.ladd, 1) := by decide +kernel
theorem d_H_giveBack_29 : decode prog_2_method_12_code 29 = .ok (.lastore, 1) := by decide +kernel
theorem d_H_giveBack_30 : decode prog_2_method_12_code 30 = .ok (.aload_n 0, 1) := by decide +kernel
theorem d_H_giveBack_31 : decode prog_2_method_12_code 31 = .ok (.dup, 1) := by decide +kernel
theorem d_H_giveBack_32 : decode prog_2_method_12_code 32 = .ok (.getfield 121, 3) := by decide +kernel
theorem d_H_giveBack_35 : decode prog_2_method_12_code 35 = .ok (.aload_n 0, 1) := by decide +kernel
theorem d_H_giveBack_36 : decode prog_2_method_12_code 36 = .ok (.getfield 31, 3) := by decide +kernel
theorem d_H_giveBack_39 : decode prog_2_method_12_code 39 = .ok (.iload_n 1, 1) := by decide +kernel
theorem d_H_giveBack_40 : decode prog_2_method_12_code 40 = .ok (.iaload, 1) := by decide +kernel
theorem d_H_giveBack_41 : decode prog_2_method_12_code 41 = .ok (.i2l, 1) := by decide +kernel
theorem d_H_giveBack_42 : decode prog_2_method_12_code 42 = .ok (.lsub, 1) := by decide +kernel
theorem d_H_giveBack_43 : decode prog_2_method_12_code 43 = .ok (.putfield 121, 3) := by decide +kernel
theorem d_H_giveBack_46 : decode prog_2_method_12_code 46 = .ok (.return_, 1) := by decide +kernel
theorem d_H_decide_0 : decode prog_2_method_9_code 0 = .ok (.iload_n 2, 1) := by decide +kernel
theorem d_H_decide_1 : decode prog_2_method_9_code 1 = .ok (.i2l, 1) := by decide +kernel
theorem d_H_decide_2 : decode prog_2_method_9_code 2 = .ok (.lconst 1, 1) := by decide +kernel
theorem d_H_decide_3 : decode prog_2_method_9_code 3 = .ok (.ldc2_w 104, 3) := by decide +kernel
theorem d_H_decide_6 : decode prog_2_method_9_code 6 = .ok (.invokestatic 53, 3) := by decide +kernel
theorem d_H_decide_9 : decode prog_2_method_9_code 9 = .ok (.ifCond .eq 10, 3) := by decide +kernel
theorem d_H_decide_12 : decode prog_2_method_9_code 12 = .ok (.iload_n 3, 1) := by decide +kernel
theorem d_H_decide_13 : decode prog_2_method_9_code 13 = .ok (.invokestatic 57, 3) := by decide +kernel
theorem d_H_decide_16 : decode prog_2_method_9_code 16 = .ok (.ifCond .ne 5, 3) := by decide +kernel
theorem d_H_decide_19 : decode prog_2_method_9_code 19 = .ok (.iconst 1, 1) := by decide +kernel
theorem d_H_decide_20 : decode prog_2_method_9_code 20 = .ok (.ireturn, 1) := by decide +kernel
theorem d_H_decide_21 : decode prog_2_method_9_code 21 = .ok (.iload_n 1, 1) := by decide +kernel
theorem d_H_decide_22 : decode prog_2_method_9_code 22 = .ok (.lookupswitch 90 #[(1, 26), (2, 56)], 26) := by decide +kernel
theorem d_H_decide_48 : decode prog_2_method_9_code 48 = .ok (.aload_n 0, 1) := by decide +kernel
theorem d_H_decide_49 : decode prog_2_method_9_code 49 = .ok (.getfield 25, 3) := by decide +kernel
theorem d_H_decide_52 : decode prog_2_method_9_code 52 = .ok (.iload_n 2, 1) := by decide +kernel
theorem d_H_decide_53 : decode prog_2_method_9_code 53 = .ok (.iaload, 1) := by decide +kernel
theorem d_H_decide_54 : decode prog_2_method_9_code 54 = .ok (.iconst (-1), 1) := by decide +kernel
theorem d_H_decide_55 : decode prog_2_method_9_code 55 = .ok (.if_icmp .ne 16, 3) := by decide +kernel
theorem d_H_decide_58 : decode prog_2_method_9_code 58 = .ok (.aload_n 0, 1) := by decide +kernel
theorem d_H_decide_59 : decode prog_2_method_9_code 59 = .ok (.getfield 25, 3) := by decide +kernel
theorem d_H_decide_62 : decode prog_2_method_9_code 62 = .ok (.iload_n 2, 1) := by decide +kernel
theorem d_H_decide_63 : decode prog_2_method_9_code 63 = .ok (.aload_n 0, 1) := by decide +kernel
theorem d_H_decide_64 : decode prog_2_method_9_code 64 = .ok (.iload_n 3, 1) := by decide +kernel
theorem d_H_decide_65 : decode prog_2_method_9_code 65 = .ok (.lload 4, 2) := by decide +kernel
theorem d_H_decide_67 : decode prog_2_method_9_code 67 = .ok (.invokevirtual 109, 3) := by decide +kernel
theorem d_H_decide_70 : decode prog_2_method_9_code 70 = .ok (.iastore, 1) := by decide +kernel
theorem d_H_decide_71 : decode prog_2_method_9_code 71 = .ok (.aload_n 0, 1) := by decide +kernel
theorem d_H_decide_72 : decode prog_2_method_9_code 72 = .ok (.getfield 25, 3) := by decide +kernel
theorem d_H_decide_75 : decode prog_2_method_9_code 75 = .ok (.iload_n 2, 1) := by decide +kernel
theorem d_H_decide_76 : decode prog_2_method_9_code 76 = .ok (.iaload, 1) := by decide +kernel
theorem d_H_decide_77 : decode prog_2_method_9_code 77 = .ok (.ireturn, 1) := by decide +kernel
theorem d_H_decide_78 : decode prog_2_method_9_code 78 = .ok (.aload_n 0, 1) := by decide +kernel
theorem d_H_decide_79 : decode prog_2_method_9_code 79 = .ok (.getfield 28, 3) := by decide +kernel
theorem d_H_decide_82 : decode prog_2_method_9_code 82 = .ok (.iload_n 2, 1) := by decide +kernel
theorem d_H_decide_83 : decode prog_2_method_9_code 83 = .ok (.iaload, 1) := by decide +kernel
theorem d_H_decide_84 : decode prog_2_method_9_code 84 = .ok (.ifCond .ne 12, 3) := by decide +kernel
theorem d_H_decide_87 : decode prog_2_method_9_code 87 = .ok (.aload_n 0, 1) := by decide +kernel
theorem d_H_decide_88 : decode prog_2_method_9_code 88 = .ok (.iload_n 2, 1) := by decide +kernel
theorem d_H_decide_89 : decode prog_2_method_9_code 89 = .ok (.iload_n 3, 1) := by decide +kernel
theorem d_H_decide_90 : decode prog_2_method_9_code 90 = .ok (.lload 4, 2) := by decide +kernel
theorem d_H_decide_92 : decode prog_2_method_9_code 92 = .ok (.l2i, 1) := by decide +kernel
theorem d_H_decide_93 : decode prog_2_method_9_code 93 = .ok (.invokevirtual 113, 3) := by decide +kernel
theorem d_H_decide_96 : decode prog_2_method_9_code 96 = .ok (.aload_n 0, 1) := by decide +kernel
theorem d_H_decide_97 : decode prog_2_method_9_code 97 = .ok (.getfield 28, 3) := by decide +kernel
theorem d_H_decide_100 : decode prog_2_method_9_code 100 = .ok (.iload_n 2, 1) := by decide +kernel
theorem d_H_decide_101 : decode prog_2_method_9_code 101 = .ok (.iaload, 1) := by decide +kernel
theorem d_H_decide_102 : decode prog_2_method_9_code 102 = .ok (.iconst 2, 1) := by decide +kernel
theorem d_H_decide_103 : decode prog_2_method_9_code 103 = .ok (.if_icmp .ne 7, 3) := by decide +kernel
theorem d_H_decide_106 : decode prog_2_method_9_code 106 = .ok (.iconst 0, 1) := by decide +kernel
theorem d_H_decide_107 : decode prog_2_method_9_code 107 = .ok (.goto 4, 3) := by decide +kernel
theorem d_H_decide_110 : decode prog_2_method_9_code 110 = .ok (.iconst 1, 1) := by decide +kernel
theorem d_H_decide_111 : decode prog_2_method_9_code 111 = .ok (.ireturn, 1) := by decide +kernel
theorem d_H_decide_112 : decode prog_2_method_9_code 112 = .ok (.aload_n 0, 1) := by decide +kernel
theorem d_H_decide_113 : decode prog_2_method_9_code 113 = .ok (.getfield 28, 3) := by decide +kernel
theorem d_H_decide_116 : decode prog_2_method_9_code 116 = .ok (.iload_n 2, 1) := by decide +kernel
theorem d_H_decide_117 : decode prog_2_method_9_code 117 = .ok (.iaload, 1) := by decide +kernel
theorem d_H_decide_118 : decode prog_2_method_9_code 118 = .ok (.iconst 2, 1) := by decide +kernel
theorem d_H_decide_119 : decode prog_2_method_9_code 119 = .ok (.if_icmp .ne 8, 3) := by decide +kernel
theorem d_H_decide_122 : decode prog_2_method_9_code 122 = .ok (.aload_n 0, 1) := by decide +kernel
theorem d_H_decide_123 : decode prog_2_method_9_code 123 = .ok (.iload_n 2, 1) := by decide +kernel
theorem d_H_decide_124 : decode prog_2_method_9_code 124 = .ok (.invokevirtual 117, 3) := by decide +kernel
theorem d_H_decide_127 : decode prog_2_method_9_code 127 = .ok (.aload_n 0, 1) := by decide +kernel
theorem d_H_decide_128 : decode prog_2_method_9_code 128 = .ok (.getfield 28, 3) := by decide +kernel
theorem d_H_decide_131 : decode prog_2_method_9_code 131 = .ok (.iload_n 2, 1) := by decide +kernel
theorem d_H_decide_132 : decode prog_2_method_9_code 132 = .ok (.iconst 3, 1) := by decide +kernel
theorem d_H_decide_133 : decode prog_2_method_9_code 133 = .ok (.iastore, 1) := by decide +kernel
theorem d_H_decide_134 : decode prog_2_method_9_code 134 = .ok (.iconst 0, 1) := by decide +kernel
theorem d_H_decide_135 : decode prog_2_method_9_code 135 = .ok (.ireturn, 1) := by decide +kernel
theorem d_H_receive_0 : decode prog_2_method_7_code 0 = .ok (.aload_n 1, 1) := by decide +kernel
theorem d_H_receive_1 : decode prog_2_method_7_code 1 = .ok (.invokevirtual 66, 3) := by decide +kernel
theorem d_H_receive_4 : decode prog_2_method_7_code 4 = .ok (.ifCond .eq 10, 3) := by decide +kernel
theorem d_H_receive_7 : decode prog_2_method_7_code 7 = .ok (.aload_n 1, 1) := by decide +kernel
theorem d_H_receive_8 : decode prog_2_method_7_code 8 = .ok (.invokestatic 72, 3) := by decide +kernel
theorem d_H_receive_11 : decode prog_2_method_7_code 11 = .ok (.ifCond .ne 14, 3) := by decide +kernel
theorem d_H_receive_14 : decode prog_2_method_7_code 14 = .ok (.aload_n 0, 1) := by decide +kernel
theorem d_H_receive_15 : decode prog_2_method_7_code 15 = .ok (.dup, 1) := by decide +kernel
theorem d_H_receive_16 : decode prog_2_method_7_code 16 = .ok (.getfield 76, 3) := by decide +kernel
theorem d_H_receive_19 : decode prog_2_method_7_code 19 = .ok (.iconst 1, 1) := by decide +kernel
theorem d_H_receive_20 : decode prog_2_method_7_code 20 = .ok (.iadd, 1) := by decide +kernel
theorem d_H_receive_21 : decode prog_2_method_7_code 21 = .ok (.putfield 76, 3) := by decide +kernel
theorem d_H_receive_24 : decode prog_2_method_7_code 24 = .ok (.return_, 1) := by decide +kernel
theorem d_H_receive_25 : decode prog_2_method_7_code 25 = .ok (.aload_n 1, 1) := by decide +kernel
theorem d_H_receive_26 : decode prog_2_method_7_code 26 = .ok (.invokevirtual 80, 3) := by decide +kernel
theorem d_H_receive_29 : decode prog_2_method_7_code 29 = .ok (.istore_n 2, 1) := by decide +kernel
theorem d_H_receive_30 : decode prog_2_method_7_code 30 = .ok (.aload_n 1, 1) := by decide +kernel
theorem d_H_receive_31 : decode prog_2_method_7_code 31 = .ok (.invokevirtual 84, 3) := by decide +kernel
theorem d_H_receive_34 : decode prog_2_method_7_code 34 = .ok (.l2i, 1) := by decide +kernel
theorem d_H_receive_35 : decode prog_2_method_7_code 35 = .ok (.istore_n 3, 1) := by decide +kernel
theorem d_H_receive_36 : decode prog_2_method_7_code 36 = .ok (.aload_n 1, 1) := by decide +kernel
theorem d_H_receive_37 : decode prog_2_method_7_code 37 = .ok (.invokevirtual 88, 3) := by decide +kernel
theorem d_H_receive_40 : decode prog_2_method_7_code 40 = .ok (.istore 4, 2) := by decide +kernel
theorem d_H_receive_42 : decode prog_2_method_7_code 42 = .ok (.aload_n 1, 1) := by decide +kernel
theorem d_H_receive_43 : decode prog_2_method_7_code 43 = .ok (.invokevirtual 91, 3) := by decide +kernel
theorem d_H_receive_46 : decode prog_2_method_7_code 46 = .ok (.lstore 5, 2) := by decide +kernel
theorem d_H_receive_48 : decode prog_2_method_7_code 48 = .ok (.aload_n 0, 1) := by decide +kernel
theorem d_H_receive_49 : decode prog_2_method_7_code 49 = .ok (.iload_n 2, 1) := by decide +kernel
theorem d_H_receive_50 : decode prog_2_method_7_code 50 = .ok (.iload_n 3, 1) := by decide +kernel
theorem d_H_receive_51 : decode prog_2_method_7_code 51 = .ok (.iload 4, 2) := by decide +kernel
theorem d_H_receive_53 : decode prog_2_method_7_code 53 = .ok (.lload 5, 2) := by decide +kernel
theorem d_H_receive_55 : decode prog_2_method_7_code 55 = .ok (.invokevirtual 94, 3) := by decide +kernel
theorem d_H_receive_58 : decode prog_2_method_7_code 58 = .ok (.istore 7, 2) := by decide +kernel
theorem d_H_receive_60 : decode prog_2_method_7_code 60 = .ok (.aload_n 0, 1) := by decide +kernel
theorem d_H_receive_61 : decode prog_2_method_7_code 61 = .ok (.getfield 37, 3) := by decide +kernel
theorem d_H_receive_64 : decode prog_2_method_7_code 64 = .ok (.iconst 0, 1) := by decide +kernel
theorem d_H_receive_65 : decode prog_2_method_7_code 65 = .ok (.iload_n 2, 1) := by decide +kernel
theorem d_H_receive_66 : decode prog_2_method_7_code 66 = .ok (.sipush 128, 3) := by decide +kernel
theorem d_H_receive_69 : decode prog_2_method_7_code 69 = .ok (.iadd, 1) := by decide +kernel
theorem d_H_receive_70 : decode prog_2_method_7_code 70 = .ok (.iload_n 3, 1) := by decide +kernel
theorem d_H_receive_71 : decode prog_2_method_7_code 71 = .ok (.iload 4, 2) := by decide +kernel
theorem d_H_receive_73 : decode prog_2_method_7_code 73 = .ok (.lload 5, 2) := by decide +kernel
theorem d_H_receive_75 : decode prog_2_method_7_code 75 = .ok (.iload 7, 2) := by decide +kernel
theorem d_H_receive_77 : decode prog_2_method_7_code 77 = .ok (.invokevirtual 98, 3) := by decide +kernel
theorem d_H_receive_80 : decode prog_2_method_7_code 80 = .ok (.return_, 1) := by decide +kernel
theorem d_A_handOver_0 : decode prog_1_method_25_code 0 = .ok (.aload_n 0, 1) := by decide +kernel
theorem d_A_handOver_1 : decode prog_1_method_25_code 1 = .ok (.getfield 35, 3) := by decide +kernel
theorem d_A_handOver_4 : decode prog_1_method_25_code 4 = .ok (.getfield 173, 3) := by decide +kernel
theorem d_A_handOver_7 : decode prog_1_method_25_code 7 = .ok (.ifCond .eq 17, 3) := by decide +kernel
theorem d_A_handOver_10 : decode prog_1_method_25_code 10 = .ok (.aload_n 0, 1) := by decide +kernel
theorem d_A_handOver_11 : decode prog_1_method_25_code 11 = .ok (.getfield 21, 3) := by decide +kernel
theorem d_A_handOver_14 : decode prog_1_method_25_code 14 = .ok (.aload_n 0, 1) := by decide +kernel
theorem d_A_handOver_15 : decode prog_1_method_25_code 15 = .ok (.getfield 35, 3) := by decide +kernel
theorem d_A_handOver_18 : decode prog_1_method_25_code 18 = .ok (.invokevirtual 176, 3) := by decide +kernel
theorem d_A_handOver_21 : decode prog_1_method_25_code 21 = .ok (.goto 14, 3) := by decide +kernel
theorem d_A_handOver_24 : decode prog_1_method_25_code 24 = .ok (.aload_n 0, 1) := by decide +kernel
theorem d_A_handOver_25 : decode prog_1_method_25_code 25 = .ok (.getfield 28, 3) := by decide +kernel
theorem d_A_handOver_28 : decode prog_1_method_25_code 28 = .ok (.aload_n 0, 1) := by decide +kernel
theorem d_A_handOver_29 : decode prog_1_method_25_code 29 = .ok (.getfield 35, 3) := by decide +kernel
theorem d_A_handOver_32 : decode prog_1_method_25_code 32 = .ok (.invokevirtual 180, 3) := by decide +kernel
theorem d_A_handOver_35 : decode prog_1_method_25_code 35 = .ok (.return_, 1) := by decide +kernel
theorem d_A_deliver_0 : decode prog_1_method_11_code 0 = .ok (.aload_n 0, 1) := by decide +kernel
theorem d_A_deliver_1 : decode prog_1_method_11_code 1 = .ok (.getfield 10, 3) := by decide +kernel
theorem d_A_deliver_4 : decode prog_1_method_11_code 4 = .ok (.iload_n 1, 1) := by decide +kernel
theorem d_A_deliver_5 : decode prog_1_method_11_code 5 = .ok (.invokevirtual 78, 3) := by decide +kernel
theorem d_A_deliver_8 : decode prog_1_method_11_code 8 = .ok (.ifCond .ne 5, 3) := by decide +kernel
theorem d_A_deliver_11 : decode prog_1_method_11_code 11 = .ok (.iconst (-1), 1) := by decide +kernel
theorem d_A_deliver_12 : decode prog_1_method_11_code 12 = .ok (.ireturn, 1) := by decide +kernel
theorem d_A_deliver_13 : decode prog_1_method_11_code 13 = .ok (.aload_n 0, 1) := by decide +kernel
theorem d_A_deliver_14 : decode prog_1_method_11_code 14 = .ok (.getfield 10, 3) := by decide +kernel
theorem d_A_deliver_17 : decode prog_1_method_11_code 17 = .ok (.iload_n 1, 1) := by decide +kernel
theorem d_A_deliver_18 : decode prog_1_method_11_code 18 = .ok (.aload_n 0, 1) := by decide +kernel
theorem d_A_deliver_19 : decode prog_1_method_11_code 19 = .ok (.getfield 35, 3) := by decide +kernel
theorem d_A_deliver_22 : decode prog_1_method_11_code 22 = .ok (.invokevirtual 81, 3) := by decide +kernel
theorem d_A_deliver_25 : decode prog_1_method_11_code 25 = .ok (.aload_n 0, 1) := by decide +kernel
theorem d_A_deliver_26 : decode prog_1_method_11_code 26 = .ok (.getfield 10, 3) := by decide +kernel
theorem d_A_deliver_29 : decode prog_1_method_11_code 29 = .ok (.iload_n 1, 1) := by decide +kernel
theorem d_A_deliver_30 : decode prog_1_method_11_code 30 = .ok (.invokevirtual 85, 3) := by decide +kernel
theorem d_A_deliver_33 : decode prog_1_method_11_code 33 = .ok (.aload_n 0, 1) := by decide +kernel
theorem d_A_deliver_34 : decode prog_1_method_11_code 34 = .ok (.invokevirtual 89, 3) := by decide +kernel
theorem d_A_deliver_37 : decode prog_1_method_11_code 37 = .ok (.aload_n 0, 1) := by decide +kernel
theorem d_A_deliver_38 : decode prog_1_method_11_code 38 = .ok (.getfield 10, 3) := by decide +kernel
theorem d_A_deliver_41 : decode prog_1_method_11_code 41 = .ok (.getfield 92, 3) := by decide +kernel
theorem d_A_deliver_44 : decode prog_1_method_11_code 44 = .ok (.ireturn, 1) := by decide +kernel
theorem d_A_twice_0 : decode prog_1_method_12_code 0 = .ok (.aload_n 0, 1) := by decide +kernel
theorem d_A_twice_1 : decode prog_1_method_12_code 1 = .ok (.getfield 10, 3) := by decide +kernel
theorem d_A_twice_4 : decode prog_1_method_12_code 4 = .ok (.iload_n 1, 1) := by decide +kernel
theorem d_A_twice_5 : decode prog_1_method_12_code 5 = .ok (.invokevirtual 78, 3) := by decide +kernel
theorem d_A_twice_8 : decode prog_1_method_12_code 8 = .ok (.ifCond .ne 5, 3) := by decide +kernel
theorem d_A_twice_11 : decode prog_1_method_12_code 11 = .ok (.iconst (-1), 1) := by decide +kernel
theorem d_A_twice_12 : decode prog_1_method_12_code 12 = .ok (.ireturn, 1) := by decide +kernel
theorem d_A_twice_13 : decode prog_1_method_12_code 13 = .ok (.aload_n 0, 1) := by decide +kernel
theorem d_A_twice_14 : decode prog_1_method_12_code 14 = .ok (.getfield 10, 3) := by decide +kernel
theorem d_A_twice_17 : decode prog_1_method_12_code 17 = .ok (.iload_n 1, 1) := by decide +kernel
theorem d_A_twice_18 : decode prog_1_method_12_code 18 = .ok (.aload_n 0, 1) := by decide +kernel
theorem d_A_twice_19 : decode prog_1_method_12_code 19 = .ok (.getfield 35, 3) := by decide +kernel
theorem d_A_twice_22 : decode prog_1_method_12_code 22 = .ok (.invokevirtual 81, 3) := by decide +kernel
theorem d_A_twice_25 : decode prog_1_method_12_code 25 = .ok (.aload_n 0, 1) := by decide +kernel
theorem d_A_twice_26 : decode prog_1_method_12_code 26 = .ok (.invokevirtual 89, 3) := by decide +kernel
theorem d_A_twice_29 : decode prog_1_method_12_code 29 = .ok (.aload_n 0, 1) := by decide +kernel
theorem d_A_twice_30 : decode prog_1_method_12_code 30 = .ok (.getfield 10, 3) := by decide +kernel
theorem d_A_twice_33 : decode prog_1_method_12_code 33 = .ok (.getfield 92, 3) := by decide +kernel
theorem d_A_twice_36 : decode prog_1_method_12_code 36 = .ok (.ireturn, 1) := by decide +kernel
theorem d_A_lose_0 : decode prog_1_method_13_code 0 = .ok (.aload_n 0, 1) := by decide +kernel
theorem d_A_lose_1 : decode prog_1_method_13_code 1 = .ok (.getfield 10, 3) := by decide +kernel
theorem d_A_lose_4 : decode prog_1_method_13_code 4 = .ok (.iload_n 1, 1) := by decide +kernel
theorem d_A_lose_5 : decode prog_1_method_13_code 5 = .ok (.invokevirtual 78, 3) := by decide +kernel
theorem d_A_lose_8 : decode prog_1_method_13_code 8 = .ok (.ifCond .ne 5, 3) := by decide +kernel
theorem d_A_lose_11 : decode prog_1_method_13_code 11 = .ok (.iconst (-1), 1) := by decide +kernel
theorem d_A_lose_12 : decode prog_1_method_13_code 12 = .ok (.ireturn, 1) := by decide +kernel
theorem d_A_lose_13 : decode prog_1_method_13_code 13 = .ok (.aload_n 0, 1) := by decide +kernel
theorem d_A_lose_14 : decode prog_1_method_13_code 14 = .ok (.getfield 10, 3) := by decide +kernel
theorem d_A_lose_17 : decode prog_1_method_13_code 17 = .ok (.iload_n 1, 1) := by decide +kernel
theorem d_A_lose_18 : decode prog_1_method_13_code 18 = .ok (.invokevirtual 85, 3) := by decide +kernel
theorem d_A_lose_21 : decode prog_1_method_13_code 21 = .ok (.aload_n 0, 1) := by decide +kernel
theorem d_A_lose_22 : decode prog_1_method_13_code 22 = .ok (.getfield 10, 3) := by decide +kernel
theorem d_A_lose_25 : decode prog_1_method_13_code 25 = .ok (.getfield 92, 3) := by decide +kernel
theorem d_A_lose_28 : decode prog_1_method_13_code 28 = .ok (.ireturn, 1) := by decide +kernel
theorem d_N_changeByte_0 : decode prog_5_method_6_code 0 = .ok (.aload_n 0, 1) := by decide +kernel
theorem d_N_changeByte_1 : decode prog_5_method_6_code 1 = .ok (.iload_n 1, 1) := by decide +kernel
theorem d_N_changeByte_2 : decode prog_5_method_6_code 2 = .ok (.invokevirtual 37, 3) := by decide +kernel
theorem d_N_changeByte_5 : decode prog_5_method_6_code 5 = .ok (.ifCond .eq 27, 3) := by decide +kernel
theorem d_N_changeByte_8 : decode prog_5_method_6_code 8 = .ok (.iload_n 2, 1) := by decide +kernel
theorem d_N_changeByte_9 : decode prog_5_method_6_code 9 = .ok (.i2l, 1) := by decide +kernel
theorem d_N_changeByte_10 : decode prog_5_method_6_code 10 = .ok (.lconst 0, 1) := by decide +kernel
theorem d_N_changeByte_11 : decode prog_5_method_6_code 11 = .ok (.ldc2_w 45, 3) := by decide +kernel
theorem d_N_changeByte_14 : decode prog_5_method_6_code 14 = .ok (.invokestatic 47, 3) := by decide +kernel
theorem d_N_changeByte_17 : decode prog_5_method_6_code 17 = .ok (.ifCond .eq 15, 3) := by decide +kernel
theorem d_N_changeByte_20 : decode prog_5_method_6_code 20 = .ok (.iload_n 3, 1) := by decide +kernel
theorem d_N_changeByte_21 : decode prog_5_method_6_code 21 = .ok (.i2l, 1) := by decide +kernel
theorem d_N_changeByte_22 : decode prog_5_method_6_code 22 = .ok (.lconst 1, 1) := by decide +kernel
theorem d_N_changeByte_23 : decode prog_5_method_6_code 23 = .ok (.ldc2_w 51, 3) := by decide +kernel
theorem d_N_changeByte_26 : decode prog_5_method_6_code 26 = .ok (.invokestatic 47, 3) := by decide +kernel
theorem d_N_changeByte_29 : decode prog_5_method_6_code 29 = .ok (.ifCond .ne 5, 3) := by decide +kernel
theorem d_N_changeByte_32 : decode prog_5_method_6_code 32 = .ok (.iconst 0, 1) := by decide +kernel
theorem d_N_changeByte_33 : decode prog_5_method_6_code 33 = .ok (.ireturn, 1) := by decide +kernel
theorem d_N_changeByte_34 : decode prog_5_method_6_code 34 = .ok (.aload_n 0, 1) := by decide +kernel
theorem d_N_changeByte_35 : decode prog_5_method_6_code 35 = .ok (.getfield 11, 3) := by decide +kernel
theorem d_N_changeByte_38 : decode prog_5_method_6_code 38 = .ok (.iload_n 1, 1) := by decide +kernel
theorem d_N_changeByte_39 : decode prog_5_method_6_code 39 = .ok (.aaload, 1) := by decide +kernel
theorem d_N_changeByte_40 : decode prog_5_method_6_code 40 = .ok (.getfield 53, 3) := by decide +kernel
theorem d_N_changeByte_43 : decode prog_5_method_6_code 43 = .ok (.iload_n 2, 1) := by decide +kernel
theorem d_N_changeByte_44 : decode prog_5_method_6_code 44 = .ok (.dup2, 1) := by decide +kernel
theorem d_N_changeByte_45 : decode prog_5_method_6_code 45 = .ok (.iaload, 1) := by decide +kernel
theorem d_N_changeByte_46 : decode prog_5_method_6_code 46 = .ok (.iload_n 3, 1) := by decide +kernel
theorem d_N_changeByte_47 : decode prog_5_method_6_code 47 = .ok (.ixor, 1) := by decide +kernel
theorem d_N_changeByte_48 : decode prog_5_method_6_code 48 = .ok (.iastore, 1) := by decide +kernel
theorem d_N_changeByte_49 : decode prog_5_method_6_code 49 = .ok (.iconst 1, 1) := by decide +kernel
theorem d_N_changeByte_50 : decode prog_5_method_6_code 50 = .ok (.ireturn, 1) := by decide +kernel
theorem d_A_poke_0 : decode prog_1_method_14_code 0 = .ok (.aload_n 0, 1) := by decide +kernel
theorem d_A_poke_1 : decode prog_1_method_14_code 1 = .ok (.getfield 10, 3) := by decide +kernel
theorem d_A_poke_4 : decode prog_1_method_14_code 4 = .ok (.iload_n 1, 1) := by decide +kernel
theorem d_A_poke_5 : decode prog_1_method_14_code 5 = .ok (.iload_n 2, 1) := by decide +kernel
theorem d_A_poke_6 : decode prog_1_method_14_code 6 = .ok (.iload_n 3, 1) := by decide +kernel
theorem d_A_poke_7 : decode prog_1_method_14_code 7 = .ok (.invokevirtual 96, 3) := by decide +kernel
theorem d_A_poke_10 : decode prog_1_method_14_code 10 = .ok (.ireturn, 1) := by decide +kernel
theorem d_N_byteOf_0 : decode prog_5_method_7_code 0 = .ok (.aload_n 0, 1) := by decide +kernel
theorem d_N_byteOf_1 : decode prog_5_method_7_code 1 = .ok (.iload_n 1, 1) := by decide +kernel
theorem d_N_byteOf_2 : decode prog_5_method_7_code 2 = .ok (.invokevirtual 37, 3) := by decide +kernel
theorem d_N_byteOf_5 : decode prog_5_method_7_code 5 = .ok (.ifCond .eq 15, 3) := by decide +kernel
theorem d_N_byteOf_8 : decode prog_5_method_7_code 8 = .ok (.iload_n 2, 1) := by decide +kernel
theorem d_N_byteOf_9 : decode prog_5_method_7_code 9 = .ok (.i2l, 1) := by decide +kernel
theorem d_N_byteOf_10 : decode prog_5_method_7_code 10 = .ok (.lconst 0, 1) := by decide +kernel
theorem d_N_byteOf_11 : decode prog_5_method_7_code 11 = .ok (.ldc2_w 45, 3) := by decide +kernel
theorem d_N_byteOf_14 : decode prog_5_method_7_code 14 = .ok (.invokestatic 47, 3) := by decide +kernel
theorem d_N_byteOf_17 : decode prog_5_method_7_code 17 = .ok (.ifCond .ne 5, 3) := by decide +kernel
theorem d_N_byteOf_20 : decode prog_5_method_7_code 20 = .ok (.iconst (-1), 1) := by decide +kernel
theorem d_N_byteOf_21 : decode prog_5_method_7_code 21 = .ok (.ireturn, 1) := by decide +kernel
theorem d_N_byteOf_22 : decode prog_5_method_7_code 22 = .ok (.aload_n 0, 1) := by decide +kernel
theorem d_N_byteOf_23 : decode prog_5_method_7_code 23 = .ok (.getfield 11, 3) := by decide +kernel
theorem d_N_byteOf_26 : decode prog_5_method_7_code 26 = .ok (.iload_n 1, 1) := by decide +kernel
theorem d_N_byteOf_27 : decode prog_5_method_7_code 27 = .ok (.aaload, 1) := by decide +kernel
theorem d_N_byteOf_28 : decode prog_5_method_7_code 28 = .ok (.getfield 53, 3) := by decide +kernel
theorem d_N_byteOf_31 : decode prog_5_method_7_code 31 = .ok (.iload_n 2, 1) := by decide +kernel
theorem d_N_byteOf_32 : decode prog_5_method_7_code 32 = .ok (.iaload, 1) := by decide +kernel
theorem d_N_byteOf_33 : decode prog_5_method_7_code 33 = .ok (.ireturn, 1) := by decide +kernel
theorem d_A_letter_0 : decode prog_1_method_15_code 0 = .ok (.aload_n 0, 1) := by decide +kernel
theorem d_A_letter_1 : decode prog_1_method_15_code 1 = .ok (.getfield 10, 3) := by decide +kernel
theorem d_A_letter_4 : decode prog_1_method_15_code 4 = .ok (.iload_n 1, 1) := by decide +kernel
theorem d_A_letter_5 : decode prog_1_method_15_code 5 = .ok (.iload_n 2, 1) := by decide +kernel
theorem d_A_letter_6 : decode prog_1_method_15_code 6 = .ok (.invokevirtual 99, 3) := by decide +kernel
theorem d_A_letter_9 : decode prog_1_method_15_code 9 = .ok (.ireturn, 1) := by decide +kernel
theorem d_M_switchOff_0 : decode prog_6_method_15_code 0 = .ok (.aload_n 0, 1) := by decide +kernel
theorem d_M_switchOff_1 : decode prog_6_method_15_code 1 = .ok (.getfield 29, 3) := by decide +kernel
theorem d_M_switchOff_4 : decode prog_6_method_15_code 4 = .ok (.ifCond .ne 5, 3) := by decide +kernel
theorem d_M_switchOff_7 : decode prog_6_method_15_code 7 = .ok (.iconst 0, 1) := by decide +kernel
theorem d_M_switchOff_8 : decode prog_6_method_15_code 8 = .ok (.ireturn, 1) := by decide +kernel
theorem d_M_switchOff_9 : decode prog_6_method_15_code 9 = .ok (.aload_n 0, 1) := by decide +kernel
theorem d_M_switchOff_10 : decode prog_6_method_15_code 10 = .ok (.iconst 0, 1) := by decide +kernel
theorem d_M_switchOff_11 : decode prog_6_method_15_code 11 = .ok (.putfield 29, 3) := by decide +kernel
theorem d_M_switchOff_14 : decode prog_6_method_15_code 14 = .ok (.iconst 1, 1) := by decide +kernel
theorem d_M_switchOff_15 : decode prog_6_method_15_code 15 = .ok (.ireturn, 1) := by decide +kernel
theorem d_A_cut_0 : decode prog_1_method_16_code 0 = .ok (.aload_n 0, 1) := by decide +kernel
theorem d_A_cut_1 : decode prog_1_method_16_code 1 = .ok (.getfield 28, 3) := by decide +kernel
theorem d_A_cut_4 : decode prog_1_method_16_code 4 = .ok (.invokevirtual 103, 3) := by decide +kernel
theorem d_A_cut_7 : decode prog_1_method_16_code 7 = .ok (.ireturn, 1) := by decide +kernel
theorem d_M_allowSteps_0 : decode prog_6_method_16_code 0 = .ok (.aload_n 0, 1) := by decide +kernel
theorem d_M_allowSteps_1 : decode prog_6_method_16_code 1 = .ok (.getfield 29, 3) := by decide +kernel
theorem d_M_allowSteps_4 : decode prog_6_method_16_code 4 = .ok (.ifCond .eq 15, 3) := by decide +kernel
theorem d_M_allowSteps_7 : decode prog_6_method_16_code 7 = .ok (.iload_n 1, 1) := by decide +kernel
theorem d_M_allowSteps_8 : decode prog_6_method_16_code 8 = .ok (.i2l, 1) := by decide +kernel
theorem d_M_allowSteps_9 : decode prog_6_method_16_code 9 = .ok (.lconst 0, 1) := by decide +kernel
theorem d_M_allowSteps_10 : decode prog_6_method_16_code 10 = .ok (.ldc2_w 156, 3) := by decide +kernel
theorem d_M_allowSteps_13 : decode prog_6_method_16_code 13 = .ok (.invokestatic 158, 3) := by decide +kernel
theorem d_M_allowSteps_16 : decode prog_6_method_16_code 16 = .ok (.ifCond .ne 5, 3) := by decide +kernel
theorem d_M_allowSteps_19 : decode prog_6_method_16_code 19 = .ok (.iconst 0, 1) := by decide +kernel
theorem d_M_allowSteps_20 : decode prog_6_method_16_code 20 = .ok (.ireturn, 1) := by decide +kernel
theorem d_M_allowSteps_21 : decode prog_6_method_16_code 21 = .ok (.aload_n 0, 1) := by decide +kernel
theorem d_M_allowSteps_22 : decode prog_6_method_16_code 22 = .ok (.iload_n 1, 1) := by decide +kernel
theorem d_M_allowSteps_23 : decode prog_6_method_16_code 23 = .ok (.putfield 33, 3) := by decide +kernel
theorem d_M_allowSteps_26 : decode prog_6_method_16_code 26 = .ok (.iconst 1, 1) := by decide +kernel
theorem d_M_allowSteps_27 : decode prog_6_method_16_code 27 = .ok (.ireturn, 1) := by decide +kernel
theorem d_A_arm_0 : decode prog_1_method_17_code 0 = .ok (.aload_n 0, 1) := by decide +kernel
theorem d_A_arm_1 : decode prog_1_method_17_code 1 = .ok (.getfield 28, 3) := by decide +kernel
theorem d_A_arm_4 : decode prog_1_method_17_code 4 = .ok (.iload_n 1, 1) := by decide +kernel
theorem d_A_arm_5 : decode prog_1_method_17_code 5 = .ok (.invokevirtual 106, 3) := by decide +kernel
theorem d_A_arm_8 : decode prog_1_method_17_code 8 = .ok (.ireturn, 1) := by decide +kernel
theorem d_J_tell_0 : decode prog_3_method_4_code 0 = .ok (.iload_n 1, 1) := by decide +kernel
theorem d_J_tell_1 : decode prog_3_method_4_code 1 = .ok (.i2l, 1) := by decide +kernel
theorem d_J_tell_2 : decode prog_3_method_4_code 2 = .ok (.lconst 0, 1) := by decide +kernel
theorem d_J_tell_3 : decode prog_3_method_4_code 3 = .ok (.aload_n 0, 1) := by decide +kernel
theorem d_J_tell_4 : decode prog_3_method_4_code 4 = .ok (.getfield 24, 3) := by decide +kernel
theorem d_J_tell_7 : decode prog_3_method_4_code 7 = .ok (.iconst 1, 1) := by decide +kernel
theorem d_J_tell_8 : decode prog_3_method_4_code 8 = .ok (.isub, 1) := by decide +kernel
theorem d_J_tell_9 : decode prog_3_method_4_code 9 = .ok (.i2l, 1) := by decide +kernel
theorem d_J_tell_10 : decode prog_3_method_4_code 10 = .ok (.invokestatic 32, 3) := by decide +kernel
theorem d_J_tell_13 : decode prog_3_method_4_code 13 = .ok (.ifCond .ne 5, 3) := by decide +kernel
theorem d_J_tell_16 : decode prog_3_method_4_code 16 = .ok (.iconst (-1), 1) := by decide +kernel
theorem d_J_tell_17 : decode prog_3_method_4_code 17 = .ok (.ireturn, 1) := by decide +kernel
theorem d_J_tell_18 : decode prog_3_method_4_code 18 = .ok (.iload_n 2, 1) := by decide +kernel
theorem d_J_tell_19 : decode prog_3_method_4_code 19 = .ok (.tableswitch 57 0 3 #[29, 36, 43, 50], 29) := by decide +kernel
theorem d_J_tell_48 : decode prog_3_method_4_code 48 = .ok (.aload_n 0, 1) := by decide +kernel
theorem d_J_tell_49 : decode prog_3_method_4_code 49 = .ok (.getfield 9, 3) := by decide +kernel
theorem d_J_tell_52 : decode prog_3_method_4_code 52 = .ok (.iload_n 1, 1) := by decide +kernel
theorem d_J_tell_53 : decode prog_3_method_4_code 53 = .ok (.iaload, 1) := by decide +kernel
theorem d_J_tell_54 : decode prog_3_method_4_code 54 = .ok (.ireturn, 1) := by decide +kernel
theorem d_J_tell_55 : decode prog_3_method_4_code 55 = .ok (.aload_n 0, 1) := by decide +kernel
theorem d_J_tell_56 : decode prog_3_method_4_code 56 = .ok (.getfield 15, 3) := by decide +kernel
theorem d_J_tell_59 : decode prog_3_method_4_code 59 = .ok (.iload_n 1, 1) := by decide +kernel
theorem d_J_tell_60 : decode prog_3_method_4_code 60 = .ok (.iaload, 1) := by decide +kernel
theorem d_J_tell_61 : decode prog_3_method_4_code 61 = .ok (.ireturn, 1) := by decide +kernel
theorem d_J_tell_62 : decode prog_3_method_4_code 62 = .ok (.aload_n 0, 1) := by decide +kernel
theorem d_J_tell_63 : decode prog_3_method_4_code 63 = .ok (.getfield 18, 3) := by decide +kernel
theorem d_J_tell_66 : decode prog_3_method_4_code 66 = .ok (.iload_n 1, 1) := by decide +kernel
theorem d_J_tell_67 : decode prog_3_method_4_code 67 = .ok (.iaload, 1) := by decide +kernel
theorem d_J_tell_68 : decode prog_3_method_4_code 68 = .ok (.ireturn, 1) := by decide +kernel
theorem d_J_tell_69 : decode prog_3_method_4_code 69 = .ok (.aload_n 0, 1) := by decide +kernel
theorem d_J_tell_70 : decode prog_3_method_4_code 70 = .ok (.getfield 21, 3) := by decide +kernel
theorem d_J_tell_73 : decode prog_3_method_4_code 73 = .ok (.iload_n 1, 1) := by decide +kernel
theorem d_J_tell_74 : decode prog_3_method_4_code 74 = .ok (.iaload, 1) := by decide +kernel
theorem d_J_tell_75 : decode prog_3_method_4_code 75 = .ok (.ireturn, 1) := by decide +kernel
theorem d_J_tell_76 : decode prog_3_method_4_code 76 = .ok (.iconst (-1), 1) := by decide +kernel
theorem d_J_tell_77 : decode prog_3_method_4_code 77 = .ok (.ireturn, 1) := by decide +kernel
end
section
theorem d_J_lastBegun_0 : decode prog_3_method_6_code 0 = .ok (.aload_n 0, 1) := by decide +kernel
theorem d_J_lastBegun_1 : decode prog_3_method_6_code 1 = .ok (.getfield 24, 3) := by decide +kernel
theorem d_J_lastBegun_4 : decode prog_3_method_6_code 4 = .ok (.iconst 1, 1) := by decide +kernel
theorem d_J_lastBegun_5 : decode prog_3_method_6_code 5 = .ok (.isub, 1) := by decide +kernel
theorem d_J_lastBegun_6 : decode prog_3_method_6_code 6 = .ok (.istore_n 1, 1) := by decide +kernel
theorem d_J_lastBegun_7 : decode prog_3_method_6_code 7 = .ok (.iload_n 1, 1) := by decide +kernel
theorem d_J_lastBegun_8 : decode prog_3_method_6_code 8 = .ok (.ifCond .lt 21, 3) := by decide +kernel
theorem d_J_lastBegun_11 : decode prog_3_method_6_code 11 = .ok (.aload_n 0, 1) := by decide +kernel
theorem d_J_lastBegun_12 : decode prog_3_method_6_code 12 = .ok (.iload_n 1, 1) := by decide +kernel
theorem d_J_lastBegun_13 : decode prog_3_method_6_code 13 = .ok (.iconst 0, 1) := by decide +kernel
theorem d_J_lastBegun_14 : decode prog_3_method_6_code 14 = .ok (.invokevirtual 36, 3) := by decide +kernel
theorem d_J_lastBegun_17 : decode prog_3_method_6_code 17 = .ok (.iconst 1, 1) := by decide +kernel
theorem d_J_lastBegun_18 : decode prog_3_method_6_code 18 = .ok (.if_icmp .ne 5, 3) := by decide +kernel
theorem d_J_lastBegun_21 : decode prog_3_method_6_code 21 = .ok (.iload_n 1, 1) := by decide +kernel
theorem d_J_lastBegun_22 : decode prog_3_method_6_code 22 = .ok (.ireturn, 1) := by decide +kernel
theorem d_J_lastBegun_23 : decode prog_3_method_6_code 23 = .ok (.iinc 1 (-1), 3) := by decide +kernel
theorem d_J_lastBegun_26 : decode prog_3_method_6_code 26 = .ok (.goto (-19), 3) := by decide +kernel
theorem d_J_lastBegun_29 : decode prog_3_method_6_code 29 = .ok (.iconst (-1), 1) := by decide +kernel
theorem d_J_lastBegun_30 : decode prog_3_method_6_code 30 = .ok (.ireturn, 1) := by decide +kernel
theorem d_M_recallLastBegun_0 : decode prog_6_method_18_code 0 = .ok (.aload_n 0, 1) := by decide +kernel
theorem d_M_recallLastBegun_1 : decode prog_6_method_18_code 1 = .ok (.getfield 21, 3) := by decide +kernel
theorem d_M_recallLastBegun_4 : decode prog_6_method_18_code 4 = .ok (.invokevirtual 168, 3) := by decide +kernel
theorem d_M_recallLastBegun_7 : decode prog_6_method_18_code 7 = .ok (.istore_n 1, 1) := by decide +kernel
theorem d_M_recallLastBegun_8 : decode prog_6_method_18_code 8 = .ok (.iload_n 1, 1) := by decide +kernel
theorem d_M_recallLastBegun_9 : decode prog_6_method_18_code 9 = .ok (.iconst (-1), 1) := by decide +kernel
theorem d_M_recallLastBegun_10 : decode prog_6_method_18_code 10 = .ok (.if_icmp .eq 42, 3) := by decide +kernel
theorem d_M_recallLastBegun_13 : decode prog_6_method_18_code 13 = .ok (.aload_n 0, 1) := by decide +kernel
theorem d_M_recallLastBegun_14 : decode prog_6_method_18_code 14 = .ok (.aload_n 0, 1) := by decide +kernel
theorem d_M_recallLastBegun_15 : decode prog_6_method_18_code 15 = .ok (.getfield 21, 3) := by decide +kernel
theorem d_M_recallLastBegun_18 : decode prog_6_method_18_code 18 = .ok (.iload_n 1, 1) := by decide +kernel
theorem d_M_recallLastBegun_19 : decode prog_6_method_18_code 19 = .ok (.iconst 1, 1) := by decide +kernel
theorem d_M_recallLastBegun_20 : decode prog_6_method_18_code 20 = .ok (.invokevirtual 171, 3) := by decide +kernel
theorem d_M_recallLastBegun_23 : decode prog_6_method_18_code 23 = .ok (.putfield 128, 3) := by decide +kernel
theorem d_M_recallLastBegun_26 : decode prog_6_method_18_code 26 = .ok (.aload_n 0, 1) := by decide +kernel
theorem d_M_recallLastBegun_27 : decode prog_6_method_18_code 27 = .ok (.aload_n 0, 1) := by decide +kernel
theorem d_M_recallLastBegun_28 : decode prog_6_method_18_code 28 = .ok (.getfield 21, 3) := by decide +kernel
theorem d_M_recallLastBegun_31 : decode prog_6_method_18_code 31 = .ok (.iload_n 1, 1) := by decide +kernel
theorem d_M_recallLastBegun_32 : decode prog_6_method_18_code 32 = .ok (.iconst 2, 1) := by decide +kernel
theorem d_M_recallLastBegun_33 : decode prog_6_method_18_code 33 = .ok (.invokevirtual 171, 3) := by decide +kernel
theorem d_M_recallLastBegun_36 : decode prog_6_method_18_code 36 = .ok (.putfield 84, 3) := by decide +kernel
theorem d_M_recallLastBegun_39 : decode prog_6_method_18_code 39 = .ok (.aload_n 0, 1) := by decide +kernel
theorem d_M_recallLastBegun_40 : decode prog_6_method_18_code 40 = .ok (.aload_n 0, 1) := by decide +kernel
theorem d_M_recallLastBegun_41 : decode prog_6_method_18_code 41 = .ok (.getfield 21, 3) := by decide +kernel
theorem d_M_recallLastBegun_44 : decode prog_6_method_18_code 44 = .ok (.iload_n 1, 1) := by decide +kernel
theorem d_M_recallLastBegun_45 : decode prog_6_method_18_code 45 = .ok (.iconst 3, 1) := by decide +kernel
theorem d_M_recallLastBegun_46 : decode prog_6_method_18_code 46 = .ok (.invokevirtual 171, 3) := by decide +kernel
theorem d_M_recallLastBegun_49 : decode prog_6_method_18_code 49 = .ok (.putfield 46, 3) := by decide +kernel
theorem d_M_recallLastBegun_52 : decode prog_6_method_18_code 52 = .ok (.return_, 1) := by decide +kernel
theorem d_J_lastKind_0 : decode prog_3_method_5_code 0 = .ok (.aload_n 0, 1) := by decide +kernel
theorem d_J_lastKind_1 : decode prog_3_method_5_code 1 = .ok (.aload_n 0, 1) := by decide +kernel
theorem d_J_lastKind_2 : decode prog_3_method_5_code 2 = .ok (.getfield 24, 3) := by decide +kernel
theorem d_J_lastKind_5 : decode prog_3_method_5_code 5 = .ok (.iconst 1, 1) := by decide +kernel
theorem d_J_lastKind_6 : decode prog_3_method_5_code 6 = .ok (.isub, 1) := by decide +kernel
theorem d_J_lastKind_7 : decode prog_3_method_5_code 7 = .ok (.iconst 0, 1) := by decide +kernel
theorem d_J_lastKind_8 : decode prog_3_method_5_code 8 = .ok (.invokevirtual 36, 3) := by decide +kernel
theorem d_J_lastKind_11 : decode prog_3_method_5_code 11 = .ok (.ireturn, 1) := by decide +kernel
theorem d_M_switchOn_0 : decode prog_6_method_17_code 0 = .ok (.aload_n 0, 1) := by decide +kernel
theorem d_M_switchOn_1 : decode prog_6_method_17_code 1 = .ok (.getfield 29, 3) := by decide +kernel
theorem d_M_switchOn_4 : decode prog_6_method_17_code 4 = .ok (.ifCond .eq 5, 3) := by decide +kernel
theorem d_M_switchOn_7 : decode prog_6_method_17_code 7 = .ok (.iconst 0, 1) := by decide +kernel
theorem d_M_switchOn_8 : decode prog_6_method_17_code 8 = .ok (.ireturn, 1) := by decide +kernel
theorem d_M_switchOn_9 : decode prog_6_method_17_code 9 = .ok (.aload_n 0, 1) := by decide +kernel
theorem d_M_switchOn_10 : decode prog_6_method_17_code 10 = .ok (.iconst 1, 1) := by decide +kernel
theorem d_M_switchOn_11 : decode prog_6_method_17_code 11 = .ok (.putfield 29, 3) := by decide +kernel
theorem d_M_switchOn_14 : decode prog_6_method_17_code 14 = .ok (.aload_n 0, 1) := by decide +kernel
theorem d_M_switchOn_15 : decode prog_6_method_17_code 15 = .ok (.iconst (-1), 1) := by decide +kernel
theorem d_M_switchOn_16 : decode prog_6_method_17_code 16 = .ok (.putfield 33, 3) := by decide +kernel
theorem d_M_switchOn_19 : decode prog_6_method_17_code 19 = .ok (.aload_n 0, 1) := by decide +kernel
theorem d_M_switchOn_20 : decode prog_6_method_17_code 20 = .ok (.invokevirtual 61, 3) := by decide +kernel
theorem d_M_switchOn_23 : decode prog_6_method_17_code 23 = .ok (.aload_n 0, 1) := by decide +kernel
theorem d_M_switchOn_24 : decode prog_6_method_17_code 24 = .ok (.invokevirtual 162, 3) := by decide +kernel
theorem d_M_switchOn_27 : decode prog_6_method_17_code 27 = .ok (.aload_n 0, 1) := by decide +kernel
theorem d_M_switchOn_28 : decode prog_6_method_17_code 28 = .ok (.getfield 21, 3) := by decide +kernel
theorem d_M_switchOn_31 : decode prog_6_method_17_code 31 = .ok (.invokevirtual 165, 3) := by decide +kernel
theorem d_M_switchOn_34 : decode prog_6_method_17_code 34 = .ok (.tableswitch 81 1 4 #[30, 38, 81, 38], 30) := by decide +kernel
theorem d_M_switchOn_64 : decode prog_6_method_17_code 64 = .ok (.aload_n 0, 1) := by decide +kernel
theorem d_M_switchOn_65 : decode prog_6_method_17_code 65 = .ok (.iconst 1, 1) := by decide +kernel
theorem d_M_switchOn_66 : decode prog_6_method_17_code 66 = .ok (.invokevirtual 96, 3) := by decide +kernel
theorem d_M_switchOn_69 : decode prog_6_method_17_code 69 = .ok (.goto 46, 3) := by decide +kernel
theorem d_M_switchOn_72 : decode prog_6_method_17_code 72 = .ok (.aload_n 0, 1) := by decide +kernel
theorem d_M_switchOn_73 : decode prog_6_method_17_code 73 = .ok (.getfield 90, 3) := by decide +kernel
theorem d_M_switchOn_76 : decode prog_6_method_17_code 76 = .ok (.aload_n 0, 1) := by decide +kernel
theorem d_M_switchOn_77 : decode prog_6_method_17_code 77 = .ok (.getfield 93, 3) := by decide +kernel
theorem d_M_switchOn_80 : decode prog_6_method_17_code 80 = .ok (.if_icmp .le 12, 3) := by decide +kernel
theorem d_M_switchOn_83 : decode prog_6_method_17_code 83 = .ok (.aload_n 0, 1) := by decide +kernel
theorem d_M_switchOn_84 : decode prog_6_method_17_code 84 = .ok (.iconst 3, 1) := by decide +kernel
theorem d_M_switchOn_85 : decode prog_6_method_17_code 85 = .ok (.invokevirtual 87, 3) := by decide +kernel
theorem d_M_switchOn_88 : decode prog_6_method_17_code 88 = .ok (.pop, 1) := by decide +kernel
theorem d_M_switchOn_89 : decode prog_6_method_17_code 89 = .ok (.goto 26, 3) := by decide +kernel
theorem d_M_switchOn_92 : decode prog_6_method_17_code 92 = .ok (.aload_n 0, 1) := by decide +kernel
theorem d_M_switchOn_93 : decode prog_6_method_17_code 93 = .ok (.aload_n 0, 1) := by decide +kernel
theorem d_M_switchOn_94 : decode prog_6_method_17_code 94 = .ok (.getfield 21, 3) := by decide +kernel
theorem d_M_switchOn_97 : decode prog_6_method_17_code 97 = .ok (.invokevirtual 165, 3) := by decide +kernel
theorem d_M_switchOn_100 : decode prog_6_method_17_code 100 = .ok (.iconst 2, 1) := by decide +kernel
theorem d_M_switchOn_101 : decode prog_6_method_17_code 101 = .ok (.if_icmp .ne 7, 3) := by decide +kernel
theorem d_M_switchOn_104 : decode prog_6_method_17_code 104 = .ok (.iconst 1, 1) := by decide +kernel
theorem d_M_switchOn_105 : decode prog_6_method_17_code 105 = .ok (.goto 4, 3) := by decide +kernel
theorem d_M_switchOn_108 : decode prog_6_method_17_code 108 = .ok (.iconst 0, 1) := by decide +kernel
theorem d_M_switchOn_109 : decode prog_6_method_17_code 109 = .ok (.invokevirtual 96, 3) := by decide +kernel
theorem d_M_switchOn_112 : decode prog_6_method_17_code 112 = .ok (.goto 3, 3) := by decide +kernel
theorem d_M_switchOn_115 : decode prog_6_method_17_code 115 = .ok (.iconst 1, 1) := by decide +kernel
theorem d_M_switchOn_116 : decode prog_6_method_17_code 116 = .ok (.ireturn, 1) := by decide +kernel
theorem d_A_power_0 : decode prog_1_method_18_code 0 = .ok (.aload_n 0, 1) := by decide +kernel
theorem d_A_power_1 : decode prog_1_method_18_code 1 = .ok (.getfield 28, 3) := by decide +kernel
theorem d_A_power_4 : decode prog_1_method_18_code 4 = .ok (.invokevirtual 109, 3) := by decide +kernel
theorem d_A_power_7 : decode prog_1_method_18_code 7 = .ok (.ireturn, 1) := by decide +kernel
theorem d_O_tell_0 : decode prog_7_method_3_code 0 = .ok (.iload_n 1, 1) := by decide +kernel
theorem d_O_tell_1 : decode prog_7_method_3_code 1 = .ok (.invokestatic 38, 3) := by decide +kernel
theorem d_O_tell_4 : decode prog_7_method_3_code 4 = .ok (.ifCond .ne 5, 3) := by decide +kernel
theorem d_O_tell_7 : decode prog_7_method_3_code 7 = .ok (.iconst (-1), 1) := by decide +kernel
theorem d_O_tell_8 : decode prog_7_method_3_code 8 = .ok (.ireturn, 1) := by decide +kernel
theorem d_O_tell_9 : decode prog_7_method_3_code 9 = .ok (.iload_n 2, 1) := by decide +kernel
theorem d_O_tell_10 : decode prog_7_method_3_code 10 = .ok (.tableswitch 69 0 4 #[34, 41, 48, 55, 62], 34) := by decide +kernel
theorem d_O_tell_44 : decode prog_7_method_3_code 44 = .ok (.aload_n 0, 1) := by decide +kernel
theorem d_O_tell_45 : decode prog_7_method_3_code 45 = .ok (.getfield 18, 3) := by decide +kernel
theorem d_O_tell_48 : decode prog_7_method_3_code 48 = .ok (.iload_n 1, 1) := by decide +kernel
theorem d_O_tell_49 : decode prog_7_method_3_code 49 = .ok (.iaload, 1) := by decide +kernel
theorem d_O_tell_50 : decode prog_7_method_3_code 50 = .ok (.ireturn, 1) := by decide +kernel
theorem d_O_tell_51 : decode prog_7_method_3_code 51 = .ok (.aload_n 0, 1) := by decide +kernel
theorem d_O_tell_52 : decode prog_7_method_3_code 52 = .ok (.getfield 23, 3) := by decide +kernel
theorem d_O_tell_55 : decode prog_7_method_3_code 55 = .ok (.iload_n 1, 1) := by decide +kernel
theorem d_O_tell_56 : decode prog_7_method_3_code 56 = .ok (.iaload, 1) := by decide +kernel
theorem d_O_tell_57 : decode prog_7_method_3_code 57 = .ok (.ireturn, 1) := by decide +kernel
theorem d_O_tell_58 : decode prog_7_method_3_code 58 = .ok (.aload_n 0, 1) := by decide +kernel
theorem d_O_tell_59 : decode prog_7_method_3_code 59 = .ok (.getfield 26, 3) := by decide +kernel
theorem d_O_tell_62 : decode prog_7_method_3_code 62 = .ok (.iload_n 1, 1) := by decide +kernel
theorem d_O_tell_63 : decode prog_7_method_3_code 63 = .ok (.iaload, 1) := by decide +kernel
theorem d_O_tell_64 : decode prog_7_method_3_code 64 = .ok (.ireturn, 1) := by decide +kernel
theorem d_O_tell_65 : decode prog_7_method_3_code 65 = .ok (.aload_n 0, 1) := by decide +kernel
theorem d_O_tell_66 : decode prog_7_method_3_code 66 = .ok (.getfield 29, 3) := by decide +kernel
theorem d_O_tell_69 : decode prog_7_method_3_code 69 = .ok (.iload_n 1, 1) := by decide +kernel
theorem d_O_tell_70 : decode prog_7_method_3_code 70 = .ok (.iaload, 1) := by decide +kernel
theorem d_O_tell_71 : decode prog_7_method_3_code 71 = .ok (.ireturn, 1) := by decide +kernel
theorem d_O_tell_72 : decode prog_7_method_3_code 72 = .ok (.aload_n 0, 1) := by decide +kernel
theorem d_O_tell_73 : decode prog_7_method_3_code 73 = .ok (.getfield 32, 3) := by decide +kernel
theorem d_O_tell_76 : decode prog_7_method_3_code 76 = .ok (.iload_n 1, 1) := by decide +kernel
theorem d_O_tell_77 : decode prog_7_method_3_code 77 = .ok (.iaload, 1) := by decide +kernel
theorem d_O_tell_78 : decode prog_7_method_3_code 78 = .ok (.ireturn, 1) := by decide +kernel
theorem d_O_tell_79 : decode prog_7_method_3_code 79 = .ok (.iconst (-1), 1) := by decide +kernel
theorem d_O_tell_80 : decode prog_7_method_3_code 80 = .ok (.ireturn, 1) := by decide +kernel
theorem d_A_cassette_0 : decode prog_1_method_19_code 0 = .ok (.aload_n 0, 1) := by decide +kernel
theorem d_A_cassette_1 : decode prog_1_method_19_code 1 = .ok (.getfield 28, 3) := by decide +kernel
theorem d_A_cassette_4 : decode prog_1_method_19_code 4 = .ok (.getfield 65, 3) := by decide +kernel
theorem d_A_cassette_7 : decode prog_1_method_19_code 7 = .ok (.iload_n 1, 1) := by decide +kernel
theorem d_A_cassette_8 : decode prog_1_method_19_code 8 = .ok (.iload_n 2, 1) := by decide +kernel
theorem d_A_cassette_9 : decode prog_1_method_19_code 9 = .ok (.invokevirtual 112, 3) := by decide +kernel
theorem d_A_cassette_12 : decode prog_1_method_19_code 12 = .ok (.ireturn, 1) := by decide +kernel
theorem d_O_mixedOf_0 : decode prog_7_method_4_code 0 = .ok (.iload_n 2, 1) := by decide +kernel
theorem d_O_mixedOf_1 : decode prog_7_method_4_code 1 = .ok (.invokestatic 38, 3) := by decide +kernel
theorem d_O_mixedOf_4 : decode prog_7_method_4_code 4 = .ok (.ifCond .eq 11, 3) := by decide +kernel
theorem d_O_mixedOf_7 : decode prog_7_method_4_code 7 = .ok (.aload_n 0, 1) := by decide +kernel
theorem d_O_mixedOf_8 : decode prog_7_method_4_code 8 = .ok (.iload_n 1, 1) := by decide +kernel
theorem d_O_mixedOf_9 : decode prog_7_method_4_code 9 = .ok (.invokevirtual 50, 3) := by decide +kernel
theorem d_O_mixedOf_12 : decode prog_7_method_4_code 12 = .ok (.ifCond .ne 5, 3) := by decide +kernel
theorem d_O_mixedOf_15 : decode prog_7_method_4_code 15 = .ok (.iconst (-1), 1) := by decide +kernel
theorem d_O_mixedOf_16 : decode prog_7_method_4_code 16 = .ok (.ireturn, 1) := by decide +kernel
theorem d_O_mixedOf_17 : decode prog_7_method_4_code 17 = .ok (.aload_n 0, 1) := by decide +kernel
theorem d_O_mixedOf_18 : decode prog_7_method_4_code 18 = .ok (.getfield 35, 3) := by decide +kernel
theorem d_O_mixedOf_21 : decode prog_7_method_4_code 21 = .ok (.iload_n 2, 1) := by decide +kernel
theorem d_O_mixedOf_22 : decode prog_7_method_4_code 22 = .ok (.iaload, 1) := by decide +kernel
theorem d_O_mixedOf_23 : decode prog_7_method_4_code 23 = .ok (.ireturn, 1) := by decide +kernel
theorem d_A_mix_0 : decode prog_1_method_20_code 0 = .ok (.aload_n 0, 1) := by decide +kernel
theorem d_A_mix_1 : decode prog_1_method_20_code 1 = .ok (.getfield 28, 3) := by decide +kernel
theorem d_A_mix_4 : decode prog_1_method_20_code 4 = .ok (.getfield 65, 3) := by decide +kernel
theorem d_A_mix_7 : decode prog_1_method_20_code 7 = .ok (.iload_n 1, 1) := by decide +kernel
theorem d_A_mix_8 : decode prog_1_method_20_code 8 = .ok (.iload_n 2, 1) := by decide +kernel
theorem d_A_mix_9 : decode prog_1_method_20_code 9 = .ok (.invokevirtual 115, 3) := by decide +kernel
theorem d_A_mix_12 : decode prog_1_method_20_code 12 = .ok (.ireturn, 1) := by decide +kernel
theorem d_H_balanceOf_0 : decode prog_2_method_4_code 0 = .ok (.iload_n 1, 1) := by decide +kernel
theorem d_H_balanceOf_1 : decode prog_2_method_4_code 1 = .ok (.invokestatic 47, 3) := by decide +kernel
theorem d_H_balanceOf_4 : decode prog_2_method_4_code 4 = .ok (.ifCond .eq 12, 3) := by decide +kernel
theorem d_H_balanceOf_7 : decode prog_2_method_4_code 7 = .ok (.aload_n 0, 1) := by decide +kernel
theorem d_H_balanceOf_8 : decode prog_2_method_4_code 8 = .ok (.getfield 9, 3) := by decide +kernel
theorem d_H_balanceOf_11 : decode prog_2_method_4_code 11 = .ok (.iload_n 1, 1) := by decide +kernel
theorem d_H_balanceOf_12 : decode prog_2_method_4_code 12 = .ok (.laload, 1) := by decide +kernel
theorem d_H_balanceOf_13 : decode prog_2_method_4_code 13 = .ok (.goto 6, 3) := by decide +kernel
theorem d_H_balanceOf_16 : decode prog_2_method_4_code 16 = .ok (.ldc2_w 64, 3) := by decide +kernel
theorem d_H_balanceOf_19 : decode prog_2_method_4_code 19 = .ok (.lreturn, 1) := by decide +kernel
theorem d_A_balance_0 : decode prog_1_method_21_code 0 = .ok (.aload_n 0, 1) := by decide +kernel
theorem d_A_balance_1 : decode prog_1_method_21_code 1 = .ok (.getfield 21, 3) := by decide +kernel
theorem d_A_balance_4 : decode prog_1_method_21_code 4 = .ok (.iload_n 1, 1) := by decide +kernel
theorem d_A_balance_5 : decode prog_1_method_21_code 5 = .ok (.invokevirtual 118, 3) := by decide +kernel
theorem d_A_balance_8 : decode prog_1_method_21_code 8 = .ok (.lreturn, 1) := by decide +kernel
theorem d_H_triesOf_0 : decode prog_2_method_5_code 0 = .ok (.iload_n 1, 1) := by decide +kernel
theorem d_H_triesOf_1 : decode prog_2_method_5_code 1 = .ok (.invokestatic 57, 3) := by decide +kernel
theorem d_H_triesOf_4 : decode prog_2_method_5_code 4 = .ok (.ifCond .eq 12, 3) := by decide +kernel
theorem d_H_triesOf_7 : decode prog_2_method_5_code 7 = .ok (.aload_n 0, 1) := by decide +kernel
theorem d_H_triesOf_8 : decode prog_2_method_5_code 8 = .ok (.getfield 22, 3) := by decide +kernel
theorem d_H_triesOf_11 : decode prog_2_method_5_code 11 = .ok (.iload_n 1, 1) := by decide +kernel
theorem d_H_triesOf_12 : decode prog_2_method_5_code 12 = .ok (.iaload, 1) := by decide +kernel
theorem d_H_triesOf_13 : decode prog_2_method_5_code 13 = .ok (.goto 4, 3) := by decide +kernel
theorem d_H_triesOf_16 : decode prog_2_method_5_code 16 = .ok (.iconst (-1), 1) := by decide +kernel
theorem d_H_triesOf_17 : decode prog_2_method_5_code 17 = .ok (.ireturn, 1) := by decide +kernel
theorem d_M_keptOf_0 : decode prog_6_method_5_code 0 = .ok (.iload_n 1, 1) := by decide +kernel
theorem d_M_keptOf_1 : decode prog_6_method_5_code 1 = .ok (.invokestatic 57, 3) := by decide +kernel
theorem d_M_keptOf_4 : decode prog_6_method_5_code 4 = .ok (.ifCond .ne 5, 3) := by decide +kernel
theorem d_M_keptOf_7 : decode prog_6_method_5_code 7 = .ok (.iconst (-1), 1) := by decide +kernel
theorem d_M_keptOf_8 : decode prog_6_method_5_code 8 = .ok (.ireturn, 1) := by decide +kernel
theorem d_M_keptOf_9 : decode prog_6_method_5_code 9 = .ok (.aload_n 0, 1) := by decide +kernel
theorem d_M_keptOf_10 : decode prog_6_method_5_code 10 = .ok (.getfield 25, 3) := by decide +kernel
theorem d_M_keptOf_13 : decode prog_6_method_5_code 13 = .ok (.iload_n 1, 1) := by decide +kernel
theorem d_M_keptOf_14 : decode prog_6_method_5_code 14 = .ok (.baload, 1) := by decide +kernel
theorem d_M_keptOf_15 : decode prog_6_method_5_code 15 = .ok (.ifCond .eq 7, 3) := by decide +kernel
theorem d_M_keptOf_18 : decode prog_6_method_5_code 18 = .ok (.iconst 1, 1) := by decide +kernel
theorem d_M_keptOf_19 : decode prog_6_method_5_code 19 = .ok (.goto 4, 3) := by decide +kernel
theorem d_M_keptOf_22 : decode prog_6_method_5_code 22 = .ok (.iconst 0, 1) := by decide +kernel
theorem d_M_keptOf_23 : decode prog_6_method_5_code 23 = .ok (.ireturn, 1) := by decide +kernel
theorem d_H_accountOf_0 : decode prog_2_method_6_code 0 = .ok (.iload_n 1, 1) := by decide +kernel
theorem d_H_accountOf_1 : decode prog_2_method_6_code 1 = .ok (.invokestatic 57, 3) := by decide +kernel
theorem d_H_accountOf_4 : decode prog_2_method_6_code 4 = .ok (.ifCond .eq 12, 3) := by decide +kernel
theorem d_H_accountOf_7 : decode prog_2_method_6_code 7 = .ok (.aload_n 0, 1) := by decide +kernel
theorem d_H_accountOf_8 : decode prog_2_method_6_code 8 = .ok (.getfield 15, 3) := by decide +kernel
theorem d_H_accountOf_11 : decode prog_2_method_6_code 11 = .ok (.iload_n 1, 1) := by decide +kernel
theorem d_H_accountOf_12 : decode prog_2_method_6_code 12 = .ok (.iaload, 1) := by decide +kernel
theorem d_H_accountOf_13 : decode prog_2_method_6_code 13 = .ok (.goto 4, 3) := by decide +kernel
theorem d_H_accountOf_16 : decode prog_2_method_6_code 16 = .ok (.iconst (-1), 1) := by decide +kernel
theorem d_H_accountOf_17 : decode prog_2_method_6_code 17 = .ok (.ireturn, 1) := by decide +kernel
theorem d_A_ofCard_0 : decode prog_1_method_22_code 0 = .ok (.iload_n 2, 1) := by decide +kernel
theorem d_A_ofCard_1 : decode prog_1_method_22_code 1 = .ok (.tableswitch 54 0 2 #[27, 36, 45], 27) := by decide +kernel
theorem d_A_ofCard_28 : decode prog_1_method_22_code 28 = .ok (.aload_n 0, 1) := by decide +kernel
theorem d_A_ofCard_29 : decode prog_1_method_22_code 29 = .ok (.getfield 21, 3) := by decide +kernel
theorem d_A_ofCard_32 : decode prog_1_method_22_code 32 = .ok (.iload_n 1, 1) := by decide +kernel
theorem d_A_ofCard_33 : decode prog_1_method_22_code 33 = .ok (.invokevirtual 122, 3) := by decide +kernel
theorem d_A_ofCard_36 : decode prog_1_method_22_code 36 = .ok (.ireturn, 1) := by decide +kernel
theorem d_A_ofCard_37 : decode prog_1_method_22_code 37 = .ok (.aload_n 0, 1) := by decide +kernel
theorem d_A_ofCard_38 : decode prog_1_method_22_code 38 = .ok (.getfield 28, 3) := by decide +kernel
theorem d_A_ofCard_41 : decode prog_1_method_22_code 41 = .ok (.iload_n 1, 1) := by decide +kernel
theorem d_A_ofCard_42 : decode prog_1_method_22_code 42 = .ok (.invokevirtual 125, 3) := by decide +kernel
theorem d_A_ofCard_45 : decode prog_1_method_22_code 45 = .ok (.ireturn, 1) := by decide +kernel
theorem d_A_ofCard_46 : decode prog_1_method_22_code 46 = .ok (.aload_n 0, 1) := by decide +kernel
theorem d_A_ofCard_47 : decode prog_1_method_22_code 47 = .ok (.getfield 21, 3) := by decide +kernel
theorem d_A_ofCard_50 : decode prog_1_method_22_code 50 = .ok (.iload_n 1, 1) := by decide +kernel
theorem d_A_ofCard_51 : decode prog_1_method_22_code 51 = .ok (.invokevirtual 128, 3) := by decide +kernel
theorem d_A_ofCard_54 : decode prog_1_method_22_code 54 = .ok (.ireturn, 1) := by decide +kernel
theorem d_A_ofCard_55 : decode prog_1_method_22_code 55 = .ok (.iconst (-1), 1) := by decide +kernel
theorem d_A_ofCard_56 : decode prog_1_method_22_code 56 = .ok (.ireturn, 1) := by decide +kernel
theorem d_A_record_0 : decode prog_1_method_23_code 0 = .ok (.aload_n 0, 1) := by decide +kernel
theorem d_A_record_1 : decode prog_1_method_23_code 1 = .ok (.getfield 28, 3) := by decide +kernel
theorem d_A_record_4 : decode prog_1_method_23_code 4 = .ok (.getfield 131, 3) := by decide +kernel
theorem d_A_record_7 : decode prog_1_method_23_code 7 = .ok (.iload_n 1, 1) := by decide +kernel
theorem d_A_record_8 : decode prog_1_method_23_code 8 = .ok (.iload_n 2, 1) := by decide +kernel
theorem d_A_record_9 : decode prog_1_method_23_code 9 = .ok (.invokevirtual 135, 3) := by decide +kernel
theorem d_A_record_12 : decode prog_1_method_23_code 12 = .ok (.ireturn, 1) := by decide +kernel
theorem d_A_count_0 : decode prog_1_method_24_code 0 = .ok (.iload_n 1, 1) := by decide +kernel
theorem d_A_count_1 : decode prog_1_method_24_code 1 = .ok (.tableswitch 193 0 10 #[59, 75, 100, 109, 121, 130, 139, 148, 165, 174, 182], 59) := by decide +kernel
theorem d_A_count_60 : decode prog_1_method_24_code 60 = .ok (.aload_n 0, 1) := by decide +kernel
theorem d_A_count_61 : decode prog_1_method_24_code 61 = .ok (.getfield 28, 3) := by decide +kernel
theorem d_A_count_64 : decode prog_1_method_24_code 64 = .ok (.getfield 138, 3) := by decide +kernel
theorem d_A_count_67 : decode prog_1_method_24_code 67 = .ok (.ifCond .eq 7, 3) := by decide +kernel
theorem d_A_count_70 : decode prog_1_method_24_code 70 = .ok (.lconst 1, 1) := by decide +kernel
theorem d_A_count_71 : decode prog_1_method_24_code 71 = .ok (.goto 4, 3) := by decide +kernel
theorem d_A_count_74 : decode prog_1_method_24_code 74 = .ok (.lconst 0, 1) := by decide +kernel
theorem d_A_count_75 : decode prog_1_method_24_code 75 = .ok (.lreturn, 1) := by decide +kernel
theorem d_A_count_76 : decode prog_1_method_24_code 76 = .ok (.aload_n 0, 1) := by decide +kernel
theorem d_A_count_77 : decode prog_1_method_24_code 77 = .ok (.getfield 28, 3) := by decide +kernel
theorem d_A_count_80 : decode prog_1_method_24_code 80 = .ok (.getfield 138, 3) := by decide +kernel
theorem d_A_count_83 : decode prog_1_method_24_code 83 = .ok (.ifCond .eq 14, 3) := by decide +kernel
theorem d_A_count_86 : decode prog_1_method_24_code 86 = .ok (.aload_n 0, 1) := by decide +kernel
theorem d_A_count_87 : decode prog_1_method_24_code 87 = .ok (.getfield 28, 3) := by decide +kernel
theorem d_A_count_90 : decode prog_1_method_24_code 90 = .ok (.getfield 142, 3) := by decide +kernel
theorem d_A_count_93 : decode prog_1_method_24_code 93 = .ok (.i2l, 1) := by decide +kernel
theorem d_A_count_94 : decode prog_1_method_24_code 94 = .ok (.goto 6, 3) := by decide +kernel
theorem d_A_count_97 : decode prog_1_method_24_code 97 = .ok (.ldc2_w 145, 3) := by decide +kernel
theorem d_A_count_100 : decode prog_1_method_24_code 100 = .ok (.lreturn, 1) := by decide +kernel
theorem d_A_count_101 : decode prog_1_method_24_code 101 = .ok (.aload_n 0, 1) := by decide +kernel
theorem d_A_count_102 : decode prog_1_method_24_code 102 = .ok (.getfield 28, 3) := by decide +kernel
theorem d_A_count_105 : decode prog_1_method_24_code 105 = .ok (.getfield 147, 3) := by decide +kernel
theorem d_A_count_108 : decode prog_1_method_24_code 108 = .ok (.i2l, 1) := by decide +kernel
theorem d_A_count_109 : decode prog_1_method_24_code 109 = .ok (.lreturn, 1) := by decide +kernel
theorem d_A_count_110 : decode prog_1_method_24_code 110 = .ok (.aload_n 0, 1) := by decide +kernel
theorem d_A_count_111 : decode prog_1_method_24_code 111 = .ok (.getfield 28, 3) := by decide +kernel
theorem d_A_count_114 : decode prog_1_method_24_code 114 = .ok (.getfield 131, 3) := by decide +kernel
theorem d_A_count_117 : decode prog_1_method_24_code 117 = .ok (.getfield 150, 3) := by decide +kernel
theorem d_A_count_120 : decode prog_1_method_24_code 120 = .ok (.i2l, 1) := by decide +kernel
theorem d_A_count_121 : decode prog_1_method_24_code 121 = .ok (.lreturn, 1) := by decide +kernel
theorem d_A_count_122 : decode prog_1_method_24_code 122 = .ok (.aload_n 0, 1) := by decide +kernel
theorem d_A_count_123 : decode prog_1_method_24_code 123 = .ok (.getfield 28, 3) := by decide +kernel
theorem d_A_count_126 : decode prog_1_method_24_code 126 = .ok (.getfield 153, 3) := by decide +kernel
theorem d_A_count_129 : decode prog_1_method_24_code 129 = .ok (.i2l, 1) := by decide +kernel
theorem d_A_count_130 : decode prog_1_method_24_code 130 = .ok (.lreturn, 1) := by decide +kernel
theorem d_A_count_131 : decode prog_1_method_24_code 131 = .ok (.aload_n 0, 1) := by decide +kernel
theorem d_A_count_132 : decode prog_1_method_24_code 132 = .ok (.getfield 28, 3) := by decide +kernel
theorem d_A_count_135 : decode prog_1_method_24_code 135 = .ok (.getfield 156, 3) := by decide +kernel
theorem d_A_count_138 : decode prog_1_method_24_code 138 = .ok (.i2l, 1) := by decide +kernel
theorem d_A_count_139 : decode prog_1_method_24_code 139 = .ok (.lreturn, 1) := by decide +kernel
theorem d_A_count_140 : decode prog_1_method_24_code 140 = .ok (.aload_n 0, 1) := by decide +kernel
theorem d_A_count_141 : decode prog_1_method_24_code 141 = .ok (.getfield 10, 3) := by decide +kernel
theorem d_A_count_144 : decode prog_1_method_24_code 144 = .ok (.getfield 92, 3) := by decide +kernel
theorem d_A_count_147 : decode prog_1_method_24_code 147 = .ok (.i2l, 1) := by decide +kernel
theorem d_A_count_148 : decode prog_1_method_24_code 148 = .ok (.lreturn, 1) := by decide +kernel
theorem d_A_count_149 : decode prog_1_method_24_code 149 = .ok (.aload_n 0, 1) := by decide +kernel
theorem d_A_count_150 : decode prog_1_method_24_code 150 = .ok (.getfield 21, 3) := by decide +kernel
theorem d_A_count_153 : decode prog_1_method_24_code 153 = .ok (.getfield 159, 3) := by decide +kernel
theorem d_A_count_156 : decode prog_1_method_24_code 156 = .ok (.aload_n 0, 1) := by decide +kernel
theorem d_A_count_157 : decode prog_1_method_24_code 157 = .ok (.getfield 28, 3) := by decide +kernel
theorem d_A_count_160 : decode prog_1_method_24_code 160 = .ok (.getfield 162, 3) := by decide +kernel
theorem d_A_count_163 : decode prog_1_method_24_code 163 = .ok (.iadd, 1) := by decide +kernel
theorem d_A_count_164 : decode prog_1_method_24_code 164 = .ok (.i2l, 1) := by decide +kernel
theorem d_A_count_165 : decode prog_1_method_24_code 165 = .ok (.lreturn, 1) := by decide +kernel
theorem d_A_count_166 : decode prog_1_method_24_code 166 = .ok (.aload_n 0, 1) := by decide +kernel
theorem d_A_count_167 : decode prog_1_method_24_code 167 = .ok (.getfield 10, 3) := by decide +kernel
theorem d_A_count_170 : decode prog_1_method_24_code 170 = .ok (.getfield 163, 3) := by decide +kernel
theorem d_A_count_173 : decode prog_1_method_24_code 173 = .ok (.i2l, 1) := by decide +kernel
theorem d_A_count_174 : decode prog_1_method_24_code 174 = .ok (.lreturn, 1) := by decide +kernel
theorem d_A_count_175 : decode prog_1_method_24_code 175 = .ok (.aload_n 0, 1) := by decide +kernel
theorem d_A_count_176 : decode prog_1_method_24_code 176 = .ok (.getfield 21, 3) := by decide +kernel
theorem d_A_count_179 : decode prog_1_method_24_code 179 = .ok (.getfield 166, 3) := by decide +kernel
theorem d_A_count_182 : decode prog_1_method_24_code 182 = .ok (.lreturn, 1) := by decide +kernel
theorem d_A_count_183 : decode prog_1_method_24_code 183 = .ok (.aload_n 0, 1) := by decide +kernel
theorem d_A_count_184 : decode prog_1_method_24_code 184 = .ok (.getfield 28, 3) := by decide +kernel
theorem d_A_count_187 : decode prog_1_method_24_code 187 = .ok (.getfield 65, 3) := by decide +kernel
theorem d_A_count_190 : decode prog_1_method_24_code 190 = .ok (.getfield 170, 3) := by decide +kernel
theorem d_A_count_193 : decode prog_1_method_24_code 193 = .ok (.lreturn, 1) := by decide +kernel
theorem d_A_count_194 : decode prog_1_method_24_code 194 = .ok (.ldc2_w 145, 3) := by decide +kernel
theorem d_A_count_197 : decode prog_1_method_24_code 197 = .ok (.lreturn, 1) := by decide +kernel
theorem d_R_account_0 : decode prog_9_method_3_code 0 = .ok (.iload_n 1, 1) := by decide +kernel
theorem d_R_account_1 : decode prog_9_method_3_code 1 = .ok (.ifCond .lt 23, 3) := by decide +kernel
theorem d_R_account_4 : decode prog_9_method_3_code 4 = .ok (.iload_n 1, 1) := by decide +kernel
theorem d_R_account_5 : decode prog_9_method_3_code 5 = .ok (.bipush 7, 2) := by decide +kernel
theorem d_R_account_7 : decode prog_9_method_3_code 7 = .ok (.if_icmp .gt 17, 3) := by decide +kernel
theorem d_R_account_10 : decode prog_9_method_3_code 10 = .ok (.lload_n 2, 1) := by decide +kernel
theorem d_R_account_11 : decode prog_9_method_3_code 11 = .ok (.lconst 0, 1) := by decide +kernel
theorem d_R_account_12 : decode prog_9_method_3_code 12 = .ok (.lcmp, 1) := by decide +kernel
theorem d_R_account_13 : decode prog_9_method_3_code 13 = .ok (.ifCond .lt 11, 3) := by decide +kernel
theorem d_R_account_16 : decode prog_9_method_3_code 16 = .ok (.lload_n 2, 1) := by decide +kernel
theorem d_R_account_17 : decode prog_9_method_3_code 17 = .ok (.ldc2_w 86, 3) := by decide +kernel
theorem d_R_account_20 : decode prog_9_method_3_code 20 = .ok (.lcmp, 1) := by decide +kernel
theorem d_R_account_21 : decode prog_9_method_3_code 21 = .ok (.ifCond .le 5, 3) := by decide +kernel
theorem d_R_account_24 : decode prog_9_method_3_code 24 = .ok (.iconst 0, 1) := by decide +kernel
theorem d_R_account_25 : decode prog_9_method_3_code 25 = .ok (.ireturn, 1) := by decide +kernel
theorem d_R_account_26 : decode prog_9_method_3_code 26 = .ok (.aload_n 0, 1) := by decide +kernel
theorem d_R_account_27 : decode prog_9_method_3_code 27 = .ok (.getfield 7, 3) := by decide +kernel
theorem d_R_account_30 : decode prog_9_method_3_code 30 = .ok (.iload_n 1, 1) := by decide +kernel
theorem d_R_account_31 : decode prog_9_method_3_code 31 = .ok (.lload_n 2, 1) := by decide +kernel
theorem d_R_account_32 : decode prog_9_method_3_code 32 = .ok (.lastore, 1) := by decide +kernel
theorem d_R_account_33 : decode prog_9_method_3_code 33 = .ok (.iconst 1, 1) := by decide +kernel
theorem d_R_account_34 : decode prog_9_method_3_code 34 = .ok (.ireturn, 1) := by decide +kernel
theorem d_R_card_0 : decode prog_9_method_4_code 0 = .ok (.iload_n 1, 1) := by decide +kernel
theorem d_R_card_1 : decode prog_9_method_4_code 1 = .ok (.ifCond .lt 30, 3) := by decide +kernel
theorem d_R_card_4 : decode prog_9_method_4_code 4 = .ok (.iload_n 1, 1) := by decide +kernel
theorem d_R_card_5 : decode prog_9_method_4_code 5 = .ok (.bipush 15, 2) := by decide +kernel
theorem d_R_card_7 : decode prog_9_method_4_code 7 = .ok (.if_icmp .gt 24, 3) := by decide +kernel
theorem d_R_card_10 : decode prog_9_method_4_code 10 = .ok (.iload_n 2, 1) := by decide +kernel
theorem d_R_card_11 : decode prog_9_method_4_code 11 = .ok (.ifCond .lt 20, 3) := by decide +kernel
theorem d_R_card_14 : decode prog_9_method_4_code 14 = .ok (.iload_n 2, 1) := by decide +kernel
theorem d_R_card_15 : decode prog_9_method_4_code 15 = .ok (.bipush 7, 2) := by decide +kernel
theorem d_R_card_17 : decode prog_9_method_4_code 17 = .ok (.if_icmp .gt 14, 3) := by decide +kernel
theorem d_R_card_20 : decode prog_9_method_4_code 20 = .ok (.iload_n 3, 1) := by decide +kernel
theorem d_R_card_21 : decode prog_9_method_4_code 21 = .ok (.ifCond .lt 10, 3) := by decide +kernel
theorem d_R_card_24 : decode prog_9_method_4_code 24 = .ok (.iload_n 3, 1) := by decide +kernel
theorem d_R_card_25 : decode prog_9_method_4_code 25 = .ok (.sipush 9999, 3) := by decide +kernel
theorem d_R_card_28 : decode prog_9_method_4_code 28 = .ok (.if_icmp .le 5, 3) := by decide +kernel
theorem d_R_card_31 : decode prog_9_method_4_code 31 = .ok (.iconst 0, 1) := by decide +kernel
theorem d_R_card_32 : decode prog_9_method_4_code 32 = .ok (.ireturn, 1) := by decide +kernel
theorem d_R_card_33 : decode prog_9_method_4_code 33 = .ok (.aload_n 0, 1) := by decide +kernel
theorem d_R_card_34 : decode prog_9_method_4_code 34 = .ok (.getfield 13, 3) := by decide +kernel
theorem d_R_card_37 : decode prog_9_method_4_code 37 = .ok (.iload_n 1, 1) := by decide +kernel
theorem d_R_card_38 : decode prog_9_method_4_code 38 = .ok (.iload_n 2, 1) := by decide +kernel
theorem d_R_card_39 : decode prog_9_method_4_code 39 = .ok (.iastore, 1) := by decide +kernel
theorem d_R_card_40 : decode prog_9_method_4_code 40 = .ok (.aload_n 0, 1) := by decide +kernel
theorem d_R_card_41 : decode prog_9_method_4_code 41 = .ok (.getfield 17, 3) := by decide +kernel
theorem d_R_card_44 : decode prog_9_method_4_code 44 = .ok (.iload_n 1, 1) := by decide +kernel
theorem d_R_card_45 : decode prog_9_method_4_code 45 = .ok (.iload_n 3, 1) := by decide +kernel
theorem d_R_card_46 : decode prog_9_method_4_code 46 = .ok (.iastore, 1) := by decide +kernel
theorem d_R_card_47 : decode prog_9_method_4_code 47 = .ok (.aload_n 0, 1) := by decide +kernel
theorem d_R_card_48 : decode prog_9_method_4_code 48 = .ok (.getfield 20, 3) := by decide +kernel
theorem d_R_card_51 : decode prog_9_method_4_code 51 = .ok (.iload_n 1, 1) := by decide +kernel
theorem d_R_card_52 : decode prog_9_method_4_code 52 = .ok (.iconst 0, 1) := by decide +kernel
theorem d_R_card_53 : decode prog_9_method_4_code 53 = .ok (.iastore, 1) := by decide +kernel
theorem d_R_card_54 : decode prog_9_method_4_code 54 = .ok (.iconst 1, 1) := by decide +kernel
theorem d_R_card_55 : decode prog_9_method_4_code 55 = .ok (.ireturn, 1) := by decide +kernel
theorem d_R_load_0 : decode prog_9_method_23_code 0 = .ok (.iload_n 1, 1) := by decide +kernel
theorem d_R_load_1 : decode prog_9_method_23_code 1 = .ok (.ifCond .lt 46, 3) := by decide +kernel
theorem d_R_load_4 : decode prog_9_method_23_code 4 = .ok (.iload_n 1, 1) := by decide +kernel
theorem d_R_load_5 : decode prog_9_method_23_code 5 = .ok (.iconst 3, 1) := by decide +kernel
theorem d_R_load_6 : decode prog_9_method_23_code 6 = .ok (.if_icmp .gt 41, 3) := by decide +kernel
theorem d_R_load_9 : decode prog_9_method_23_code 9 = .ok (.iload_n 2, 1) := by decide +kernel
theorem d_R_load_10 : decode prog_9_method_23_code 10 = .ok (.iconst 1, 1) := by decide +kernel
theorem d_R_load_11 : decode prog_9_method_23_code 11 = .ok (.if_icmp .lt 36, 3) := by decide +kernel
theorem d_R_load_14 : decode prog_9_method_23_code 14 = .ok (.iload_n 2, 1) := by decide +kernel
theorem d_R_load_15 : decode prog_9_method_23_code 15 = .ok (.sipush 1000, 3) := by decide +kernel
theorem d_R_load_18 : decode prog_9_method_23_code 18 = .ok (.if_icmp .gt 29, 3) := by decide +kernel
theorem d_R_load_21 : decode prog_9_method_23_code 21 = .ok (.iload_n 3, 1) := by decide +kernel
theorem d_R_load_22 : decode prog_9_method_23_code 22 = .ok (.ifCond .lt 25, 3) := by decide +kernel
theorem d_R_load_25 : decode prog_9_method_23_code 25 = .ok (.iload_n 3, 1) := by decide +kernel
theorem d_R_load_26 : decode prog_9_method_23_code 26 = .ok (.sipush 200, 3) := by decide +kernel
theorem d_R_load_29 : decode prog_9_method_23_code 29 = .ok (.if_icmp .gt 18, 3) := by decide +kernel
theorem d_R_load_32 : decode prog_9_method_23_code 32 = .ok (.aload_n 0, 1) := by decide +kernel
theorem d_R_load_33 : decode prog_9_method_23_code 33 = .ok (.getfield 64, 3) := by decide +kernel
theorem d_R_load_36 : decode prog_9_method_23_code 36 = .ok (.ifCond .eq 11, 3) := by decide +kernel
theorem d_R_load_39 : decode prog_9_method_23_code 39 = .ok (.aload_n 0, 1) := by decide +kernel
theorem d_R_load_40 : decode prog_9_method_23_code 40 = .ok (.getfield 168, 3) := by decide +kernel
theorem d_R_load_43 : decode prog_9_method_23_code 43 = .ok (.iconst 4, 1) := by decide +kernel
theorem d_R_load_44 : decode prog_9_method_23_code 44 = .ok (.if_icmp .ne 5, 3) := by decide +kernel
theorem d_R_load_47 : decode prog_9_method_23_code 47 = .ok (.iconst 0, 1) := by decide +kernel
theorem d_R_load_48 : decode prog_9_method_23_code 48 = .ok (.ireturn, 1) := by decide +kernel
theorem d_R_load_49 : decode prog_9_method_23_code 49 = .ok (.aload_n 0, 1) := by decide +kernel
theorem d_R_load_50 : decode prog_9_method_23_code 50 = .ok (.getfield 39, 3) := by decide +kernel
theorem d_R_load_53 : decode prog_9_method_23_code 53 = .ok (.iload_n 1, 1) := by decide +kernel
theorem d_R_load_54 : decode prog_9_method_23_code 54 = .ok (.iload_n 2, 1) := by decide +kernel
theorem d_R_load_55 : decode prog_9_method_23_code 55 = .ok (.iastore, 1) := by decide +kernel
theorem d_R_load_56 : decode prog_9_method_23_code 56 = .ok (.aload_n 0, 1) := by decide +kernel
theorem d_R_load_57 : decode prog_9_method_23_code 57 = .ok (.getfield 42, 3) := by decide +kernel
theorem d_R_load_60 : decode prog_9_method_23_code 60 = .ok (.iload_n 1, 1) := by decide +kernel
theorem d_R_load_61 : decode prog_9_method_23_code 61 = .ok (.iload_n 3, 1) := by decide +kernel
theorem d_R_load_62 : decode prog_9_method_23_code 62 = .ok (.iastore, 1) := by decide +kernel
theorem d_R_load_63 : decode prog_9_method_23_code 63 = .ok (.iconst 1, 1) := by decide +kernel
theorem d_R_load_64 : decode prog_9_method_23_code 64 = .ok (.ireturn, 1) := by decide +kernel
theorem d_R_insert_0 : decode prog_9_method_24_code 0 = .ok (.iload_n 1, 1) := by decide +kernel
theorem d_R_insert_1 : decode prog_9_method_24_code 1 = .ok (.ifCond .lt 32, 3) := by decide +kernel
theorem d_R_insert_4 : decode prog_9_method_24_code 4 = .ok (.iload_n 1, 1) := by decide +kernel
theorem d_R_insert_5 : decode prog_9_method_24_code 5 = .ok (.bipush 15, 2) := by decide +kernel
theorem d_R_insert_7 : decode prog_9_method_24_code 7 = .ok (.if_icmp .gt 26, 3) := by decide +kernel
theorem d_R_insert_10 : decode prog_9_method_24_code 10 = .ok (.aload_n 0, 1) := by decide +kernel
theorem d_R_insert_11 : decode prog_9_method_24_code 11 = .ok (.getfield 54, 3) := by decide +kernel
theorem d_R_insert_14 : decode prog_9_method_24_code 14 = .ok (.iload_n 1, 1) := by decide +kernel
theorem d_R_insert_15 : decode prog_9_method_24_code 15 = .ok (.baload, 1) := by decide +kernel
theorem d_R_insert_16 : decode prog_9_method_24_code 16 = .ok (.ifCond .ne 17, 3) := by decide +kernel
theorem d_R_insert_19 : decode prog_9_method_24_code 19 = .ok (.aload_n 0, 1) := by decide +kernel
theorem d_R_insert_20 : decode prog_9_method_24_code 20 = .ok (.getfield 64, 3) := by decide +kernel
theorem d_R_insert_23 : decode prog_9_method_24_code 23 = .ok (.ifCond .eq 10, 3) := by decide +kernel
theorem d_R_insert_26 : decode prog_9_method_24_code 26 = .ok (.aload_n 0, 1) := by decide +kernel
theorem d_R_insert_27 : decode prog_9_method_24_code 27 = .ok (.getfield 168, 3) := by decide +kernel
theorem d_R_insert_30 : decode prog_9_method_24_code 30 = .ok (.ifCond .eq 5, 3) := by decide +kernel
theorem d_R_insert_33 : decode prog_9_method_24_code 33 = .ok (.iconst 0, 1) := by decide +kernel
theorem d_R_insert_34 : decode prog_9_method_24_code 34 = .ok (.ireturn, 1) := by decide +kernel
theorem d_R_insert_35 : decode prog_9_method_24_code 35 = .ok (.aload_n 0, 1) := by decide +kernel
theorem d_R_insert_36 : decode prog_9_method_24_code 36 = .ok (.iload_n 1, 1) := by decide +kernel
theorem d_R_insert_37 : decode prog_9_method_24_code 37 = .ok (.putfield 71, 3) := by decide +kernel
theorem d_R_insert_40 : decode prog_9_method_24_code 40 = .ok (.aload_n 0, 1) := by decide +kernel
theorem d_R_insert_41 : decode prog_9_method_24_code 41 = .ok (.iconst 1, 1) := by decide +kernel
theorem d_R_insert_42 : decode prog_9_method_24_code 42 = .ok (.putfield 168, 3) := by decide +kernel
theorem d_R_insert_45 : decode prog_9_method_24_code 45 = .ok (.iconst 1, 1) := by decide +kernel
theorem d_R_insert_46 : decode prog_9_method_24_code 46 = .ok (.ireturn, 1) := by decide +kernel
theorem d_R_goOff_0 : decode prog_9_method_15_code 0 = .ok (.aload_n 0, 1) := by decide +kernel
theorem d_R_goOff_1 : decode prog_9_method_15_code 1 = .ok (.iconst 0, 1) := by decide +kernel
theorem d_R_goOff_2 : decode prog_9_method_15_code 2 = .ok (.putfield 64, 3) := by decide +kernel
theorem d_R_goOff_5 : decode prog_9_method_15_code 5 = .ok (.aload_n 0, 1) := by decide +kernel
theorem d_R_goOff_6 : decode prog_9_method_15_code 6 = .ok (.iconst (-1), 1) := by decide +kernel
theorem d_R_goOff_7 : decode prog_9_method_15_code 7 = .ok (.putfield 68, 3) := by decide +kernel
theorem d_R_goOff_10 : decode prog_9_method_15_code 10 = .ok (.return_, 1) := by decide +kernel
theorem d_R_step_0 : decode prog_9_method_14_code 0 = .ok (.aload_n 0, 1) := by decide +kernel
theorem d_R_step_1 : decode prog_9_method_14_code 1 = .ok (.getfield 64, 3) := by decide +kernel
theorem d_R_step_4 : decode prog_9_method_14_code 4 = .ok (.ifCond .ne 5, 3) := by decide +kernel
theorem d_R_step_7 : decode prog_9_method_14_code 7 = .ok (.iconst 0, 1) := by decide +kernel
theorem d_R_step_8 : decode prog_9_method_14_code 8 = .ok (.ireturn, 1) := by decide +kernel
theorem d_R_step_9 : decode prog_9_method_14_code 9 = .ok (.aload_n 0, 1) := by decide +kernel
theorem d_R_step_10 : decode prog_9_method_14_code 10 = .ok (.getfield 68, 3) := by decide +kernel
theorem d_R_step_13 : decode prog_9_method_14_code 13 = .ok (.ifCond .ne 9, 3) := by decide +kernel
theorem d_R_step_16 : decode prog_9_method_14_code 16 = .ok (.aload_n 0, 1) := by decide +kernel
theorem d_R_step_17 : decode prog_9_method_14_code 17 = .ok (.invokevirtual 136, 3) := by decide +kernel
theorem d_R_step_20 : decode prog_9_method_14_code 20 = .ok (.iconst 0, 1) := by decide +kernel
theorem d_R_step_21 : decode prog_9_method_14_code 21 = .ok (.ireturn, 1) := by decide +kernel
theorem d_R_step_22 : decode prog_9_method_14_code 22 = .ok (.aload_n 0, 1) := by decide +kernel
theorem d_R_step_23 : decode prog_9_method_14_code 23 = .ok (.dup, 1) := by decide +kernel
theorem d_R_step_24 : decode prog_9_method_14_code 24 = .ok (.getfield 68, 3) := by decide +kernel
theorem d_R_step_27 : decode prog_9_method_14_code 27 = .ok (.aload_n 0, 1) := by decide +kernel
theorem d_R_step_28 : decode prog_9_method_14_code 28 = .ok (.getfield 68, 3) := by decide +kernel
theorem d_R_step_31 : decode prog_9_method_14_code 31 = .ok (.ifCond .le 7, 3) := by decide +kernel
theorem d_R_step_34 : decode prog_9_method_14_code 34 = .ok (.iconst 1, 1) := by decide +kernel
theorem d_R_step_35 : decode prog_9_method_14_code 35 = .ok (.goto 4, 3) := by decide +kernel
theorem d_R_step_38 : decode prog_9_method_14_code 38 = .ok (.iconst 0, 1) := by decide +kernel
theorem d_R_step_39 : decode prog_9_method_14_code 39 = .ok (.isub, 1) := by decide +kernel
theorem d_R_step_40 : decode prog_9_method_14_code 40 = .ok (.putfield 68, 3) := by decide +kernel
theorem d_R_step_43 : decode prog_9_method_14_code 43 = .ok (.iconst 1, 1) := by decide +kernel
theorem d_R_step_44 : decode prog_9_method_14_code 44 = .ok (.ireturn, 1) := by decide +kernel
theorem d_R_drop_0 : decode prog_9_method_6_code 0 = .ok (.aload_n 0, 1) := by decide +kernel
theorem d_R_drop_1 : decode prog_9_method_6_code 1 = .ok (.dup, 1) := by decide +kernel
theorem d_R_drop_2 : decode prog_9_method_6_code 2 = .ok (.getfield 89, 3) := by decide +kernel
theorem d_R_drop_5 : decode prog_9_method_6_code 5 = .ok (.iconst 1, 1) := by decide +kernel
theorem d_R_drop_6 : decode prog_9_method_6_code 6 = .ok (.isub, 1) := by decide +kernel
theorem d_R_drop_7 : decode prog_9_method_6_code 7 = .ok (.putfield 89, 3) := by decide +kernel
theorem d_R_drop_10 : decode prog_9_method_6_code 10 = .ok (.bipush 14, 2) := by decide +kernel
theorem d_R_drop_12 : decode prog_9_method_6_code 12 = .ok (.iload_n 1, 1) := by decide +kernel
theorem d_R_drop_13 : decode prog_9_method_6_code 13 = .ok (.imul, 1) := by decide +kernel
theorem d_R_drop_14 : decode prog_9_method_6_code 14 = .ok (.istore_n 2, 1) := by decide +kernel
theorem d_R_drop_15 : decode prog_9_method_6_code 15 = .ok (.iload_n 2, 1) := by decide +kernel
theorem d_R_drop_16 : decode prog_9_method_6_code 16 = .ok (.bipush 14, 2) := by decide +kernel
theorem d_R_drop_18 : decode prog_9_method_6_code 18 = .ok (.aload_n 0, 1) := by decide +kernel
theorem d_R_drop_19 : decode prog_9_method_6_code 19 = .ok (.getfield 89, 3) := by decide +kernel
theorem d_R_drop_22 : decode prog_9_method_6_code 22 = .ok (.imul, 1) := by decide +kernel
theorem d_R_drop_23 : decode prog_9_method_6_code 23 = .ok (.if_icmp .ge 24, 3) := by decide +kernel
theorem d_R_drop_26 : decode prog_9_method_6_code 26 = .ok (.aload_n 0, 1) := by decide +kernel
theorem d_R_drop_27 : decode prog_9_method_6_code 27 = .ok (.getfield 77, 3) := by decide +kernel
theorem d_R_drop_30 : decode prog_9_method_6_code 30 = .ok (.iload_n 2, 1) := by decide +kernel
theorem d_R_drop_31 : decode prog_9_method_6_code 31 = .ok (.aload_n 0, 1) := by decide +kernel
theorem d_R_drop_32 : decode prog_9_method_6_code 32 = .ok (.getfield 77, 3) := by decide +kernel
theorem d_R_drop_35 : decode prog_9_method_6_code 35 = .ok (.iload_n 2, 1) := by decide +kernel
theorem d_R_drop_36 : decode prog_9_method_6_code 36 = .ok (.bipush 14, 2) := by decide +kernel
theorem d_R_drop_38 : decode prog_9_method_6_code 38 = .ok (.iadd, 1) := by decide +kernel
theorem d_R_drop_39 : decode prog_9_method_6_code 39 = .ok (.iaload, 1) := by decide +kernel
theorem d_R_drop_40 : decode prog_9_method_6_code 40 = .ok (.iastore, 1) := by decide +kernel
theorem d_R_drop_41 : decode prog_9_method_6_code 41 = .ok (.iinc 2 1, 3) := by decide +kernel
theorem d_R_drop_44 : decode prog_9_method_6_code 44 = .ok (.goto (-29), 3) := by decide +kernel
theorem d_R_drop_47 : decode prog_9_method_6_code 47 = .ok (.return_, 1) := by decide +kernel
theorem d_R_check_0 : decode prog_9_method_5_code 0 = .ok (.ldc 88, 2) := by decide +kernel
theorem d_R_check_2 : decode prog_9_method_5_code 2 = .ok (.istore_n 2, 1) := by decide +kernel
theorem d_R_check_3 : decode prog_9_method_5_code 3 = .ok (.iconst 0, 1) := by decide +kernel
theorem d_R_check_4 : decode prog_9_method_5_code 4 = .ok (.istore_n 3, 1) := by decide +kernel
theorem d_R_check_5 : decode prog_9_method_5_code 5 = .ok (.iload_n 3, 1) := by decide +kernel
theorem d_R_check_6 : decode prog_9_method_5_code 6 = .ok (.bipush 11, 2) := by decide +kernel
theorem d_R_check_8 : decode prog_9_method_5_code 8 = .ok (.if_icmp .ge 72, 3) := by decide +kernel
theorem d_R_check_11 : decode prog_9_method_5_code 11 = .ok (.iload_n 2, 1) := by decide +kernel
theorem d_R_check_12 : decode prog_9_method_5_code 12 = .ok (.aload_n 0, 1) := by decide +kernel
theorem d_R_check_13 : decode prog_9_method_5_code 13 = .ok (.iload_n 1, 1) := by decide +kernel
theorem d_R_check_14 : decode prog_9_method_5_code 14 = .ok (.iload_n 3, 1) := by decide +kernel
theorem d_R_check_15 : decode prog_9_method_5_code 15 = .ok (.iadd, 1) := by decide +kernel
theorem d_R_check_16 : decode prog_9_method_5_code 16 = .ok (.iaload, 1) := by decide +kernel
theorem d_R_check_17 : decode prog_9_method_5_code 17 = .ok (.bipush 8, 2) := by decide +kernel
theorem d_R_check_19 : decode prog_9_method_5_code 19 = .ok (.ishl, 1) := by decide +kernel
theorem d_R_check_20 : decode prog_9_method_5_code 20 = .ok (.ixor, 1) := by decide +kernel
theorem d_R_check_21 : decode prog_9_method_5_code 21 = .ok (.istore_n 2, 1) := by decide +kernel
theorem d_R_check_22 : decode prog_9_method_5_code 22 = .ok (.iconst 0, 1) := by decide +kernel
theorem d_R_check_23 : decode prog_9_method_5_code 23 = .ok (.istore 4, 2) := by decide +kernel
theorem d_R_check_25 : decode prog_9_method_5_code 25 = .ok (.iload 4, 2) := by decide +kernel
theorem d_R_check_27 : decode prog_9_method_5_code 27 = .ok (.bipush 8, 2) := by decide +kernel
theorem d_R_check_29 : decode prog_9_method_5_code 29 = .ok (.if_icmp .ge 45, 3) := by decide +kernel
theorem d_R_check_32 : decode prog_9_method_5_code 32 = .ok (.iload_n 2, 1) := by decide +kernel
theorem d_R_check_33 : decode prog_9_method_5_code 33 = .ok (.sipush 32767, 3) := by decide +kernel
theorem d_R_check_36 : decode prog_9_method_5_code 36 = .ok (.if_icmp .le 7, 3) := by decide +kernel
theorem d_R_check_39 : decode prog_9_method_5_code 39 = .ok (.iconst 1, 1) := by decide +kernel
theorem d_R_check_40 : decode prog_9_method_5_code 40 = .ok (.goto 4, 3) := by decide +kernel
theorem d_R_check_43 : decode prog_9_method_5_code 43 = .ok (.iconst 0, 1) := by decide +kernel
theorem d_R_check_44 : decode prog_9_method_5_code 44 = .ok (.istore 5, 2) := by decide +kernel
theorem d_R_check_46 : decode prog_9_method_5_code 46 = .ok (.iload_n 2, 1) := by decide +kernel
theorem d_R_check_47 : decode prog_9_method_5_code 47 = .ok (.iconst 2, 1) := by decide +kernel
theorem d_R_check_48 : decode prog_9_method_5_code 48 = .ok (.imul, 1) := by decide +kernel
theorem d_R_check_49 : decode prog_9_method_5_code 49 = .ok (.ldc 88, 2) := by decide +kernel
theorem d_R_check_51 : decode prog_9_method_5_code 51 = .ok (.iand, 1) := by decide +kernel
theorem d_R_check_52 : decode prog_9_method_5_code 52 = .ok (.istore_n 2, 1) := by decide +kernel
theorem d_R_check_53 : decode prog_9_method_5_code 53 = .ok (.iload 5, 2) := by decide +kernel
theorem d_R_check_55 : decode prog_9_method_5_code 55 = .ok (.ifCond .eq 11, 3) := by decide +kernel
theorem d_R_check_58 : decode prog_9_method_5_code 58 = .ok (.iload_n 2, 1) := by decide +kernel
theorem d_R_check_59 : decode prog_9_method_5_code 59 = .ok (.sipush 4129, 3) := by decide +kernel
theorem d_R_check_62 : decode prog_9_method_5_code 62 = .ok (.ixor, 1) := by decide +kernel
theorem d_R_check_63 : decode prog_9_method_5_code 63 = .ok (.goto 4, 3) := by decide +kernel
theorem d_R_check_66 : decode prog_9_method_5_code 66 = .ok (.iload_n 2, 1) := by decide +kernel
theorem d_R_check_67 : decode prog_9_method_5_code 67 = .ok (.istore_n 2, 1) := by decide +kernel
theorem d_R_check_68 : decode prog_9_method_5_code 68 = .ok (.iinc 4 1, 3) := by decide +kernel
theorem d_R_check_71 : decode prog_9_method_5_code 71 = .ok (.goto (-46), 3) := by decide +kernel
theorem d_R_check_74 : decode prog_9_method_5_code 74 = .ok (.iinc 3 1, 3) := by decide +kernel
theorem d_R_check_77 : decode prog_9_method_5_code 77 = .ok (.goto (-72), 3) := by decide +kernel
theorem d_R_check_80 : decode prog_9_method_5_code 80 = .ok (.iload_n 2, 1) := by decide +kernel
theorem d_R_check_81 : decode prog_9_method_5_code 81 = .ok (.ireturn, 1) := by decide +kernel
theorem d_R_send_0 : decode prog_9_method_7_code 0 = .ok (.aload_n 0, 1) := by decide +kernel
theorem d_R_send_1 : decode prog_9_method_7_code 1 = .ok (.getfield 89, 3) := by decide +kernel
theorem d_R_send_4 : decode prog_9_method_7_code 4 = .ok (.bipush 24, 2) := by decide +kernel
theorem d_R_send_6 : decode prog_9_method_7_code 6 = .ok (.if_icmp .ne 18, 3) := by decide +kernel
theorem d_R_send_9 : decode prog_9_method_7_code 9 = .ok (.aload_n 0, 1) := by decide +kernel
theorem d_R_send_10 : decode prog_9_method_7_code 10 = .ok (.iconst 0, 1) := by decide +kernel
theorem d_R_send_11 : decode prog_9_method_7_code 11 = .ok (.invokevirtual 92, 3) := by decide +kernel
theorem d_R_send_14 : decode prog_9_method_7_code 14 = .ok (.aload_n 0, 1) := by decide +kernel
theorem d_R_send_15 : decode prog_9_method_7_code 15 = .ok (.dup, 1) := by decide +kernel
theorem d_R_send_16 : decode prog_9_method_7_code 16 = .ok (.getfield 96, 3) := by decide +kernel
theorem d_R_send_19 : decode prog_9_method_7_code 19 = .ok (.iconst 1, 1) := by decide +kernel
theorem d_R_send_20 : decode prog_9_method_7_code 20 = .ok (.iadd, 1) := by decide +kernel
theorem d_R_send_21 : decode prog_9_method_7_code 21 = .ok (.putfield 96, 3) := by decide +kernel
theorem d_R_send_24 : decode prog_9_method_7_code 24 = .ok (.bipush 14, 2) := by decide +kernel
theorem d_R_send_26 : decode prog_9_method_7_code 26 = .ok (.aload_n 0, 1) := by decide +kernel
theorem d_R_send_27 : decode prog_9_method_7_code 27 = .ok (.getfield 89, 3) := by decide +kernel
theorem d_R_send_30 : decode prog_9_method_7_code 30 = .ok (.imul, 1) := by decide +kernel
theorem d_R_send_31 : decode prog_9_method_7_code 31 = .ok (.istore 7, 2) := by decide +kernel
theorem d_R_send_33 : decode prog_9_method_7_code 33 = .ok (.aload_n 0, 1) := by decide +kernel
theorem d_R_send_34 : decode prog_9_method_7_code 34 = .ok (.getfield 77, 3) := by decide +kernel
theorem d_R_send_37 : decode prog_9_method_7_code 37 = .ok (.iload 7, 2) := by decide +kernel
theorem d_R_send_39 : decode prog_9_method_7_code 39 = .ok (.iload_n 1, 1) := by decide +kernel
theorem d_R_send_40 : decode prog_9_method_7_code 40 = .ok (.iastore, 1) := by decide +kernel
theorem d_R_send_41 : decode prog_9_method_7_code 41 = .ok (.iconst 0, 1) := by decide +kernel
theorem d_R_send_42 : decode prog_9_method_7_code 42 = .ok (.istore 8, 2) := by decide +kernel
theorem d_R_send_44 : decode prog_9_method_7_code 44 = .ok (.iload 8, 2) := by decide +kernel
theorem d_R_send_46 : decode prog_9_method_7_code 46 = .ok (.iconst 4, 1) := by decide +kernel
theorem d_R_send_47 : decode prog_9_method_7_code 47 = .ok (.if_icmp .ge 63, 3) := by decide +kernel
theorem d_R_send_50 : decode prog_9_method_7_code 50 = .ok (.aload_n 0, 1) := by decide +kernel
theorem d_R_send_51 : decode prog_9_method_7_code 51 = .ok (.getfield 77, 3) := by decide +kernel
theorem d_R_send_54 : decode prog_9_method_7_code 54 = .ok (.iload 7, 2) := by decide +kernel
theorem d_R_send_56 : decode prog_9_method_7_code 56 = .ok (.iconst 1, 1) := by decide +kernel
theorem d_R_send_57 : decode prog_9_method_7_code 57 = .ok (.iadd, 1) := by decide +kernel
theorem d_R_send_58 : decode prog_9_method_7_code 58 = .ok (.iload 8, 2) := by decide +kernel
theorem d_R_send_60 : decode prog_9_method_7_code 60 = .ok (.iadd, 1) := by decide +kernel
theorem d_R_send_61 : decode prog_9_method_7_code 61 = .ok (.iload_n 2, 1) := by decide +kernel
theorem d_R_send_62 : decode prog_9_method_7_code 62 = .ok (.bipush 24, 2) := by decide +kernel
theorem d_R_send_64 : decode prog_9_method_7_code 64 = .ok (.bipush 8, 2) := by decide +kernel
theorem d_R_send_66 : decode prog_9_method_7_code 66 = .ok (.iload 8, 2) := by decide +kernel
theorem d_R_send_68 : decode prog_9_method_7_code 68 = .ok (.imul, 1) := by decide +kernel
theorem d_R_send_69 : decode prog_9_method_7_code 69 = .ok (.isub, 1) := by decide +kernel
theorem d_R_send_70 : decode prog_9_method_7_code 70 = .ok (.ishr, 1) := by decide +kernel
theorem d_R_send_71 : decode prog_9_method_7_code 71 = .ok (.sipush 255, 3) := by decide +kernel
theorem d_R_send_74 : decode prog_9_method_7_code 74 = .ok (.iand, 1) := by decide +kernel
theorem d_R_send_75 : decode prog_9_method_7_code 75 = .ok (.iastore, 1) := by decide +kernel
theorem d_R_send_76 : decode prog_9_method_7_code 76 = .ok (.aload_n 0, 1) := by decide +kernel
theorem d_R_send_77 : decode prog_9_method_7_code 77 = .ok (.getfield 77, 3) := by decide +kernel
theorem d_R_send_80 : decode prog_9_method_7_code 80 = .ok (.iload 7, 2) := by decide +kernel
theorem d_R_send_82 : decode prog_9_method_7_code 82 = .ok (.bipush 6, 2) := by decide +kernel
theorem d_R_send_84 : decode prog_9_method_7_code 84 = .ok (.iadd, 1) := by decide +kernel
theorem d_R_send_85 : decode prog_9_method_7_code 85 = .ok (.iload 8, 2) := by decide +kernel
theorem d_R_send_87 : decode prog_9_method_7_code 87 = .ok (.iadd, 1) := by decide +kernel
theorem d_R_send_88 : decode prog_9_method_7_code 88 = .ok (.iload 4, 2) := by decide +kernel
theorem d_R_send_90 : decode prog_9_method_7_code 90 = .ok (.bipush 24, 2) := by decide +kernel
theorem d_R_send_92 : decode prog_9_method_7_code 92 = .ok (.bipush 8, 2) := by decide +kernel
theorem d_R_send_94 : decode prog_9_method_7_code 94 = .ok (.iload 8, 2) := by decide +kernel
theorem d_R_send_96 : decode prog_9_method_7_code 96 = .ok (.imul, 1) := by decide +kernel
theorem d_R_send_97 : decode prog_9_method_7_code 97 = .ok (.isub, 1) := by decide +kernel
theorem d_R_send_98 : decode prog_9_method_7_code 98 = .ok (.ishr, 1) := by decide +kernel
theorem d_R_send_99 : decode prog_9_method_7_code 99 = .ok (.sipush 255, 3) := by decide +kernel
theorem d_R_send_102 : decode prog_9_method_7_code 102 = .ok (.iand, 1) := by decide +kernel
theorem d_R_send_103 : decode prog_9_method_7_code 103 = .ok (.iastore, 1) := by decide +kernel
theorem d_R_send_104 : decode prog_9_method_7_code 104 = .ok (.iinc 8 1, 3) := by decide +kernel
theorem d_R_send_107 : decode prog_9_method_7_code 107 = .ok (.goto (-63), 3) := by decide +kernel
theorem d_R_send_110 : decode prog_9_method_7_code 110 = .ok (.aload_n 0, 1) := by decide +kernel
theorem d_R_send_111 : decode prog_9_method_7_code 111 = .ok (.getfield 77, 3) := by decide +kernel
theorem d_R_send_114 : decode prog_9_method_7_code 114 = .ok (.iload 7, 2) := by decide +kernel
theorem d_R_send_116 : decode prog_9_method_7_code 116 = .ok (.iconst 5, 1) := by decide +kernel
theorem d_R_send_117 : decode prog_9_method_7_code 117 = .ok (.iadd, 1) := by decide +kernel
theorem d_R_send_118 : decode prog_9_method_7_code 118 = .ok (.iload_n 3, 1) := by decide +kernel
theorem d_R_send_119 : decode prog_9_method_7_code 119 = .ok (.sipush 255, 3) := by decide +kernel
theorem d_R_send_122 : decode prog_9_method_7_code 122 = .ok (.iand, 1) := by decide +kernel
theorem d_R_send_123 : decode prog_9_method_7_code 123 = .ok (.iastore, 1) := by decide +kernel
theorem d_R_send_124 : decode prog_9_method_7_code 124 = .ok (.aload_n 0, 1) := by decide +kernel
theorem d_R_send_125 : decode prog_9_method_7_code 125 = .ok (.getfield 77, 3) := by decide +kernel
theorem d_R_send_128 : decode prog_9_method_7_code 128 = .ok (.iload 7, 2) := by decide +kernel
theorem d_R_send_130 : decode prog_9_method_7_code 130 = .ok (.bipush 10, 2) := by decide +kernel
theorem d_R_send_132 : decode prog_9_method_7_code 132 = .ok (.iadd, 1) := by decide +kernel
theorem d_R_send_133 : decode prog_9_method_7_code 133 = .ok (.iload 5, 2) := by decide +kernel
theorem d_R_send_135 : decode prog_9_method_7_code 135 = .ok (.iastore, 1) := by decide +kernel
theorem d_R_send_136 : decode prog_9_method_7_code 136 = .ok (.aload_n 0, 1) := by decide +kernel
theorem d_R_send_137 : decode prog_9_method_7_code 137 = .ok (.getfield 77, 3) := by decide +kernel
theorem d_R_send_140 : decode prog_9_method_7_code 140 = .ok (.iload 7, 2) := by decide +kernel
theorem d_R_send_142 : decode prog_9_method_7_code 142 = .ok (.invokestatic 99, 3) := by decide +kernel
theorem d_R_send_145 : decode prog_9_method_7_code 145 = .ok (.istore 8, 2) := by decide +kernel
theorem d_R_send_147 : decode prog_9_method_7_code 147 = .ok (.aload_n 0, 1) := by decide +kernel
theorem d_R_send_148 : decode prog_9_method_7_code 148 = .ok (.getfield 77, 3) := by decide +kernel
theorem d_R_send_151 : decode prog_9_method_7_code 151 = .ok (.iload 7, 2) := by decide +kernel
theorem d_R_send_153 : decode prog_9_method_7_code 153 = .ok (.bipush 11, 2) := by decide +kernel
theorem d_R_send_155 : decode prog_9_method_7_code 155 = .ok (.iadd, 1) := by decide +kernel
theorem d_R_send_156 : decode prog_9_method_7_code 156 = .ok (.iload 8, 2) := by decide +kernel
theorem d_R_send_158 : decode prog_9_method_7_code 158 = .ok (.bipush 8, 2) := by decide +kernel
theorem d_R_send_160 : decode prog_9_method_7_code 160 = .ok (.ishr, 1) := by decide +kernel
theorem d_R_send_161 : decode prog_9_method_7_code 161 = .ok (.iastore, 1) := by decide +kernel
theorem d_R_send_162 : decode prog_9_method_7_code 162 = .ok (.aload_n 0, 1) := by decide +kernel
theorem d_R_send_163 : decode prog_9_method_7_code 163 = .ok (.getfield 77, 3) := by decide +kernel
theorem d_R_send_166 : decode prog_9_method_7_code 166 = .ok (.iload 7, 2) := by decide +kernel
theorem d_R_send_168 : decode prog_9_method_7_code 168 = .ok (.bipush 12, 2) := by decide +kernel
theorem d_R_send_170 : decode prog_9_method_7_code 170 = .ok (.iadd, 1) := by decide +kernel
theorem d_R_send_171 : decode prog_9_method_7_code 171 = .ok (.iload 8, 2) := by decide +kernel
theorem d_R_send_173 : decode prog_9_method_7_code 173 = .ok (.sipush 255, 3) := by decide +kernel
theorem d_R_send_176 : decode prog_9_method_7_code 176 = .ok (.iand, 1) := by decide +kernel
theorem d_R_send_177 : decode prog_9_method_7_code 177 = .ok (.iastore, 1) := by decide +kernel
theorem d_R_send_178 : decode prog_9_method_7_code 178 = .ok (.aload_n 0, 1) := by decide +kernel
theorem d_R_send_179 : decode prog_9_method_7_code 179 = .ok (.getfield 77, 3) := by decide +kernel
theorem d_R_send_182 : decode prog_9_method_7_code 182 = .ok (.iload 7, 2) := by decide +kernel
theorem d_R_send_184 : decode prog_9_method_7_code 184 = .ok (.bipush 13, 2) := by decide +kernel
theorem d_R_send_186 : decode prog_9_method_7_code 186 = .ok (.iadd, 1) := by decide +kernel
theorem d_R_send_187 : decode prog_9_method_7_code 187 = .ok (.iload 6, 2) := by decide +kernel
theorem d_R_send_189 : decode prog_9_method_7_code 189 = .ok (.iastore, 1) := by decide +kernel
theorem d_R_send_190 : decode prog_9_method_7_code 190 = .ok (.aload_n 0, 1) := by decide +kernel
theorem d_R_send_191 : decode prog_9_method_7_code 191 = .ok (.dup, 1) := by decide +kernel
theorem d_R_send_192 : decode prog_9_method_7_code 192 = .ok (.getfield 89, 3) := by decide +kernel
theorem d_R_send_195 : decode prog_9_method_7_code 195 = .ok (.iconst 1, 1) := by decide +kernel
theorem d_R_send_196 : decode prog_9_method_7_code 196 = .ok (.iadd, 1) := by decide +kernel
theorem d_R_send_197 : decode prog_9_method_7_code 197 = .ok (.putfield 89, 3) := by decide +kernel
theorem d_R_send_200 : decode prog_9_method_7_code 200 = .ok (.return_, 1) := by decide +kernel
theorem d_R_sendStep_0 : decode prog_9_method_17_code 0 = .ok (.aload_n 0, 1) := by decide +kernel
theorem d_R_sendStep_1 : decode prog_9_method_17_code 1 = .ok (.invokevirtual 142, 3) := by decide +kernel
theorem d_R_sendStep_4 : decode prog_9_method_17_code 4 = .ok (.ifCond .ne 5, 3) := by decide +kernel
theorem d_R_sendStep_7 : decode prog_9_method_17_code 7 = .ok (.iconst 0, 1) := by decide +kernel
theorem d_R_sendStep_8 : decode prog_9_method_17_code 8 = .ok (.ireturn, 1) := by decide +kernel
theorem d_R_sendStep_9 : decode prog_9_method_17_code 9 = .ok (.aload_n 0, 1) := by decide +kernel
theorem d_R_sendStep_10 : decode prog_9_method_17_code 10 = .ok (.iload_n 1, 1) := by decide +kernel
theorem d_R_sendStep_11 : decode prog_9_method_17_code 11 = .ok (.aload_n 0, 1) := by decide +kernel
theorem d_R_sendStep_12 : decode prog_9_method_17_code 12 = .ok (.getfield 145, 3) := by decide +kernel
theorem d_R_sendStep_15 : decode prog_9_method_17_code 15 = .ok (.aload_n 0, 1) := by decide +kernel
theorem d_R_sendStep_16 : decode prog_9_method_17_code 16 = .ok (.getfield 74, 3) := by decide +kernel
theorem d_R_sendStep_19 : decode prog_9_method_17_code 19 = .ok (.iload_n 2, 1) := by decide +kernel
theorem d_R_sendStep_20 : decode prog_9_method_17_code 20 = .ok (.iconst 0, 1) := by decide +kernel
theorem d_R_sendStep_21 : decode prog_9_method_17_code 21 = .ok (.iconst 0, 1) := by decide +kernel
theorem d_R_sendStep_22 : decode prog_9_method_17_code 22 = .ok (.invokevirtual 128, 3) := by decide +kernel
theorem d_R_sendStep_25 : decode prog_9_method_17_code 25 = .ok (.iconst 1, 1) := by decide +kernel
theorem d_R_sendStep_26 : decode prog_9_method_17_code 26 = .ok (.ireturn, 1) := by decide +kernel
theorem d_R_pin_0 : decode prog_9_method_25_code 0 = .ok (.aload_n 0, 1) := by decide +kernel
theorem d_R_pin_1 : decode prog_9_method_25_code 1 = .ok (.getfield 64, 3) := by decide +kernel
theorem d_R_pin_4 : decode prog_9_method_25_code 4 = .ok (.ifCond .eq 32, 3) := by decide +kernel
theorem d_R_pin_7 : decode prog_9_method_25_code 7 = .ok (.aload_n 0, 1) := by decide +kernel
theorem d_R_pin_8 : decode prog_9_method_25_code 8 = .ok (.getfield 168, 3) := by decide +kernel
theorem d_R_pin_11 : decode prog_9_method_25_code 11 = .ok (.iconst 1, 1) := by decide +kernel
theorem d_R_pin_12 : decode prog_9_method_25_code 12 = .ok (.if_icmp .ne 24, 3) := by decide +kernel
theorem d_R_pin_15 : decode prog_9_method_25_code 15 = .ok (.iload_n 1, 1) := by decide +kernel
theorem d_R_pin_16 : decode prog_9_method_25_code 16 = .ok (.ifCond .lt 20, 3) := by decide +kernel
theorem d_R_pin_19 : decode prog_9_method_25_code 19 = .ok (.iload_n 1, 1) := by decide +kernel
theorem d_R_pin_20 : decode prog_9_method_25_code 20 = .ok (.sipush 9999, 3) := by decide +kernel
theorem d_R_pin_23 : decode prog_9_method_25_code 23 = .ok (.if_icmp .gt 13, 3) := by decide +kernel
theorem d_R_pin_26 : decode prog_9_method_25_code 26 = .ok (.aload_n 0, 1) := by decide +kernel
theorem d_R_pin_27 : decode prog_9_method_25_code 27 = .ok (.getfield 60, 3) := by decide +kernel
theorem d_R_pin_30 : decode prog_9_method_25_code 30 = .ok (.sipush 2000, 3) := by decide +kernel
theorem d_R_pin_33 : decode prog_9_method_25_code 33 = .ok (.if_icmp .le 5, 3) := by decide +kernel
theorem d_R_pin_36 : decode prog_9_method_25_code 36 = .ok (.iconst 0, 1) := by decide +kernel
theorem d_R_pin_37 : decode prog_9_method_25_code 37 = .ok (.ireturn, 1) := by decide +kernel
theorem d_R_pin_38 : decode prog_9_method_25_code 38 = .ok (.aload_n 0, 1) := by decide +kernel
theorem d_R_pin_39 : decode prog_9_method_25_code 39 = .ok (.aload_n 0, 1) := by decide +kernel
theorem d_R_pin_40 : decode prog_9_method_25_code 40 = .ok (.getfield 60, 3) := by decide +kernel
theorem d_R_pin_43 : decode prog_9_method_25_code 43 = .ok (.putfield 145, 3) := by decide +kernel
theorem d_R_pin_46 : decode prog_9_method_25_code 46 = .ok (.aload_n 0, 1) := by decide +kernel
theorem d_R_pin_47 : decode prog_9_method_25_code 47 = .ok (.dup, 1) := by decide +kernel
theorem d_R_pin_48 : decode prog_9_method_25_code 48 = .ok (.getfield 60, 3) := by decide +kernel
theorem d_R_pin_51 : decode prog_9_method_25_code 51 = .ok (.iconst 1, 1) := by decide +kernel
theorem d_R_pin_52 : decode prog_9_method_25_code 52 = .ok (.iadd, 1) := by decide +kernel
theorem d_R_pin_53 : decode prog_9_method_25_code 53 = .ok (.putfield 60, 3) := by decide +kernel
theorem d_R_pin_56 : decode prog_9_method_25_code 56 = .ok (.aload_n 0, 1) := by decide +kernel
theorem d_R_pin_57 : decode prog_9_method_25_code 57 = .ok (.aload_n 0, 1) := by decide +kernel
theorem d_R_pin_58 : decode prog_9_method_25_code 58 = .ok (.getfield 71, 3) := by decide +kernel
theorem d_R_pin_61 : decode prog_9_method_25_code 61 = .ok (.putfield 74, 3) := by decide +kernel
theorem d_R_pin_64 : decode prog_9_method_25_code 64 = .ok (.aload_n 0, 1) := by decide +kernel
theorem d_R_pin_65 : decode prog_9_method_25_code 65 = .ok (.iconst 1, 1) := by decide +kernel
theorem d_R_pin_66 : decode prog_9_method_25_code 66 = .ok (.iload_n 1, 1) := by decide +kernel
theorem d_R_pin_67 : decode prog_9_method_25_code 67 = .ok (.invokevirtual 164, 3) := by decide +kernel
theorem d_R_pin_70 : decode prog_9_method_25_code 70 = .ok (.ifCond .eq 8, 3) := by decide +kernel
theorem d_R_pin_73 : decode prog_9_method_25_code 73 = .ok (.aload_n 0, 1) := by decide +kernel
theorem d_R_pin_74 : decode prog_9_method_25_code 74 = .ok (.iconst 2, 1) := by decide +kernel
theorem d_R_pin_75 : decode prog_9_method_25_code 75 = .ok (.putfield 168, 3) := by decide +kernel
theorem d_R_pin_78 : decode prog_9_method_25_code 78 = .ok (.iconst 1, 1) := by decide +kernel
theorem d_R_pin_79 : decode prog_9_method_25_code 79 = .ok (.ireturn, 1) := by decide +kernel
theorem d_R_findMix_0 : decode prog_9_method_22_code 0 = .ok (.bipush 41, 2) := by decide +kernel
theorem d_R_findMix_2 : decode prog_9_method_22_code 2 = .ok (.istore_n 2, 1) := by decide +kernel
theorem d_R_findMix_3 : decode prog_9_method_22_code 3 = .ok (.bipush 40, 2) := by decide +kernel
theorem d_R_findMix_5 : decode prog_9_method_22_code 5 = .ok (.istore_n 3, 1) := by decide +kernel
theorem d_R_findMix_6 : decode prog_9_method_22_code 6 = .ok (.iload_n 3, 1) := by decide +kernel
theorem d_R_findMix_7 : decode prog_9_method_22_code 7 = .ok (.ifCond .lt 205, 3) := by decide +kernel
theorem d_R_findMix_10 : decode prog_9_method_22_code 10 = .ok (.bipush 40, 2) := by decide +kernel
theorem d_R_findMix_12 : decode prog_9_method_22_code 12 = .ok (.iload_n 3, 1) := by decide +kernel
theorem d_R_findMix_13 : decode prog_9_method_22_code 13 = .ok (.isub, 1) := by decide +kernel
theorem d_R_findMix_14 : decode prog_9_method_22_code 14 = .ok (.istore 4, 2) := by decide +kernel
theorem d_R_findMix_16 : decode prog_9_method_22_code 16 = .ok (.iload 4, 2) := by decide +kernel
theorem d_R_findMix_18 : decode prog_9_method_22_code 18 = .ok (.ifCond .lt 188, 3) := by decide +kernel
theorem d_R_findMix_21 : decode prog_9_method_22_code 21 = .ok (.iload_n 3, 1) := by decide +kernel
theorem d_R_findMix_22 : decode prog_9_method_22_code 22 = .ok (.aload_n 0, 1) := by decide +kernel
theorem d_R_findMix_23 : decode prog_9_method_22_code 23 = .ok (.getfield 42, 3) := by decide +kernel
theorem d_R_findMix_26 : decode prog_9_method_22_code 26 = .ok (.iconst 0, 1) := by decide +kernel
theorem d_R_findMix_27 : decode prog_9_method_22_code 27 = .ok (.iaload, 1) := by decide +kernel
theorem d_R_findMix_28 : decode prog_9_method_22_code 28 = .ok (.if_icmp .gt 178, 3) := by decide +kernel
theorem d_R_findMix_31 : decode prog_9_method_22_code 31 = .ok (.bipush 40, 2) := by decide +kernel
theorem d_R_findMix_33 : decode prog_9_method_22_code 33 = .ok (.iload_n 3, 1) := by decide +kernel
theorem d_R_findMix_34 : decode prog_9_method_22_code 34 = .ok (.isub, 1) := by decide +kernel
theorem d_R_findMix_35 : decode prog_9_method_22_code 35 = .ok (.iload 4, 2) := by decide +kernel
theorem d_R_findMix_37 : decode prog_9_method_22_code 37 = .ok (.isub, 1) := by decide +kernel
theorem d_R_findMix_38 : decode prog_9_method_22_code 38 = .ok (.istore 5, 2) := by decide +kernel
theorem d_R_findMix_40 : decode prog_9_method_22_code 40 = .ok (.iload 5, 2) := by decide +kernel
theorem d_R_findMix_42 : decode prog_9_method_22_code 42 = .ok (.ifCond .lt 158, 3) := by decide +kernel
theorem d_R_findMix_45 : decode prog_9_method_22_code 45 = .ok (.iload 4, 2) := by decide +kernel
theorem d_R_findMix_47 : decode prog_9_method_22_code 47 = .ok (.aload_n 0, 1) := by decide +kernel
theorem d_R_findMix_48 : decode prog_9_method_22_code 48 = .ok (.getfield 42, 3) := by decide +kernel
theorem d_R_findMix_51 : decode prog_9_method_22_code 51 = .ok (.iconst 1, 1) := by decide +kernel
theorem d_R_findMix_52 : decode prog_9_method_22_code 52 = .ok (.iaload, 1) := by decide +kernel
theorem d_R_findMix_53 : decode prog_9_method_22_code 53 = .ok (.if_icmp .gt 147, 3) := by decide +kernel
theorem d_R_findMix_56 : decode prog_9_method_22_code 56 = .ok (.iload_n 1, 1) := by decide +kernel
theorem d_R_findMix_57 : decode prog_9_method_22_code 57 = .ok (.iload_n 3, 1) := by decide +kernel
theorem d_R_findMix_58 : decode prog_9_method_22_code 58 = .ok (.aload_n 0, 1) := by decide +kernel
theorem d_R_findMix_59 : decode prog_9_method_22_code 59 = .ok (.getfield 39, 3) := by decide +kernel
theorem d_R_findMix_62 : decode prog_9_method_22_code 62 = .ok (.iconst 0, 1) := by decide +kernel
theorem d_R_findMix_63 : decode prog_9_method_22_code 63 = .ok (.iaload, 1) := by decide +kernel
theorem d_R_findMix_64 : decode prog_9_method_22_code 64 = .ok (.imul, 1) := by decide +kernel
theorem d_R_findMix_65 : decode prog_9_method_22_code 65 = .ok (.isub, 1) := by decide +kernel
theorem d_R_findMix_66 : decode prog_9_method_22_code 66 = .ok (.iload 4, 2) := by decide +kernel
theorem d_R_findMix_68 : decode prog_9_method_22_code 68 = .ok (.aload_n 0, 1) := by decide +kernel
theorem d_R_findMix_69 : decode prog_9_method_22_code 69 = .ok (.getfield 39, 3) := by decide +kernel
theorem d_R_findMix_72 : decode prog_9_method_22_code 72 = .ok (.iconst 1, 1) := by decide +kernel
theorem d_R_findMix_73 : decode prog_9_method_22_code 73 = .ok (.iaload, 1) := by decide +kernel
theorem d_R_findMix_74 : decode prog_9_method_22_code 74 = .ok (.imul, 1) := by decide +kernel
theorem d_R_findMix_75 : decode prog_9_method_22_code 75 = .ok (.isub, 1) := by decide +kernel
theorem d_R_findMix_76 : decode prog_9_method_22_code 76 = .ok (.iload 5, 2) := by decide +kernel
theorem d_R_findMix_78 : decode prog_9_method_22_code 78 = .ok (.aload_n 0, 1) := by decide +kernel
theorem d_R_findMix_79 : decode prog_9_method_22_code 79 = .ok (.getfield 39, 3) := by decide +kernel
theorem d_R_findMix_82 : decode prog_9_method_22_code 82 = .ok (.iconst 2, 1) := by decide +kernel
theorem d_R_findMix_83 : decode prog_9_method_22_code 83 = .ok (.iaload, 1) := by decide +kernel
theorem d_R_findMix_84 : decode prog_9_method_22_code 84 = .ok (.imul, 1) := by decide +kernel
theorem d_R_findMix_85 : decode prog_9_method_22_code 85 = .ok (.isub, 1) := by decide +kernel
theorem d_R_findMix_86 : decode prog_9_method_22_code 86 = .ok (.istore 6, 2) := by decide +kernel
theorem d_R_findMix_88 : decode prog_9_method_22_code 88 = .ok (.iload 5, 2) := by decide +kernel
theorem d_R_findMix_90 : decode prog_9_method_22_code 90 = .ok (.aload_n 0, 1) := by decide +kernel
theorem d_R_findMix_91 : decode prog_9_method_22_code 91 = .ok (.getfield 42, 3) := by decide +kernel
theorem d_R_findMix_94 : decode prog_9_method_22_code 94 = .ok (.iconst 2, 1) := by decide +kernel
theorem d_R_findMix_95 : decode prog_9_method_22_code 95 = .ok (.iaload, 1) := by decide +kernel
theorem d_R_findMix_96 : decode prog_9_method_22_code 96 = .ok (.if_icmp .gt 98, 3) := by decide +kernel
theorem d_R_findMix_99 : decode prog_9_method_22_code 99 = .ok (.iload 6, 2) := by decide +kernel
theorem d_R_findMix_101 : decode prog_9_method_22_code 101 = .ok (.ifCond .lt 93, 3) := by decide +kernel
theorem d_R_findMix_104 : decode prog_9_method_22_code 104 = .ok (.iload 6, 2) := by decide +kernel
theorem d_R_findMix_106 : decode prog_9_method_22_code 106 = .ok (.aload_n 0, 1) := by decide +kernel
theorem d_R_findMix_107 : decode prog_9_method_22_code 107 = .ok (.getfield 39, 3) := by decide +kernel
theorem d_R_findMix_110 : decode prog_9_method_22_code 110 = .ok (.iconst 3, 1) := by decide +kernel
theorem d_R_findMix_111 : decode prog_9_method_22_code 111 = .ok (.iaload, 1) := by decide +kernel
theorem d_R_findMix_112 : decode prog_9_method_22_code 112 = .ok (.irem, 1) := by decide +kernel
theorem d_R_findMix_113 : decode prog_9_method_22_code 113 = .ok (.ifCond .ne 81, 3) := by decide +kernel
theorem d_R_findMix_116 : decode prog_9_method_22_code 116 = .ok (.iload 6, 2) := by decide +kernel
theorem d_R_findMix_118 : decode prog_9_method_22_code 118 = .ok (.aload_n 0, 1) := by decide +kernel
theorem d_R_findMix_119 : decode prog_9_method_22_code 119 = .ok (.getfield 39, 3) := by decide +kernel
theorem d_R_findMix_122 : decode prog_9_method_22_code 122 = .ok (.iconst 3, 1) := by decide +kernel
theorem d_R_findMix_123 : decode prog_9_method_22_code 123 = .ok (.iaload, 1) := by decide +kernel
theorem d_R_findMix_124 : decode prog_9_method_22_code 124 = .ok (.idiv, 1) := by decide +kernel
theorem d_R_findMix_125 : decode prog_9_method_22_code 125 = .ok (.istore 7, 2) := by decide +kernel
theorem d_R_findMix_127 : decode prog_9_method_22_code 127 = .ok (.iload 7, 2) := by decide +kernel
theorem d_R_findMix_129 : decode prog_9_method_22_code 129 = .ok (.aload_n 0, 1) := by decide +kernel
theorem d_R_findMix_130 : decode prog_9_method_22_code 130 = .ok (.getfield 42, 3) := by decide +kernel
theorem d_R_findMix_133 : decode prog_9_method_22_code 133 = .ok (.iconst 3, 1) := by decide +kernel
theorem d_R_findMix_134 : decode prog_9_method_22_code 134 = .ok (.iaload, 1) := by decide +kernel
theorem d_R_findMix_135 : decode prog_9_method_22_code 135 = .ok (.if_icmp .gt 59, 3) := by decide +kernel
theorem d_R_findMix_138 : decode prog_9_method_22_code 138 = .ok (.iload_n 3, 1) := by decide +kernel
theorem d_R_findMix_139 : decode prog_9_method_22_code 139 = .ok (.iload 4, 2) := by decide +kernel
theorem d_R_findMix_141 : decode prog_9_method_22_code 141 = .ok (.iadd, 1) := by decide +kernel
theorem d_R_findMix_142 : decode prog_9_method_22_code 142 = .ok (.iload 5, 2) := by decide +kernel
theorem d_R_findMix_144 : decode prog_9_method_22_code 144 = .ok (.iadd, 1) := by decide +kernel
theorem d_R_findMix_145 : decode prog_9_method_22_code 145 = .ok (.iload 7, 2) := by decide +kernel
theorem d_R_findMix_147 : decode prog_9_method_22_code 147 = .ok (.iadd, 1) := by decide +kernel
theorem d_R_findMix_148 : decode prog_9_method_22_code 148 = .ok (.iload_n 2, 1) := by decide +kernel
theorem d_R_findMix_149 : decode prog_9_method_22_code 149 = .ok (.if_icmp .ge 45, 3) := by decide +kernel
theorem d_R_findMix_152 : decode prog_9_method_22_code 152 = .ok (.iload_n 3, 1) := by decide +kernel
theorem d_R_findMix_153 : decode prog_9_method_22_code 153 = .ok (.iload 4, 2) := by decide +kernel
theorem d_R_findMix_155 : decode prog_9_method_22_code 155 = .ok (.iadd, 1) := by decide +kernel
theorem d_R_findMix_156 : decode prog_9_method_22_code 156 = .ok (.iload 5, 2) := by decide +kernel
theorem d_R_findMix_158 : decode prog_9_method_22_code 158 = .ok (.iadd, 1) := by decide +kernel
theorem d_R_findMix_159 : decode prog_9_method_22_code 159 = .ok (.iload 7, 2) := by decide +kernel
theorem d_R_findMix_161 : decode prog_9_method_22_code 161 = .ok (.iadd, 1) := by decide +kernel
theorem d_R_findMix_162 : decode prog_9_method_22_code 162 = .ok (.istore_n 2, 1) := by decide +kernel
theorem d_R_findMix_163 : decode prog_9_method_22_code 163 = .ok (.aload_n 0, 1) := by decide +kernel
theorem d_R_findMix_164 : decode prog_9_method_22_code 164 = .ok (.getfield 83, 3) := by decide +kernel
theorem d_R_findMix_167 : decode prog_9_method_22_code 167 = .ok (.iconst 0, 1) := by decide +kernel
theorem d_R_findMix_168 : decode prog_9_method_22_code 168 = .ok (.iload_n 3, 1) := by decide +kernel
theorem d_R_findMix_169 : decode prog_9_method_22_code 169 = .ok (.iastore, 1) := by decide +kernel
theorem d_R_findMix_170 : decode prog_9_method_22_code 170 = .ok (.aload_n 0, 1) := by decide +kernel
theorem d_R_findMix_171 : decode prog_9_method_22_code 171 = .ok (.getfield 83, 3) := by decide +kernel
theorem d_R_findMix_174 : decode prog_9_method_22_code 174 = .ok (.iconst 1, 1) := by decide +kernel
theorem d_R_findMix_175 : decode prog_9_method_22_code 175 = .ok (.iload 4, 2) := by decide +kernel
theorem d_R_findMix_177 : decode prog_9_method_22_code 177 = .ok (.iastore, 1) := by decide +kernel
theorem d_R_findMix_178 : decode prog_9_method_22_code 178 = .ok (.aload_n 0, 1) := by decide +kernel
theorem d_R_findMix_179 : decode prog_9_method_22_code 179 = .ok (.getfield 83, 3) := by decide +kernel
theorem d_R_findMix_182 : decode prog_9_method_22_code 182 = .ok (.iconst 2, 1) := by decide +kernel
theorem d_R_findMix_183 : decode prog_9_method_22_code 183 = .ok (.iload 5, 2) := by decide +kernel
theorem d_R_findMix_185 : decode prog_9_method_22_code 185 = .ok (.iastore, 1) := by decide +kernel
theorem d_R_findMix_186 : decode prog_9_method_22_code 186 = .ok (.aload_n 0, 1) := by decide +kernel
theorem d_R_findMix_187 : decode prog_9_method_22_code 187 = .ok (.getfield 83, 3) := by decide +kernel
theorem d_R_findMix_190 : decode prog_9_method_22_code 190 = .ok (.iconst 3, 1) := by decide +kernel
theorem d_R_findMix_191 : decode prog_9_method_22_code 191 = .ok (.iload 7, 2) := by decide +kernel
theorem d_R_findMix_193 : decode prog_9_method_22_code 193 = .ok (.iastore, 1) := by decide +kernel
theorem d_R_findMix_194 : decode prog_9_method_22_code 194 = .ok (.iinc 5 (-1), 3) := by decide +kernel
theorem d_R_findMix_197 : decode prog_9_method_22_code 197 = .ok (.goto (-157), 3) := by decide +kernel
theorem d_R_findMix_200 : decode prog_9_method_22_code 200 = .ok (.iinc 4 (-1), 3) := by decide +kernel
theorem d_R_findMix_203 : decode prog_9_method_22_code 203 = .ok (.goto (-187), 3) := by decide +kernel
theorem d_R_findMix_206 : decode prog_9_method_22_code 206 = .ok (.iinc 3 (-1), 3) := by decide +kernel
theorem d_R_findMix_209 : decode prog_9_method_22_code 209 = .ok (.goto (-203), 3) := by decide +kernel
theorem d_R_findMix_212 : decode prog_9_method_22_code 212 = .ok (.iload_n 2, 1) := by decide +kernel
theorem d_R_findMix_213 : decode prog_9_method_22_code 213 = .ok (.bipush 40, 2) := by decide +kernel
theorem d_R_findMix_215 : decode prog_9_method_22_code 215 = .ok (.if_icmp .gt 7, 3) := by decide +kernel
theorem d_R_findMix_218 : decode prog_9_method_22_code 218 = .ok (.iconst 1, 1) := by decide +kernel
theorem d_R_findMix_219 : decode prog_9_method_22_code 219 = .ok (.goto 4, 3) := by decide +kernel
theorem d_R_findMix_222 : decode prog_9_method_22_code 222 = .ok (.iconst 0, 1) := by decide +kernel
theorem d_R_findMix_223 : decode prog_9_method_22_code 223 = .ok (.ireturn, 1) := by decide +kernel
theorem d_R_record_0 : decode prog_9_method_16_code 0 = .ok (.aload_n 0, 1) := by decide +kernel
theorem d_R_record_1 : decode prog_9_method_16_code 1 = .ok (.getfield 139, 3) := by decide +kernel
theorem d_R_record_4 : decode prog_9_method_16_code 4 = .ok (.sipush 300, 3) := by decide +kernel
theorem d_R_record_7 : decode prog_9_method_16_code 7 = .ok (.if_icmp .ne 8, 3) := by decide +kernel
theorem d_R_record_10 : decode prog_9_method_16_code 10 = .ok (.aload_n 0, 1) := by decide +kernel
theorem d_R_record_11 : decode prog_9_method_16_code 11 = .ok (.getfield 64, 3) := by decide +kernel
theorem d_R_record_14 : decode prog_9_method_16_code 14 = .ok (.ireturn, 1) := by decide +kernel
theorem d_R_record_15 : decode prog_9_method_16_code 15 = .ok (.aload_n 0, 1) := by decide +kernel
theorem d_R_record_16 : decode prog_9_method_16_code 16 = .ok (.invokevirtual 142, 3) := by decide +kernel
theorem d_R_record_19 : decode prog_9_method_16_code 19 = .ok (.ifCond .ne 5, 3) := by decide +kernel
theorem d_R_record_22 : decode prog_9_method_16_code 22 = .ok (.iconst 0, 1) := by decide +kernel
theorem d_R_record_23 : decode prog_9_method_16_code 23 = .ok (.ireturn, 1) := by decide +kernel
theorem d_R_record_24 : decode prog_9_method_16_code 24 = .ok (.iconst 5, 1) := by decide +kernel
theorem d_R_record_25 : decode prog_9_method_16_code 25 = .ok (.aload_n 0, 1) := by decide +kernel
theorem d_R_record_26 : decode prog_9_method_16_code 26 = .ok (.getfield 139, 3) := by decide +kernel
theorem d_R_record_29 : decode prog_9_method_16_code 29 = .ok (.imul, 1) := by decide +kernel
theorem d_R_record_30 : decode prog_9_method_16_code 30 = .ok (.istore_n 2, 1) := by decide +kernel
theorem d_R_record_31 : decode prog_9_method_16_code 31 = .ok (.aload_n 0, 1) := by decide +kernel
theorem d_R_record_32 : decode prog_9_method_16_code 32 = .ok (.getfield 57, 3) := by decide +kernel
theorem d_R_record_35 : decode prog_9_method_16_code 35 = .ok (.iload_n 2, 1) := by decide +kernel
theorem d_R_record_36 : decode prog_9_method_16_code 36 = .ok (.iload_n 1, 1) := by decide +kernel
theorem d_R_record_37 : decode prog_9_method_16_code 37 = .ok (.iastore, 1) := by decide +kernel
theorem d_R_record_38 : decode prog_9_method_16_code 38 = .ok (.aload_n 0, 1) := by decide +kernel
theorem d_R_record_39 : decode prog_9_method_16_code 39 = .ok (.getfield 57, 3) := by decide +kernel
theorem d_R_record_42 : decode prog_9_method_16_code 42 = .ok (.iload_n 2, 1) := by decide +kernel
theorem d_R_record_43 : decode prog_9_method_16_code 43 = .ok (.iconst 1, 1) := by decide +kernel
theorem d_R_record_44 : decode prog_9_method_16_code 44 = .ok (.iadd, 1) := by decide +kernel
theorem d_R_record_45 : decode prog_9_method_16_code 45 = .ok (.aload_n 0, 1) := by decide +kernel
theorem d_R_record_46 : decode prog_9_method_16_code 46 = .ok (.getfield 145, 3) := by decide +kernel
theorem d_R_record_49 : decode prog_9_method_16_code 49 = .ok (.iastore, 1) := by decide +kernel
theorem d_R_record_50 : decode prog_9_method_16_code 50 = .ok (.aload_n 0, 1) := by decide +kernel
theorem d_R_record_51 : decode prog_9_method_16_code 51 = .ok (.getfield 57, 3) := by decide +kernel
theorem d_R_record_54 : decode prog_9_method_16_code 54 = .ok (.iload_n 2, 1) := by decide +kernel
theorem d_R_record_55 : decode prog_9_method_16_code 55 = .ok (.iconst 2, 1) := by decide +kernel
theorem d_R_record_56 : decode prog_9_method_16_code 56 = .ok (.iadd, 1) := by decide +kernel
theorem d_R_record_57 : decode prog_9_method_16_code 57 = .ok (.aload_n 0, 1) := by decide +kernel
theorem d_R_record_58 : decode prog_9_method_16_code 58 = .ok (.getfield 148, 3) := by decide +kernel
theorem d_R_record_61 : decode prog_9_method_16_code 61 = .ok (.iastore, 1) := by decide +kernel
theorem d_R_record_62 : decode prog_9_method_16_code 62 = .ok (.aload_n 0, 1) := by decide +kernel
theorem d_R_record_63 : decode prog_9_method_16_code 63 = .ok (.getfield 57, 3) := by decide +kernel
theorem d_R_record_66 : decode prog_9_method_16_code 66 = .ok (.iload_n 2, 1) := by decide +kernel
theorem d_R_record_67 : decode prog_9_method_16_code 67 = .ok (.iconst 3, 1) := by decide +kernel
theorem d_R_record_68 : decode prog_9_method_16_code 68 = .ok (.iadd, 1) := by decide +kernel
theorem d_R_record_69 : decode prog_9_method_16_code 69 = .ok (.aload_n 0, 1) := by decide +kernel
theorem d_R_record_70 : decode prog_9_method_16_code 70 = .ok (.getfield 74, 3) := by decide +kernel
theorem d_R_record_73 : decode prog_9_method_16_code 73 = .ok (.iastore, 1) := by decide +kernel
theorem d_R_record_74 : decode prog_9_method_16_code 74 = .ok (.aload_n 0, 1) := by decide +kernel
theorem d_R_record_75 : decode prog_9_method_16_code 75 = .ok (.getfield 57, 3) := by decide +kernel
theorem d_R_record_78 : decode prog_9_method_16_code 78 = .ok (.iload_n 2, 1) := by decide +kernel
theorem d_R_record_79 : decode prog_9_method_16_code 79 = .ok (.iconst 4, 1) := by decide +kernel
theorem d_R_record_80 : decode prog_9_method_16_code 80 = .ok (.iadd, 1) := by decide +kernel
theorem d_R_record_81 : decode prog_9_method_16_code 81 = .ok (.aload_n 0, 1) := by decide +kernel
theorem d_R_record_82 : decode prog_9_method_16_code 82 = .ok (.getfield 151, 3) := by decide +kernel
theorem d_R_record_85 : decode prog_9_method_16_code 85 = .ok (.iastore, 1) := by decide +kernel
theorem d_R_record_86 : decode prog_9_method_16_code 86 = .ok (.aload_n 0, 1) := by decide +kernel
theorem d_R_record_87 : decode prog_9_method_16_code 87 = .ok (.dup, 1) := by decide +kernel
theorem d_R_record_88 : decode prog_9_method_16_code 88 = .ok (.getfield 139, 3) := by decide +kernel
theorem d_R_record_91 : decode prog_9_method_16_code 91 = .ok (.iconst 1, 1) := by decide +kernel
theorem d_R_record_92 : decode prog_9_method_16_code 92 = .ok (.iadd, 1) := by decide +kernel
theorem d_R_record_93 : decode prog_9_method_16_code 93 = .ok (.putfield 139, 3) := by decide +kernel
theorem d_R_record_96 : decode prog_9_method_16_code 96 = .ok (.iconst 1, 1) := by decide +kernel
theorem d_R_record_97 : decode prog_9_method_16_code 97 = .ok (.ireturn, 1) := by decide +kernel
end
section
theorem d_R_ask_0 : decode prog_9_method_26_code 0 = .ok (.aload_n 0, 1) := by decide +kernel
theorem d_R_ask_1 : decode prog_9_method_26_code 1 = .ok (.getfield 64, 3) := by decide +kernel
theorem d_R_ask_4 : decode prog_9_method_26_code 4 = .ok (.ifCond .eq 42, 3) := by decide +kernel
theorem d_R_ask_7 : decode prog_9_method_26_code 7 = .ok (.aload_n 0, 1) := by decide +kernel
theorem d_R_ask_8 : decode prog_9_method_26_code 8 = .ok (.getfield 168, 3) := by decide +kernel
theorem d_R_ask_11 : decode prog_9_method_26_code 11 = .ok (.iconst 3, 1) := by decide +kernel
theorem d_R_ask_12 : decode prog_9_method_26_code 12 = .ok (.if_icmp .ne 34, 3) := by decide +kernel
theorem d_R_ask_15 : decode prog_9_method_26_code 15 = .ok (.iload_n 1, 1) := by decide +kernel
theorem d_R_ask_16 : decode prog_9_method_26_code 16 = .ok (.iconst 1, 1) := by decide +kernel
theorem d_R_ask_17 : decode prog_9_method_26_code 17 = .ok (.if_icmp .lt 29, 3) := by decide +kernel
theorem d_R_ask_20 : decode prog_9_method_26_code 20 = .ok (.iload_n 1, 1) := by decide +kernel
theorem d_R_ask_21 : decode prog_9_method_26_code 21 = .ok (.ldc 117, 2) := by decide +kernel
theorem d_R_ask_23 : decode prog_9_method_26_code 23 = .ok (.if_icmp .gt 23, 3) := by decide +kernel
theorem d_R_ask_26 : decode prog_9_method_26_code 26 = .ok (.aload_n 0, 1) := by decide +kernel
theorem d_R_ask_27 : decode prog_9_method_26_code 27 = .ok (.getfield 139, 3) := by decide +kernel
theorem d_R_ask_30 : decode prog_9_method_26_code 30 = .ok (.sipush 290, 3) := by decide +kernel
theorem d_R_ask_33 : decode prog_9_method_26_code 33 = .ok (.if_icmp .gt 13, 3) := by decide +kernel
theorem d_R_ask_36 : decode prog_9_method_26_code 36 = .ok (.aload_n 0, 1) := by decide +kernel
theorem d_R_ask_37 : decode prog_9_method_26_code 37 = .ok (.getfield 60, 3) := by decide +kernel
theorem d_R_ask_40 : decode prog_9_method_26_code 40 = .ok (.sipush 2000, 3) := by decide +kernel
theorem d_R_ask_43 : decode prog_9_method_26_code 43 = .ok (.if_icmp .le 5, 3) := by decide +kernel
theorem d_R_ask_46 : decode prog_9_method_26_code 46 = .ok (.iconst (-1), 1) := by decide +kernel
theorem d_R_ask_47 : decode prog_9_method_26_code 47 = .ok (.ireturn, 1) := by decide +kernel
theorem d_R_ask_48 : decode prog_9_method_26_code 48 = .ok (.aload_n 0, 1) := by decide +kernel
theorem d_R_ask_49 : decode prog_9_method_26_code 49 = .ok (.iload_n 1, 1) := by decide +kernel
theorem d_R_ask_50 : decode prog_9_method_26_code 50 = .ok (.invokevirtual 174, 3) := by decide +kernel
theorem d_R_ask_53 : decode prog_9_method_26_code 53 = .ok (.ifCond .ne 5, 3) := by decide +kernel
theorem d_R_ask_56 : decode prog_9_method_26_code 56 = .ok (.iconst 0, 1) := by decide +kernel
theorem d_R_ask_57 : decode prog_9_method_26_code 57 = .ok (.ireturn, 1) := by decide +kernel
theorem d_R_ask_58 : decode prog_9_method_26_code 58 = .ok (.aload_n 0, 1) := by decide +kernel
theorem d_R_ask_59 : decode prog_9_method_26_code 59 = .ok (.aload_n 0, 1) := by decide +kernel
theorem d_R_ask_60 : decode prog_9_method_26_code 60 = .ok (.getfield 60, 3) := by decide +kernel
theorem d_R_ask_63 : decode prog_9_method_26_code 63 = .ok (.putfield 145, 3) := by decide +kernel
theorem d_R_ask_66 : decode prog_9_method_26_code 66 = .ok (.aload_n 0, 1) := by decide +kernel
theorem d_R_ask_67 : decode prog_9_method_26_code 67 = .ok (.dup, 1) := by decide +kernel
theorem d_R_ask_68 : decode prog_9_method_26_code 68 = .ok (.getfield 60, 3) := by decide +kernel
theorem d_R_ask_71 : decode prog_9_method_26_code 71 = .ok (.iconst 1, 1) := by decide +kernel
theorem d_R_ask_72 : decode prog_9_method_26_code 72 = .ok (.iadd, 1) := by decide +kernel
theorem d_R_ask_73 : decode prog_9_method_26_code 73 = .ok (.putfield 60, 3) := by decide +kernel
theorem d_R_ask_76 : decode prog_9_method_26_code 76 = .ok (.aload_n 0, 1) := by decide +kernel
theorem d_R_ask_77 : decode prog_9_method_26_code 77 = .ok (.aload_n 0, 1) := by decide +kernel
theorem d_R_ask_78 : decode prog_9_method_26_code 78 = .ok (.getfield 71, 3) := by decide +kernel
theorem d_R_ask_81 : decode prog_9_method_26_code 81 = .ok (.putfield 74, 3) := by decide +kernel
theorem d_R_ask_84 : decode prog_9_method_26_code 84 = .ok (.aload_n 0, 1) := by decide +kernel
theorem d_R_ask_85 : decode prog_9_method_26_code 85 = .ok (.iload_n 1, 1) := by decide +kernel
theorem d_R_ask_86 : decode prog_9_method_26_code 86 = .ok (.putfield 148, 3) := by decide +kernel
theorem d_R_ask_89 : decode prog_9_method_26_code 89 = .ok (.aload_n 0, 1) := by decide +kernel
theorem d_R_ask_90 : decode prog_9_method_26_code 90 = .ok (.iconst 1, 1) := by decide +kernel
theorem d_R_ask_91 : decode prog_9_method_26_code 91 = .ok (.invokevirtual 154, 3) := by decide +kernel
theorem d_R_ask_94 : decode prog_9_method_26_code 94 = .ok (.ifCond .eq 17, 3) := by decide +kernel
theorem d_R_ask_97 : decode prog_9_method_26_code 97 = .ok (.aload_n 0, 1) := by decide +kernel
theorem d_R_ask_98 : decode prog_9_method_26_code 98 = .ok (.iconst 2, 1) := by decide +kernel
theorem d_R_ask_99 : decode prog_9_method_26_code 99 = .ok (.iload_n 1, 1) := by decide +kernel
theorem d_R_ask_100 : decode prog_9_method_26_code 100 = .ok (.invokevirtual 164, 3) := by decide +kernel
theorem d_R_ask_103 : decode prog_9_method_26_code 103 = .ok (.ifCond .eq 8, 3) := by decide +kernel
theorem d_R_ask_106 : decode prog_9_method_26_code 106 = .ok (.aload_n 0, 1) := by decide +kernel
theorem d_R_ask_107 : decode prog_9_method_26_code 107 = .ok (.iconst 4, 1) := by decide +kernel
theorem d_R_ask_108 : decode prog_9_method_26_code 108 = .ok (.putfield 168, 3) := by decide +kernel
theorem d_R_ask_111 : decode prog_9_method_26_code 111 = .ok (.iconst 1, 1) := by decide +kernel
theorem d_R_ask_112 : decode prog_9_method_26_code 112 = .ok (.ireturn, 1) := by decide +kernel
theorem d_R_eject_0 : decode prog_9_method_27_code 0 = .ok (.aload_n 0, 1) := by decide +kernel
theorem d_R_eject_1 : decode prog_9_method_27_code 1 = .ok (.getfield 64, 3) := by decide +kernel
theorem d_R_eject_4 : decode prog_9_method_27_code 4 = .ok (.ifCond .eq 19, 3) := by decide +kernel
theorem d_R_eject_7 : decode prog_9_method_27_code 7 = .ok (.aload_n 0, 1) := by decide +kernel
theorem d_R_eject_8 : decode prog_9_method_27_code 8 = .ok (.getfield 168, 3) := by decide +kernel
theorem d_R_eject_11 : decode prog_9_method_27_code 11 = .ok (.iconst 1, 1) := by decide +kernel
theorem d_R_eject_12 : decode prog_9_method_27_code 12 = .ok (.if_icmp .eq 13, 3) := by decide +kernel
theorem d_R_eject_15 : decode prog_9_method_27_code 15 = .ok (.aload_n 0, 1) := by decide +kernel
theorem d_R_eject_16 : decode prog_9_method_27_code 16 = .ok (.getfield 168, 3) := by decide +kernel
theorem d_R_eject_19 : decode prog_9_method_27_code 19 = .ok (.iconst 3, 1) := by decide +kernel
theorem d_R_eject_20 : decode prog_9_method_27_code 20 = .ok (.if_icmp .eq 5, 3) := by decide +kernel
theorem d_R_eject_23 : decode prog_9_method_27_code 23 = .ok (.iconst 0, 1) := by decide +kernel
theorem d_R_eject_24 : decode prog_9_method_27_code 24 = .ok (.ireturn, 1) := by decide +kernel
theorem d_R_eject_25 : decode prog_9_method_27_code 25 = .ok (.aload_n 0, 1) := by decide +kernel
theorem d_R_eject_26 : decode prog_9_method_27_code 26 = .ok (.iconst (-1), 1) := by decide +kernel
theorem d_R_eject_27 : decode prog_9_method_27_code 27 = .ok (.putfield 71, 3) := by decide +kernel
theorem d_R_eject_30 : decode prog_9_method_27_code 30 = .ok (.aload_n 0, 1) := by decide +kernel
theorem d_R_eject_31 : decode prog_9_method_27_code 31 = .ok (.iconst 0, 1) := by decide +kernel
theorem d_R_eject_32 : decode prog_9_method_27_code 32 = .ok (.putfield 168, 3) := by decide +kernel
theorem d_R_eject_35 : decode prog_9_method_27_code 35 = .ok (.iconst 1, 1) := by decide +kernel
theorem d_R_eject_36 : decode prog_9_method_27_code 36 = .ok (.ireturn, 1) := by decide +kernel
theorem d_R_take_0 : decode prog_9_method_28_code 0 = .ok (.aload_n 0, 1) := by decide +kernel
theorem d_R_take_1 : decode prog_9_method_28_code 1 = .ok (.getfield 177, 3) := by decide +kernel
theorem d_R_take_4 : decode prog_9_method_28_code 4 = .ok (.l2i, 1) := by decide +kernel
theorem d_R_take_5 : decode prog_9_method_28_code 5 = .ok (.istore_n 1, 1) := by decide +kernel
theorem d_R_take_6 : decode prog_9_method_28_code 6 = .ok (.aload_n 0, 1) := by decide +kernel
theorem d_R_take_7 : decode prog_9_method_28_code 7 = .ok (.lconst 0, 1) := by decide +kernel
theorem d_R_take_8 : decode prog_9_method_28_code 8 = .ok (.putfield 177, 3) := by decide +kernel
theorem d_R_take_11 : decode prog_9_method_28_code 11 = .ok (.iconst 0, 1) := by decide +kernel
theorem d_R_take_12 : decode prog_9_method_28_code 12 = .ok (.istore_n 2, 1) := by decide +kernel
theorem d_R_take_13 : decode prog_9_method_28_code 13 = .ok (.iload_n 2, 1) := by decide +kernel
theorem d_R_take_14 : decode prog_9_method_28_code 14 = .ok (.iconst 4, 1) := by decide +kernel
theorem d_R_take_15 : decode prog_9_method_28_code 15 = .ok (.if_icmp .ge 16, 3) := by decide +kernel
theorem d_R_take_18 : decode prog_9_method_28_code 18 = .ok (.aload_n 0, 1) := by decide +kernel
theorem d_R_take_19 : decode prog_9_method_28_code 19 = .ok (.getfield 48, 3) := by decide +kernel
theorem d_R_take_22 : decode prog_9_method_28_code 22 = .ok (.iload_n 2, 1) := by decide +kernel
theorem d_R_take_23 : decode prog_9_method_28_code 23 = .ok (.iconst 0, 1) := by decide +kernel
theorem d_R_take_24 : decode prog_9_method_28_code 24 = .ok (.iastore, 1) := by decide +kernel
theorem d_R_take_25 : decode prog_9_method_28_code 25 = .ok (.iinc 2 1, 3) := by decide +kernel
theorem d_R_take_28 : decode prog_9_method_28_code 28 = .ok (.goto (-15), 3) := by decide +kernel
theorem d_R_take_31 : decode prog_9_method_28_code 31 = .ok (.iload_n 1, 1) := by decide +kernel
theorem d_R_take_32 : decode prog_9_method_28_code 32 = .ok (.ireturn, 1) := by decide +kernel
theorem d_R_hasStacked_0 : decode prog_9_method_18_code 0 = .ok (.aload_n 0, 1) := by decide +kernel
theorem d_R_hasStacked_1 : decode prog_9_method_18_code 1 = .ok (.getfield 45, 3) := by decide +kernel
theorem d_R_hasStacked_4 : decode prog_9_method_18_code 4 = .ok (.iconst 0, 1) := by decide +kernel
theorem d_R_hasStacked_5 : decode prog_9_method_18_code 5 = .ok (.iaload, 1) := by decide +kernel
theorem d_R_hasStacked_6 : decode prog_9_method_18_code 6 = .ok (.aload_n 0, 1) := by decide +kernel
theorem d_R_hasStacked_7 : decode prog_9_method_18_code 7 = .ok (.getfield 45, 3) := by decide +kernel
theorem d_R_hasStacked_10 : decode prog_9_method_18_code 10 = .ok (.iconst 1, 1) := by decide +kernel
theorem d_R_hasStacked_11 : decode prog_9_method_18_code 11 = .ok (.iaload, 1) := by decide +kernel
theorem d_R_hasStacked_12 : decode prog_9_method_18_code 12 = .ok (.iadd, 1) := by decide +kernel
theorem d_R_hasStacked_13 : decode prog_9_method_18_code 13 = .ok (.aload_n 0, 1) := by decide +kernel
theorem d_R_hasStacked_14 : decode prog_9_method_18_code 14 = .ok (.getfield 45, 3) := by decide +kernel
theorem d_R_hasStacked_17 : decode prog_9_method_18_code 17 = .ok (.iconst 2, 1) := by decide +kernel
theorem d_R_hasStacked_18 : decode prog_9_method_18_code 18 = .ok (.iaload, 1) := by decide +kernel
theorem d_R_hasStacked_19 : decode prog_9_method_18_code 19 = .ok (.iadd, 1) := by decide +kernel
theorem d_R_hasStacked_20 : decode prog_9_method_18_code 20 = .ok (.aload_n 0, 1) := by decide +kernel
theorem d_R_hasStacked_21 : decode prog_9_method_18_code 21 = .ok (.getfield 45, 3) := by decide +kernel
theorem d_R_hasStacked_24 : decode prog_9_method_18_code 24 = .ok (.iconst 3, 1) := by decide +kernel
theorem d_R_hasStacked_25 : decode prog_9_method_18_code 25 = .ok (.iaload, 1) := by decide +kernel
theorem d_R_hasStacked_26 : decode prog_9_method_18_code 26 = .ok (.iadd, 1) := by decide +kernel
theorem d_R_hasStacked_27 : decode prog_9_method_18_code 27 = .ok (.ifCond .le 7, 3) := by decide +kernel
theorem d_R_hasStacked_30 : decode prog_9_method_18_code 30 = .ok (.iconst 1, 1) := by decide +kernel
theorem d_R_hasStacked_31 : decode prog_9_method_18_code 31 = .ok (.goto 4, 3) := by decide +kernel
theorem d_R_hasStacked_34 : decode prog_9_method_18_code 34 = .ok (.iconst 0, 1) := by decide +kernel
theorem d_R_hasStacked_35 : decode prog_9_method_18_code 35 = .ok (.ireturn, 1) := by decide +kernel
theorem d_R_reverse_0 : decode prog_9_method_19_code 0 = .ok (.iload_n 1, 1) := by decide +kernel
theorem d_R_reverse_1 : decode prog_9_method_19_code 1 = .ok (.ifCond .eq 12, 3) := by decide +kernel
theorem d_R_reverse_4 : decode prog_9_method_19_code 4 = .ok (.aload_n 0, 1) := by decide +kernel
theorem d_R_reverse_5 : decode prog_9_method_19_code 5 = .ok (.iconst 4, 1) := by decide +kernel
theorem d_R_reverse_6 : decode prog_9_method_19_code 6 = .ok (.invokevirtual 154, 3) := by decide +kernel
theorem d_R_reverse_9 : decode prog_9_method_19_code 9 = .ok (.ifCond .ne 4, 3) := by decide +kernel
theorem d_R_reverse_12 : decode prog_9_method_19_code 12 = .ok (.return_, 1) := by decide +kernel
theorem d_R_reverse_13 : decode prog_9_method_19_code 13 = .ok (.aload_n 0, 1) := by decide +kernel
theorem d_R_reverse_14 : decode prog_9_method_19_code 14 = .ok (.invokevirtual 158, 3) := by decide +kernel
theorem d_R_reverse_17 : decode prog_9_method_19_code 17 = .ok (.ifCond .eq 51, 3) := by decide +kernel
theorem d_R_reverse_20 : decode prog_9_method_19_code 20 = .ok (.aload_n 0, 1) := by decide +kernel
theorem d_R_reverse_21 : decode prog_9_method_19_code 21 = .ok (.invokevirtual 142, 3) := by decide +kernel
theorem d_R_reverse_24 : decode prog_9_method_19_code 24 = .ok (.ifCond .ne 4, 3) := by decide +kernel
theorem d_R_reverse_27 : decode prog_9_method_19_code 27 = .ok (.return_, 1) := by decide +kernel
theorem d_R_reverse_28 : decode prog_9_method_19_code 28 = .ok (.iconst 0, 1) := by decide +kernel
theorem d_R_reverse_29 : decode prog_9_method_19_code 29 = .ok (.istore_n 2, 1) := by decide +kernel
theorem d_R_reverse_30 : decode prog_9_method_19_code 30 = .ok (.iload_n 2, 1) := by decide +kernel
theorem d_R_reverse_31 : decode prog_9_method_19_code 31 = .ok (.iconst 4, 1) := by decide +kernel
theorem d_R_reverse_32 : decode prog_9_method_19_code 32 = .ok (.if_icmp .ge 31, 3) := by decide +kernel
theorem d_R_reverse_35 : decode prog_9_method_19_code 35 = .ok (.aload_n 0, 1) := by decide +kernel
theorem d_R_reverse_36 : decode prog_9_method_19_code 36 = .ok (.getfield 51, 3) := by decide +kernel
theorem d_R_reverse_39 : decode prog_9_method_19_code 39 = .ok (.iload_n 2, 1) := by decide +kernel
theorem d_R_reverse_40 : decode prog_9_method_19_code 40 = .ok (.dup2, 1) := by decide +kernel
theorem d_R_reverse_41 : decode prog_9_method_19_code 41 = .ok (.iaload, 1) := by decide +kernel
theorem d_R_reverse_42 : decode prog_9_method_19_code 42 = .ok (.aload_n 0, 1) := by decide +kernel
theorem d_R_reverse_43 : decode prog_9_method_19_code 43 = .ok (.getfield 45, 3) := by decide +kernel
theorem d_R_reverse_46 : decode prog_9_method_19_code 46 = .ok (.iload_n 2, 1) := by decide +kernel
theorem d_R_reverse_47 : decode prog_9_method_19_code 47 = .ok (.iaload, 1) := by decide +kernel
theorem d_R_reverse_48 : decode prog_9_method_19_code 48 = .ok (.iadd, 1) := by decide +kernel
theorem d_R_reverse_49 : decode prog_9_method_19_code 49 = .ok (.iastore, 1) := by decide +kernel
theorem d_R_reverse_50 : decode prog_9_method_19_code 50 = .ok (.aload_n 0, 1) := by decide +kernel
theorem d_R_reverse_51 : decode prog_9_method_19_code 51 = .ok (.getfield 45, 3) := by decide +kernel
theorem d_R_reverse_54 : decode prog_9_method_19_code 54 = .ok (.iload_n 2, 1) := by decide +kernel
theorem d_R_reverse_55 : decode prog_9_method_19_code 55 = .ok (.iconst 0, 1) := by decide +kernel
theorem d_R_reverse_56 : decode prog_9_method_19_code 56 = .ok (.iastore, 1) := by decide +kernel
theorem d_R_reverse_57 : decode prog_9_method_19_code 57 = .ok (.iinc 2 1, 3) := by decide +kernel
theorem d_R_reverse_60 : decode prog_9_method_19_code 60 = .ok (.goto (-30), 3) := by decide +kernel
theorem d_R_reverse_63 : decode prog_9_method_19_code 63 = .ok (.aload_n 0, 1) := by decide +kernel
theorem d_R_reverse_64 : decode prog_9_method_19_code 64 = .ok (.lconst 0, 1) := by decide +kernel
theorem d_R_reverse_65 : decode prog_9_method_19_code 65 = .ok (.putfield 161, 3) := by decide +kernel
theorem d_R_reverse_68 : decode prog_9_method_19_code 68 = .ok (.aload_n 0, 1) := by decide +kernel
theorem d_R_reverse_69 : decode prog_9_method_19_code 69 = .ok (.iconst 3, 1) := by decide +kernel
theorem d_R_reverse_70 : decode prog_9_method_19_code 70 = .ok (.aload_n 0, 1) := by decide +kernel
theorem d_R_reverse_71 : decode prog_9_method_19_code 71 = .ok (.getfield 148, 3) := by decide +kernel
theorem d_R_reverse_74 : decode prog_9_method_19_code 74 = .ok (.invokevirtual 164, 3) := by decide +kernel
theorem d_R_reverse_77 : decode prog_9_method_19_code 77 = .ok (.ifCond .eq 13, 3) := by decide +kernel
theorem d_R_reverse_80 : decode prog_9_method_19_code 80 = .ok (.aload_n 0, 1) := by decide +kernel
theorem d_R_reverse_81 : decode prog_9_method_19_code 81 = .ok (.iconst (-1), 1) := by decide +kernel
theorem d_R_reverse_82 : decode prog_9_method_19_code 82 = .ok (.putfield 71, 3) := by decide +kernel
theorem d_R_reverse_85 : decode prog_9_method_19_code 85 = .ok (.aload_n 0, 1) := by decide +kernel
theorem d_R_reverse_86 : decode prog_9_method_19_code 86 = .ok (.iconst 5, 1) := by decide +kernel
theorem d_R_reverse_87 : decode prog_9_method_19_code 87 = .ok (.putfield 168, 3) := by decide +kernel
theorem d_R_reverse_90 : decode prog_9_method_19_code 90 = .ok (.return_, 1) := by decide +kernel
theorem d_R_timeout_0 : decode prog_9_method_29_code 0 = .ok (.aload_n 0, 1) := by decide +kernel
theorem d_R_timeout_1 : decode prog_9_method_29_code 1 = .ok (.getfield 64, 3) := by decide +kernel
theorem d_R_timeout_4 : decode prog_9_method_29_code 4 = .ok (.ifCond .eq 27, 3) := by decide +kernel
theorem d_R_timeout_7 : decode prog_9_method_29_code 7 = .ok (.aload_n 0, 1) := by decide +kernel
theorem d_R_timeout_8 : decode prog_9_method_29_code 8 = .ok (.getfield 168, 3) := by decide +kernel
theorem d_R_timeout_11 : decode prog_9_method_29_code 11 = .ok (.iconst 2, 1) := by decide +kernel
theorem d_R_timeout_12 : decode prog_9_method_29_code 12 = .ok (.if_icmp .eq 21, 3) := by decide +kernel
theorem d_R_timeout_15 : decode prog_9_method_29_code 15 = .ok (.aload_n 0, 1) := by decide +kernel
theorem d_R_timeout_16 : decode prog_9_method_29_code 16 = .ok (.getfield 168, 3) := by decide +kernel
theorem d_R_timeout_19 : decode prog_9_method_29_code 19 = .ok (.iconst 4, 1) := by decide +kernel
theorem d_R_timeout_20 : decode prog_9_method_29_code 20 = .ok (.if_icmp .eq 13, 3) := by decide +kernel
theorem d_R_timeout_23 : decode prog_9_method_29_code 23 = .ok (.aload_n 0, 1) := by decide +kernel
theorem d_R_timeout_24 : decode prog_9_method_29_code 24 = .ok (.getfield 168, 3) := by decide +kernel
theorem d_R_timeout_27 : decode prog_9_method_29_code 27 = .ok (.iconst 5, 1) := by decide +kernel
theorem d_R_timeout_28 : decode prog_9_method_29_code 28 = .ok (.if_icmp .eq 5, 3) := by decide +kernel
theorem d_R_timeout_31 : decode prog_9_method_29_code 31 = .ok (.iconst 0, 1) := by decide +kernel
theorem d_R_timeout_32 : decode prog_9_method_29_code 32 = .ok (.ireturn, 1) := by decide +kernel
theorem d_R_timeout_33 : decode prog_9_method_29_code 33 = .ok (.aload_n 0, 1) := by decide +kernel
theorem d_R_timeout_34 : decode prog_9_method_29_code 34 = .ok (.getfield 168, 3) := by decide +kernel
theorem d_R_timeout_37 : decode prog_9_method_29_code 37 = .ok (.iconst 2, 1) := by decide +kernel
theorem d_R_timeout_38 : decode prog_9_method_29_code 38 = .ok (.if_icmp .ne 16, 3) := by decide +kernel
theorem d_R_timeout_41 : decode prog_9_method_29_code 41 = .ok (.aload_n 0, 1) := by decide +kernel
theorem d_R_timeout_42 : decode prog_9_method_29_code 42 = .ok (.iconst (-1), 1) := by decide +kernel
theorem d_R_timeout_43 : decode prog_9_method_29_code 43 = .ok (.putfield 71, 3) := by decide +kernel
theorem d_R_timeout_46 : decode prog_9_method_29_code 46 = .ok (.aload_n 0, 1) := by decide +kernel
theorem d_R_timeout_47 : decode prog_9_method_29_code 47 = .ok (.iconst 0, 1) := by decide +kernel
theorem d_R_timeout_48 : decode prog_9_method_29_code 48 = .ok (.putfield 168, 3) := by decide +kernel
theorem d_R_timeout_51 : decode prog_9_method_29_code 51 = .ok (.goto 29, 3) := by decide +kernel
theorem d_R_timeout_54 : decode prog_9_method_29_code 54 = .ok (.aload_n 0, 1) := by decide +kernel
theorem d_R_timeout_55 : decode prog_9_method_29_code 55 = .ok (.getfield 168, 3) := by decide +kernel
theorem d_R_timeout_58 : decode prog_9_method_29_code 58 = .ok (.iconst 4, 1) := by decide +kernel
theorem d_R_timeout_59 : decode prog_9_method_29_code 59 = .ok (.if_icmp .ne 11, 3) := by decide +kernel
theorem d_R_timeout_62 : decode prog_9_method_29_code 62 = .ok (.aload_n 0, 1) := by decide +kernel
theorem d_R_timeout_63 : decode prog_9_method_29_code 63 = .ok (.iconst 1, 1) := by decide +kernel
theorem d_R_timeout_64 : decode prog_9_method_29_code 64 = .ok (.invokevirtual 183, 3) := by decide +kernel
theorem d_R_timeout_67 : decode prog_9_method_29_code 67 = .ok (.goto 13, 3) := by decide +kernel
theorem d_R_timeout_70 : decode prog_9_method_29_code 70 = .ok (.aload_n 0, 1) := by decide +kernel
theorem d_R_timeout_71 : decode prog_9_method_29_code 71 = .ok (.iconst 3, 1) := by decide +kernel
theorem d_R_timeout_72 : decode prog_9_method_29_code 72 = .ok (.aload_n 0, 1) := by decide +kernel
theorem d_R_timeout_73 : decode prog_9_method_29_code 73 = .ok (.getfield 148, 3) := by decide +kernel
theorem d_R_timeout_76 : decode prog_9_method_29_code 76 = .ok (.invokevirtual 164, 3) := by decide +kernel
theorem d_R_timeout_79 : decode prog_9_method_29_code 79 = .ok (.pop, 1) := by decide +kernel
theorem d_R_timeout_80 : decode prog_9_method_29_code 80 = .ok (.iconst 1, 1) := by decide +kernel
theorem d_R_timeout_81 : decode prog_9_method_29_code 81 = .ok (.ireturn, 1) := by decide +kernel
theorem d_R_isLetter_0 : decode prog_9_method_30_code 0 = .ok (.iload_n 1, 1) := by decide +kernel
theorem d_R_isLetter_1 : decode prog_9_method_30_code 1 = .ok (.ifCond .lt 15, 3) := by decide +kernel
theorem d_R_isLetter_4 : decode prog_9_method_30_code 4 = .ok (.iload_n 1, 1) := by decide +kernel
theorem d_R_isLetter_5 : decode prog_9_method_30_code 5 = .ok (.aload_n 0, 1) := by decide +kernel
theorem d_R_isLetter_6 : decode prog_9_method_30_code 6 = .ok (.getfield 89, 3) := by decide +kernel
theorem d_R_isLetter_9 : decode prog_9_method_30_code 9 = .ok (.if_icmp .ge 7, 3) := by decide +kernel
theorem d_R_isLetter_12 : decode prog_9_method_30_code 12 = .ok (.iconst 1, 1) := by decide +kernel
theorem d_R_isLetter_13 : decode prog_9_method_30_code 13 = .ok (.goto 4, 3) := by decide +kernel
theorem d_R_isLetter_16 : decode prog_9_method_30_code 16 = .ok (.iconst 0, 1) := by decide +kernel
theorem d_R_isLetter_17 : decode prog_9_method_30_code 17 = .ok (.ireturn, 1) := by decide +kernel
theorem d_R_numberAt_0 : decode prog_9_method_8_code 0 = .ok (.aload_n 0, 1) := by decide +kernel
theorem d_R_numberAt_1 : decode prog_9_method_8_code 1 = .ok (.getfield 80, 3) := by decide +kernel
theorem d_R_numberAt_4 : decode prog_9_method_8_code 4 = .ok (.iload_n 1, 1) := by decide +kernel
theorem d_R_numberAt_5 : decode prog_9_method_8_code 5 = .ok (.iaload, 1) := by decide +kernel
theorem d_R_numberAt_6 : decode prog_9_method_8_code 6 = .ok (.bipush 24, 2) := by decide +kernel
theorem d_R_numberAt_8 : decode prog_9_method_8_code 8 = .ok (.ishl, 1) := by decide +kernel
theorem d_R_numberAt_9 : decode prog_9_method_8_code 9 = .ok (.aload_n 0, 1) := by decide +kernel
theorem d_R_numberAt_10 : decode prog_9_method_8_code 10 = .ok (.getfield 80, 3) := by decide +kernel
theorem d_R_numberAt_13 : decode prog_9_method_8_code 13 = .ok (.iload_n 1, 1) := by decide +kernel
theorem d_R_numberAt_14 : decode prog_9_method_8_code 14 = .ok (.iconst 1, 1) := by decide +kernel
theorem d_R_numberAt_15 : decode prog_9_method_8_code 15 = .ok (.iadd, 1) := by decide +kernel
theorem d_R_numberAt_16 : decode prog_9_method_8_code 16 = .ok (.iaload, 1) := by decide +kernel
theorem d_R_numberAt_17 : decode prog_9_method_8_code 17 = .ok (.bipush 16, 2) := by decide +kernel
theorem d_R_numberAt_19 : decode prog_9_method_8_code 19 = .ok (.ishl, 1) := by decide +kernel
theorem d_R_numberAt_20 : decode prog_9_method_8_code 20 = .ok (.ior, 1) := by decide +kernel
theorem d_R_numberAt_21 : decode prog_9_method_8_code 21 = .ok (.aload_n 0, 1) := by decide +kernel
theorem d_R_numberAt_22 : decode prog_9_method_8_code 22 = .ok (.getfield 80, 3) := by decide +kernel
theorem d_R_numberAt_25 : decode prog_9_method_8_code 25 = .ok (.iload_n 1, 1) := by decide +kernel
theorem d_R_numberAt_26 : decode prog_9_method_8_code 26 = .ok (.iconst 2, 1) := by decide +kernel
theorem d_R_numberAt_27 : decode prog_9_method_8_code 27 = .ok (.iadd, 1) := by decide +kernel
theorem d_R_numberAt_28 : decode prog_9_method_8_code 28 = .ok (.iaload, 1) := by decide +kernel
theorem d_R_numberAt_29 : decode prog_9_method_8_code 29 = .ok (.bipush 8, 2) := by decide +kernel
theorem d_R_numberAt_31 : decode prog_9_method_8_code 31 = .ok (.ishl, 1) := by decide +kernel
theorem d_R_numberAt_32 : decode prog_9_method_8_code 32 = .ok (.ior, 1) := by decide +kernel
theorem d_R_numberAt_33 : decode prog_9_method_8_code 33 = .ok (.aload_n 0, 1) := by decide +kernel
theorem d_R_numberAt_34 : decode prog_9_method_8_code 34 = .ok (.getfield 80, 3) := by decide +kernel
theorem d_R_numberAt_37 : decode prog_9_method_8_code 37 = .ok (.iload_n 1, 1) := by decide +kernel
theorem d_R_numberAt_38 : decode prog_9_method_8_code 38 = .ok (.iconst 3, 1) := by decide +kernel
theorem d_R_numberAt_39 : decode prog_9_method_8_code 39 = .ok (.iadd, 1) := by decide +kernel
theorem d_R_numberAt_40 : decode prog_9_method_8_code 40 = .ok (.iaload, 1) := by decide +kernel
theorem d_R_numberAt_41 : decode prog_9_method_8_code 41 = .ok (.ior, 1) := by decide +kernel
theorem d_R_numberAt_42 : decode prog_9_method_8_code 42 = .ok (.ireturn, 1) := by decide +kernel
theorem d_R_giveOut_0 : decode prog_9_method_21_code 0 = .ok (.aload_n 0, 1) := by decide +kernel
theorem d_R_giveOut_1 : decode prog_9_method_21_code 1 = .ok (.iconst 2, 1) := by decide +kernel
theorem d_R_giveOut_2 : decode prog_9_method_21_code 2 = .ok (.invokevirtual 154, 3) := by decide +kernel
theorem d_R_giveOut_5 : decode prog_9_method_21_code 5 = .ok (.ifCond .ne 4, 3) := by decide +kernel
theorem d_R_giveOut_8 : decode prog_9_method_21_code 8 = .ok (.return_, 1) := by decide +kernel
theorem d_R_giveOut_9 : decode prog_9_method_21_code 9 = .ok (.aload_n 0, 1) := by decide +kernel
theorem d_R_giveOut_10 : decode prog_9_method_21_code 10 = .ok (.aload_n 0, 1) := by decide +kernel
theorem d_R_giveOut_11 : decode prog_9_method_21_code 11 = .ok (.getfield 148, 3) := by decide +kernel
theorem d_R_giveOut_14 : decode prog_9_method_21_code 14 = .ok (.invokevirtual 174, 3) := by decide +kernel
theorem d_R_giveOut_17 : decode prog_9_method_21_code 17 = .ok (.pop, 1) := by decide +kernel
theorem d_R_giveOut_18 : decode prog_9_method_21_code 18 = .ok (.iconst 0, 1) := by decide +kernel
theorem d_R_giveOut_19 : decode prog_9_method_21_code 19 = .ok (.istore_n 1, 1) := by decide +kernel
theorem d_R_giveOut_20 : decode prog_9_method_21_code 20 = .ok (.iload_n 1, 1) := by decide +kernel
theorem d_R_giveOut_21 : decode prog_9_method_21_code 21 = .ok (.iconst 4, 1) := by decide +kernel
theorem d_R_giveOut_22 : decode prog_9_method_21_code 22 = .ok (.if_icmp .ge 70, 3) := by decide +kernel
theorem d_R_giveOut_25 : decode prog_9_method_21_code 25 = .ok (.aload_n 0, 1) := by decide +kernel
theorem d_R_giveOut_26 : decode prog_9_method_21_code 26 = .ok (.getfield 83, 3) := by decide +kernel
theorem d_R_giveOut_29 : decode prog_9_method_21_code 29 = .ok (.iload_n 1, 1) := by decide +kernel
theorem d_R_giveOut_30 : decode prog_9_method_21_code 30 = .ok (.iaload, 1) := by decide +kernel
theorem d_R_giveOut_31 : decode prog_9_method_21_code 31 = .ok (.istore_n 2, 1) := by decide +kernel
theorem d_R_giveOut_32 : decode prog_9_method_21_code 32 = .ok (.iload_n 2, 1) := by decide +kernel
theorem d_R_giveOut_33 : decode prog_9_method_21_code 33 = .ok (.ifCond .le 53, 3) := by decide +kernel
theorem d_R_giveOut_36 : decode prog_9_method_21_code 36 = .ok (.aload_n 0, 1) := by decide +kernel
theorem d_R_giveOut_37 : decode prog_9_method_21_code 37 = .ok (.invokevirtual 142, 3) := by decide +kernel
theorem d_R_giveOut_40 : decode prog_9_method_21_code 40 = .ok (.ifCond .ne 4, 3) := by decide +kernel
theorem d_R_giveOut_43 : decode prog_9_method_21_code 43 = .ok (.return_, 1) := by decide +kernel
theorem d_R_giveOut_44 : decode prog_9_method_21_code 44 = .ok (.aload_n 0, 1) := by decide +kernel
theorem d_R_giveOut_45 : decode prog_9_method_21_code 45 = .ok (.getfield 42, 3) := by decide +kernel
theorem d_R_giveOut_48 : decode prog_9_method_21_code 48 = .ok (.iload_n 1, 1) := by decide +kernel
theorem d_R_giveOut_49 : decode prog_9_method_21_code 49 = .ok (.dup2, 1) := by decide +kernel
theorem d_R_giveOut_50 : decode prog_9_method_21_code 50 = .ok (.iaload, 1) := by decide +kernel
theorem d_R_giveOut_51 : decode prog_9_method_21_code 51 = .ok (.iconst 1, 1) := by decide +kernel
theorem d_R_giveOut_52 : decode prog_9_method_21_code 52 = .ok (.isub, 1) := by decide +kernel
theorem d_R_giveOut_53 : decode prog_9_method_21_code 53 = .ok (.iastore, 1) := by decide +kernel
theorem d_R_giveOut_54 : decode prog_9_method_21_code 54 = .ok (.aload_n 0, 1) := by decide +kernel
theorem d_R_giveOut_55 : decode prog_9_method_21_code 55 = .ok (.getfield 45, 3) := by decide +kernel
theorem d_R_giveOut_58 : decode prog_9_method_21_code 58 = .ok (.iload_n 1, 1) := by decide +kernel
theorem d_R_giveOut_59 : decode prog_9_method_21_code 59 = .ok (.dup2, 1) := by decide +kernel
theorem d_R_giveOut_60 : decode prog_9_method_21_code 60 = .ok (.iaload, 1) := by decide +kernel
theorem d_R_giveOut_61 : decode prog_9_method_21_code 61 = .ok (.iconst 1, 1) := by decide +kernel
theorem d_R_giveOut_62 : decode prog_9_method_21_code 62 = .ok (.iadd, 1) := by decide +kernel
theorem d_R_giveOut_63 : decode prog_9_method_21_code 63 = .ok (.iastore, 1) := by decide +kernel
theorem d_R_giveOut_64 : decode prog_9_method_21_code 64 = .ok (.aload_n 0, 1) := by decide +kernel
theorem d_R_giveOut_65 : decode prog_9_method_21_code 65 = .ok (.dup, 1) := by decide +kernel
theorem d_R_giveOut_66 : decode prog_9_method_21_code 66 = .ok (.getfield 161, 3) := by decide +kernel
theorem d_R_giveOut_69 : decode prog_9_method_21_code 69 = .ok (.aload_n 0, 1) := by decide +kernel
theorem d_R_giveOut_70 : decode prog_9_method_21_code 70 = .ok (.getfield 39, 3) := by decide +kernel
theorem d_R_giveOut_73 : decode prog_9_method_21_code 73 = .ok (.iload_n 1, 1) := by decide +kernel
theorem d_R_giveOut_74 : decode prog_9_method_21_code 74 = .ok (.iaload, 1) := by decide +kernel
theorem d_R_giveOut_75 : decode prog_9_method_21_code 75 = .ok (.i2l, 1) := by decide +kernel
theorem d_R_giveOut_76 : decode prog_9_method_21_code 76 = .ok (.ladd, 1) := by decide +kernel
theorem d_R_giveOut_77 : decode prog_9_method_21_code 77 = .ok (.putfield 161, 3) := by decide +kernel
theorem d_R_giveOut_80 : decode prog_9_method_21_code 80 = .ok (.iinc 2 (-1), 3) := by decide +kernel
theorem d_R_giveOut_83 : decode prog_9_method_21_code 83 = .ok (.goto (-51), 3) := by decide +kernel
theorem d_R_giveOut_86 : decode prog_9_method_21_code 86 = .ok (.iinc 1 1, 3) := by decide +kernel
theorem d_R_giveOut_89 : decode prog_9_method_21_code 89 = .ok (.goto (-69), 3) := by decide +kernel
theorem d_R_giveOut_92 : decode prog_9_method_21_code 92 = .ok (.aload_n 0, 1) := by decide +kernel
theorem d_R_giveOut_93 : decode prog_9_method_21_code 93 = .ok (.invokevirtual 142, 3) := by decide +kernel
theorem d_R_giveOut_96 : decode prog_9_method_21_code 96 = .ok (.ifCond .ne 4, 3) := by decide +kernel
theorem d_R_giveOut_99 : decode prog_9_method_21_code 99 = .ok (.return_, 1) := by decide +kernel
theorem d_R_giveOut_100 : decode prog_9_method_21_code 100 = .ok (.iconst 0, 1) := by decide +kernel
theorem d_R_giveOut_101 : decode prog_9_method_21_code 101 = .ok (.istore_n 1, 1) := by decide +kernel
theorem d_R_giveOut_102 : decode prog_9_method_21_code 102 = .ok (.iload_n 1, 1) := by decide +kernel
theorem d_R_giveOut_103 : decode prog_9_method_21_code 103 = .ok (.iconst 4, 1) := by decide +kernel
theorem d_R_giveOut_104 : decode prog_9_method_21_code 104 = .ok (.if_icmp .ge 31, 3) := by decide +kernel
theorem d_R_giveOut_107 : decode prog_9_method_21_code 107 = .ok (.aload_n 0, 1) := by decide +kernel
theorem d_R_giveOut_108 : decode prog_9_method_21_code 108 = .ok (.getfield 48, 3) := by decide +kernel
theorem d_R_giveOut_111 : decode prog_9_method_21_code 111 = .ok (.iload_n 1, 1) := by decide +kernel
theorem d_R_giveOut_112 : decode prog_9_method_21_code 112 = .ok (.dup2, 1) := by decide +kernel
theorem d_R_giveOut_113 : decode prog_9_method_21_code 113 = .ok (.iaload, 1) := by decide +kernel
theorem d_R_giveOut_114 : decode prog_9_method_21_code 114 = .ok (.aload_n 0, 1) := by decide +kernel
theorem d_R_giveOut_115 : decode prog_9_method_21_code 115 = .ok (.getfield 45, 3) := by decide +kernel
theorem d_R_giveOut_118 : decode prog_9_method_21_code 118 = .ok (.iload_n 1, 1) := by decide +kernel
theorem d_R_giveOut_119 : decode prog_9_method_21_code 119 = .ok (.iaload, 1) := by decide +kernel
theorem d_R_giveOut_120 : decode prog_9_method_21_code 120 = .ok (.iadd, 1) := by decide +kernel
theorem d_R_giveOut_121 : decode prog_9_method_21_code 121 = .ok (.iastore, 1) := by decide +kernel
theorem d_R_giveOut_122 : decode prog_9_method_21_code 122 = .ok (.aload_n 0, 1) := by decide +kernel
theorem d_R_giveOut_123 : decode prog_9_method_21_code 123 = .ok (.getfield 45, 3) := by decide +kernel
theorem d_R_giveOut_126 : decode prog_9_method_21_code 126 = .ok (.iload_n 1, 1) := by decide +kernel
theorem d_R_giveOut_127 : decode prog_9_method_21_code 127 = .ok (.iconst 0, 1) := by decide +kernel
theorem d_R_giveOut_128 : decode prog_9_method_21_code 128 = .ok (.iastore, 1) := by decide +kernel
theorem d_R_giveOut_129 : decode prog_9_method_21_code 129 = .ok (.iinc 1 1, 3) := by decide +kernel
theorem d_R_giveOut_132 : decode prog_9_method_21_code 132 = .ok (.goto (-30), 3) := by decide +kernel
theorem d_R_giveOut_135 : decode prog_9_method_21_code 135 = .ok (.aload_n 0, 1) := by decide +kernel
theorem d_R_giveOut_136 : decode prog_9_method_21_code 136 = .ok (.dup, 1) := by decide +kernel
theorem d_R_giveOut_137 : decode prog_9_method_21_code 137 = .ok (.getfield 177, 3) := by decide +kernel
theorem d_R_giveOut_140 : decode prog_9_method_21_code 140 = .ok (.aload_n 0, 1) := by decide +kernel
theorem d_R_giveOut_141 : decode prog_9_method_21_code 141 = .ok (.getfield 161, 3) := by decide +kernel
theorem d_R_giveOut_144 : decode prog_9_method_21_code 144 = .ok (.ladd, 1) := by decide +kernel
theorem d_R_giveOut_145 : decode prog_9_method_21_code 145 = .ok (.putfield 177, 3) := by decide +kernel
theorem d_R_giveOut_148 : decode prog_9_method_21_code 148 = .ok (.aload_n 0, 1) := by decide +kernel
theorem d_R_giveOut_149 : decode prog_9_method_21_code 149 = .ok (.dup, 1) := by decide +kernel
theorem d_R_giveOut_150 : decode prog_9_method_21_code 150 = .ok (.getfield 180, 3) := by decide +kernel
theorem d_R_giveOut_153 : decode prog_9_method_21_code 153 = .ok (.aload_n 0, 1) := by decide +kernel
theorem d_R_giveOut_154 : decode prog_9_method_21_code 154 = .ok (.getfield 161, 3) := by decide +kernel
theorem d_R_giveOut_157 : decode prog_9_method_21_code 157 = .ok (.ladd, 1) := by decide +kernel
theorem d_R_giveOut_158 : decode prog_9_method_21_code 158 = .ok (.putfield 180, 3) := by decide +kernel
theorem d_R_giveOut_161 : decode prog_9_method_21_code 161 = .ok (.aload_n 0, 1) := by decide +kernel
theorem d_R_giveOut_162 : decode prog_9_method_21_code 162 = .ok (.lconst 0, 1) := by decide +kernel
theorem d_R_giveOut_163 : decode prog_9_method_21_code 163 = .ok (.putfield 161, 3) := by decide +kernel
theorem d_R_giveOut_166 : decode prog_9_method_21_code 166 = .ok (.aload_n 0, 1) := by decide +kernel
theorem d_R_giveOut_167 : decode prog_9_method_21_code 167 = .ok (.dup, 1) := by decide +kernel
theorem d_R_giveOut_168 : decode prog_9_method_21_code 168 = .ok (.getfield 151, 3) := by decide +kernel
theorem d_R_giveOut_171 : decode prog_9_method_21_code 171 = .ok (.iconst 1, 1) := by decide +kernel
theorem d_R_giveOut_172 : decode prog_9_method_21_code 172 = .ok (.iadd, 1) := by decide +kernel
theorem d_R_giveOut_173 : decode prog_9_method_21_code 173 = .ok (.putfield 151, 3) := by decide +kernel
theorem d_R_giveOut_176 : decode prog_9_method_21_code 176 = .ok (.aload_n 0, 1) := by decide +kernel
theorem d_R_giveOut_177 : decode prog_9_method_21_code 177 = .ok (.iconst 3, 1) := by decide +kernel
theorem d_R_giveOut_178 : decode prog_9_method_21_code 178 = .ok (.invokevirtual 154, 3) := by decide +kernel
theorem d_R_giveOut_181 : decode prog_9_method_21_code 181 = .ok (.ifCond .eq 8, 3) := by decide +kernel
theorem d_R_giveOut_184 : decode prog_9_method_21_code 184 = .ok (.aload_n 0, 1) := by decide +kernel
theorem d_R_giveOut_185 : decode prog_9_method_21_code 185 = .ok (.iconst 3, 1) := by decide +kernel
theorem d_R_giveOut_186 : decode prog_9_method_21_code 186 = .ok (.putfield 168, 3) := by decide +kernel
theorem d_R_giveOut_189 : decode prog_9_method_21_code 189 = .ok (.return_, 1) := by decide +kernel
theorem d_R_machineTakes_0 : decode prog_9_method_20_code 0 = .ok (.aload_n 0, 1) := by decide +kernel
theorem d_R_machineTakes_1 : decode prog_9_method_20_code 1 = .ok (.iconst 1, 1) := by decide +kernel
theorem d_R_machineTakes_2 : decode prog_9_method_20_code 2 = .ok (.invokevirtual 113, 3) := by decide +kernel
theorem d_R_machineTakes_5 : decode prog_9_method_20_code 5 = .ok (.aload_n 0, 1) := by decide +kernel
theorem d_R_machineTakes_6 : decode prog_9_method_20_code 6 = .ok (.getfield 145, 3) := by decide +kernel
theorem d_R_machineTakes_9 : decode prog_9_method_20_code 9 = .ok (.if_icmp .ne 67, 3) := by decide +kernel
theorem d_R_machineTakes_12 : decode prog_9_method_20_code 12 = .ok (.aload_n 0, 1) := by decide +kernel
theorem d_R_machineTakes_13 : decode prog_9_method_20_code 13 = .ok (.getfield 168, 3) := by decide +kernel
theorem d_R_machineTakes_16 : decode prog_9_method_20_code 16 = .ok (.iconst 2, 1) := by decide +kernel
theorem d_R_machineTakes_17 : decode prog_9_method_20_code 17 = .ok (.if_icmp .ne 15, 3) := by decide +kernel
theorem d_R_machineTakes_20 : decode prog_9_method_20_code 20 = .ok (.aload_n 0, 1) := by decide +kernel
theorem d_R_machineTakes_21 : decode prog_9_method_20_code 21 = .ok (.getfield 80, 3) := by decide +kernel
theorem d_R_machineTakes_24 : decode prog_9_method_20_code 24 = .ok (.iconst 0, 1) := by decide +kernel
theorem d_R_machineTakes_25 : decode prog_9_method_20_code 25 = .ok (.iaload, 1) := by decide +kernel
theorem d_R_machineTakes_26 : decode prog_9_method_20_code 26 = .ok (.sipush 129, 3) := by decide +kernel
theorem d_R_machineTakes_29 : decode prog_9_method_20_code 29 = .ok (.if_icmp .eq 43, 3) := by decide +kernel
theorem d_R_machineTakes_32 : decode prog_9_method_20_code 32 = .ok (.aload_n 0, 1) := by decide +kernel
theorem d_R_machineTakes_33 : decode prog_9_method_20_code 33 = .ok (.getfield 168, 3) := by decide +kernel
theorem d_R_machineTakes_36 : decode prog_9_method_20_code 36 = .ok (.iconst 4, 1) := by decide +kernel
theorem d_R_machineTakes_37 : decode prog_9_method_20_code 37 = .ok (.if_icmp .ne 15, 3) := by decide +kernel
theorem d_R_machineTakes_40 : decode prog_9_method_20_code 40 = .ok (.aload_n 0, 1) := by decide +kernel
theorem d_R_machineTakes_41 : decode prog_9_method_20_code 41 = .ok (.getfield 80, 3) := by decide +kernel
theorem d_R_machineTakes_44 : decode prog_9_method_20_code 44 = .ok (.iconst 0, 1) := by decide +kernel
theorem d_R_machineTakes_45 : decode prog_9_method_20_code 45 = .ok (.iaload, 1) := by decide +kernel
theorem d_R_machineTakes_46 : decode prog_9_method_20_code 46 = .ok (.sipush 130, 3) := by decide +kernel
theorem d_R_machineTakes_49 : decode prog_9_method_20_code 49 = .ok (.if_icmp .eq 23, 3) := by decide +kernel
theorem d_R_machineTakes_52 : decode prog_9_method_20_code 52 = .ok (.aload_n 0, 1) := by decide +kernel
theorem d_R_machineTakes_53 : decode prog_9_method_20_code 53 = .ok (.getfield 168, 3) := by decide +kernel
theorem d_R_machineTakes_56 : decode prog_9_method_20_code 56 = .ok (.iconst 5, 1) := by decide +kernel
theorem d_R_machineTakes_57 : decode prog_9_method_20_code 57 = .ok (.if_icmp .ne 19, 3) := by decide +kernel
theorem d_R_machineTakes_60 : decode prog_9_method_20_code 60 = .ok (.aload_n 0, 1) := by decide +kernel
theorem d_R_machineTakes_61 : decode prog_9_method_20_code 61 = .ok (.getfield 80, 3) := by decide +kernel
theorem d_R_machineTakes_64 : decode prog_9_method_20_code 64 = .ok (.iconst 0, 1) := by decide +kernel
theorem d_R_machineTakes_65 : decode prog_9_method_20_code 65 = .ok (.iaload, 1) := by decide +kernel
theorem d_R_machineTakes_66 : decode prog_9_method_20_code 66 = .ok (.sipush 131, 3) := by decide +kernel
theorem d_R_machineTakes_69 : decode prog_9_method_20_code 69 = .ok (.if_icmp .ne 7, 3) := by decide +kernel
theorem d_R_machineTakes_72 : decode prog_9_method_20_code 72 = .ok (.iconst 1, 1) := by decide +kernel
theorem d_R_machineTakes_73 : decode prog_9_method_20_code 73 = .ok (.goto 4, 3) := by decide +kernel
theorem d_R_machineTakes_76 : decode prog_9_method_20_code 76 = .ok (.iconst 0, 1) := by decide +kernel
theorem d_R_machineTakes_77 : decode prog_9_method_20_code 77 = .ok (.istore_n 1, 1) := by decide +kernel
theorem d_R_machineTakes_78 : decode prog_9_method_20_code 78 = .ok (.iload_n 1, 1) := by decide +kernel
theorem d_R_machineTakes_79 : decode prog_9_method_20_code 79 = .ok (.ifCond .ne 5, 3) := by decide +kernel
theorem d_R_machineTakes_82 : decode prog_9_method_20_code 82 = .ok (.iconst 0, 1) := by decide +kernel
theorem d_R_machineTakes_83 : decode prog_9_method_20_code 83 = .ok (.ireturn, 1) := by decide +kernel
theorem d_R_machineTakes_84 : decode prog_9_method_20_code 84 = .ok (.aload_n 0, 1) := by decide +kernel
theorem d_R_machineTakes_85 : decode prog_9_method_20_code 85 = .ok (.getfield 80, 3) := by decide +kernel
theorem d_R_machineTakes_88 : decode prog_9_method_20_code 88 = .ok (.bipush 10, 2) := by decide +kernel
theorem d_R_machineTakes_90 : decode prog_9_method_20_code 90 = .ok (.iaload, 1) := by decide +kernel
theorem d_R_machineTakes_91 : decode prog_9_method_20_code 91 = .ok (.istore_n 2, 1) := by decide +kernel
theorem d_R_machineTakes_92 : decode prog_9_method_20_code 92 = .ok (.aload_n 0, 1) := by decide +kernel
theorem d_R_machineTakes_93 : decode prog_9_method_20_code 93 = .ok (.getfield 168, 3) := by decide +kernel
theorem d_R_machineTakes_96 : decode prog_9_method_20_code 96 = .ok (.iconst 2, 1) := by decide +kernel
theorem d_R_machineTakes_97 : decode prog_9_method_20_code 97 = .ok (.if_icmp .ne 48, 3) := by decide +kernel
theorem d_R_machineTakes_100 : decode prog_9_method_20_code 100 = .ok (.iload_n 2, 1) := by decide +kernel
theorem d_R_machineTakes_101 : decode prog_9_method_20_code 101 = .ok (.iconst 2, 1) := by decide +kernel
theorem d_R_machineTakes_102 : decode prog_9_method_20_code 102 = .ok (.if_icmp .ne 18, 3) := by decide +kernel
theorem d_R_machineTakes_105 : decode prog_9_method_20_code 105 = .ok (.aload_n 0, 1) := by decide +kernel
theorem d_R_machineTakes_106 : decode prog_9_method_20_code 106 = .ok (.getfield 54, 3) := by decide +kernel
theorem d_R_machineTakes_109 : decode prog_9_method_20_code 109 = .ok (.aload_n 0, 1) := by decide +kernel
theorem d_R_machineTakes_110 : decode prog_9_method_20_code 110 = .ok (.getfield 71, 3) := by decide +kernel
theorem d_R_machineTakes_113 : decode prog_9_method_20_code 113 = .ok (.iconst 1, 1) := by decide +kernel
theorem d_R_machineTakes_114 : decode prog_9_method_20_code 114 = .ok (.bastore, 1) := by decide +kernel
theorem d_R_machineTakes_115 : decode prog_9_method_20_code 115 = .ok (.aload_n 0, 1) := by decide +kernel
theorem d_R_machineTakes_116 : decode prog_9_method_20_code 116 = .ok (.iconst (-1), 1) := by decide +kernel
theorem d_R_machineTakes_117 : decode prog_9_method_20_code 117 = .ok (.putfield 71, 3) := by decide +kernel
theorem d_R_machineTakes_120 : decode prog_9_method_20_code 120 = .ok (.aload_n 0, 1) := by decide +kernel
theorem d_R_machineTakes_121 : decode prog_9_method_20_code 121 = .ok (.iload_n 2, 1) := by decide +kernel
theorem d_R_machineTakes_122 : decode prog_9_method_20_code 122 = .ok (.ifCond .ne 7, 3) := by decide +kernel
theorem d_R_machineTakes_125 : decode prog_9_method_20_code 125 = .ok (.iconst 3, 1) := by decide +kernel
theorem d_R_machineTakes_126 : decode prog_9_method_20_code 126 = .ok (.goto 13, 3) := by decide +kernel
theorem d_R_machineTakes_129 : decode prog_9_method_20_code 129 = .ok (.iload_n 2, 1) := by decide +kernel
theorem d_R_machineTakes_130 : decode prog_9_method_20_code 130 = .ok (.iconst 2, 1) := by decide +kernel
theorem d_R_machineTakes_131 : decode prog_9_method_20_code 131 = .ok (.if_icmp .ne 7, 3) := by decide +kernel
theorem d_R_machineTakes_134 : decode prog_9_method_20_code 134 = .ok (.iconst 0, 1) := by decide +kernel
theorem d_R_machineTakes_135 : decode prog_9_method_20_code 135 = .ok (.goto 4, 3) := by decide +kernel
theorem d_R_machineTakes_138 : decode prog_9_method_20_code 138 = .ok (.iconst 1, 1) := by decide +kernel
theorem d_R_machineTakes_139 : decode prog_9_method_20_code 139 = .ok (.putfield 168, 3) := by decide +kernel
theorem d_R_machineTakes_142 : decode prog_9_method_20_code 142 = .ok (.goto 52, 3) := by decide +kernel
theorem d_R_machineTakes_145 : decode prog_9_method_20_code 145 = .ok (.aload_n 0, 1) := by decide +kernel
theorem d_R_machineTakes_146 : decode prog_9_method_20_code 146 = .ok (.getfield 168, 3) := by decide +kernel
theorem d_R_machineTakes_149 : decode prog_9_method_20_code 149 = .ok (.iconst 5, 1) := by decide +kernel
theorem d_R_machineTakes_150 : decode prog_9_method_20_code 150 = .ok (.if_icmp .ne 19, 3) := by decide +kernel
theorem d_R_machineTakes_153 : decode prog_9_method_20_code 153 = .ok (.aload_n 0, 1) := by decide +kernel
theorem d_R_machineTakes_154 : decode prog_9_method_20_code 154 = .ok (.iconst 5, 1) := by decide +kernel
theorem d_R_machineTakes_155 : decode prog_9_method_20_code 155 = .ok (.invokevirtual 154, 3) := by decide +kernel
theorem d_R_machineTakes_158 : decode prog_9_method_20_code 158 = .ok (.ifCond .eq 36, 3) := by decide +kernel
theorem d_R_machineTakes_161 : decode prog_9_method_20_code 161 = .ok (.aload_n 0, 1) := by decide +kernel
theorem d_R_machineTakes_162 : decode prog_9_method_20_code 162 = .ok (.iconst 0, 1) := by decide +kernel
theorem d_R_machineTakes_163 : decode prog_9_method_20_code 163 = .ok (.putfield 168, 3) := by decide +kernel
theorem d_R_machineTakes_166 : decode prog_9_method_20_code 166 = .ok (.goto 28, 3) := by decide +kernel
theorem d_R_machineTakes_169 : decode prog_9_method_20_code 169 = .ok (.iload_n 2, 1) := by decide +kernel
theorem d_R_machineTakes_170 : decode prog_9_method_20_code 170 = .ok (.ifCond .eq 20, 3) := by decide +kernel
theorem d_R_machineTakes_173 : decode prog_9_method_20_code 173 = .ok (.aload_n 0, 1) := by decide +kernel
theorem d_R_machineTakes_174 : decode prog_9_method_20_code 174 = .ok (.bipush 6, 2) := by decide +kernel
theorem d_R_machineTakes_176 : decode prog_9_method_20_code 176 = .ok (.invokevirtual 154, 3) := by decide +kernel
theorem d_R_machineTakes_179 : decode prog_9_method_20_code 179 = .ok (.ifCond .eq 15, 3) := by decide +kernel
theorem d_R_machineTakes_182 : decode prog_9_method_20_code 182 = .ok (.aload_n 0, 1) := by decide +kernel
theorem d_R_machineTakes_183 : decode prog_9_method_20_code 183 = .ok (.iconst 3, 1) := by decide +kernel
theorem d_R_machineTakes_184 : decode prog_9_method_20_code 184 = .ok (.putfield 168, 3) := by decide +kernel
theorem d_R_machineTakes_187 : decode prog_9_method_20_code 187 = .ok (.goto 7, 3) := by decide +kernel
theorem d_R_machineTakes_190 : decode prog_9_method_20_code 190 = .ok (.aload_n 0, 1) := by decide +kernel
theorem d_R_machineTakes_191 : decode prog_9_method_20_code 191 = .ok (.invokevirtual 171, 3) := by decide +kernel
theorem d_R_machineTakes_194 : decode prog_9_method_20_code 194 = .ok (.iconst 1, 1) := by decide +kernel
theorem d_R_machineTakes_195 : decode prog_9_method_20_code 195 = .ok (.ireturn, 1) := by decide +kernel
theorem d_R_onPin_0 : decode prog_9_method_11_code 0 = .ok (.aload_n 0, 1) := by decide +kernel
theorem d_R_onPin_1 : decode prog_9_method_11_code 1 = .ok (.getfield 23, 3) := by decide +kernel
theorem d_R_onPin_4 : decode prog_9_method_11_code 4 = .ok (.iload_n 1, 1) := by decide +kernel
theorem d_R_onPin_5 : decode prog_9_method_11_code 5 = .ok (.iaload, 1) := by decide +kernel
theorem d_R_onPin_6 : decode prog_9_method_11_code 6 = .ok (.iconst (-1), 1) := by decide +kernel
theorem d_R_onPin_7 : decode prog_9_method_11_code 7 = .ok (.if_icmp .eq 10, 3) := by decide +kernel
theorem d_R_onPin_10 : decode prog_9_method_11_code 10 = .ok (.aload_n 0, 1) := by decide +kernel
theorem d_R_onPin_11 : decode prog_9_method_11_code 11 = .ok (.getfield 23, 3) := by decide +kernel
theorem d_R_onPin_14 : decode prog_9_method_11_code 14 = .ok (.iload_n 1, 1) := by decide +kernel
theorem d_R_onPin_15 : decode prog_9_method_11_code 15 = .ok (.iaload, 1) := by decide +kernel
theorem d_R_onPin_16 : decode prog_9_method_11_code 16 = .ok (.ireturn, 1) := by decide +kernel
theorem d_R_onPin_17 : decode prog_9_method_11_code 17 = .ok (.aload_n 0, 1) := by decide +kernel
theorem d_R_onPin_18 : decode prog_9_method_11_code 18 = .ok (.getfield 13, 3) := by decide +kernel
theorem d_R_onPin_21 : decode prog_9_method_11_code 21 = .ok (.iload_n 2, 1) := by decide +kernel
theorem d_R_onPin_22 : decode prog_9_method_11_code 22 = .ok (.iaload, 1) := by decide +kernel
theorem d_R_onPin_23 : decode prog_9_method_11_code 23 = .ok (.iconst (-1), 1) := by decide +kernel
theorem d_R_onPin_24 : decode prog_9_method_11_code 24 = .ok (.if_icmp .ne 9, 3) := by decide +kernel
theorem d_R_onPin_27 : decode prog_9_method_11_code 27 = .ok (.iconst 1, 1) := by decide +kernel
theorem d_R_onPin_28 : decode prog_9_method_11_code 28 = .ok (.istore 4, 2) := by decide +kernel
theorem d_R_onPin_30 : decode prog_9_method_11_code 30 = .ok (.goto 69, 3) := by decide +kernel
theorem d_R_onPin_33 : decode prog_9_method_11_code 33 = .ok (.aload_n 0, 1) := by decide +kernel
theorem d_R_onPin_34 : decode prog_9_method_11_code 34 = .ok (.getfield 20, 3) := by decide +kernel
theorem d_R_onPin_37 : decode prog_9_method_11_code 37 = .ok (.iload_n 2, 1) := by decide +kernel
theorem d_R_onPin_38 : decode prog_9_method_11_code 38 = .ok (.iaload, 1) := by decide +kernel
theorem d_R_onPin_39 : decode prog_9_method_11_code 39 = .ok (.iconst 3, 1) := by decide +kernel
theorem d_R_onPin_40 : decode prog_9_method_11_code 40 = .ok (.if_icmp .ne 9, 3) := by decide +kernel
theorem d_R_onPin_43 : decode prog_9_method_11_code 43 = .ok (.iconst 2, 1) := by decide +kernel
theorem d_R_onPin_44 : decode prog_9_method_11_code 44 = .ok (.istore 4, 2) := by decide +kernel
theorem d_R_onPin_46 : decode prog_9_method_11_code 46 = .ok (.goto 53, 3) := by decide +kernel
theorem d_R_onPin_49 : decode prog_9_method_11_code 49 = .ok (.aload_n 0, 1) := by decide +kernel
theorem d_R_onPin_50 : decode prog_9_method_11_code 50 = .ok (.getfield 17, 3) := by decide +kernel
theorem d_R_onPin_53 : decode prog_9_method_11_code 53 = .ok (.iload_n 2, 1) := by decide +kernel
theorem d_R_onPin_54 : decode prog_9_method_11_code 54 = .ok (.iaload, 1) := by decide +kernel
theorem d_R_onPin_55 : decode prog_9_method_11_code 55 = .ok (.iload_n 3, 1) := by decide +kernel
theorem d_R_onPin_56 : decode prog_9_method_11_code 56 = .ok (.if_icmp .ne 16, 3) := by decide +kernel
theorem d_R_onPin_59 : decode prog_9_method_11_code 59 = .ok (.aload_n 0, 1) := by decide +kernel
theorem d_R_onPin_60 : decode prog_9_method_11_code 60 = .ok (.getfield 20, 3) := by decide +kernel
theorem d_R_onPin_63 : decode prog_9_method_11_code 63 = .ok (.iload_n 2, 1) := by decide +kernel
theorem d_R_onPin_64 : decode prog_9_method_11_code 64 = .ok (.iconst 0, 1) := by decide +kernel
theorem d_R_onPin_65 : decode prog_9_method_11_code 65 = .ok (.iastore, 1) := by decide +kernel
theorem d_R_onPin_66 : decode prog_9_method_11_code 66 = .ok (.iconst 0, 1) := by decide +kernel
theorem d_R_onPin_67 : decode prog_9_method_11_code 67 = .ok (.istore 4, 2) := by decide +kernel
theorem d_R_onPin_69 : decode prog_9_method_11_code 69 = .ok (.goto 30, 3) := by decide +kernel
theorem d_R_onPin_72 : decode prog_9_method_11_code 72 = .ok (.aload_n 0, 1) := by decide +kernel
theorem d_R_onPin_73 : decode prog_9_method_11_code 73 = .ok (.getfield 20, 3) := by decide +kernel
theorem d_R_onPin_76 : decode prog_9_method_11_code 76 = .ok (.iload_n 2, 1) := by decide +kernel
theorem d_R_onPin_77 : decode prog_9_method_11_code 77 = .ok (.dup2, 1) := by decide +kernel
theorem d_R_onPin_78 : decode prog_9_method_11_code 78 = .ok (.iaload, 1) := by decide +kernel
theorem d_R_onPin_79 : decode prog_9_method_11_code 79 = .ok (.iconst 1, 1) := by decide +kernel
theorem d_R_onPin_80 : decode prog_9_method_11_code 80 = .ok (.iadd, 1) := by decide +kernel
theorem d_R_onPin_81 : decode prog_9_method_11_code 81 = .ok (.iastore, 1) := by decide +kernel
theorem d_R_onPin_82 : decode prog_9_method_11_code 82 = .ok (.aload_n 0, 1) := by decide +kernel
theorem d_R_onPin_83 : decode prog_9_method_11_code 83 = .ok (.getfield 20, 3) := by decide +kernel
theorem d_R_onPin_86 : decode prog_9_method_11_code 86 = .ok (.iload_n 2, 1) := by decide +kernel
theorem d_R_onPin_87 : decode prog_9_method_11_code 87 = .ok (.iaload, 1) := by decide +kernel
theorem d_R_onPin_88 : decode prog_9_method_11_code 88 = .ok (.iconst 3, 1) := by decide +kernel
theorem d_R_onPin_89 : decode prog_9_method_11_code 89 = .ok (.if_icmp .ne 7, 3) := by decide +kernel
theorem d_R_onPin_92 : decode prog_9_method_11_code 92 = .ok (.iconst 2, 1) := by decide +kernel
theorem d_R_onPin_93 : decode prog_9_method_11_code 93 = .ok (.goto 4, 3) := by decide +kernel
theorem d_R_onPin_96 : decode prog_9_method_11_code 96 = .ok (.iconst 1, 1) := by decide +kernel
theorem d_R_onPin_97 : decode prog_9_method_11_code 97 = .ok (.istore 4, 2) := by decide +kernel
theorem d_R_onPin_99 : decode prog_9_method_11_code 99 = .ok (.aload_n 0, 1) := by decide +kernel
theorem d_R_onPin_100 : decode prog_9_method_11_code 100 = .ok (.getfield 23, 3) := by decide +kernel
theorem d_R_onPin_103 : decode prog_9_method_11_code 103 = .ok (.iload_n 1, 1) := by decide +kernel
theorem d_R_onPin_104 : decode prog_9_method_11_code 104 = .ok (.iload 4, 2) := by decide +kernel
theorem d_R_onPin_106 : decode prog_9_method_11_code 106 = .ok (.iastore, 1) := by decide +kernel
theorem d_R_onPin_107 : decode prog_9_method_11_code 107 = .ok (.iload 4, 2) := by decide +kernel
theorem d_R_onPin_109 : decode prog_9_method_11_code 109 = .ok (.ireturn, 1) := by decide +kernel
theorem d_R_onDebit_0 : decode prog_9_method_12_code 0 = .ok (.aload_n 0, 1) := by decide +kernel
theorem d_R_onDebit_1 : decode prog_9_method_12_code 1 = .ok (.getfield 35, 3) := by decide +kernel
theorem d_R_onDebit_4 : decode prog_9_method_12_code 4 = .ok (.iload_n 1, 1) := by decide +kernel
theorem d_R_onDebit_5 : decode prog_9_method_12_code 5 = .ok (.baload, 1) := by decide +kernel
theorem d_R_onDebit_6 : decode prog_9_method_12_code 6 = .ok (.ifCond .eq 5, 3) := by decide +kernel
theorem d_R_onDebit_9 : decode prog_9_method_12_code 9 = .ok (.iconst 1, 1) := by decide +kernel
theorem d_R_onDebit_10 : decode prog_9_method_12_code 10 = .ok (.ireturn, 1) := by decide +kernel
theorem d_R_onDebit_11 : decode prog_9_method_12_code 11 = .ok (.aload_n 0, 1) := by decide +kernel
theorem d_R_onDebit_12 : decode prog_9_method_12_code 12 = .ok (.getfield 26, 3) := by decide +kernel
theorem d_R_onDebit_15 : decode prog_9_method_12_code 15 = .ok (.iload_n 1, 1) := by decide +kernel
theorem d_R_onDebit_16 : decode prog_9_method_12_code 16 = .ok (.iaload, 1) := by decide +kernel
theorem d_R_onDebit_17 : decode prog_9_method_12_code 17 = .ok (.iconst (-1), 1) := by decide +kernel
theorem d_R_onDebit_18 : decode prog_9_method_12_code 18 = .ok (.if_icmp .eq 10, 3) := by decide +kernel
theorem d_R_onDebit_21 : decode prog_9_method_12_code 21 = .ok (.aload_n 0, 1) := by decide +kernel
theorem d_R_onDebit_22 : decode prog_9_method_12_code 22 = .ok (.getfield 26, 3) := by decide +kernel
theorem d_R_onDebit_25 : decode prog_9_method_12_code 25 = .ok (.iload_n 1, 1) := by decide +kernel
theorem d_R_onDebit_26 : decode prog_9_method_12_code 26 = .ok (.iaload, 1) := by decide +kernel
theorem d_R_onDebit_27 : decode prog_9_method_12_code 27 = .ok (.ireturn, 1) := by decide +kernel
theorem d_R_onDebit_28 : decode prog_9_method_12_code 28 = .ok (.aload_n 0, 1) := by decide +kernel
theorem d_R_onDebit_29 : decode prog_9_method_12_code 29 = .ok (.getfield 13, 3) := by decide +kernel
theorem d_R_onDebit_32 : decode prog_9_method_12_code 32 = .ok (.iload_n 2, 1) := by decide +kernel
theorem d_R_onDebit_33 : decode prog_9_method_12_code 33 = .ok (.iaload, 1) := by decide +kernel
theorem d_R_onDebit_34 : decode prog_9_method_12_code 34 = .ok (.iconst (-1), 1) := by decide +kernel
theorem d_R_onDebit_35 : decode prog_9_method_12_code 35 = .ok (.if_icmp .eq 24, 3) := by decide +kernel
theorem d_R_onDebit_38 : decode prog_9_method_12_code 38 = .ok (.aload_n 0, 1) := by decide +kernel
theorem d_R_onDebit_39 : decode prog_9_method_12_code 39 = .ok (.getfield 7, 3) := by decide +kernel
theorem d_R_onDebit_42 : decode prog_9_method_12_code 42 = .ok (.aload_n 0, 1) := by decide +kernel
theorem d_R_onDebit_43 : decode prog_9_method_12_code 43 = .ok (.getfield 13, 3) := by decide +kernel
theorem d_R_onDebit_46 : decode prog_9_method_12_code 46 = .ok (.iload_n 2, 1) := by decide +kernel
theorem d_R_onDebit_47 : decode prog_9_method_12_code 47 = .ok (.iaload, 1) := by decide +kernel
theorem d_R_onDebit_48 : decode prog_9_method_12_code 48 = .ok (.laload, 1) := by decide +kernel
theorem d_R_onDebit_49 : decode prog_9_method_12_code 49 = .ok (.iload_n 3, 1) := by decide +kernel
theorem d_R_onDebit_50 : decode prog_9_method_12_code 50 = .ok (.i2l, 1) := by decide +kernel
theorem d_R_onDebit_51 : decode prog_9_method_12_code 51 = .ok (.lcmp, 1) := by decide +kernel
theorem d_R_onDebit_52 : decode prog_9_method_12_code 52 = .ok (.ifCond .lt 7, 3) := by decide +kernel
theorem d_R_onDebit_55 : decode prog_9_method_12_code 55 = .ok (.iconst 1, 1) := by decide +kernel
theorem d_R_onDebit_56 : decode prog_9_method_12_code 56 = .ok (.goto 4, 3) := by decide +kernel
theorem d_R_onDebit_59 : decode prog_9_method_12_code 59 = .ok (.iconst 0, 1) := by decide +kernel
theorem d_R_onDebit_60 : decode prog_9_method_12_code 60 = .ok (.istore 4, 2) := by decide +kernel
theorem d_R_onDebit_62 : decode prog_9_method_12_code 62 = .ok (.iload 4, 2) := by decide +kernel
theorem d_R_onDebit_64 : decode prog_9_method_12_code 64 = .ok (.ifCond .eq 49, 3) := by decide +kernel
theorem d_R_onDebit_67 : decode prog_9_method_12_code 67 = .ok (.aload_n 0, 1) := by decide +kernel
theorem d_R_onDebit_68 : decode prog_9_method_12_code 68 = .ok (.getfield 7, 3) := by decide +kernel
theorem d_R_onDebit_71 : decode prog_9_method_12_code 71 = .ok (.aload_n 0, 1) := by decide +kernel
theorem d_R_onDebit_72 : decode prog_9_method_12_code 72 = .ok (.getfield 13, 3) := by decide +kernel
theorem d_R_onDebit_75 : decode prog_9_method_12_code 75 = .ok (.iload_n 2, 1) := by decide +kernel
theorem d_R_onDebit_76 : decode prog_9_method_12_code 76 = .ok (.iaload, 1) := by decide +kernel
theorem d_R_onDebit_77 : decode prog_9_method_12_code 77 = .ok (.dup2, 1) := by decide +kernel
theorem d_R_onDebit_78 : decode prog_9_method_12_code 78 = .ok (.laload, 1) := by decide +kernel
theorem d_R_onDebit_79 : decode prog_9_method_12_code 79 = .ok (.iload_n 3, 1) := by decide +kernel
theorem d_R_onDebit_80 : decode prog_9_method_12_code 80 = .ok (.i2l, 1) := by decide +kernel
theorem d_R_onDebit_81 : decode prog_9_method_12_code 81 = .ok (.lsub, 1) := by decide +kernel
theorem d_R_onDebit_82 : decode prog_9_method_12_code 82 = .ok (.lastore, 1) := by decide +kernel
theorem d_R_onDebit_83 : decode prog_9_method_12_code 83 = .ok (.aload_n 0, 1) := by decide +kernel
theorem d_R_onDebit_84 : decode prog_9_method_12_code 84 = .ok (.getfield 29, 3) := by decide +kernel
theorem d_R_onDebit_87 : decode prog_9_method_12_code 87 = .ok (.iload_n 1, 1) := by decide +kernel
theorem d_R_onDebit_88 : decode prog_9_method_12_code 88 = .ok (.aload_n 0, 1) := by decide +kernel
theorem d_R_onDebit_89 : decode prog_9_method_12_code 89 = .ok (.getfield 13, 3) := by decide +kernel
theorem d_R_onDebit_92 : decode prog_9_method_12_code 92 = .ok (.iload_n 2, 1) := by decide +kernel
theorem d_R_onDebit_93 : decode prog_9_method_12_code 93 = .ok (.iaload, 1) := by decide +kernel
theorem d_R_onDebit_94 : decode prog_9_method_12_code 94 = .ok (.iastore, 1) := by decide +kernel
theorem d_R_onDebit_95 : decode prog_9_method_12_code 95 = .ok (.aload_n 0, 1) := by decide +kernel
theorem d_R_onDebit_96 : decode prog_9_method_12_code 96 = .ok (.getfield 32, 3) := by decide +kernel
theorem d_R_onDebit_99 : decode prog_9_method_12_code 99 = .ok (.iload_n 1, 1) := by decide +kernel
theorem d_R_onDebit_100 : decode prog_9_method_12_code 100 = .ok (.iload_n 3, 1) := by decide +kernel
theorem d_R_onDebit_101 : decode prog_9_method_12_code 101 = .ok (.iastore, 1) := by decide +kernel
theorem d_R_onDebit_102 : decode prog_9_method_12_code 102 = .ok (.aload_n 0, 1) := by decide +kernel
theorem d_R_onDebit_103 : decode prog_9_method_12_code 103 = .ok (.dup, 1) := by decide +kernel
theorem d_R_onDebit_104 : decode prog_9_method_12_code 104 = .ok (.getfield 132, 3) := by decide +kernel
theorem d_R_onDebit_107 : decode prog_9_method_12_code 107 = .ok (.iload_n 3, 1) := by decide +kernel
theorem d_R_onDebit_108 : decode prog_9_method_12_code 108 = .ok (.i2l, 1) := by decide +kernel
theorem d_R_onDebit_109 : decode prog_9_method_12_code 109 = .ok (.ladd, 1) := by decide +kernel
theorem d_R_onDebit_110 : decode prog_9_method_12_code 110 = .ok (.putfield 132, 3) := by decide +kernel
theorem d_R_onDebit_113 : decode prog_9_method_12_code 113 = .ok (.aload_n 0, 1) := by decide +kernel
theorem d_R_onDebit_114 : decode prog_9_method_12_code 114 = .ok (.getfield 26, 3) := by decide +kernel
theorem d_R_onDebit_117 : decode prog_9_method_12_code 117 = .ok (.iload_n 1, 1) := by decide +kernel
theorem d_R_onDebit_118 : decode prog_9_method_12_code 118 = .ok (.iload 4, 2) := by decide +kernel
theorem d_R_onDebit_120 : decode prog_9_method_12_code 120 = .ok (.ifCond .eq 7, 3) := by decide +kernel
theorem d_R_onDebit_123 : decode prog_9_method_12_code 123 = .ok (.iconst 0, 1) := by decide +kernel
theorem d_R_onDebit_124 : decode prog_9_method_12_code 124 = .ok (.goto 4, 3) := by decide +kernel
theorem d_R_onDebit_127 : decode prog_9_method_12_code 127 = .ok (.iconst 1, 1) := by decide +kernel
theorem d_R_onDebit_128 : decode prog_9_method_12_code 128 = .ok (.iastore, 1) := by decide +kernel
theorem d_R_onDebit_129 : decode prog_9_method_12_code 129 = .ok (.aload_n 0, 1) := by decide +kernel
theorem d_R_onDebit_130 : decode prog_9_method_12_code 130 = .ok (.getfield 26, 3) := by decide +kernel
theorem d_R_onDebit_133 : decode prog_9_method_12_code 133 = .ok (.iload_n 1, 1) := by decide +kernel
theorem d_R_onDebit_134 : decode prog_9_method_12_code 134 = .ok (.iaload, 1) := by decide +kernel
theorem d_R_onDebit_135 : decode prog_9_method_12_code 135 = .ok (.ireturn, 1) := by decide +kernel
theorem d_R_onReversal_0 : decode prog_9_method_13_code 0 = .ok (.aload_n 0, 1) := by decide +kernel
theorem d_R_onReversal_1 : decode prog_9_method_13_code 1 = .ok (.getfield 26, 3) := by decide +kernel
theorem d_R_onReversal_4 : decode prog_9_method_13_code 4 = .ok (.iload_n 1, 1) := by decide +kernel
theorem d_R_onReversal_5 : decode prog_9_method_13_code 5 = .ok (.iaload, 1) := by decide +kernel
theorem d_R_onReversal_6 : decode prog_9_method_13_code 6 = .ok (.ifCond .ne 49, 3) := by decide +kernel
theorem d_R_onReversal_9 : decode prog_9_method_13_code 9 = .ok (.aload_n 0, 1) := by decide +kernel
theorem d_R_onReversal_10 : decode prog_9_method_13_code 10 = .ok (.getfield 35, 3) := by decide +kernel
theorem d_R_onReversal_13 : decode prog_9_method_13_code 13 = .ok (.iload_n 1, 1) := by decide +kernel
theorem d_R_onReversal_14 : decode prog_9_method_13_code 14 = .ok (.baload, 1) := by decide +kernel
theorem d_R_onReversal_15 : decode prog_9_method_13_code 15 = .ok (.ifCond .ne 40, 3) := by decide +kernel
theorem d_R_onReversal_18 : decode prog_9_method_13_code 18 = .ok (.aload_n 0, 1) := by decide +kernel
theorem d_R_onReversal_19 : decode prog_9_method_13_code 19 = .ok (.getfield 7, 3) := by decide +kernel
theorem d_R_onReversal_22 : decode prog_9_method_13_code 22 = .ok (.aload_n 0, 1) := by decide +kernel
theorem d_R_onReversal_23 : decode prog_9_method_13_code 23 = .ok (.getfield 29, 3) := by decide +kernel
theorem d_R_onReversal_26 : decode prog_9_method_13_code 26 = .ok (.iload_n 1, 1) := by decide +kernel
theorem d_R_onReversal_27 : decode prog_9_method_13_code 27 = .ok (.iaload, 1) := by decide +kernel
theorem d_R_onReversal_28 : decode prog_9_method_13_code 28 = .ok (.dup2, 1) := by decide +kernel
theorem d_R_onReversal_29 : decode prog_9_method_13_code 29 = .ok (.laload, 1) := by decide +kernel
theorem d_R_onReversal_30 : decode prog_9_method_13_code 30 = .ok (.aload_n 0, 1) := by decide +kernel
theorem d_R_onReversal_31 : decode prog_9_method_13_code 31 = .ok (.getfield 32, 3) := by decide +kernel
theorem d_R_onReversal_34 : decode prog_9_method_13_code 34 = .ok (.iload_n 1, 1) := by decide +kernel
theorem d_R_onReversal_35 : decode prog_9_method_13_code 35 = .ok (.iaload, 1) := by decide +kernel
theorem d_R_onReversal_36 : decode prog_9_method_13_code 36 = .ok (.i2l, 1) := by decide +kernel
theorem d_R_onReversal_37 : decode prog_9_method_13_code 37 = .ok (.ladd, 1) := by decide +kernel
theorem d_R_onReversal_38 : decode prog_9_method_13_code 38 = .ok (.lastore, 1) := by decide +kernel
theorem d_R_onReversal_39 : decode prog_9_method_13_code 39 = .ok (.aload_n 0, 1) := by decide +kernel
theorem d_R_onReversal_40 : decode prog_9_method_13_code 40 = .ok (.dup, 1) := by decide +kernel
theorem d_R_onReversal_41 : decode prog_9_method_13_code 41 = .ok (.getfield 132, 3) := by decide +kernel
theorem d_R_onReversal_44 : decode prog_9_method_13_code 44 = .ok (.aload_n 0, 1) := by decide +kernel
theorem d_R_onReversal_45 : decode prog_9_method_13_code 45 = .ok (.getfield 32, 3) := by decide +kernel
theorem d_R_onReversal_48 : decode prog_9_method_13_code 48 = .ok (.iload_n 1, 1) := by decide +kernel
theorem d_R_onReversal_49 : decode prog_9_method_13_code 49 = .ok (.iaload, 1) := by decide +kernel
theorem d_R_onReversal_50 : decode prog_9_method_13_code 50 = .ok (.i2l, 1) := by decide +kernel
theorem d_R_onReversal_51 : decode prog_9_method_13_code 51 = .ok (.lsub, 1) := by decide +kernel
theorem d_R_onReversal_52 : decode prog_9_method_13_code 52 = .ok (.putfield 132, 3) := by decide +kernel
theorem d_R_onReversal_55 : decode prog_9_method_13_code 55 = .ok (.aload_n 0, 1) := by decide +kernel
theorem d_R_onReversal_56 : decode prog_9_method_13_code 56 = .ok (.getfield 35, 3) := by decide +kernel
theorem d_R_onReversal_59 : decode prog_9_method_13_code 59 = .ok (.iload_n 1, 1) := by decide +kernel
theorem d_R_onReversal_60 : decode prog_9_method_13_code 60 = .ok (.iconst 1, 1) := by decide +kernel
theorem d_R_onReversal_61 : decode prog_9_method_13_code 61 = .ok (.bastore, 1) := by decide +kernel
theorem d_R_onReversal_62 : decode prog_9_method_13_code 62 = .ok (.iconst 0, 1) := by decide +kernel
theorem d_R_onReversal_63 : decode prog_9_method_13_code 63 = .ok (.ireturn, 1) := by decide +kernel
theorem d_R_hostTakes_0 : decode prog_9_method_10_code 0 = .ok (.aload_n 0, 1) := by decide +kernel
theorem d_R_hostTakes_1 : decode prog_9_method_10_code 1 = .ok (.getfield 80, 3) := by decide +kernel
theorem d_R_hostTakes_4 : decode prog_9_method_10_code 4 = .ok (.iconst 0, 1) := by decide +kernel
theorem d_R_hostTakes_5 : decode prog_9_method_10_code 5 = .ok (.iaload, 1) := by decide +kernel
theorem d_R_hostTakes_6 : decode prog_9_method_10_code 6 = .ok (.istore_n 1, 1) := by decide +kernel
theorem d_R_hostTakes_7 : decode prog_9_method_10_code 7 = .ok (.aload_n 0, 1) := by decide +kernel
theorem d_R_hostTakes_8 : decode prog_9_method_10_code 8 = .ok (.iconst 1, 1) := by decide +kernel
theorem d_R_hostTakes_9 : decode prog_9_method_10_code 9 = .ok (.invokevirtual 113, 3) := by decide +kernel
theorem d_R_hostTakes_12 : decode prog_9_method_10_code 12 = .ok (.istore_n 2, 1) := by decide +kernel
theorem d_R_hostTakes_13 : decode prog_9_method_10_code 13 = .ok (.aload_n 0, 1) := by decide +kernel
theorem d_R_hostTakes_14 : decode prog_9_method_10_code 14 = .ok (.getfield 80, 3) := by decide +kernel
theorem d_R_hostTakes_17 : decode prog_9_method_10_code 17 = .ok (.iconst 5, 1) := by decide +kernel
theorem d_R_hostTakes_18 : decode prog_9_method_10_code 18 = .ok (.iaload, 1) := by decide +kernel
theorem d_R_hostTakes_19 : decode prog_9_method_10_code 19 = .ok (.istore_n 3, 1) := by decide +kernel
theorem d_R_hostTakes_20 : decode prog_9_method_10_code 20 = .ok (.aload_n 0, 1) := by decide +kernel
theorem d_R_hostTakes_21 : decode prog_9_method_10_code 21 = .ok (.bipush 6, 2) := by decide +kernel
theorem d_R_hostTakes_23 : decode prog_9_method_10_code 23 = .ok (.invokevirtual 113, 3) := by decide +kernel
theorem d_R_hostTakes_26 : decode prog_9_method_10_code 26 = .ok (.istore 4, 2) := by decide +kernel
theorem d_R_hostTakes_28 : decode prog_9_method_10_code 28 = .ok (.iload_n 1, 1) := by decide +kernel
theorem d_R_hostTakes_29 : decode prog_9_method_10_code 29 = .ok (.iconst 1, 1) := by decide +kernel
theorem d_R_hostTakes_30 : decode prog_9_method_10_code 30 = .ok (.if_icmp .lt 30, 3) := by decide +kernel
theorem d_R_hostTakes_33 : decode prog_9_method_10_code 33 = .ok (.iload_n 1, 1) := by decide +kernel
theorem d_R_hostTakes_34 : decode prog_9_method_10_code 34 = .ok (.iconst 3, 1) := by decide +kernel
theorem d_R_hostTakes_35 : decode prog_9_method_10_code 35 = .ok (.if_icmp .gt 25, 3) := by decide +kernel
theorem d_R_hostTakes_38 : decode prog_9_method_10_code 38 = .ok (.iload_n 2, 1) := by decide +kernel
theorem d_R_hostTakes_39 : decode prog_9_method_10_code 39 = .ok (.iconst 1, 1) := by decide +kernel
theorem d_R_hostTakes_40 : decode prog_9_method_10_code 40 = .ok (.if_icmp .lt 20, 3) := by decide +kernel
theorem d_R_hostTakes_43 : decode prog_9_method_10_code 43 = .ok (.iload_n 2, 1) := by decide +kernel
theorem d_R_hostTakes_44 : decode prog_9_method_10_code 44 = .ok (.sipush 2000, 3) := by decide +kernel
theorem d_R_hostTakes_47 : decode prog_9_method_10_code 47 = .ok (.if_icmp .gt 13, 3) := by decide +kernel
theorem d_R_hostTakes_50 : decode prog_9_method_10_code 50 = .ok (.iload_n 3, 1) := by decide +kernel
theorem d_R_hostTakes_51 : decode prog_9_method_10_code 51 = .ok (.bipush 15, 2) := by decide +kernel
theorem d_R_hostTakes_53 : decode prog_9_method_10_code 53 = .ok (.if_icmp .gt 7, 3) := by decide +kernel
theorem d_R_hostTakes_56 : decode prog_9_method_10_code 56 = .ok (.iconst 1, 1) := by decide +kernel
theorem d_R_hostTakes_57 : decode prog_9_method_10_code 57 = .ok (.goto 4, 3) := by decide +kernel
theorem d_R_hostTakes_60 : decode prog_9_method_10_code 60 = .ok (.iconst 0, 1) := by decide +kernel
theorem d_R_hostTakes_61 : decode prog_9_method_10_code 61 = .ok (.istore 5, 2) := by decide +kernel
theorem d_R_hostTakes_63 : decode prog_9_method_10_code 63 = .ok (.iload 5, 2) := by decide +kernel
theorem d_R_hostTakes_65 : decode prog_9_method_10_code 65 = .ok (.ifCond .eq 43, 3) := by decide +kernel
theorem d_R_hostTakes_68 : decode prog_9_method_10_code 68 = .ok (.iload_n 1, 1) := by decide +kernel
theorem d_R_hostTakes_69 : decode prog_9_method_10_code 69 = .ok (.iconst 1, 1) := by decide +kernel
theorem d_R_hostTakes_70 : decode prog_9_method_10_code 70 = .ok (.if_icmp .ne 16, 3) := by decide +kernel
theorem d_R_hostTakes_73 : decode prog_9_method_10_code 73 = .ok (.iload 4, 2) := by decide +kernel
theorem d_R_hostTakes_75 : decode prog_9_method_10_code 75 = .ok (.ifCond .lt 33, 3) := by decide +kernel
theorem d_R_hostTakes_78 : decode prog_9_method_10_code 78 = .ok (.iload 4, 2) := by decide +kernel
theorem d_R_hostTakes_80 : decode prog_9_method_10_code 80 = .ok (.sipush 9999, 3) := by decide +kernel
theorem d_R_hostTakes_83 : decode prog_9_method_10_code 83 = .ok (.if_icmp .gt 25, 3) := by decide +kernel
theorem d_R_hostTakes_86 : decode prog_9_method_10_code 86 = .ok (.iload_n 1, 1) := by decide +kernel
theorem d_R_hostTakes_87 : decode prog_9_method_10_code 87 = .ok (.iconst 2, 1) := by decide +kernel
theorem d_R_hostTakes_88 : decode prog_9_method_10_code 88 = .ok (.if_icmp .ne 16, 3) := by decide +kernel
theorem d_R_hostTakes_91 : decode prog_9_method_10_code 91 = .ok (.iload 4, 2) := by decide +kernel
theorem d_R_hostTakes_93 : decode prog_9_method_10_code 93 = .ok (.iconst 1, 1) := by decide +kernel
theorem d_R_hostTakes_94 : decode prog_9_method_10_code 94 = .ok (.if_icmp .lt 14, 3) := by decide +kernel
theorem d_R_hostTakes_97 : decode prog_9_method_10_code 97 = .ok (.iload 4, 2) := by decide +kernel
theorem d_R_hostTakes_99 : decode prog_9_method_10_code 99 = .ok (.ldc 117, 2) := by decide +kernel
theorem d_R_hostTakes_101 : decode prog_9_method_10_code 101 = .ok (.if_icmp .gt 7, 3) := by decide +kernel
theorem d_R_hostTakes_104 : decode prog_9_method_10_code 104 = .ok (.iconst 1, 1) := by decide +kernel
theorem d_R_hostTakes_105 : decode prog_9_method_10_code 105 = .ok (.goto 4, 3) := by decide +kernel
theorem d_R_hostTakes_108 : decode prog_9_method_10_code 108 = .ok (.iconst 0, 1) := by decide +kernel
theorem d_R_hostTakes_109 : decode prog_9_method_10_code 109 = .ok (.istore 5, 2) := by decide +kernel
theorem d_R_hostTakes_111 : decode prog_9_method_10_code 111 = .ok (.iload 5, 2) := by decide +kernel
theorem d_R_hostTakes_113 : decode prog_9_method_10_code 113 = .ok (.ifCond .eq 58, 3) := by decide +kernel
theorem d_R_hostTakes_116 : decode prog_9_method_10_code 116 = .ok (.iload_n 1, 1) := by decide +kernel
theorem d_R_hostTakes_117 : decode prog_9_method_10_code 117 = .ok (.iconst 1, 1) := by decide +kernel
theorem d_R_hostTakes_118 : decode prog_9_method_10_code 118 = .ok (.if_icmp .ne 14, 3) := by decide +kernel
theorem d_R_hostTakes_121 : decode prog_9_method_10_code 121 = .ok (.aload_n 0, 1) := by decide +kernel
theorem d_R_hostTakes_122 : decode prog_9_method_10_code 122 = .ok (.iload_n 2, 1) := by decide +kernel
theorem d_R_hostTakes_123 : decode prog_9_method_10_code 123 = .ok (.iload_n 3, 1) := by decide +kernel
theorem d_R_hostTakes_124 : decode prog_9_method_10_code 124 = .ok (.iload 4, 2) := by decide +kernel
theorem d_R_hostTakes_126 : decode prog_9_method_10_code 126 = .ok (.invokevirtual 118, 3) := by decide +kernel
theorem d_R_hostTakes_129 : decode prog_9_method_10_code 129 = .ok (.goto 24, 3) := by decide +kernel
theorem d_R_hostTakes_132 : decode prog_9_method_10_code 132 = .ok (.iload_n 1, 1) := by decide +kernel
theorem d_R_hostTakes_133 : decode prog_9_method_10_code 133 = .ok (.iconst 2, 1) := by decide +kernel
theorem d_R_hostTakes_134 : decode prog_9_method_10_code 134 = .ok (.if_icmp .ne 14, 3) := by decide +kernel
theorem d_R_hostTakes_137 : decode prog_9_method_10_code 137 = .ok (.aload_n 0, 1) := by decide +kernel
theorem d_R_hostTakes_138 : decode prog_9_method_10_code 138 = .ok (.iload_n 2, 1) := by decide +kernel
theorem d_R_hostTakes_139 : decode prog_9_method_10_code 139 = .ok (.iload_n 3, 1) := by decide +kernel
theorem d_R_hostTakes_140 : decode prog_9_method_10_code 140 = .ok (.iload 4, 2) := by decide +kernel
theorem d_R_hostTakes_142 : decode prog_9_method_10_code 142 = .ok (.invokevirtual 122, 3) := by decide +kernel
theorem d_R_hostTakes_145 : decode prog_9_method_10_code 145 = .ok (.goto 8, 3) := by decide +kernel
theorem d_R_hostTakes_148 : decode prog_9_method_10_code 148 = .ok (.aload_n 0, 1) := by decide +kernel
theorem d_R_hostTakes_149 : decode prog_9_method_10_code 149 = .ok (.iload_n 2, 1) := by decide +kernel
theorem d_R_hostTakes_150 : decode prog_9_method_10_code 150 = .ok (.invokevirtual 125, 3) := by decide +kernel
theorem d_R_hostTakes_153 : decode prog_9_method_10_code 153 = .ok (.istore 6, 2) := by decide +kernel
theorem d_R_hostTakes_155 : decode prog_9_method_10_code 155 = .ok (.aload_n 0, 1) := by decide +kernel
theorem d_R_hostTakes_156 : decode prog_9_method_10_code 156 = .ok (.iload_n 1, 1) := by decide +kernel
theorem d_R_hostTakes_157 : decode prog_9_method_10_code 157 = .ok (.sipush 128, 3) := by decide +kernel
theorem d_R_hostTakes_160 : decode prog_9_method_10_code 160 = .ok (.iadd, 1) := by decide +kernel
theorem d_R_hostTakes_161 : decode prog_9_method_10_code 161 = .ok (.iload_n 2, 1) := by decide +kernel
theorem d_R_hostTakes_162 : decode prog_9_method_10_code 162 = .ok (.iload_n 3, 1) := by decide +kernel
theorem d_R_hostTakes_163 : decode prog_9_method_10_code 163 = .ok (.iload 4, 2) := by decide +kernel
theorem d_R_hostTakes_165 : decode prog_9_method_10_code 165 = .ok (.iload 6, 2) := by decide +kernel
theorem d_R_hostTakes_167 : decode prog_9_method_10_code 167 = .ok (.iconst 1, 1) := by decide +kernel
theorem d_R_hostTakes_168 : decode prog_9_method_10_code 168 = .ok (.invokevirtual 128, 3) := by decide +kernel
theorem d_R_hostTakes_171 : decode prog_9_method_10_code 171 = .ok (.iload 5, 2) := by decide +kernel
theorem d_R_hostTakes_173 : decode prog_9_method_10_code 173 = .ok (.ireturn, 1) := by decide +kernel
theorem d_R_come_0 : decode prog_9_method_9_code 0 = .ok (.iconst 0, 1) := by decide +kernel
theorem d_R_come_1 : decode prog_9_method_9_code 1 = .ok (.istore_n 3, 1) := by decide +kernel
theorem d_R_come_2 : decode prog_9_method_9_code 2 = .ok (.iload_n 3, 1) := by decide +kernel
theorem d_R_come_3 : decode prog_9_method_9_code 3 = .ok (.bipush 14, 2) := by decide +kernel
theorem d_R_come_5 : decode prog_9_method_9_code 5 = .ok (.if_icmp .ge 26, 3) := by decide +kernel
theorem d_R_come_8 : decode prog_9_method_9_code 8 = .ok (.aload_n 0, 1) := by decide +kernel
theorem d_R_come_9 : decode prog_9_method_9_code 9 = .ok (.getfield 80, 3) := by decide +kernel
theorem d_R_come_12 : decode prog_9_method_9_code 12 = .ok (.iload_n 3, 1) := by decide +kernel
theorem d_R_come_13 : decode prog_9_method_9_code 13 = .ok (.aload_n 0, 1) := by decide +kernel
theorem d_R_come_14 : decode prog_9_method_9_code 14 = .ok (.getfield 77, 3) := by decide +kernel
theorem d_R_come_17 : decode prog_9_method_9_code 17 = .ok (.bipush 14, 2) := by decide +kernel
theorem d_R_come_19 : decode prog_9_method_9_code 19 = .ok (.iload_n 1, 1) := by decide +kernel
theorem d_R_come_20 : decode prog_9_method_9_code 20 = .ok (.imul, 1) := by decide +kernel
theorem d_R_come_21 : decode prog_9_method_9_code 21 = .ok (.iload_n 3, 1) := by decide +kernel
theorem d_R_come_22 : decode prog_9_method_9_code 22 = .ok (.iadd, 1) := by decide +kernel
theorem d_R_come_23 : decode prog_9_method_9_code 23 = .ok (.iaload, 1) := by decide +kernel
theorem d_R_come_24 : decode prog_9_method_9_code 24 = .ok (.iastore, 1) := by decide +kernel
theorem d_R_come_25 : decode prog_9_method_9_code 25 = .ok (.iinc 3 1, 3) := by decide +kernel
theorem d_R_come_28 : decode prog_9_method_9_code 28 = .ok (.goto (-26), 3) := by decide +kernel
theorem d_R_come_31 : decode prog_9_method_9_code 31 = .ok (.iload_n 2, 1) := by decide +kernel
theorem d_R_come_32 : decode prog_9_method_9_code 32 = .ok (.ifCond .ne 8, 3) := by decide +kernel
theorem d_R_come_35 : decode prog_9_method_9_code 35 = .ok (.aload_n 0, 1) := by decide +kernel
theorem d_R_come_36 : decode prog_9_method_9_code 36 = .ok (.iload_n 1, 1) := by decide +kernel
theorem d_R_come_37 : decode prog_9_method_9_code 37 = .ok (.invokevirtual 92, 3) := by decide +kernel
theorem d_R_come_40 : decode prog_9_method_9_code 40 = .ok (.aload_n 0, 1) := by decide +kernel
theorem d_R_come_41 : decode prog_9_method_9_code 41 = .ok (.getfield 80, 3) := by decide +kernel
theorem d_R_come_44 : decode prog_9_method_9_code 44 = .ok (.bipush 13, 2) := by decide +kernel
theorem d_R_come_46 : decode prog_9_method_9_code 46 = .ok (.iaload, 1) := by decide +kernel
theorem d_R_come_47 : decode prog_9_method_9_code 47 = .ok (.iconst 1, 1) := by decide +kernel
theorem d_R_come_48 : decode prog_9_method_9_code 48 = .ok (.if_icmp .ne 7, 3) := by decide +kernel
theorem d_R_come_51 : decode prog_9_method_9_code 51 = .ok (.iconst 1, 1) := by decide +kernel
theorem d_R_come_52 : decode prog_9_method_9_code 52 = .ok (.goto 4, 3) := by decide +kernel
theorem d_R_come_55 : decode prog_9_method_9_code 55 = .ok (.iconst 0, 1) := by decide +kernel
theorem d_R_come_56 : decode prog_9_method_9_code 56 = .ok (.istore_n 3, 1) := by decide +kernel
theorem d_R_come_57 : decode prog_9_method_9_code 57 = .ok (.iload_n 3, 1) := by decide +kernel
theorem d_R_come_58 : decode prog_9_method_9_code 58 = .ok (.ifCond .eq 11, 3) := by decide +kernel
theorem d_R_come_61 : decode prog_9_method_9_code 61 = .ok (.aload_n 0, 1) := by decide +kernel
theorem d_R_come_62 : decode prog_9_method_9_code 62 = .ok (.getfield 64, 3) := by decide +kernel
theorem d_R_come_65 : decode prog_9_method_9_code 65 = .ok (.ifCond .ne 4, 3) := by decide +kernel
theorem d_R_come_68 : decode prog_9_method_9_code 68 = .ok (.return_, 1) := by decide +kernel
theorem d_R_come_69 : decode prog_9_method_9_code 69 = .ok (.aload_n 0, 1) := by decide +kernel
theorem d_R_come_70 : decode prog_9_method_9_code 70 = .ok (.getfield 80, 3) := by decide +kernel
theorem d_R_come_73 : decode prog_9_method_9_code 73 = .ok (.iconst 0, 1) := by decide +kernel
theorem d_R_come_74 : decode prog_9_method_9_code 74 = .ok (.invokestatic 99, 3) := by decide +kernel
theorem d_R_come_77 : decode prog_9_method_9_code 77 = .ok (.istore 4, 2) := by decide +kernel
theorem d_R_come_79 : decode prog_9_method_9_code 79 = .ok (.aload_n 0, 1) := by decide +kernel
theorem d_R_come_80 : decode prog_9_method_9_code 80 = .ok (.getfield 80, 3) := by decide +kernel
theorem d_R_come_83 : decode prog_9_method_9_code 83 = .ok (.bipush 11, 2) := by decide +kernel
theorem d_R_come_85 : decode prog_9_method_9_code 85 = .ok (.iaload, 1) := by decide +kernel
theorem d_R_come_86 : decode prog_9_method_9_code 86 = .ok (.iload 4, 2) := by decide +kernel
theorem d_R_come_88 : decode prog_9_method_9_code 88 = .ok (.bipush 8, 2) := by decide +kernel
theorem d_R_come_90 : decode prog_9_method_9_code 90 = .ok (.ishr, 1) := by decide +kernel
theorem d_R_come_91 : decode prog_9_method_9_code 91 = .ok (.if_icmp .ne 23, 3) := by decide +kernel
theorem d_R_come_94 : decode prog_9_method_9_code 94 = .ok (.aload_n 0, 1) := by decide +kernel
theorem d_R_come_95 : decode prog_9_method_9_code 95 = .ok (.getfield 80, 3) := by decide +kernel
theorem d_R_come_98 : decode prog_9_method_9_code 98 = .ok (.bipush 12, 2) := by decide +kernel
theorem d_R_come_100 : decode prog_9_method_9_code 100 = .ok (.iaload, 1) := by decide +kernel
theorem d_R_come_101 : decode prog_9_method_9_code 101 = .ok (.iload 4, 2) := by decide +kernel
theorem d_R_come_103 : decode prog_9_method_9_code 103 = .ok (.sipush 255, 3) := by decide +kernel
theorem d_R_come_106 : decode prog_9_method_9_code 106 = .ok (.iand, 1) := by decide +kernel
theorem d_R_come_107 : decode prog_9_method_9_code 107 = .ok (.if_icmp .ne 7, 3) := by decide +kernel
theorem d_R_come_110 : decode prog_9_method_9_code 110 = .ok (.iconst 1, 1) := by decide +kernel
theorem d_R_come_111 : decode prog_9_method_9_code 111 = .ok (.goto 4, 3) := by decide +kernel
theorem d_R_come_114 : decode prog_9_method_9_code 114 = .ok (.iconst 0, 1) := by decide +kernel
theorem d_R_come_115 : decode prog_9_method_9_code 115 = .ok (.istore 5, 2) := by decide +kernel
theorem d_R_come_117 : decode prog_9_method_9_code 117 = .ok (.iload 5, 2) := by decide +kernel
theorem d_R_come_119 : decode prog_9_method_9_code 119 = .ok (.ifCond .eq 20, 3) := by decide +kernel
theorem d_R_come_122 : decode prog_9_method_9_code 122 = .ok (.iload_n 3, 1) := by decide +kernel
theorem d_R_come_123 : decode prog_9_method_9_code 123 = .ok (.ifCond .eq 10, 3) := by decide +kernel
theorem d_R_come_126 : decode prog_9_method_9_code 126 = .ok (.aload_n 0, 1) := by decide +kernel
theorem d_R_come_127 : decode prog_9_method_9_code 127 = .ok (.invokevirtual 103, 3) := by decide +kernel
theorem d_R_come_130 : decode prog_9_method_9_code 130 = .ok (.goto 7, 3) := by decide +kernel
theorem d_R_come_133 : decode prog_9_method_9_code 133 = .ok (.aload_n 0, 1) := by decide +kernel
theorem d_R_come_134 : decode prog_9_method_9_code 134 = .ok (.invokevirtual 107, 3) := by decide +kernel
theorem d_R_come_137 : decode prog_9_method_9_code 137 = .ok (.istore 5, 2) := by decide +kernel
theorem d_R_come_139 : decode prog_9_method_9_code 139 = .ok (.aload_n 0, 1) := by decide +kernel
theorem d_R_come_140 : decode prog_9_method_9_code 140 = .ok (.dup, 1) := by decide +kernel
theorem d_R_come_141 : decode prog_9_method_9_code 141 = .ok (.getfield 110, 3) := by decide +kernel
theorem d_R_come_144 : decode prog_9_method_9_code 144 = .ok (.iload 5, 2) := by decide +kernel
theorem d_R_come_146 : decode prog_9_method_9_code 146 = .ok (.ifCond .eq 7, 3) := by decide +kernel
theorem d_R_come_149 : decode prog_9_method_9_code 149 = .ok (.iconst 0, 1) := by decide +kernel
theorem d_R_come_150 : decode prog_9_method_9_code 150 = .ok (.goto 4, 3) := by decide +kernel
theorem d_R_come_153 : decode prog_9_method_9_code 153 = .ok (.iconst 1, 1) := by decide +kernel
theorem d_R_come_154 : decode prog_9_method_9_code 154 = .ok (.iadd, 1) := by decide +kernel
theorem d_R_come_155 : decode prog_9_method_9_code 155 = .ok (.putfield 110, 3) := by decide +kernel
theorem d_R_come_158 : decode prog_9_method_9_code 158 = .ok (.return_, 1) := by decide +kernel
theorem d_R_deliver_0 : decode prog_9_method_31_code 0 = .ok (.aload_n 0, 1) := by decide +kernel
theorem d_R_deliver_1 : decode prog_9_method_31_code 1 = .ok (.iload_n 1, 1) := by decide +kernel
theorem d_R_deliver_2 : decode prog_9_method_31_code 2 = .ok (.invokevirtual 187, 3) := by decide +kernel
theorem d_R_deliver_5 : decode prog_9_method_31_code 5 = .ok (.ifCond .ne 5, 3) := by decide +kernel
theorem d_R_deliver_8 : decode prog_9_method_31_code 8 = .ok (.iconst (-1), 1) := by decide +kernel
theorem d_R_deliver_9 : decode prog_9_method_31_code 9 = .ok (.ireturn, 1) := by decide +kernel
theorem d_R_deliver_10 : decode prog_9_method_31_code 10 = .ok (.aload_n 0, 1) := by decide +kernel
theorem d_R_deliver_11 : decode prog_9_method_31_code 11 = .ok (.iload_n 1, 1) := by decide +kernel
theorem d_R_deliver_12 : decode prog_9_method_31_code 12 = .ok (.iconst 0, 1) := by decide +kernel
theorem d_R_deliver_13 : decode prog_9_method_31_code 13 = .ok (.invokevirtual 190, 3) := by decide +kernel
theorem d_R_deliver_16 : decode prog_9_method_31_code 16 = .ok (.aload_n 0, 1) := by decide +kernel
theorem d_R_deliver_17 : decode prog_9_method_31_code 17 = .ok (.getfield 89, 3) := by decide +kernel
theorem d_R_deliver_20 : decode prog_9_method_31_code 20 = .ok (.ireturn, 1) := by decide +kernel
theorem d_R_twice_0 : decode prog_9_method_32_code 0 = .ok (.aload_n 0, 1) := by decide +kernel
theorem d_R_twice_1 : decode prog_9_method_32_code 1 = .ok (.iload_n 1, 1) := by decide +kernel
theorem d_R_twice_2 : decode prog_9_method_32_code 2 = .ok (.invokevirtual 187, 3) := by decide +kernel
theorem d_R_twice_5 : decode prog_9_method_32_code 5 = .ok (.ifCond .ne 5, 3) := by decide +kernel
theorem d_R_twice_8 : decode prog_9_method_32_code 8 = .ok (.iconst (-1), 1) := by decide +kernel
theorem d_R_twice_9 : decode prog_9_method_32_code 9 = .ok (.ireturn, 1) := by decide +kernel
theorem d_R_twice_10 : decode prog_9_method_32_code 10 = .ok (.aload_n 0, 1) := by decide +kernel
theorem d_R_twice_11 : decode prog_9_method_32_code 11 = .ok (.iload_n 1, 1) := by decide +kernel
theorem d_R_twice_12 : decode prog_9_method_32_code 12 = .ok (.iconst 1, 1) := by decide +kernel
theorem d_R_twice_13 : decode prog_9_method_32_code 13 = .ok (.invokevirtual 190, 3) := by decide +kernel
theorem d_R_twice_16 : decode prog_9_method_32_code 16 = .ok (.aload_n 0, 1) := by decide +kernel
theorem d_R_twice_17 : decode prog_9_method_32_code 17 = .ok (.getfield 89, 3) := by decide +kernel
theorem d_R_twice_20 : decode prog_9_method_32_code 20 = .ok (.ireturn, 1) := by decide +kernel
theorem d_R_lose_0 : decode prog_9_method_33_code 0 = .ok (.aload_n 0, 1) := by decide +kernel
theorem d_R_lose_1 : decode prog_9_method_33_code 1 = .ok (.iload_n 1, 1) := by decide +kernel
theorem d_R_lose_2 : decode prog_9_method_33_code 2 = .ok (.invokevirtual 187, 3) := by decide +kernel
theorem d_R_lose_5 : decode prog_9_method_33_code 5 = .ok (.ifCond .ne 5, 3) := by decide +kernel
theorem d_R_lose_8 : decode prog_9_method_33_code 8 = .ok (.iconst (-1), 1) := by decide +kernel
theorem d_R_lose_9 : decode prog_9_method_33_code 9 = .ok (.ireturn, 1) := by decide +kernel
theorem d_R_lose_10 : decode prog_9_method_33_code 10 = .ok (.aload_n 0, 1) := by decide +kernel
theorem d_R_lose_11 : decode prog_9_method_33_code 11 = .ok (.iload_n 1, 1) := by decide +kernel
theorem d_R_lose_12 : decode prog_9_method_33_code 12 = .ok (.invokevirtual 92, 3) := by decide +kernel
theorem d_R_lose_15 : decode prog_9_method_33_code 15 = .ok (.aload_n 0, 1) := by decide +kernel
theorem d_R_lose_16 : decode prog_9_method_33_code 16 = .ok (.getfield 89, 3) := by decide +kernel
theorem d_R_lose_19 : decode prog_9_method_33_code 19 = .ok (.ireturn, 1) := by decide +kernel
theorem d_R_poke_0 : decode prog_9_method_34_code 0 = .ok (.aload_n 0, 1) := by decide +kernel
theorem d_R_poke_1 : decode prog_9_method_34_code 1 = .ok (.iload_n 1, 1) := by decide +kernel
theorem d_R_poke_2 : decode prog_9_method_34_code 2 = .ok (.invokevirtual 187, 3) := by decide +kernel
theorem d_R_poke_5 : decode prog_9_method_34_code 5 = .ok (.ifCond .eq 25, 3) := by decide +kernel
theorem d_R_poke_8 : decode prog_9_method_34_code 8 = .ok (.iload_n 2, 1) := by decide +kernel
theorem d_R_poke_9 : decode prog_9_method_34_code 9 = .ok (.ifCond .lt 21, 3) := by decide +kernel
theorem d_R_poke_12 : decode prog_9_method_34_code 12 = .ok (.iload_n 2, 1) := by decide +kernel
theorem d_R_poke_13 : decode prog_9_method_34_code 13 = .ok (.bipush 12, 2) := by decide +kernel
theorem d_R_poke_15 : decode prog_9_method_34_code 15 = .ok (.if_icmp .gt 15, 3) := by decide +kernel
theorem d_R_poke_18 : decode prog_9_method_34_code 18 = .ok (.iload_n 3, 1) := by decide +kernel
theorem d_R_poke_19 : decode prog_9_method_34_code 19 = .ok (.iconst 1, 1) := by decide +kernel
theorem d_R_poke_20 : decode prog_9_method_34_code 20 = .ok (.if_icmp .lt 10, 3) := by decide +kernel
theorem d_R_poke_23 : decode prog_9_method_34_code 23 = .ok (.iload_n 3, 1) := by decide +kernel
theorem d_R_poke_24 : decode prog_9_method_34_code 24 = .ok (.sipush 255, 3) := by decide +kernel
theorem d_R_poke_27 : decode prog_9_method_34_code 27 = .ok (.if_icmp .le 5, 3) := by decide +kernel
theorem d_R_poke_30 : decode prog_9_method_34_code 30 = .ok (.iconst 0, 1) := by decide +kernel
theorem d_R_poke_31 : decode prog_9_method_34_code 31 = .ok (.ireturn, 1) := by decide +kernel
theorem d_R_poke_32 : decode prog_9_method_34_code 32 = .ok (.aload_n 0, 1) := by decide +kernel
theorem d_R_poke_33 : decode prog_9_method_34_code 33 = .ok (.getfield 77, 3) := by decide +kernel
theorem d_R_poke_36 : decode prog_9_method_34_code 36 = .ok (.bipush 14, 2) := by decide +kernel
theorem d_R_poke_38 : decode prog_9_method_34_code 38 = .ok (.iload_n 1, 1) := by decide +kernel
theorem d_R_poke_39 : decode prog_9_method_34_code 39 = .ok (.imul, 1) := by decide +kernel
theorem d_R_poke_40 : decode prog_9_method_34_code 40 = .ok (.iload_n 2, 1) := by decide +kernel
theorem d_R_poke_41 : decode prog_9_method_34_code 41 = .ok (.iadd, 1) := by decide +kernel
theorem d_R_poke_42 : decode prog_9_method_34_code 42 = .ok (.dup2, 1) := by decide +kernel
theorem d_R_poke_43 : decode prog_9_method_34_code 43 = .ok (.iaload, 1) := by decide +kernel
theorem d_R_poke_44 : decode prog_9_method_34_code 44 = .ok (.iload_n 3, 1) := by decide +kernel
theorem d_R_poke_45 : decode prog_9_method_34_code 45 = .ok (.ixor, 1) := by decide +kernel
theorem d_R_poke_46 : decode prog_9_method_34_code 46 = .ok (.iastore, 1) := by decide +kernel
theorem d_R_poke_47 : decode prog_9_method_34_code 47 = .ok (.iconst 1, 1) := by decide +kernel
theorem d_R_poke_48 : decode prog_9_method_34_code 48 = .ok (.ireturn, 1) := by decide +kernel
end
section
theorem d_R_letter_0 : decode prog_9_method_35_code 0 = .ok (.aload_n 0, 1) := by decide +kernel
theorem d_R_letter_1 : decode prog_9_method_35_code 1 = .ok (.iload_n 1, 1) := by decide +kernel
theorem d_R_letter_2 : decode prog_9_method_35_code 2 = .ok (.invokevirtual 187, 3) := by decide +kernel
theorem d_R_letter_5 : decode prog_9_method_35_code 5 = .ok (.ifCond .eq 27, 3) := by decide +kernel
theorem d_R_letter_8 : decode prog_9_method_35_code 8 = .ok (.iload_n 2, 1) := by decide +kernel
theorem d_R_letter_9 : decode prog_9_method_35_code 9 = .ok (.ifCond .lt 23, 3) := by decide +kernel
theorem d_R_letter_12 : decode prog_9_method_35_code 12 = .ok (.iload_n 2, 1) := by decide +kernel
theorem d_R_letter_13 : decode prog_9_method_35_code 13 = .ok (.bipush 12, 2) := by decide +kernel
theorem d_R_letter_15 : decode prog_9_method_35_code 15 = .ok (.if_icmp .gt 17, 3) := by decide +kernel
theorem d_R_letter_18 : decode prog_9_method_35_code 18 = .ok (.aload_n 0, 1) := by decide +kernel
theorem d_R_letter_19 : decode prog_9_method_35_code 19 = .ok (.getfield 77, 3) := by decide +kernel
theorem d_R_letter_22 : decode prog_9_method_35_code 22 = .ok (.bipush 14, 2) := by decide +kernel
theorem d_R_letter_24 : decode prog_9_method_35_code 24 = .ok (.iload_n 1, 1) := by decide +kernel
theorem d_R_letter_25 : decode prog_9_method_35_code 25 = .ok (.imul, 1) := by decide +kernel
theorem d_R_letter_26 : decode prog_9_method_35_code 26 = .ok (.iload_n 2, 1) := by decide +kernel
theorem d_R_letter_27 : decode prog_9_method_35_code 27 = .ok (.iadd, 1) := by decide +kernel
theorem d_R_letter_28 : decode prog_9_method_35_code 28 = .ok (.iaload, 1) := by decide +kernel
theorem d_R_letter_29 : decode prog_9_method_35_code 29 = .ok (.goto 4, 3) := by decide +kernel
theorem d_R_letter_32 : decode prog_9_method_35_code 32 = .ok (.iconst (-1), 1) := by decide +kernel
theorem d_R_letter_33 : decode prog_9_method_35_code 33 = .ok (.ireturn, 1) := by decide +kernel
theorem d_R_cut_0 : decode prog_9_method_36_code 0 = .ok (.aload_n 0, 1) := by decide +kernel
theorem d_R_cut_1 : decode prog_9_method_36_code 1 = .ok (.getfield 64, 3) := by decide +kernel
theorem d_R_cut_4 : decode prog_9_method_36_code 4 = .ok (.ifCond .ne 5, 3) := by decide +kernel
theorem d_R_cut_7 : decode prog_9_method_36_code 7 = .ok (.iconst 0, 1) := by decide +kernel
theorem d_R_cut_8 : decode prog_9_method_36_code 8 = .ok (.ireturn, 1) := by decide +kernel
theorem d_R_cut_9 : decode prog_9_method_36_code 9 = .ok (.aload_n 0, 1) := by decide +kernel
theorem d_R_cut_10 : decode prog_9_method_36_code 10 = .ok (.invokevirtual 136, 3) := by decide +kernel
theorem d_R_cut_13 : decode prog_9_method_36_code 13 = .ok (.iconst 1, 1) := by decide +kernel
theorem d_R_cut_14 : decode prog_9_method_36_code 14 = .ok (.ireturn, 1) := by decide +kernel
theorem d_R_arm_0 : decode prog_9_method_37_code 0 = .ok (.aload_n 0, 1) := by decide +kernel
theorem d_R_arm_1 : decode prog_9_method_37_code 1 = .ok (.getfield 64, 3) := by decide +kernel
theorem d_R_arm_4 : decode prog_9_method_37_code 4 = .ok (.ifCond .eq 13, 3) := by decide +kernel
theorem d_R_arm_7 : decode prog_9_method_37_code 7 = .ok (.iload_n 1, 1) := by decide +kernel
theorem d_R_arm_8 : decode prog_9_method_37_code 8 = .ok (.ifCond .lt 9, 3) := by decide +kernel
theorem d_R_arm_11 : decode prog_9_method_37_code 11 = .ok (.iload_n 1, 1) := by decide +kernel
theorem d_R_arm_12 : decode prog_9_method_37_code 12 = .ok (.bipush 100, 2) := by decide +kernel
theorem d_R_arm_14 : decode prog_9_method_37_code 14 = .ok (.if_icmp .le 5, 3) := by decide +kernel
theorem d_R_arm_17 : decode prog_9_method_37_code 17 = .ok (.iconst 0, 1) := by decide +kernel
theorem d_R_arm_18 : decode prog_9_method_37_code 18 = .ok (.ireturn, 1) := by decide +kernel
theorem d_R_arm_19 : decode prog_9_method_37_code 19 = .ok (.aload_n 0, 1) := by decide +kernel
theorem d_R_arm_20 : decode prog_9_method_37_code 20 = .ok (.iload_n 1, 1) := by decide +kernel
theorem d_R_arm_21 : decode prog_9_method_37_code 21 = .ok (.putfield 68, 3) := by decide +kernel
theorem d_R_arm_24 : decode prog_9_method_37_code 24 = .ok (.iconst 1, 1) := by decide +kernel
theorem d_R_arm_25 : decode prog_9_method_37_code 25 = .ok (.ireturn, 1) := by decide +kernel
theorem d_R_power_0 : decode prog_9_method_38_code 0 = .ok (.aload_n 0, 1) := by decide +kernel
theorem d_R_power_1 : decode prog_9_method_38_code 1 = .ok (.getfield 64, 3) := by decide +kernel
theorem d_R_power_4 : decode prog_9_method_38_code 4 = .ok (.ifCond .eq 5, 3) := by decide +kernel
theorem d_R_power_7 : decode prog_9_method_38_code 7 = .ok (.iconst 0, 1) := by decide +kernel
theorem d_R_power_8 : decode prog_9_method_38_code 8 = .ok (.ireturn, 1) := by decide +kernel
theorem d_R_power_9 : decode prog_9_method_38_code 9 = .ok (.aload_n 0, 1) := by decide +kernel
theorem d_R_power_10 : decode prog_9_method_38_code 10 = .ok (.iconst 1, 1) := by decide +kernel
theorem d_R_power_11 : decode prog_9_method_38_code 11 = .ok (.putfield 64, 3) := by decide +kernel
theorem d_R_power_14 : decode prog_9_method_38_code 14 = .ok (.aload_n 0, 1) := by decide +kernel
theorem d_R_power_15 : decode prog_9_method_38_code 15 = .ok (.iconst (-1), 1) := by decide +kernel
theorem d_R_power_16 : decode prog_9_method_38_code 16 = .ok (.putfield 68, 3) := by decide +kernel
theorem d_R_power_19 : decode prog_9_method_38_code 19 = .ok (.aload_n 0, 1) := by decide +kernel
theorem d_R_power_20 : decode prog_9_method_38_code 20 = .ok (.iconst (-1), 1) := by decide +kernel
theorem d_R_power_21 : decode prog_9_method_38_code 21 = .ok (.putfield 71, 3) := by decide +kernel
theorem d_R_power_24 : decode prog_9_method_38_code 24 = .ok (.aload_n 0, 1) := by decide +kernel
theorem d_R_power_25 : decode prog_9_method_38_code 25 = .ok (.iconst 0, 1) := by decide +kernel
theorem d_R_power_26 : decode prog_9_method_38_code 26 = .ok (.putfield 168, 3) := by decide +kernel
theorem d_R_power_29 : decode prog_9_method_38_code 29 = .ok (.aload_n 0, 1) := by decide +kernel
theorem d_R_power_30 : decode prog_9_method_38_code 30 = .ok (.getfield 139, 3) := by decide +kernel
theorem d_R_power_33 : decode prog_9_method_38_code 33 = .ok (.ifCond .ne 7, 3) := by decide +kernel
theorem d_R_power_36 : decode prog_9_method_38_code 36 = .ok (.iconst 0, 1) := by decide +kernel
theorem d_R_power_37 : decode prog_9_method_38_code 37 = .ok (.goto 16, 3) := by decide +kernel
theorem d_R_power_40 : decode prog_9_method_38_code 40 = .ok (.aload_n 0, 1) := by decide +kernel
theorem d_R_power_41 : decode prog_9_method_38_code 41 = .ok (.getfield 57, 3) := by decide +kernel
theorem d_R_power_44 : decode prog_9_method_38_code 44 = .ok (.iconst 5, 1) := by decide +kernel
theorem d_R_power_45 : decode prog_9_method_38_code 45 = .ok (.aload_n 0, 1) := by decide +kernel
theorem d_R_power_46 : decode prog_9_method_38_code 46 = .ok (.getfield 139, 3) := by decide +kernel
theorem d_R_power_49 : decode prog_9_method_38_code 49 = .ok (.imul, 1) := by decide +kernel
theorem d_R_power_50 : decode prog_9_method_38_code 50 = .ok (.iconst 5, 1) := by decide +kernel
theorem d_R_power_51 : decode prog_9_method_38_code 51 = .ok (.isub, 1) := by decide +kernel
theorem d_R_power_52 : decode prog_9_method_38_code 52 = .ok (.iaload, 1) := by decide +kernel
theorem d_R_power_53 : decode prog_9_method_38_code 53 = .ok (.istore_n 1, 1) := by decide +kernel
theorem d_R_power_54 : decode prog_9_method_38_code 54 = .ok (.iconst (-1), 1) := by decide +kernel
theorem d_R_power_55 : decode prog_9_method_38_code 55 = .ok (.istore_n 2, 1) := by decide +kernel
theorem d_R_power_56 : decode prog_9_method_38_code 56 = .ok (.iconst 0, 1) := by decide +kernel
theorem d_R_power_57 : decode prog_9_method_38_code 57 = .ok (.istore_n 3, 1) := by decide +kernel
theorem d_R_power_58 : decode prog_9_method_38_code 58 = .ok (.iload_n 3, 1) := by decide +kernel
theorem d_R_power_59 : decode prog_9_method_38_code 59 = .ok (.aload_n 0, 1) := by decide +kernel
theorem d_R_power_60 : decode prog_9_method_38_code 60 = .ok (.getfield 139, 3) := by decide +kernel
theorem d_R_power_63 : decode prog_9_method_38_code 63 = .ok (.if_icmp .ge 27, 3) := by decide +kernel
theorem d_R_power_66 : decode prog_9_method_38_code 66 = .ok (.aload_n 0, 1) := by decide +kernel
theorem d_R_power_67 : decode prog_9_method_38_code 67 = .ok (.getfield 57, 3) := by decide +kernel
theorem d_R_power_70 : decode prog_9_method_38_code 70 = .ok (.iconst 5, 1) := by decide +kernel
theorem d_R_power_71 : decode prog_9_method_38_code 71 = .ok (.iload_n 3, 1) := by decide +kernel
theorem d_R_power_72 : decode prog_9_method_38_code 72 = .ok (.imul, 1) := by decide +kernel
theorem d_R_power_73 : decode prog_9_method_38_code 73 = .ok (.iaload, 1) := by decide +kernel
theorem d_R_power_74 : decode prog_9_method_38_code 74 = .ok (.iconst 1, 1) := by decide +kernel
theorem d_R_power_75 : decode prog_9_method_38_code 75 = .ok (.if_icmp .ne 7, 3) := by decide +kernel
theorem d_R_power_78 : decode prog_9_method_38_code 78 = .ok (.iload_n 3, 1) := by decide +kernel
theorem d_R_power_79 : decode prog_9_method_38_code 79 = .ok (.goto 4, 3) := by decide +kernel
theorem d_R_power_82 : decode prog_9_method_38_code 82 = .ok (.iload_n 2, 1) := by decide +kernel
theorem d_R_power_83 : decode prog_9_method_38_code 83 = .ok (.istore_n 2, 1) := by decide +kernel
theorem d_R_power_84 : decode prog_9_method_38_code 84 = .ok (.iinc 3 1, 3) := by decide +kernel
theorem d_R_power_87 : decode prog_9_method_38_code 87 = .ok (.goto (-29), 3) := by decide +kernel
theorem d_R_power_90 : decode prog_9_method_38_code 90 = .ok (.iload_n 2, 1) := by decide +kernel
theorem d_R_power_91 : decode prog_9_method_38_code 91 = .ok (.iconst (-1), 1) := by decide +kernel
theorem d_R_power_92 : decode prog_9_method_38_code 92 = .ok (.if_icmp .eq 45, 3) := by decide +kernel
theorem d_R_power_95 : decode prog_9_method_38_code 95 = .ok (.aload_n 0, 1) := by decide +kernel
theorem d_R_power_96 : decode prog_9_method_38_code 96 = .ok (.aload_n 0, 1) := by decide +kernel
theorem d_R_power_97 : decode prog_9_method_38_code 97 = .ok (.getfield 57, 3) := by decide +kernel
theorem d_R_power_100 : decode prog_9_method_38_code 100 = .ok (.iconst 5, 1) := by decide +kernel
theorem d_R_power_101 : decode prog_9_method_38_code 101 = .ok (.iload_n 2, 1) := by decide +kernel
theorem d_R_power_102 : decode prog_9_method_38_code 102 = .ok (.imul, 1) := by decide +kernel
theorem d_R_power_103 : decode prog_9_method_38_code 103 = .ok (.iconst 1, 1) := by decide +kernel
theorem d_R_power_104 : decode prog_9_method_38_code 104 = .ok (.iadd, 1) := by decide +kernel
theorem d_R_power_105 : decode prog_9_method_38_code 105 = .ok (.iaload, 1) := by decide +kernel
theorem d_R_power_106 : decode prog_9_method_38_code 106 = .ok (.putfield 145, 3) := by decide +kernel
theorem d_R_power_109 : decode prog_9_method_38_code 109 = .ok (.aload_n 0, 1) := by decide +kernel
theorem d_R_power_110 : decode prog_9_method_38_code 110 = .ok (.aload_n 0, 1) := by decide +kernel
theorem d_R_power_111 : decode prog_9_method_38_code 111 = .ok (.getfield 57, 3) := by decide +kernel
theorem d_R_power_114 : decode prog_9_method_38_code 114 = .ok (.iconst 5, 1) := by decide +kernel
theorem d_R_power_115 : decode prog_9_method_38_code 115 = .ok (.iload_n 2, 1) := by decide +kernel
theorem d_R_power_116 : decode prog_9_method_38_code 116 = .ok (.imul, 1) := by decide +kernel
theorem d_R_power_117 : decode prog_9_method_38_code 117 = .ok (.iconst 2, 1) := by decide +kernel
theorem d_R_power_118 : decode prog_9_method_38_code 118 = .ok (.iadd, 1) := by decide +kernel
theorem d_R_power_119 : decode prog_9_method_38_code 119 = .ok (.iaload, 1) := by decide +kernel
theorem d_R_power_120 : decode prog_9_method_38_code 120 = .ok (.putfield 148, 3) := by decide +kernel
theorem d_R_power_123 : decode prog_9_method_38_code 123 = .ok (.aload_n 0, 1) := by decide +kernel
theorem d_R_power_124 : decode prog_9_method_38_code 124 = .ok (.aload_n 0, 1) := by decide +kernel
theorem d_R_power_125 : decode prog_9_method_38_code 125 = .ok (.getfield 57, 3) := by decide +kernel
theorem d_R_power_128 : decode prog_9_method_38_code 128 = .ok (.iconst 5, 1) := by decide +kernel
theorem d_R_power_129 : decode prog_9_method_38_code 129 = .ok (.iload_n 2, 1) := by decide +kernel
theorem d_R_power_130 : decode prog_9_method_38_code 130 = .ok (.imul, 1) := by decide +kernel
theorem d_R_power_131 : decode prog_9_method_38_code 131 = .ok (.iconst 3, 1) := by decide +kernel
theorem d_R_power_132 : decode prog_9_method_38_code 132 = .ok (.iadd, 1) := by decide +kernel
theorem d_R_power_133 : decode prog_9_method_38_code 133 = .ok (.iaload, 1) := by decide +kernel
theorem d_R_power_134 : decode prog_9_method_38_code 134 = .ok (.putfield 74, 3) := by decide +kernel
theorem d_R_power_137 : decode prog_9_method_38_code 137 = .ok (.iload_n 1, 1) := by decide +kernel
theorem d_R_power_138 : decode prog_9_method_38_code 138 = .ok (.iconst 2, 1) := by decide +kernel
theorem d_R_power_139 : decode prog_9_method_38_code 139 = .ok (.if_icmp .ne 29, 3) := by decide +kernel
theorem d_R_power_142 : decode prog_9_method_38_code 142 = .ok (.aload_n 0, 1) := by decide +kernel
theorem d_R_power_143 : decode prog_9_method_38_code 143 = .ok (.getfield 151, 3) := by decide +kernel
theorem d_R_power_146 : decode prog_9_method_38_code 146 = .ok (.aload_n 0, 1) := by decide +kernel
theorem d_R_power_147 : decode prog_9_method_38_code 147 = .ok (.getfield 57, 3) := by decide +kernel
theorem d_R_power_150 : decode prog_9_method_38_code 150 = .ok (.iconst 5, 1) := by decide +kernel
theorem d_R_power_151 : decode prog_9_method_38_code 151 = .ok (.iload_n 2, 1) := by decide +kernel
theorem d_R_power_152 : decode prog_9_method_38_code 152 = .ok (.imul, 1) := by decide +kernel
theorem d_R_power_153 : decode prog_9_method_38_code 153 = .ok (.iconst 4, 1) := by decide +kernel
theorem d_R_power_154 : decode prog_9_method_38_code 154 = .ok (.iadd, 1) := by decide +kernel
theorem d_R_power_155 : decode prog_9_method_38_code 155 = .ok (.iaload, 1) := by decide +kernel
theorem d_R_power_156 : decode prog_9_method_38_code 156 = .ok (.if_icmp .le 12, 3) := by decide +kernel
theorem d_R_power_159 : decode prog_9_method_38_code 159 = .ok (.aload_n 0, 1) := by decide +kernel
theorem d_R_power_160 : decode prog_9_method_38_code 160 = .ok (.iconst 3, 1) := by decide +kernel
theorem d_R_power_161 : decode prog_9_method_38_code 161 = .ok (.invokevirtual 154, 3) := by decide +kernel
theorem d_R_power_164 : decode prog_9_method_38_code 164 = .ok (.pop, 1) := by decide +kernel
theorem d_R_power_165 : decode prog_9_method_38_code 165 = .ok (.goto 32, 3) := by decide +kernel
theorem d_R_power_168 : decode prog_9_method_38_code 168 = .ok (.iload_n 1, 1) := by decide +kernel
theorem d_R_power_169 : decode prog_9_method_38_code 169 = .ok (.iconst 1, 1) := by decide +kernel
theorem d_R_power_170 : decode prog_9_method_38_code 170 = .ok (.if_icmp .eq 13, 3) := by decide +kernel
theorem d_R_power_173 : decode prog_9_method_38_code 173 = .ok (.iload_n 1, 1) := by decide +kernel
theorem d_R_power_174 : decode prog_9_method_38_code 174 = .ok (.iconst 2, 1) := by decide +kernel
theorem d_R_power_175 : decode prog_9_method_38_code 175 = .ok (.if_icmp .eq 8, 3) := by decide +kernel
theorem d_R_power_178 : decode prog_9_method_38_code 178 = .ok (.iload_n 1, 1) := by decide +kernel
theorem d_R_power_179 : decode prog_9_method_38_code 179 = .ok (.iconst 4, 1) := by decide +kernel
theorem d_R_power_180 : decode prog_9_method_38_code 180 = .ok (.if_icmp .ne 17, 3) := by decide +kernel
theorem d_R_power_183 : decode prog_9_method_38_code 183 = .ok (.aload_n 0, 1) := by decide +kernel
theorem d_R_power_184 : decode prog_9_method_38_code 184 = .ok (.iload_n 1, 1) := by decide +kernel
theorem d_R_power_185 : decode prog_9_method_38_code 185 = .ok (.iconst 4, 1) := by decide +kernel
theorem d_R_power_186 : decode prog_9_method_38_code 186 = .ok (.if_icmp .eq 7, 3) := by decide +kernel
theorem d_R_power_189 : decode prog_9_method_38_code 189 = .ok (.iconst 1, 1) := by decide +kernel
theorem d_R_power_190 : decode prog_9_method_38_code 190 = .ok (.goto 4, 3) := by decide +kernel
theorem d_R_power_193 : decode prog_9_method_38_code 193 = .ok (.iconst 0, 1) := by decide +kernel
theorem d_R_power_194 : decode prog_9_method_38_code 194 = .ok (.invokevirtual 183, 3) := by decide +kernel
theorem d_R_power_197 : decode prog_9_method_38_code 197 = .ok (.iconst 1, 1) := by decide +kernel
theorem d_R_power_198 : decode prog_9_method_38_code 198 = .ok (.ireturn, 1) := by decide +kernel
theorem d_R_cassette_0 : decode prog_9_method_39_code 0 = .ok (.iload_n 1, 1) := by decide +kernel
theorem d_R_cassette_1 : decode prog_9_method_39_code 1 = .ok (.ifCond .lt 8, 3) := by decide +kernel
theorem d_R_cassette_4 : decode prog_9_method_39_code 4 = .ok (.iload_n 1, 1) := by decide +kernel
theorem d_R_cassette_5 : decode prog_9_method_39_code 5 = .ok (.iconst 3, 1) := by decide +kernel
theorem d_R_cassette_6 : decode prog_9_method_39_code 6 = .ok (.if_icmp .le 5, 3) := by decide +kernel
theorem d_R_cassette_9 : decode prog_9_method_39_code 9 = .ok (.iconst (-1), 1) := by decide +kernel
theorem d_R_cassette_10 : decode prog_9_method_39_code 10 = .ok (.ireturn, 1) := by decide +kernel
theorem d_R_cassette_11 : decode prog_9_method_39_code 11 = .ok (.iload_n 2, 1) := by decide +kernel
theorem d_R_cassette_12 : decode prog_9_method_39_code 12 = .ok (.tableswitch 71 0 4 #[36, 43, 50, 57, 64], 36) := by decide +kernel
theorem d_R_cassette_48 : decode prog_9_method_39_code 48 = .ok (.aload_n 0, 1) := by decide +kernel
theorem d_R_cassette_49 : decode prog_9_method_39_code 49 = .ok (.getfield 39, 3) := by decide +kernel
theorem d_R_cassette_52 : decode prog_9_method_39_code 52 = .ok (.iload_n 1, 1) := by decide +kernel
theorem d_R_cassette_53 : decode prog_9_method_39_code 53 = .ok (.iaload, 1) := by decide +kernel
theorem d_R_cassette_54 : decode prog_9_method_39_code 54 = .ok (.ireturn, 1) := by decide +kernel
theorem d_R_cassette_55 : decode prog_9_method_39_code 55 = .ok (.aload_n 0, 1) := by decide +kernel
theorem d_R_cassette_56 : decode prog_9_method_39_code 56 = .ok (.getfield 42, 3) := by decide +kernel
theorem d_R_cassette_59 : decode prog_9_method_39_code 59 = .ok (.iload_n 1, 1) := by decide +kernel
theorem d_R_cassette_60 : decode prog_9_method_39_code 60 = .ok (.iaload, 1) := by decide +kernel
theorem d_R_cassette_61 : decode prog_9_method_39_code 61 = .ok (.ireturn, 1) := by decide +kernel
theorem d_R_cassette_62 : decode prog_9_method_39_code 62 = .ok (.aload_n 0, 1) := by decide +kernel
theorem d_R_cassette_63 : decode prog_9_method_39_code 63 = .ok (.getfield 45, 3) := by decide +kernel
theorem d_R_cassette_66 : decode prog_9_method_39_code 66 = .ok (.iload_n 1, 1) := by decide +kernel
theorem d_R_cassette_67 : decode prog_9_method_39_code 67 = .ok (.iaload, 1) := by decide +kernel
theorem d_R_cassette_68 : decode prog_9_method_39_code 68 = .ok (.ireturn, 1) := by decide +kernel
theorem d_R_cassette_69 : decode prog_9_method_39_code 69 = .ok (.aload_n 0, 1) := by decide +kernel
theorem d_R_cassette_70 : decode prog_9_method_39_code 70 = .ok (.getfield 48, 3) := by decide +kernel
theorem d_R_cassette_73 : decode prog_9_method_39_code 73 = .ok (.iload_n 1, 1) := by decide +kernel
theorem d_R_cassette_74 : decode prog_9_method_39_code 74 = .ok (.iaload, 1) := by decide +kernel
theorem d_R_cassette_75 : decode prog_9_method_39_code 75 = .ok (.ireturn, 1) := by decide +kernel
theorem d_R_cassette_76 : decode prog_9_method_39_code 76 = .ok (.aload_n 0, 1) := by decide +kernel
theorem d_R_cassette_77 : decode prog_9_method_39_code 77 = .ok (.getfield 51, 3) := by decide +kernel
theorem d_R_cassette_80 : decode prog_9_method_39_code 80 = .ok (.iload_n 1, 1) := by decide +kernel
theorem d_R_cassette_81 : decode prog_9_method_39_code 81 = .ok (.iaload, 1) := by decide +kernel
theorem d_R_cassette_82 : decode prog_9_method_39_code 82 = .ok (.ireturn, 1) := by decide +kernel
theorem d_R_cassette_83 : decode prog_9_method_39_code 83 = .ok (.iconst (-1), 1) := by decide +kernel
theorem d_R_cassette_84 : decode prog_9_method_39_code 84 = .ok (.ireturn, 1) := by decide +kernel
theorem d_R_mix_0 : decode prog_9_method_40_code 0 = .ok (.iload_n 2, 1) := by decide +kernel
theorem d_R_mix_1 : decode prog_9_method_40_code 1 = .ok (.ifCond .lt 27, 3) := by decide +kernel
theorem d_R_mix_4 : decode prog_9_method_40_code 4 = .ok (.iload_n 2, 1) := by decide +kernel
theorem d_R_mix_5 : decode prog_9_method_40_code 5 = .ok (.iconst 3, 1) := by decide +kernel
theorem d_R_mix_6 : decode prog_9_method_40_code 6 = .ok (.if_icmp .gt 22, 3) := by decide +kernel
theorem d_R_mix_9 : decode prog_9_method_40_code 9 = .ok (.iload_n 1, 1) := by decide +kernel
theorem d_R_mix_10 : decode prog_9_method_40_code 10 = .ok (.iconst 1, 1) := by decide +kernel
theorem d_R_mix_11 : decode prog_9_method_40_code 11 = .ok (.if_icmp .lt 17, 3) := by decide +kernel
theorem d_R_mix_14 : decode prog_9_method_40_code 14 = .ok (.iload_n 1, 1) := by decide +kernel
theorem d_R_mix_15 : decode prog_9_method_40_code 15 = .ok (.ldc 117, 2) := by decide +kernel
theorem d_R_mix_17 : decode prog_9_method_40_code 17 = .ok (.if_icmp .gt 11, 3) := by decide +kernel
theorem d_R_mix_20 : decode prog_9_method_40_code 20 = .ok (.aload_n 0, 1) := by decide +kernel
theorem d_R_mix_21 : decode prog_9_method_40_code 21 = .ok (.iload_n 1, 1) := by decide +kernel
theorem d_R_mix_22 : decode prog_9_method_40_code 22 = .ok (.invokevirtual 174, 3) := by decide +kernel
theorem d_R_mix_25 : decode prog_9_method_40_code 25 = .ok (.ifCond .ne 7, 3) := by decide +kernel
theorem d_R_mix_28 : decode prog_9_method_40_code 28 = .ok (.iconst (-1), 1) := by decide +kernel
theorem d_R_mix_29 : decode prog_9_method_40_code 29 = .ok (.goto 9, 3) := by decide +kernel
theorem d_R_mix_32 : decode prog_9_method_40_code 32 = .ok (.aload_n 0, 1) := by decide +kernel
theorem d_R_mix_33 : decode prog_9_method_40_code 33 = .ok (.getfield 83, 3) := by decide +kernel
theorem d_R_mix_36 : decode prog_9_method_40_code 36 = .ok (.iload_n 2, 1) := by decide +kernel
theorem d_R_mix_37 : decode prog_9_method_40_code 37 = .ok (.iaload, 1) := by decide +kernel
theorem d_R_mix_38 : decode prog_9_method_40_code 38 = .ok (.ireturn, 1) := by decide +kernel
theorem d_R_balance_0 : decode prog_9_method_41_code 0 = .ok (.iload_n 1, 1) := by decide +kernel
theorem d_R_balance_1 : decode prog_9_method_41_code 1 = .ok (.ifCond .lt 9, 3) := by decide +kernel
theorem d_R_balance_4 : decode prog_9_method_41_code 4 = .ok (.iload_n 1, 1) := by decide +kernel
theorem d_R_balance_5 : decode prog_9_method_41_code 5 = .ok (.bipush 7, 2) := by decide +kernel
theorem d_R_balance_7 : decode prog_9_method_41_code 7 = .ok (.if_icmp .le 9, 3) := by decide +kernel
theorem d_R_balance_10 : decode prog_9_method_41_code 10 = .ok (.ldc2_w 194, 3) := by decide +kernel
theorem d_R_balance_13 : decode prog_9_method_41_code 13 = .ok (.goto 9, 3) := by decide +kernel
theorem d_R_balance_16 : decode prog_9_method_41_code 16 = .ok (.aload_n 0, 1) := by decide +kernel
theorem d_R_balance_17 : decode prog_9_method_41_code 17 = .ok (.getfield 7, 3) := by decide +kernel
theorem d_R_balance_20 : decode prog_9_method_41_code 20 = .ok (.iload_n 1, 1) := by decide +kernel
theorem d_R_balance_21 : decode prog_9_method_41_code 21 = .ok (.laload, 1) := by decide +kernel
theorem d_R_balance_22 : decode prog_9_method_41_code 22 = .ok (.lreturn, 1) := by decide +kernel
theorem d_R_ofCard_0 : decode prog_9_method_42_code 0 = .ok (.iload_n 1, 1) := by decide +kernel
theorem d_R_ofCard_1 : decode prog_9_method_42_code 1 = .ok (.ifCond .lt 9, 3) := by decide +kernel
theorem d_R_ofCard_4 : decode prog_9_method_42_code 4 = .ok (.iload_n 1, 1) := by decide +kernel
theorem d_R_ofCard_5 : decode prog_9_method_42_code 5 = .ok (.bipush 15, 2) := by decide +kernel
theorem d_R_ofCard_7 : decode prog_9_method_42_code 7 = .ok (.if_icmp .le 5, 3) := by decide +kernel
theorem d_R_ofCard_10 : decode prog_9_method_42_code 10 = .ok (.iconst (-1), 1) := by decide +kernel
theorem d_R_ofCard_11 : decode prog_9_method_42_code 11 = .ok (.ireturn, 1) := by decide +kernel
theorem d_R_ofCard_12 : decode prog_9_method_42_code 12 = .ok (.iload_n 2, 1) := by decide +kernel
theorem d_R_ofCard_13 : decode prog_9_method_42_code 13 = .ok (.ifCond .ne 12, 3) := by decide +kernel
theorem d_R_ofCard_16 : decode prog_9_method_42_code 16 = .ok (.aload_n 0, 1) := by decide +kernel
theorem d_R_ofCard_17 : decode prog_9_method_42_code 17 = .ok (.getfield 20, 3) := by decide +kernel
theorem d_R_ofCard_20 : decode prog_9_method_42_code 20 = .ok (.iload_n 1, 1) := by decide +kernel
theorem d_R_ofCard_21 : decode prog_9_method_42_code 21 = .ok (.iaload, 1) := by decide +kernel
theorem d_R_ofCard_22 : decode prog_9_method_42_code 22 = .ok (.goto 40, 3) := by decide +kernel
theorem d_R_ofCard_25 : decode prog_9_method_42_code 25 = .ok (.iload_n 2, 1) := by decide +kernel
theorem d_R_ofCard_26 : decode prog_9_method_42_code 26 = .ok (.iconst 1, 1) := by decide +kernel
theorem d_R_ofCard_27 : decode prog_9_method_42_code 27 = .ok (.if_icmp .ne 20, 3) := by decide +kernel
theorem d_R_ofCard_30 : decode prog_9_method_42_code 30 = .ok (.aload_n 0, 1) := by decide +kernel
theorem d_R_ofCard_31 : decode prog_9_method_42_code 31 = .ok (.getfield 54, 3) := by decide +kernel
theorem d_R_ofCard_34 : decode prog_9_method_42_code 34 = .ok (.iload_n 1, 1) := by decide +kernel
theorem d_R_ofCard_35 : decode prog_9_method_42_code 35 = .ok (.baload, 1) := by decide +kernel
theorem d_R_ofCard_36 : decode prog_9_method_42_code 36 = .ok (.ifCond .eq 7, 3) := by decide +kernel
theorem d_R_ofCard_39 : decode prog_9_method_42_code 39 = .ok (.iconst 1, 1) := by decide +kernel
theorem d_R_ofCard_40 : decode prog_9_method_42_code 40 = .ok (.goto 22, 3) := by decide +kernel
theorem d_R_ofCard_43 : decode prog_9_method_42_code 43 = .ok (.iconst 0, 1) := by decide +kernel
theorem d_R_ofCard_44 : decode prog_9_method_42_code 44 = .ok (.goto 18, 3) := by decide +kernel
theorem d_R_ofCard_47 : decode prog_9_method_42_code 47 = .ok (.iload_n 2, 1) := by decide +kernel
theorem d_R_ofCard_48 : decode prog_9_method_42_code 48 = .ok (.iconst 2, 1) := by decide +kernel
theorem d_R_ofCard_49 : decode prog_9_method_42_code 49 = .ok (.if_icmp .ne 12, 3) := by decide +kernel
theorem d_R_ofCard_52 : decode prog_9_method_42_code 52 = .ok (.aload_n 0, 1) := by decide +kernel
theorem d_R_ofCard_53 : decode prog_9_method_42_code 53 = .ok (.getfield 13, 3) := by decide +kernel
theorem d_R_ofCard_56 : decode prog_9_method_42_code 56 = .ok (.iload_n 1, 1) := by decide +kernel
theorem d_R_ofCard_57 : decode prog_9_method_42_code 57 = .ok (.iaload, 1) := by decide +kernel
theorem d_R_ofCard_58 : decode prog_9_method_42_code 58 = .ok (.goto 4, 3) := by decide +kernel
theorem d_R_ofCard_61 : decode prog_9_method_42_code 61 = .ok (.iconst (-1), 1) := by decide +kernel
theorem d_R_ofCard_62 : decode prog_9_method_42_code 62 = .ok (.ireturn, 1) := by decide +kernel
theorem d_R_recordOf_0 : decode prog_9_method_43_code 0 = .ok (.iload_n 1, 1) := by decide +kernel
theorem d_R_recordOf_1 : decode prog_9_method_43_code 1 = .ok (.ifCond .lt 20, 3) := by decide +kernel
theorem d_R_recordOf_4 : decode prog_9_method_43_code 4 = .ok (.iload_n 1, 1) := by decide +kernel
theorem d_R_recordOf_5 : decode prog_9_method_43_code 5 = .ok (.aload_n 0, 1) := by decide +kernel
theorem d_R_recordOf_6 : decode prog_9_method_43_code 6 = .ok (.getfield 139, 3) := by decide +kernel
theorem d_R_recordOf_9 : decode prog_9_method_43_code 9 = .ok (.if_icmp .ge 12, 3) := by decide +kernel
theorem d_R_recordOf_12 : decode prog_9_method_43_code 12 = .ok (.iload_n 2, 1) := by decide +kernel
theorem d_R_recordOf_13 : decode prog_9_method_43_code 13 = .ok (.ifCond .lt 8, 3) := by decide +kernel
theorem d_R_recordOf_16 : decode prog_9_method_43_code 16 = .ok (.iload_n 2, 1) := by decide +kernel
theorem d_R_recordOf_17 : decode prog_9_method_43_code 17 = .ok (.iconst 3, 1) := by decide +kernel
theorem d_R_recordOf_18 : decode prog_9_method_43_code 18 = .ok (.if_icmp .le 7, 3) := by decide +kernel
theorem d_R_recordOf_21 : decode prog_9_method_43_code 21 = .ok (.iconst (-1), 1) := by decide +kernel
theorem d_R_recordOf_22 : decode prog_9_method_43_code 22 = .ok (.goto 13, 3) := by decide +kernel
theorem d_R_recordOf_25 : decode prog_9_method_43_code 25 = .ok (.aload_n 0, 1) := by decide +kernel
theorem d_R_recordOf_26 : decode prog_9_method_43_code 26 = .ok (.getfield 57, 3) := by decide +kernel
theorem d_R_recordOf_29 : decode prog_9_method_43_code 29 = .ok (.iconst 5, 1) := by decide +kernel
theorem d_R_recordOf_30 : decode prog_9_method_43_code 30 = .ok (.iload_n 1, 1) := by decide +kernel
theorem d_R_recordOf_31 : decode prog_9_method_43_code 31 = .ok (.imul, 1) := by decide +kernel
theorem d_R_recordOf_32 : decode prog_9_method_43_code 32 = .ok (.iload_n 2, 1) := by decide +kernel
theorem d_R_recordOf_33 : decode prog_9_method_43_code 33 = .ok (.iadd, 1) := by decide +kernel
theorem d_R_recordOf_34 : decode prog_9_method_43_code 34 = .ok (.iaload, 1) := by decide +kernel
theorem d_R_recordOf_35 : decode prog_9_method_43_code 35 = .ok (.ireturn, 1) := by decide +kernel
theorem d_R_count_0 : decode prog_9_method_44_code 0 = .ok (.iload_n 1, 1) := by decide +kernel
theorem d_R_count_1 : decode prog_9_method_44_code 1 = .ok (.tableswitch 143 0 10 #[59, 72, 91, 97, 103, 109, 115, 121, 127, 133, 138], 59) := by decide +kernel
theorem d_R_count_60 : decode prog_9_method_44_code 60 = .ok (.aload_n 0, 1) := by decide +kernel
theorem d_R_count_61 : decode prog_9_method_44_code 61 = .ok (.getfield 64, 3) := by decide +kernel
theorem d_R_count_64 : decode prog_9_method_44_code 64 = .ok (.ifCond .eq 7, 3) := by decide +kernel
theorem d_R_count_67 : decode prog_9_method_44_code 67 = .ok (.lconst 1, 1) := by decide +kernel
theorem d_R_count_68 : decode prog_9_method_44_code 68 = .ok (.goto 4, 3) := by decide +kernel
theorem d_R_count_71 : decode prog_9_method_44_code 71 = .ok (.lconst 0, 1) := by decide +kernel
theorem d_R_count_72 : decode prog_9_method_44_code 72 = .ok (.lreturn, 1) := by decide +kernel
theorem d_R_count_73 : decode prog_9_method_44_code 73 = .ok (.aload_n 0, 1) := by decide +kernel
theorem d_R_count_74 : decode prog_9_method_44_code 74 = .ok (.getfield 64, 3) := by decide +kernel
theorem d_R_count_77 : decode prog_9_method_44_code 77 = .ok (.ifCond .eq 11, 3) := by decide +kernel
theorem d_R_count_80 : decode prog_9_method_44_code 80 = .ok (.aload_n 0, 1) := by decide +kernel
theorem d_R_count_81 : decode prog_9_method_44_code 81 = .ok (.getfield 168, 3) := by decide +kernel
theorem d_R_count_84 : decode prog_9_method_44_code 84 = .ok (.i2l, 1) := by decide +kernel
theorem d_R_count_85 : decode prog_9_method_44_code 85 = .ok (.goto 6, 3) := by decide +kernel
theorem d_R_count_88 : decode prog_9_method_44_code 88 = .ok (.ldc2_w 194, 3) := by decide +kernel
theorem d_R_count_91 : decode prog_9_method_44_code 91 = .ok (.lreturn, 1) := by decide +kernel
theorem d_R_count_92 : decode prog_9_method_44_code 92 = .ok (.aload_n 0, 1) := by decide +kernel
theorem d_R_count_93 : decode prog_9_method_44_code 93 = .ok (.getfield 71, 3) := by decide +kernel
theorem d_R_count_96 : decode prog_9_method_44_code 96 = .ok (.i2l, 1) := by decide +kernel
theorem d_R_count_97 : decode prog_9_method_44_code 97 = .ok (.lreturn, 1) := by decide +kernel
theorem d_R_count_98 : decode prog_9_method_44_code 98 = .ok (.aload_n 0, 1) := by decide +kernel
theorem d_R_count_99 : decode prog_9_method_44_code 99 = .ok (.getfield 139, 3) := by decide +kernel
theorem d_R_count_102 : decode prog_9_method_44_code 102 = .ok (.i2l, 1) := by decide +kernel
theorem d_R_count_103 : decode prog_9_method_44_code 103 = .ok (.lreturn, 1) := by decide +kernel
theorem d_R_count_104 : decode prog_9_method_44_code 104 = .ok (.aload_n 0, 1) := by decide +kernel
theorem d_R_count_105 : decode prog_9_method_44_code 105 = .ok (.getfield 60, 3) := by decide +kernel
theorem d_R_count_108 : decode prog_9_method_44_code 108 = .ok (.i2l, 1) := by decide +kernel
theorem d_R_count_109 : decode prog_9_method_44_code 109 = .ok (.lreturn, 1) := by decide +kernel
theorem d_R_count_110 : decode prog_9_method_44_code 110 = .ok (.aload_n 0, 1) := by decide +kernel
theorem d_R_count_111 : decode prog_9_method_44_code 111 = .ok (.getfield 151, 3) := by decide +kernel
theorem d_R_count_114 : decode prog_9_method_44_code 114 = .ok (.i2l, 1) := by decide +kernel
theorem d_R_count_115 : decode prog_9_method_44_code 115 = .ok (.lreturn, 1) := by decide +kernel
theorem d_R_count_116 : decode prog_9_method_44_code 116 = .ok (.aload_n 0, 1) := by decide +kernel
theorem d_R_count_117 : decode prog_9_method_44_code 117 = .ok (.getfield 89, 3) := by decide +kernel
theorem d_R_count_120 : decode prog_9_method_44_code 120 = .ok (.i2l, 1) := by decide +kernel
theorem d_R_count_121 : decode prog_9_method_44_code 121 = .ok (.lreturn, 1) := by decide +kernel
theorem d_R_count_122 : decode prog_9_method_44_code 122 = .ok (.aload_n 0, 1) := by decide +kernel
theorem d_R_count_123 : decode prog_9_method_44_code 123 = .ok (.getfield 110, 3) := by decide +kernel
theorem d_R_count_126 : decode prog_9_method_44_code 126 = .ok (.i2l, 1) := by decide +kernel
theorem d_R_count_127 : decode prog_9_method_44_code 127 = .ok (.lreturn, 1) := by decide +kernel
theorem d_R_count_128 : decode prog_9_method_44_code 128 = .ok (.aload_n 0, 1) := by decide +kernel
theorem d_R_count_129 : decode prog_9_method_44_code 129 = .ok (.getfield 96, 3) := by decide +kernel
theorem d_R_count_132 : decode prog_9_method_44_code 132 = .ok (.i2l, 1) := by decide +kernel
theorem d_R_count_133 : decode prog_9_method_44_code 133 = .ok (.lreturn, 1) := by decide +kernel
theorem d_R_count_134 : decode prog_9_method_44_code 134 = .ok (.aload_n 0, 1) := by decide +kernel
theorem d_R_count_135 : decode prog_9_method_44_code 135 = .ok (.getfield 132, 3) := by decide +kernel
theorem d_R_count_138 : decode prog_9_method_44_code 138 = .ok (.lreturn, 1) := by decide +kernel
theorem d_R_count_139 : decode prog_9_method_44_code 139 = .ok (.aload_n 0, 1) := by decide +kernel
theorem d_R_count_140 : decode prog_9_method_44_code 140 = .ok (.getfield 180, 3) := by decide +kernel
theorem d_R_count_143 : decode prog_9_method_44_code 143 = .ok (.lreturn, 1) := by decide +kernel
theorem d_R_count_144 : decode prog_9_method_44_code 144 = .ok (.ldc2_w 194, 3) := by decide +kernel
theorem d_R_count_147 : decode prog_9_method_44_code 147 = .ok (.lreturn, 1) := by decide +kernel
end
section
def f_A_isWithin (g : Nat) (S : Mem) (x0 : Int64) (x2 : Int64) (x4 : Int64) : Option (Int32 × Mem) := if (lg_cmp x0 x2) < 0 then (some ((0 : Int32), S)) else (if 0 < (lg_cmp x0 x4) then (some ((0 : Int32), S)) else (some ((1 : Int32), S)))
set_option maxRecDepth 100000 in
set_option maxHeartbeats 4000000 in
theorem c_A_isWithin {l : Launch} {D : va_G} {cI cJ cZ cL : ClassId} {a : Nat → Nat} (g : Nat) (S : Mem) (x0 : Int64) (x2 : Int64) (x4 : Int64) {r : Int32} {S9 : Mem} (h : f_A_isWithin g S x0 x2 x4 = some (r, S9)) : Ctr l y_A_isWithin prog_1_method_26_code 6 (some .boolean) rm_A_isWithin D (tyT cI cJ cZ cL) (wdC cI cJ cZ cL a) [.long x0, .long x2, .long x4] S (vI r, S9) := by
  refine Ctr.of (lv0 := [(0, .long x0), (2, .long x2), (4, .long x4)]) (vv := vI) (by decide) rfl (wdC_fst cI cJ cZ cL a) (Nat.le_of_ble_eq_true rfl) rfl (fun p e s m args below meth c A C => ?_) r S9 h
  unfold f_A_isWithin
  refine j_lload_n C 0 rfl rfl d_A_isWithin_0 ?_
  refine j_lload_n C 1 rfl rfl d_A_isWithin_1 ?_
  refine j_lcmp C d_A_isWithin_2 ?_
  refine j_if_lt (tgt := 17) C d_A_isWithin_3 (by decide) (fun h21 => ?_) (fun h21 => ?_)
  · refine j_iconst (v := 0) C (by decide) d_A_isWithin_17 ?_
    exact j_zret C (Or.inl rfl) rfl rfl d_A_isWithin_18
  · refine j_lload_n C 0 rfl rfl d_A_isWithin_6 ?_
    refine j_lload C 2 rfl d_A_isWithin_7 ?_
    refine j_lcmp C d_A_isWithin_9 ?_
    refine j_if_gt (tgt := 17) C d_A_isWithin_10 (by decide) (fun h22 => ?_) (fun h22 => ?_)
    · refine j_iconst (v := 0) C (by decide) d_A_isWithin_17 ?_
      exact j_zret C (Or.inl rfl) rfl rfl d_A_isWithin_18
    · refine j_iconst (v := 1) C (by decide) d_A_isWithin_13 ?_
      refine j_goto (tgt := 18) C d_A_isWithin_14 (by decide) ?_
      exact j_zret C (Or.inr rfl) rfl rfl d_A_isWithin_18
def f_H_isAccount (g : Nat) (S : Mem) (x0 : Int32) : Option (Int32 × Mem) := bnd (f_A_isWithin g S x0.toInt64 (0 : Int64) (7 : Int64)) (fun r21 S22 => grd (r21 = 0 ∨ r21 = 1) (some (r21, S22)))
set_option maxRecDepth 100000 in
set_option maxHeartbeats 4000000 in
theorem c_H_isAccount {l : Launch} {D : va_G} {cI cJ cZ cL : ClassId} {a : Nat → Nat} (g : Nat) (S : Mem) (x0 : Int32) {r : Int32} {S9 : Mem} (h : f_H_isAccount g S x0 = some (r, S9)) : Ctr l y_H_isAccount prog_2_method_13_code 1 (some .boolean) rm_H_isAccount D (tyT cI cJ cZ cL) (wdC cI cJ cZ cL a) [.int x0] S (vI r, S9) := by
  refine Ctr.of (lv0 := [(0, .int x0)]) (vv := vI) (by decide) rfl (wdC_fst cI cJ cZ cL a) (Nat.le_of_ble_eq_true rfl) rfl (fun p e s m args below meth c A C => ?_) r S9 h
  unfold f_H_isAccount
  refine j_iload_n C 0 rfl rfl d_H_isAccount_0 ?_
  refine j_i2l C d_H_isAccount_1 ?_
  refine j_lconst (v := 0) C rfl d_H_isAccount_2 ?_
  refine j_ldc2 (v := 7) C u_264 d_H_isAccount_3 ?_
  refine j_bnd (fun r21 S22 e23 => ?_)
  refine j_callSNi (As := [.long x0.toInt64, .long (0 : Int64), .long (7 : Int64)]) (rest := []) C Y_A_isWithin n_265 (c_A_isWithin g S x0.toInt64 (0 : Int64) (7 : Int64) e23) rfl rfl ⟨by decide, by decide⟩ rfl rfl (Nat.le_of_ble_eq_true rfl) d_H_isAccount_6 ?_
  refine j_grd (fun h24 => ?_)
  exact j_zret C h24 rfl rfl d_H_isAccount_9
def f_H_setBalance (g : Nat) (S : Mem) (x1 : Int32) (x2 : Int64) : Option (Int32 × Mem) := bnd (f_H_isAccount g S x1) (fun r21 S22 => if r21 = 0 then (some ((0 : Int32), S22)) else (bnd (f_A_isWithin g S22 x2 (0 : Int64) (1000000000 : Int64)) (fun r25 S26 => if r25 = 0 then (some ((0 : Int32), S26)) else (grd (¬ (x1 < 0 ∨ 8 ≤ x1.toNatClampNeg)) (lt (sL S26 0 x1.toNatClampNeg x2) (fun S30 => some ((1 : Int32), S30)))))))
set_option maxRecDepth 100000 in
set_option maxHeartbeats 4000000 in
theorem c_H_setBalance {l : Launch} {D : va_G} {cI cJ cZ cL : ClassId} {a : Nat → Nat} (g : Nat) (S : Mem) (x1 : Int32) (x2 : Int64) {r : Int32} {S9 : Mem} (h : f_H_setBalance g S x1 x2 = some (r, S9)) : Ctr l y_H_setBalance prog_2_method_2_code 4 (some .boolean) rm_H_setBalance D (tyT cI cJ cZ cL) (wdC cI cJ cZ cL a) [.ref (a 2), .int x1, .long x2] S (vI r, S9) := by
  refine Ctr.of (lv0 := [(0, .ref (a 2)), (1, .int x1), (2, .long x2)]) (vv := vI) (by decide) rfl (wdC_fst cI cJ cZ cL a) (Nat.le_of_ble_eq_true rfl) rfl (fun p e s m args below meth c A C => ?_) r S9 h
  unfold f_H_setBalance
  refine j_iload_n C 1 rfl rfl d_H_setBalance_0 ?_
  refine j_bnd (fun r21 S22 e23 => ?_)
  refine j_callSi (As := [.int x1]) (rest := []) C Y_H_isAccount u_261 (c_H_isAccount g S x1 e23) rfl rfl ⟨by decide, by decide⟩ rfl rfl (Nat.le_of_ble_eq_true rfl) d_H_setBalance_1 ?_
  refine j_if_eq (tgt := 18) C d_H_setBalance_4 (by decide) (fun h24 => ?_) (fun h24 => ?_)
  · refine j_iconst (v := 0) C (by decide) d_H_setBalance_18 ?_
    exact j_zret C (Or.inl rfl) rfl rfl d_H_setBalance_19
  · refine j_lload_n C 2 rfl rfl d_H_setBalance_7 ?_
    refine j_lconst (v := 0) C rfl d_H_setBalance_8 ?_
    refine j_ldc2 (v := 1000000000) C u_268 d_H_setBalance_9 ?_
    refine j_bnd (fun r25 S26 e27 => ?_)
    refine j_callSNi (As := [.long x2, .long (0 : Int64), .long (1000000000 : Int64)]) (rest := []) C Y_A_isWithin n_265 (c_A_isWithin g S22 x2 (0 : Int64) (1000000000 : Int64) e27) rfl rfl ⟨by decide, by decide⟩ rfl rfl (Nat.le_of_ble_eq_true rfl) d_H_setBalance_12 ?_
    refine j_if_ne (tgt := 20) C d_H_setBalance_15 (by decide) (fun h28 => ?_) (fun h28 => ?_)
    · refine j_iconst (v := 0) C (by decide) d_H_setBalance_18 ?_
      exact j_zret C (Or.inl rfl) rfl rfl d_H_setBalance_19
    · refine j_aload_n C 0 rfl rfl d_H_setBalance_20 ?_
      refine gC_H_balances C u_66 d_H_setBalance_21 ?_
      refine j_iload_n C 1 rfl rfl d_H_setBalance_24 ?_
      refine j_lload_n C 2 rfl rfl d_H_setBalance_25 ?_
      refine j_grd (fun h29 => ?_)
      refine sC_H_balances C h29 d_H_setBalance_26 ?_
      refine j_ltS (fun S30 => ?_)
      refine j_iconst (v := 1) C (by decide) d_H_setBalance_27 ?_
      exact j_zret C (Or.inr rfl) rfl rfl d_H_setBalance_28
def f_A_account (g : Nat) (S : Mem) (x1 : Int32) (x2 : Int64) : Option (Int32 × Mem) := bnd (f_H_setBalance g S x1 x2) (fun r21 S22 => grd (r21 = 0 ∨ r21 = 1) (some (r21, S22)))
set_option maxRecDepth 100000 in
set_option maxHeartbeats 4000000 in
theorem c_A_account {l : Launch} {D : va_G} {cI cJ cZ cL : ClassId} {a : Nat → Nat} (g : Nat) (S : Mem) (x1 : Int32) (x2 : Int64) {r : Int32} {S9 : Mem} (h : f_A_account g S x1 x2 = some (r, S9)) : Ctr l y_A_account prog_1_method_2_code 4 (some .boolean) rm_A_account D (tyT cI cJ cZ cL) (wdC cI cJ cZ cL a) [.ref (a 0), .int x1, .long x2] S (vI r, S9) := by
  refine Ctr.of (lv0 := [(0, .ref (a 0)), (1, .int x1), (2, .long x2)]) (vv := vI) (by decide) rfl (wdC_fst cI cJ cZ cL a) (Nat.le_of_ble_eq_true rfl) rfl (fun p e s m args below meth c A C => ?_) r S9 h
  unfold f_A_account
  refine j_aload_n C 0 rfl rfl d_A_account_0 ?_
  refine gC_A_host C u_241 d_A_account_1 ?_
  refine j_iload_n C 1 rfl rfl d_A_account_4 ?_
  refine j_lload_n C 2 rfl rfl d_A_account_5 ?_
  refine j_bnd (fun r21 S22 e23 => ?_)
  refine j_callVi (As := [.int x1, .long x2]) (rest := []) C 2 0 Y_H_setBalance u_257 (c_H_setBalance g S x1 x2 e23) rfl rfl ⟨by decide, by decide⟩ rfl rfl rfl rfl (Nat.le_of_ble_eq_true rfl) d_A_account_6 ?_
  refine j_grd (fun h24 => ?_)
  exact j_zret C h24 rfl rfl d_A_account_9
def f_A_isCard (g : Nat) (S : Mem) (x0 : Int32) : Option (Int32 × Mem) := bnd (f_A_isWithin g S x0.toInt64 (0 : Int64) (15 : Int64)) (fun r21 S22 => grd (r21 = 0 ∨ r21 = 1) (some (r21, S22)))
set_option maxRecDepth 100000 in
set_option maxHeartbeats 4000000 in
theorem c_A_isCard {l : Launch} {D : va_G} {cI cJ cZ cL : ClassId} {a : Nat → Nat} (g : Nat) (S : Mem) (x0 : Int32) {r : Int32} {S9 : Mem} (h : f_A_isCard g S x0 = some (r, S9)) : Ctr l y_A_isCard prog_1_method_27_code 1 (some .boolean) rm_A_isCard D (tyT cI cJ cZ cL) (wdC cI cJ cZ cL a) [.int x0] S (vI r, S9) := by
  refine Ctr.of (lv0 := [(0, .int x0)]) (vv := vI) (by decide) rfl (wdC_fst cI cJ cZ cL a) (Nat.le_of_ble_eq_true rfl) rfl (fun p e s m args below meth c A C => ?_) r S9 h
  unfold f_A_isCard
  refine j_iload_n C 0 rfl rfl d_A_isCard_0 ?_
  refine j_i2l C d_A_isCard_1 ?_
  refine j_lconst (v := 0) C rfl d_A_isCard_2 ?_
  refine j_ldc2 (v := 15) C u_280 d_A_isCard_3 ?_
  refine j_bnd (fun r21 S22 e23 => ?_)
  refine j_callSi (As := [.long x0.toInt64, .long (0 : Int64), .long (15 : Int64)]) (rest := []) C Y_A_isWithin u_281 (c_A_isWithin g S x0.toInt64 (0 : Int64) (15 : Int64) e23) rfl rfl ⟨by decide, by decide⟩ rfl rfl (Nat.le_of_ble_eq_true rfl) d_A_isCard_6 ?_
  refine j_grd (fun h24 => ?_)
  exact j_zret C h24 rfl rfl d_A_isCard_9
def f_A_isPin (g : Nat) (S : Mem) (x0 : Int64) : Option (Int32 × Mem) := bnd (f_A_isWithin g S x0 (0 : Int64) (9999 : Int64)) (fun r21 S22 => grd (r21 = 0 ∨ r21 = 1) (some (r21, S22)))
set_option maxRecDepth 100000 in
set_option maxHeartbeats 4000000 in
theorem c_A_isPin {l : Launch} {D : va_G} {cI cJ cZ cL : ClassId} {a : Nat → Nat} (g : Nat) (S : Mem) (x0 : Int64) {r : Int32} {S9 : Mem} (h : f_A_isPin g S x0 = some (r, S9)) : Ctr l y_A_isPin prog_1_method_28_code 2 (some .boolean) rm_A_isPin D (tyT cI cJ cZ cL) (wdC cI cJ cZ cL a) [.long x0] S (vI r, S9) := by
  refine Ctr.of (lv0 := [(0, .long x0)]) (vv := vI) (by decide) rfl (wdC_fst cI cJ cZ cL a) (Nat.le_of_ble_eq_true rfl) rfl (fun p e s m args below meth c A C => ?_) r S9 h
  unfold f_A_isPin
  refine j_lload_n C 0 rfl rfl d_A_isPin_0 ?_
  refine j_lconst (v := 0) C rfl d_A_isPin_1 ?_
  refine j_ldc2 (v := 9999) C u_285 d_A_isPin_2 ?_
  refine j_bnd (fun r21 S22 e23 => ?_)
  refine j_callSi (As := [.long x0, .long (0 : Int64), .long (9999 : Int64)]) (rest := []) C Y_A_isWithin u_281 (c_A_isWithin g S x0 (0 : Int64) (9999 : Int64) e23) rfl rfl ⟨by decide, by decide⟩ rfl rfl (Nat.le_of_ble_eq_true rfl) d_A_isPin_5 ?_
  refine j_grd (fun h24 => ?_)
  exact j_zret C h24 rfl rfl d_A_isPin_8
def f_H_tellCard (g : Nat) (S : Mem) (x1 : Int32) (x2 : Int32) (x3 : Int32) : Option (Int32 × Mem) := bnd (f_A_isCard g S x1) (fun r21 S22 => if r21 = 0 then (some ((0 : Int32), S22)) else (bnd (f_H_isAccount g S22 x2) (fun r25 S26 => if r25 = 0 then (some ((0 : Int32), S26)) else (bnd (f_A_isPin g S26 x3.toInt64) (fun r29 S30 => if r29 = 0 then (some ((0 : Int32), S30)) else (grd (¬ (x1 < 0 ∨ 16 ≤ x1.toNatClampNeg)) (lt (sI S30 2 x1.toNatClampNeg x2) (fun S34 => grd (¬ (x1 < 0 ∨ 16 ≤ x1.toNatClampNeg)) (lt (sI S34 3 x1.toNatClampNeg x3) (fun S36 => grd (¬ (x1 < 0 ∨ 16 ≤ x1.toNatClampNeg)) (lt (sI S36 4 x1.toNatClampNeg (0 : Int32)) (fun S38 => some ((1 : Int32), S38)))))))))))))
set_option maxRecDepth 100000 in
set_option maxHeartbeats 4000000 in
theorem c_H_tellCard {l : Launch} {D : va_G} {cI cJ cZ cL : ClassId} {a : Nat → Nat} (g : Nat) (S : Mem) (x1 : Int32) (x2 : Int32) (x3 : Int32) {r : Int32} {S9 : Mem} (h : f_H_tellCard g S x1 x2 x3 = some (r, S9)) : Ctr l y_H_tellCard prog_2_method_3_code 4 (some .boolean) rm_H_tellCard D (tyT cI cJ cZ cL) (wdC cI cJ cZ cL a) [.ref (a 2), .int x1, .int x2, .int x3] S (vI r, S9) := by
  refine Ctr.of (lv0 := [(0, .ref (a 2)), (1, .int x1), (2, .int x2), (3, .int x3)]) (vv := vI) (by decide) rfl (wdC_fst cI cJ cZ cL a) (Nat.le_of_ble_eq_true rfl) rfl (fun p e s m args below meth c A C => ?_) r S9 h
  unfold f_H_tellCard
  refine j_iload_n C 1 rfl rfl d_H_tellCard_0 ?_
  refine j_bnd (fun r21 S22 e23 => ?_)
  refine j_callSNi (As := [.int x1]) (rest := []) C Y_A_isCard n_277 (c_A_isCard g S x1 e23) rfl rfl ⟨by decide, by decide⟩ rfl rfl (Nat.le_of_ble_eq_true rfl) d_H_tellCard_1 ?_
  refine j_if_eq (tgt := 22) C d_H_tellCard_4 (by decide) (fun h24 => ?_) (fun h24 => ?_)
  · refine j_iconst (v := 0) C (by decide) d_H_tellCard_22 ?_
    exact j_zret C (Or.inl rfl) rfl rfl d_H_tellCard_23
  · refine j_iload_n C 2 rfl rfl d_H_tellCard_7 ?_
    refine j_bnd (fun r25 S26 e27 => ?_)
    refine j_callSi (As := [.int x2]) (rest := []) C Y_H_isAccount u_261 (c_H_isAccount g S22 x2 e27) rfl rfl ⟨by decide, by decide⟩ rfl rfl (Nat.le_of_ble_eq_true rfl) d_H_tellCard_8 ?_
    refine j_if_eq (tgt := 22) C d_H_tellCard_11 (by decide) (fun h28 => ?_) (fun h28 => ?_)
    · refine j_iconst (v := 0) C (by decide) d_H_tellCard_22 ?_
      exact j_zret C (Or.inl rfl) rfl rfl d_H_tellCard_23
    · refine j_iload_n C 3 rfl rfl d_H_tellCard_14 ?_
      refine j_i2l C d_H_tellCard_15 ?_
      refine j_bnd (fun r29 S30 e31 => ?_)
      refine j_callSNi (As := [.long x3.toInt64]) (rest := []) C Y_A_isPin n_282 (c_A_isPin g S26 x3.toInt64 e31) rfl rfl ⟨by decide, by decide⟩ rfl rfl (Nat.le_of_ble_eq_true rfl) d_H_tellCard_16 ?_
      refine j_if_ne (tgt := 24) C d_H_tellCard_19 (by decide) (fun h32 => ?_) (fun h32 => ?_)
      · refine j_iconst (v := 0) C (by decide) d_H_tellCard_22 ?_
        exact j_zret C (Or.inl rfl) rfl rfl d_H_tellCard_23
      · refine j_aload_n C 0 rfl rfl d_H_tellCard_24 ?_
        refine gC_H_accountOfCard C u_67 d_H_tellCard_25 ?_
        refine j_iload_n C 1 rfl rfl d_H_tellCard_28 ?_
        refine j_iload_n C 2 rfl rfl d_H_tellCard_29 ?_
        refine j_grd (fun h33 => ?_)
        refine sC_H_accountOfCard C h33 d_H_tellCard_30 ?_
        refine j_ltS (fun S34 => ?_)
        refine j_aload_n C 0 rfl rfl d_H_tellCard_31 ?_
        refine gC_H_pinOfCard C u_68 d_H_tellCard_32 ?_
        refine j_iload_n C 1 rfl rfl d_H_tellCard_35 ?_
        refine j_iload_n C 3 rfl rfl d_H_tellCard_36 ?_
        refine j_grd (fun h35 => ?_)
        refine sC_H_pinOfCard C h35 d_H_tellCard_37 ?_
        refine j_ltS (fun S36 => ?_)
        refine j_aload_n C 0 rfl rfl d_H_tellCard_38 ?_
        refine gC_H_triesOfCard C u_69 d_H_tellCard_39 ?_
        refine j_iload_n C 1 rfl rfl d_H_tellCard_42 ?_
        refine j_iconst (v := 0) C (by decide) d_H_tellCard_43 ?_
        refine j_grd (fun h37 => ?_)
        refine sC_H_triesOfCard C h37 d_H_tellCard_44 ?_
        refine j_ltS (fun S38 => ?_)
        refine j_iconst (v := 1) C (by decide) d_H_tellCard_45 ?_
        exact j_zret C (Or.inr rfl) rfl rfl d_H_tellCard_46
def f_A_card (g : Nat) (S : Mem) (x1 : Int32) (x2 : Int32) (x3 : Int32) : Option (Int32 × Mem) := bnd (f_H_tellCard g S x1 x2 x3) (fun r21 S22 => grd (r21 = 0 ∨ r21 = 1) (some (r21, S22)))
set_option maxRecDepth 100000 in
set_option maxHeartbeats 4000000 in
theorem c_A_card {l : Launch} {D : va_G} {cI cJ cZ cL : ClassId} {a : Nat → Nat} (g : Nat) (S : Mem) (x1 : Int32) (x2 : Int32) (x3 : Int32) {r : Int32} {S9 : Mem} (h : f_A_card g S x1 x2 x3 = some (r, S9)) : Ctr l y_A_card prog_1_method_3_code 4 (some .boolean) rm_A_card D (tyT cI cJ cZ cL) (wdC cI cJ cZ cL a) [.ref (a 0), .int x1, .int x2, .int x3] S (vI r, S9) := by
  refine Ctr.of (lv0 := [(0, .ref (a 0)), (1, .int x1), (2, .int x2), (3, .int x3)]) (vv := vI) (by decide) rfl (wdC_fst cI cJ cZ cL a) (Nat.le_of_ble_eq_true rfl) rfl (fun p e s m args below meth c A C => ?_) r S9 h
  unfold f_A_card
  refine j_aload_n C 0 rfl rfl d_A_card_0 ?_
  refine gC_A_host C u_241 d_A_card_1 ?_
  refine j_iload_n C 1 rfl rfl d_A_card_4 ?_
  refine j_iload_n C 2 rfl rfl d_A_card_5 ?_
  refine j_iload_n C 3 rfl rfl d_A_card_6 ?_
  refine j_bnd (fun r21 S22 e23 => ?_)
  refine j_callVi (As := [.int x1, .int x2, .int x3]) (rest := []) C 2 0 Y_H_tellCard u_273 (c_H_tellCard g S x1 x2 x3 e23) rfl rfl ⟨by decide, by decide⟩ rfl rfl rfl rfl (Nat.le_of_ble_eq_true rfl) d_A_card_7 ?_
  refine j_grd (fun h24 => ?_)
  exact j_zret C h24 rfl rfl d_A_card_10
def f_O_isCassette (g : Nat) (S : Mem) (x0 : Int32) : Option (Int32 × Mem) := if x0 < 0 then (some ((0 : Int32), S)) else (if (4 : Int32) ≤ x0 then (some ((0 : Int32), S)) else (some ((1 : Int32), S)))
set_option maxRecDepth 100000 in
set_option maxHeartbeats 4000000 in
theorem c_O_isCassette {l : Launch} {D : va_G} {cI cJ cZ cL : ClassId} {a : Nat → Nat} (g : Nat) (S : Mem) (x0 : Int32) {r : Int32} {S9 : Mem} (h : f_O_isCassette g S x0 = some (r, S9)) : Ctr l y_O_isCassette prog_7_method_15_code 1 (some .boolean) rm_O_isCassette D (tyT cI cJ cZ cL) (wdC cI cJ cZ cL a) [.int x0] S (vI r, S9) := by
  refine Ctr.of (lv0 := [(0, .int x0)]) (vv := vI) (by decide) rfl (wdC_fst cI cJ cZ cL a) (Nat.le_of_ble_eq_true rfl) rfl (fun p e s m args below meth c A C => ?_) r S9 h
  unfold f_O_isCassette
  refine j_iload_n C 0 rfl rfl d_O_isCassette_0 ?_
  refine j_if_lt (tgt := 13) C d_O_isCassette_1 (by decide) (fun h21 => ?_) (fun h21 => ?_)
  · refine j_iconst (v := 0) C (by decide) d_O_isCassette_13 ?_
    exact j_zret C (Or.inl rfl) rfl rfl d_O_isCassette_14
  · refine j_iload_n C 0 rfl rfl d_O_isCassette_4 ?_
    refine j_iconst (v := 4) C (by decide) d_O_isCassette_5 ?_
    refine j_icmp_ge (tgt := 13) C d_O_isCassette_6 (by decide) (fun h22 => ?_) (fun h22 => ?_)
    · refine j_iconst (v := 0) C (by decide) d_O_isCassette_13 ?_
      exact j_zret C (Or.inl rfl) rfl rfl d_O_isCassette_14
    · refine j_iconst (v := 1) C (by decide) d_O_isCassette_9 ?_
      refine j_goto (tgt := 14) C d_O_isCassette_10 (by decide) ?_
      exact j_zret C (Or.inr rfl) rfl rfl d_O_isCassette_14
def f_O_fill (g : Nat) (S : Mem) (x1 : Int32) (x2 : Int32) (x3 : Int32) : Option (Int32 × Mem) := bnd (f_O_isCassette g S x1) (fun r21 S22 => if r21 = 0 then (some ((0 : Int32), S22)) else (bnd (f_A_isWithin g S22 x2.toInt64 (1 : Int64) (1000 : Int64)) (fun r25 S26 => if r25 = 0 then (some ((0 : Int32), S26)) else (bnd (f_A_isWithin g S26 x3.toInt64 (0 : Int64) (200 : Int64)) (fun r29 S30 => if r29 = 0 then (some ((0 : Int32), S30)) else (grd (¬ (x1 < 0 ∨ 4 ≤ x1.toNatClampNeg)) (lt (sI S30 22 x1.toNatClampNeg x2) (fun S34 => grd (¬ (x1 < 0 ∨ 4 ≤ x1.toNatClampNeg)) (lt (sI S34 23 x1.toNatClampNeg x3) (fun S36 => some ((1 : Int32), S36)))))))))))
set_option maxRecDepth 100000 in
set_option maxHeartbeats 4000000 in
theorem c_O_fill {l : Launch} {D : va_G} {cI cJ cZ cL : ClassId} {a : Nat → Nat} (g : Nat) (S : Mem) (x1 : Int32) (x2 : Int32) (x3 : Int32) {r : Int32} {S9 : Mem} (h : f_O_fill g S x1 x2 x3 = some (r, S9)) : Ctr l y_O_fill prog_7_method_2_code 4 (some .boolean) rm_O_fill D (tyT cI cJ cZ cL) (wdC cI cJ cZ cL a) [.ref (a 4), .int x1, .int x2, .int x3] S (vI r, S9) := by
  refine Ctr.of (lv0 := [(0, .ref (a 4)), (1, .int x1), (2, .int x2), (3, .int x3)]) (vv := vI) (by decide) rfl (wdC_fst cI cJ cZ cL a) (Nat.le_of_ble_eq_true rfl) rfl (fun p e s m args below meth c A C => ?_) r S9 h
  unfold f_O_fill
  refine j_iload_n C 1 rfl rfl d_O_fill_0 ?_
  refine j_bnd (fun r21 S22 e23 => ?_)
  refine j_callSi (As := [.int x1]) (rest := []) C Y_O_isCassette u_298 (c_O_isCassette g S x1 e23) rfl rfl ⟨by decide, by decide⟩ rfl rfl (Nat.le_of_ble_eq_true rfl) d_O_fill_1 ?_
  refine j_if_eq (tgt := 31) C d_O_fill_4 (by decide) (fun h24 => ?_) (fun h24 => ?_)
  · refine j_iconst (v := 0) C (by decide) d_O_fill_31 ?_
    exact j_zret C (Or.inl rfl) rfl rfl d_O_fill_32
  · refine j_iload_n C 2 rfl rfl d_O_fill_7 ?_
    refine j_i2l C d_O_fill_8 ?_
    refine j_lconst (v := 1) C rfl d_O_fill_9 ?_
    refine j_ldc2 (v := 1000) C u_301 d_O_fill_10 ?_
    refine j_bnd (fun r25 S26 e27 => ?_)
    refine j_callSNi (As := [.long x2.toInt64, .long (1 : Int64), .long (1000 : Int64)]) (rest := []) C Y_A_isWithin n_302 (c_A_isWithin g S22 x2.toInt64 (1 : Int64) (1000 : Int64) e27) rfl rfl ⟨by decide, by decide⟩ rfl rfl (Nat.le_of_ble_eq_true rfl) d_O_fill_13 ?_
    refine j_if_eq (tgt := 31) C d_O_fill_16 (by decide) (fun h28 => ?_) (fun h28 => ?_)
    · refine j_iconst (v := 0) C (by decide) d_O_fill_31 ?_
      exact j_zret C (Or.inl rfl) rfl rfl d_O_fill_32
    · refine j_iload_n C 3 rfl rfl d_O_fill_19 ?_
      refine j_i2l C d_O_fill_20 ?_
      refine j_lconst (v := 0) C rfl d_O_fill_21 ?_
      refine j_ldc2 (v := 200) C u_303 d_O_fill_22 ?_
      refine j_bnd (fun r29 S30 e31 => ?_)
      refine j_callSNi (As := [.long x3.toInt64, .long (0 : Int64), .long (200 : Int64)]) (rest := []) C Y_A_isWithin n_302 (c_A_isWithin g S26 x3.toInt64 (0 : Int64) (200 : Int64) e31) rfl rfl ⟨by decide, by decide⟩ rfl rfl (Nat.le_of_ble_eq_true rfl) d_O_fill_25 ?_
      refine j_if_ne (tgt := 33) C d_O_fill_28 (by decide) (fun h32 => ?_) (fun h32 => ?_)
      · refine j_iconst (v := 0) C (by decide) d_O_fill_31 ?_
        exact j_zret C (Or.inl rfl) rfl rfl d_O_fill_32
      · refine j_aload_n C 0 rfl rfl d_O_fill_33 ?_
        refine gC_O_denominations C u_123 d_O_fill_34 ?_
        refine j_iload_n C 1 rfl rfl d_O_fill_37 ?_
        refine j_iload_n C 2 rfl rfl d_O_fill_38 ?_
        refine j_grd (fun h33 => ?_)
        refine sC_O_denominations C h33 d_O_fill_39 ?_
        refine j_ltS (fun S34 => ?_)
        refine j_aload_n C 0 rfl rfl d_O_fill_40 ?_
        refine gC_O_inCassette C u_124 d_O_fill_41 ?_
        refine j_iload_n C 1 rfl rfl d_O_fill_44 ?_
        refine j_iload_n C 3 rfl rfl d_O_fill_45 ?_
        refine j_grd (fun h35 => ?_)
        refine sC_O_inCassette C h35 d_O_fill_46 ?_
        refine j_ltS (fun S36 => ?_)
        refine j_iconst (v := 1) C (by decide) d_O_fill_47 ?_
        exact j_zret C (Or.inr rfl) rfl rfl d_O_fill_48
def f_M_fillCassette (g : Nat) (S : Mem) (x1 : Int32) (x2 : Int32) (x3 : Int32) : Option (Int32 × Mem) := if (S.1 11 0) = 0 then (some ((0 : Int32), S)) else (if (S.1 13 0) = (4 : Int32) then (some ((0 : Int32), S)) else (bnd (f_O_fill g S x1 x2 x3) (fun r23 S24 => if r23 = 0 then (some ((0 : Int32), S24)) else (some ((1 : Int32), S24)))))
set_option maxRecDepth 100000 in
set_option maxHeartbeats 4000000 in
theorem c_M_fillCassette {l : Launch} {D : va_G} {cI cJ cZ cL : ClassId} {a : Nat → Nat} (g : Nat) (S : Mem) (x1 : Int32) (x2 : Int32) (x3 : Int32) {r : Int32} {S9 : Mem} (h : f_M_fillCassette g S x1 x2 x3 = some (r, S9)) : Ctr l y_M_fillCassette prog_6_method_2_code 4 (some .boolean) rm_M_fillCassette D (tyT cI cJ cZ cL) (wdC cI cJ cZ cL a) [.ref (a 3), .int x1, .int x2, .int x3] S (vI r, S9) := by
  refine Ctr.of (lv0 := [(0, .ref (a 3)), (1, .int x1), (2, .int x2), (3, .int x3)]) (vv := vI) (by decide) rfl (wdC_fst cI cJ cZ cL a) (Nat.le_of_ble_eq_true rfl) rfl (fun p e s m args below meth c A C => ?_) r S9 h
  unfold f_M_fillCassette
  refine j_aload_n C 0 rfl rfl d_M_fillCassette_0 ?_
  refine gC_M_on C u_189 d_M_fillCassette_1 ?_
  refine j_if_eq (tgt := 32) C d_M_fillCassette_4 (by decide) (fun h21 => ?_) (fun h21 => ?_)
  · refine j_iconst (v := 0) C (by decide) d_M_fillCassette_32 ?_
    exact j_zret C (Or.inl rfl) rfl rfl d_M_fillCassette_33
  · refine j_aload_n C 0 rfl rfl d_M_fillCassette_7 ?_
    refine gC_M_phase C u_192 d_M_fillCassette_8 ?_
    refine j_iconst (v := 4) C (by decide) d_M_fillCassette_11 ?_
    refine j_icmp_eq (tgt := 32) C d_M_fillCassette_12 (by decide) (fun h22 => ?_) (fun h22 => ?_)
    · refine j_iconst (v := 0) C (by decide) d_M_fillCassette_32 ?_
      exact j_zret C (Or.inl rfl) rfl rfl d_M_fillCassette_33
    · refine j_aload_n C 0 rfl rfl d_M_fillCassette_15 ?_
      refine gC_M_notes C u_184 d_M_fillCassette_16 ?_
      refine j_iload_n C 1 rfl rfl d_M_fillCassette_19 ?_
      refine j_iload_n C 2 rfl rfl d_M_fillCassette_20 ?_
      refine j_iload_n C 3 rfl rfl d_M_fillCassette_21 ?_
      refine j_bnd (fun r23 S24 e25 => ?_)
      refine j_callVi (As := [.int x1, .int x2, .int x3]) (rest := []) C 4 5 Y_O_fill u_294 (c_O_fill g S x1 x2 x3 e25) rfl rfl ⟨by decide, by decide⟩ rfl rfl rfl rfl (Nat.le_of_ble_eq_true rfl) d_M_fillCassette_22 ?_
      refine j_if_eq (tgt := 32) C d_M_fillCassette_25 (by decide) (fun h26 => ?_) (fun h26 => ?_)
      · refine j_iconst (v := 0) C (by decide) d_M_fillCassette_32 ?_
        exact j_zret C (Or.inl rfl) rfl rfl d_M_fillCassette_33
      · refine j_iconst (v := 1) C (by decide) d_M_fillCassette_28 ?_
        refine j_goto (tgt := 33) C d_M_fillCassette_29 (by decide) ?_
        exact j_zret C (Or.inr rfl) rfl rfl d_M_fillCassette_33
def f_A_load (g : Nat) (S : Mem) (x1 : Int32) (x2 : Int32) (x3 : Int32) : Option (Int32 × Mem) := bnd (f_M_fillCassette g S x1 x2 x3) (fun r21 S22 => grd (r21 = 0 ∨ r21 = 1) (some (r21, S22)))
set_option maxRecDepth 100000 in
set_option maxHeartbeats 4000000 in
theorem c_A_load {l : Launch} {D : va_G} {cI cJ cZ cL : ClassId} {a : Nat → Nat} (g : Nat) (S : Mem) (x1 : Int32) (x2 : Int32) (x3 : Int32) {r : Int32} {S9 : Mem} (h : f_A_load g S x1 x2 x3 = some (r, S9)) : Ctr l y_A_load prog_1_method_4_code 4 (some .boolean) rm_A_load D (tyT cI cJ cZ cL) (wdC cI cJ cZ cL a) [.ref (a 0), .int x1, .int x2, .int x3] S (vI r, S9) := by
  refine Ctr.of (lv0 := [(0, .ref (a 0)), (1, .int x1), (2, .int x2), (3, .int x3)]) (vv := vI) (by decide) rfl (wdC_fst cI cJ cZ cL a) (Nat.le_of_ble_eq_true rfl) rfl (fun p e s m args below meth c A C => ?_) r S9 h
  unfold f_A_load
  refine j_aload_n C 0 rfl rfl d_A_load_0 ?_
  refine gC_A_machine C u_242 d_A_load_1 ?_
  refine j_iload_n C 1 rfl rfl d_A_load_4 ?_
  refine j_iload_n C 2 rfl rfl d_A_load_5 ?_
  refine j_iload_n C 3 rfl rfl d_A_load_6 ?_
  refine j_bnd (fun r21 S22 e23 => ?_)
  refine j_callVi (As := [.int x1, .int x2, .int x3]) (rest := []) C 3 4 Y_M_fillCassette u_290 (c_M_fillCassette g S x1 x2 x3 e23) rfl rfl ⟨by decide, by decide⟩ rfl rfl rfl rfl (Nat.le_of_ble_eq_true rfl) d_A_load_7 ?_
  refine j_grd (fun h24 => ?_)
  exact j_zret C h24 rfl rfl d_A_load_10
def f_M_putCardIn (g : Nat) (S : Mem) (x1 : Int32) : Option (Int32 × Mem) := if (S.1 11 0) = 0 then (some ((0 : Int32), S)) else (if (S.1 13 0) = 0 then (bnd (f_A_isCard g S x1) (fun r23 S24 => if r23 = 0 then (some ((0 : Int32), S24)) else (grd (¬ (x1 < 0 ∨ 16 ≤ x1.toNatClampNeg)) (if (S24.1 10 x1.toNatClampNeg) = 0 then (lt (sI S24 14 0 x1) (fun S29 => lt (sI S29 13 0 (1 : Int32)) (fun S30 => some ((1 : Int32), S30)))) else (some ((0 : Int32), S24)))))) else (some ((0 : Int32), S)))
set_option maxRecDepth 100000 in
set_option maxHeartbeats 4000000 in
theorem c_M_putCardIn {l : Launch} {D : va_G} {cI cJ cZ cL : ClassId} {a : Nat → Nat} (g : Nat) (S : Mem) (x1 : Int32) {r : Int32} {S9 : Mem} (h : f_M_putCardIn g S x1 = some (r, S9)) : Ctr l y_M_putCardIn prog_6_method_3_code 2 (some .boolean) rm_M_putCardIn D (tyT cI cJ cZ cL) (wdC cI cJ cZ cL a) [.ref (a 3), .int x1] S (vI r, S9) := by
  refine Ctr.of (lv0 := [(0, .ref (a 3)), (1, .int x1)]) (vv := vI) (by decide) rfl (wdC_fst cI cJ cZ cL a) (Nat.le_of_ble_eq_true rfl) rfl (fun p e s m args below meth c A C => ?_) r S9 h
  unfold f_M_putCardIn
  refine j_aload_n C 0 rfl rfl d_M_putCardIn_0 ?_
  refine gC_M_on C u_189 d_M_putCardIn_1 ?_
  refine j_if_eq (tgt := 30) C d_M_putCardIn_4 (by decide) (fun h21 => ?_) (fun h21 => ?_)
  · refine j_iconst (v := 0) C (by decide) d_M_putCardIn_30 ?_
    exact j_zret C (Or.inl rfl) rfl rfl d_M_putCardIn_31
  · refine j_aload_n C 0 rfl rfl d_M_putCardIn_7 ?_
    refine gC_M_phase C u_192 d_M_putCardIn_8 ?_
    refine j_if_ne (tgt := 30) C d_M_putCardIn_11 (by decide) (fun h22 => ?_) (fun h22 => ?_)
    · refine j_iload_n C 1 rfl rfl d_M_putCardIn_14 ?_
      refine j_bnd (fun r23 S24 e25 => ?_)
      refine j_callSNi (As := [.int x1]) (rest := []) C Y_A_isCard n_312 (c_A_isCard g S x1 e25) rfl rfl ⟨by decide, by decide⟩ rfl rfl (Nat.le_of_ble_eq_true rfl) d_M_putCardIn_15 ?_
      refine j_if_eq (tgt := 30) C d_M_putCardIn_18 (by decide) (fun h26 => ?_) (fun h26 => ?_)
      · refine j_iconst (v := 0) C (by decide) d_M_putCardIn_30 ?_
        exact j_zret C (Or.inl rfl) rfl rfl d_M_putCardIn_31
      · refine j_aload_n C 0 rfl rfl d_M_putCardIn_21 ?_
        refine gC_M_kept C u_188 d_M_putCardIn_22 ?_
        refine j_iload_n C 1 rfl rfl d_M_putCardIn_25 ?_
        refine j_grd (fun h27 => ?_)
        refine lC_M_kept C h27 d_M_putCardIn_26 ?_
        refine j_if_eq (tgt := 32) C d_M_putCardIn_27 (by decide) (fun h28 => ?_) (fun h28 => ?_)
        · refine j_aload_n C 0 rfl rfl d_M_putCardIn_32 ?_
          refine j_iload_n C 1 rfl rfl d_M_putCardIn_33 ?_
          refine pC_M_slot C u_194 d_M_putCardIn_34 ?_
          refine j_ltS (fun S29 => ?_)
          refine j_aload_n C 0 rfl rfl d_M_putCardIn_37 ?_
          refine j_iconst (v := 1) C (by decide) d_M_putCardIn_38 ?_
          refine pC_M_phase C u_192 d_M_putCardIn_39 ?_
          refine j_ltS (fun S30 => ?_)
          refine j_iconst (v := 1) C (by decide) d_M_putCardIn_42 ?_
          exact j_zret C (Or.inr rfl) rfl rfl d_M_putCardIn_43
        · refine j_iconst (v := 0) C (by decide) d_M_putCardIn_30 ?_
          exact j_zret C (Or.inl rfl) rfl rfl d_M_putCardIn_31
    · refine j_iconst (v := 0) C (by decide) d_M_putCardIn_30 ?_
      exact j_zret C (Or.inl rfl) rfl rfl d_M_putCardIn_31
def f_A_insert (g : Nat) (S : Mem) (x1 : Int32) : Option (Int32 × Mem) := bnd (f_M_putCardIn g S x1) (fun r21 S22 => grd (r21 = 0 ∨ r21 = 1) (some (r21, S22)))
set_option maxRecDepth 100000 in
set_option maxHeartbeats 4000000 in
theorem c_A_insert {l : Launch} {D : va_G} {cI cJ cZ cL : ClassId} {a : Nat → Nat} (g : Nat) (S : Mem) (x1 : Int32) {r : Int32} {S9 : Mem} (h : f_A_insert g S x1 = some (r, S9)) : Ctr l y_A_insert prog_1_method_5_code 2 (some .boolean) rm_A_insert D (tyT cI cJ cZ cL) (wdC cI cJ cZ cL a) [.ref (a 0), .int x1] S (vI r, S9) := by
  refine Ctr.of (lv0 := [(0, .ref (a 0)), (1, .int x1)]) (vv := vI) (by decide) rfl (wdC_fst cI cJ cZ cL a) (Nat.le_of_ble_eq_true rfl) rfl (fun p e s m args below meth c A C => ?_) r S9 h
  unfold f_A_insert
  refine j_aload_n C 0 rfl rfl d_A_insert_0 ?_
  refine gC_A_machine C u_242 d_A_insert_1 ?_
  refine j_iload_n C 1 rfl rfl d_A_insert_4 ?_
  refine j_bnd (fun r21 S22 e23 => ?_)
  refine j_callVi (As := [.int x1]) (rest := []) C 3 4 Y_M_putCardIn u_308 (c_M_putCardIn g S x1 e23) rfl rfl ⟨by decide, by decide⟩ rfl rfl rfl rfl (Nat.le_of_ble_eq_true rfl) d_A_insert_5 ?_
  refine j_grd (fun h24 => ?_)
  exact j_zret C h24 rfl rfl d_A_insert_8
def f_M_takeTrace (g : Nat) (S : Mem) : Option (Unit × Mem) := lt (sI S 19 0 (S.1 15 0)) (fun S21 => lt (sI S21 20 0 (S21.1 14 0)) (fun S22 => lt (sI S22 15 0 ((S22.1 15 0) + (1 : Int32))) (fun S23 => some ((), S23))))
set_option maxRecDepth 100000 in
set_option maxHeartbeats 4000000 in
theorem c_M_takeTrace {l : Launch} {D : va_G} {cI cJ cZ cL : ClassId} {a : Nat → Nat} (g : Nat) (S : Mem) {r : Unit} {S9 : Mem} (h : f_M_takeTrace g S = some (r, S9)) : Ctr l y_M_takeTrace prog_6_method_20_code 1 none rm_M_takeTrace D (tyT cI cJ cZ cL) (wdC cI cJ cZ cL a) [.ref (a 3)] S (vV r, S9) := by
  refine Ctr.of (lv0 := [(0, .ref (a 3))]) (vv := vV) (by decide) rfl (wdC_fst cI cJ cZ cL a) (Nat.le_of_ble_eq_true rfl) rfl (fun p e s m args below meth c A C => ?_) r S9 h
  unfold f_M_takeTrace
  refine j_aload_n C 0 rfl rfl d_M_takeTrace_0 ?_
  refine j_aload_n C 0 rfl rfl d_M_takeTrace_1 ?_
  refine gC_M_nextTrace C u_196 d_M_takeTrace_2 ?_
  refine pC_M_traceAtHand C u_203 d_M_takeTrace_5 ?_
  refine j_ltS (fun S21 => ?_)
  refine j_aload_n C 0 rfl rfl d_M_takeTrace_8 ?_
  refine j_aload_n C 0 rfl rfl d_M_takeTrace_9 ?_
  refine gC_M_slot C u_194 d_M_takeTrace_10 ?_
  refine pC_M_cardAtHand C u_204 d_M_takeTrace_13 ?_
  refine j_ltS (fun S22 => ?_)
  refine j_aload_n C 0 rfl rfl d_M_takeTrace_16 ?_
  refine j_dup C rfl d_M_takeTrace_17 ?_
  refine gC_M_nextTrace C u_196 d_M_takeTrace_18 ?_
  refine j_iconst (v := 1) C (by decide) d_M_takeTrace_21 ?_
  refine j_iadd C d_M_takeTrace_22 ?_
  refine pC_M_nextTrace C u_196 d_M_takeTrace_23 ?_
  refine j_ltS (fun S23 => ?_)
  exact j_vret C rfl rfl d_M_takeTrace_26
def f_M_mayStep (g : Nat) (S : Mem) : Option (Int32 × Mem) := if (S.1 12 0) = 0 then (lt (sI S 11 0 (0 : Int32)) (fun S22 => grd ((S22.1 11 0) = 0 ∨ (S22.1 11 0) = 1) (some (S22.1 11 0, S22)))) else (if (S.1 12 0) ≤ 0 then (grd ((S.1 11 0) = 0 ∨ (S.1 11 0) = 1) (some (S.1 11 0, S))) else (lt (sI S 12 0 ((S.1 12 0) - (1 : Int32))) (fun S26 => grd ((S26.1 11 0) = 0 ∨ (S26.1 11 0) = 1) (some (S26.1 11 0, S26)))))
set_option maxRecDepth 100000 in
set_option maxHeartbeats 4000000 in
theorem c_M_mayStep {l : Launch} {D : va_G} {cI cJ cZ cL : ClassId} {a : Nat → Nat} (g : Nat) (S : Mem) {r : Int32} {S9 : Mem} (h : f_M_mayStep g S = some (r, S9)) : Ctr l y_M_mayStep prog_6_method_21_code 1 (some .boolean) rm_M_mayStep D (tyT cI cJ cZ cL) (wdC cI cJ cZ cL a) [.ref (a 3)] S (vI r, S9) := by
  refine Ctr.of (lv0 := [(0, .ref (a 3))]) (vv := vI) (by decide) rfl (wdC_fst cI cJ cZ cL a) (Nat.le_of_ble_eq_true rfl) rfl (fun p e s m args below meth c A C => ?_) r S9 h
  unfold f_M_mayStep
  refine j_aload_n C 0 rfl rfl d_M_mayStep_0 ?_
  refine gC_M_stepsLeft C u_191 d_M_mayStep_1 ?_
  refine j_if_ne (tgt := 15) C d_M_mayStep_4 (by decide) (fun h21 => ?_) (fun h21 => ?_)
  · refine j_aload_n C 0 rfl rfl d_M_mayStep_7 ?_
    refine j_iconst (v := 0) C (by decide) d_M_mayStep_8 ?_
    refine pC_M_on C (Or.inl rfl) u_189 d_M_mayStep_9 ?_
    refine j_ltS (fun S22 => ?_)
    refine j_goto (tgt := 32) C d_M_mayStep_12 (by decide) ?_
    refine j_aload_n C 0 rfl rfl d_M_mayStep_32 ?_
    refine gC_M_on C u_189 d_M_mayStep_33 ?_
    refine j_grd (fun h23 => ?_)
    exact j_zret C h23 rfl rfl d_M_mayStep_36
  · refine j_aload_n C 0 rfl rfl d_M_mayStep_15 ?_
    refine gC_M_stepsLeft C u_191 d_M_mayStep_16 ?_
    refine j_if_le (tgt := 32) C d_M_mayStep_19 (by decide) (fun h24 => ?_) (fun h24 => ?_)
    · refine j_aload_n C 0 rfl rfl d_M_mayStep_32 ?_
      refine gC_M_on C u_189 d_M_mayStep_33 ?_
      refine j_grd (fun h25 => ?_)
      exact j_zret C h25 rfl rfl d_M_mayStep_36
    · refine j_aload_n C 0 rfl rfl d_M_mayStep_22 ?_
      refine j_dup C rfl d_M_mayStep_23 ?_
      refine gC_M_stepsLeft C u_191 d_M_mayStep_24 ?_
      refine j_iconst (v := 1) C (by decide) d_M_mayStep_27 ?_
      refine j_isub C d_M_mayStep_28 ?_
      refine pC_M_stepsLeft C u_191 d_M_mayStep_29 ?_
      refine j_ltS (fun S26 => ?_)
      refine j_aload_n C 0 rfl rfl d_M_mayStep_32 ?_
      refine gC_M_on C u_189 d_M_mayStep_33 ?_
      refine j_grd (fun h27 => ?_)
      exact j_zret C h27 rfl rfl d_M_mayStep_36
def f_E_writeNumber_3 (g : Nat) (j0 : Nat) : Nat → Mem → Int32 → Int64 → Int32 → Option (Mem × (Unit))
  | 0, _, _, _, _ => none
  | n + 1, S, x1, x2, x4 => if (4 : Int32) ≤ x4 then (some (S, ())) else (if (13 : Int32) ≤ (x1 + x4) then (some (S, ())) else (grd (¬ ((x1 + x4) < 0 ∨ 13 ≤ (x1 + x4).toNatClampNeg)) (lt (sB S j0 ((x1 + x4).toNatClampNeg) (((x2 >>> (((24 : Int32) - ((8 : Int32) * x4)).toInt64 &&& 63)).toInt32) &&& (255 : Int32))) (fun S24 => lt (x4 + (1 : Int32)) (fun x25 => f_E_writeNumber_3 g j0 n S24 x1 x2 x25)))))
set_option maxRecDepth 100000 in
set_option maxHeartbeats 4000000 in
theorem lp_E_writeNumber_3 {l : Launch} {D : va_G} {cI cJ cZ cL : ClassId} {a : Nat → Nat} {p : Program} {e : Env} {s : State} {m : MethodId} {args : Array Value} {below : List Frame} {meth : Method} {c : Code} {A : Nat → Prop} (C : Cx p s m args meth c "AutoTeller$Letter" prog_4_method_11_code 5 none D (tyT cI cJ cZ cL) (wdC cI cJ cZ cL a) A) (g : Nat) (j0 : Nat) (hj0 : j0 < 25) {K : (Mem × (Unit)) → Option (Unit × Mem)} (hx : ∀ (S : Mem) (y : Unit), Tj p l e rm_E_writeNumber s m args below meth c D (wdC cI cJ cZ cL a) A 5 vV K (some (S, y)) S 48 [] []) : ∀ (n : Nat) (S : Mem) (x1 : Int32) (x2 : Int64) (x4 : Int32), Tj p l e rm_E_writeNumber s m args below meth c D (wdC cI cJ cZ cL a) A 5 vV K (f_E_writeNumber_3 g j0 n S x1 x2 x4) S 3 [(0, .ref (a (100 + j0))), (1, .int x1), (2, .long x2), (4, .int x4)] [] := by
  intro n
  induction n with
  | zero =>
    intro S x1 x2 x4
    exact j_none
  | succ n ih =>
    intro S x1 x2 x4
    rw [f_E_writeNumber_3]
    refine j_iload C 3 rfl d_E_writeNumber_3 ?_
    refine j_iconst (v := 4) C (by decide) d_E_writeNumber_5 ?_
    refine j_icmp_ge (tgt := 48) C d_E_writeNumber_6 (by decide) (fun h21 => ?_) (fun h21 => ?_)
    · refine j_sub [] rfl ?_
      exact hx S ()
    · refine j_iload_n C 1 rfl rfl d_E_writeNumber_9 ?_
      refine j_iload C 3 rfl d_E_writeNumber_10 ?_
      refine j_iadd C d_E_writeNumber_12 ?_
      refine j_bipush (v := 13) C (by decide) d_E_writeNumber_13 ?_
      refine j_icmp_ge (tgt := 48) C d_E_writeNumber_15 (by decide) (fun h22 => ?_) (fun h22 => ?_)
      · refine j_sub [] rfl ?_
        exact hx S ()
      · refine j_aload_n C 0 rfl rfl d_E_writeNumber_18 ?_
        refine gC_E_bytes C hj0 u_33 d_E_writeNumber_19 ?_
        refine j_iload_n C 1 rfl rfl d_E_writeNumber_22 ?_
        refine j_iload C 3 rfl d_E_writeNumber_23 ?_
        refine j_iadd C d_E_writeNumber_25 ?_
        refine j_lload_n C 2 rfl rfl d_E_writeNumber_26 ?_
        refine j_bipush (v := 24) C (by decide) d_E_writeNumber_27 ?_
        refine j_bipush (v := 8) C (by decide) d_E_writeNumber_29 ?_
        refine j_iload C 3 rfl d_E_writeNumber_31 ?_
        refine j_imul C d_E_writeNumber_33 ?_
        refine j_isub C d_E_writeNumber_34 ?_
        refine j_lshr C d_E_writeNumber_35 ?_
        refine j_l2i C d_E_writeNumber_36 ?_
        refine j_sipush (v := 255) C (by decide) d_E_writeNumber_37 ?_
        refine j_iand C d_E_writeNumber_40 ?_
        refine j_grd (fun h23 => ?_)
        refine sC_bytes C hj0 h23 d_E_writeNumber_41 ?_
        refine j_ltS (fun S24 => ?_)
        refine j_iincN (n2 := 1) (lv2 := fun x25 => [(4, .int x25), (0, .ref (a (100 + j0))), (1, .int x1), (2, .long x2)]) C 3 rfl (by decide) (by decide) (fun _ => rfl) d_E_writeNumber_42 (fun x25 => ?_)
        refine j_goto (tgt := 3) C d_E_writeNumber_45 (by decide) ?_
        refine j_sub [1, 2, 3, 0] rfl ?_
        exact ih S24 x1 x2 x25
def f_E_writeNumber (g : Nat) (j0 : Nat) (S : Mem) (x1 : Int32) (x2 : Int64) : Option (Unit × Mem) := seqM (f_E_writeNumber_3 g j0 g S x1 x2 (0 : Int32)) (fun S26 y27 => some ((), S26))
set_option maxRecDepth 100000 in
set_option maxHeartbeats 4000000 in
theorem c_E_writeNumber {l : Launch} {D : va_G} {cI cJ cZ cL : ClassId} {a : Nat → Nat} (g : Nat) (j0 : Nat) (hj0 : j0 < 25) (S : Mem) (x1 : Int32) (x2 : Int64) {r : Unit} {S9 : Mem} (h : f_E_writeNumber g j0 S x1 x2 = some (r, S9)) : Ctr l y_E_writeNumber prog_4_method_11_code 5 none rm_E_writeNumber D (tyT cI cJ cZ cL) (wdC cI cJ cZ cL a) [.ref (a (100 + j0)), .int x1, .long x2] S (vV r, S9) := by
  refine Ctr.of (lv0 := [(0, .ref (a (100 + j0))), (1, .int x1), (2, .long x2)]) (vv := vV) (by decide) rfl (wdC_fst cI cJ cZ cL a) (Nat.le_of_ble_eq_true rfl) rfl (fun p e s m args below meth c A C => ?_) r S9 h
  unfold f_E_writeNumber
  refine j_iconst (v := 0) C (by decide) d_E_writeNumber_0 ?_
  refine j_istore (i := 4) (lv2 := [(4, .int (0 : Int32)), (0, .ref (a (100 + j0))), (1, .int x1), (2, .long x2)]) C (by decide) rfl d_E_writeNumber_1 ?_
  refine j_sub [1, 2, 3, 0] rfl ?_
  refine j_seqM ?_
  refine lp_E_writeNumber_3 C g j0 hj0 (fun S26 y27 => ?_) g S x1 x2 (0 : Int32)
  refine j_outM ?_
  exact j_vret C rfl rfl d_E_writeNumber_48
def f_E_reckonCheck_25 (g : Nat) (j0 : Nat) : Nat → Mem → Int32 → Int32 → Int32 → Option (Mem × (Int32 × Int32))
  | 0, _, _, _, _ => none
  | n + 1, S, x1, x2, x3 => if (8 : Int32) ≤ x3 then (some (S, (x1, x2))) else (if x1 ≤ (32767 : Int32) then (lt ((x1 <<< ((1 : Int32) &&& 31)) &&& (65535 : Int32)) (fun x26 => lt (x3 + (1 : Int32)) (fun x27 => f_E_reckonCheck_25 g j0 n S x26 x2 x27))) else (lt ((x1 <<< ((1 : Int32) &&& 31)) &&& (65535 : Int32)) (fun x28 => lt (x28 ^^^ (4129 : Int32)) (fun x29 => lt (x3 + (1 : Int32)) (fun x30 => f_E_reckonCheck_25 g j0 n S x29 x2 x30)))))
set_option maxRecDepth 100000 in
set_option maxHeartbeats 4000000 in
theorem lp_E_reckonCheck_25 {l : Launch} {D : va_G} {cI cJ cZ cL : ClassId} {a : Nat → Nat} {p : Program} {e : Env} {s : State} {m : MethodId} {args : Array Value} {below : List Frame} {meth : Method} {c : Code} {A : Nat → Prop} (C : Cx p s m args meth c "AutoTeller$Letter" prog_4_method_10_code 5 (some .int) D (tyT cI cJ cZ cL) (wdC cI cJ cZ cL a) A) (g : Nat) (j0 : Nat) (hj0 : j0 < 25) {K : (Mem × (Int32 × Int32)) → Option (Int32 × Mem)} (hx : ∀ (S : Mem) (y : Int32 × Int32), Tj p l e rm_E_reckonCheck s m args below meth c D (wdC cI cJ cZ cL a) A 5 vI K (some (S, y)) S 69 [(0, .ref (a (100 + j0))), (1, .int y.1), (2, .int y.2)] []) : ∀ (n : Nat) (S : Mem) (x1 : Int32) (x2 : Int32) (x3 : Int32), Tj p l e rm_E_reckonCheck s m args below meth c D (wdC cI cJ cZ cL a) A 5 vI K (f_E_reckonCheck_25 g j0 n S x1 x2 x3) S 25 [(0, .ref (a (100 + j0))), (1, .int x1), (2, .int x2), (3, .int x3)] [] := by
  intro n
  induction n with
  | zero =>
    intro S x1 x2 x3
    exact j_none
  | succ n ih =>
    intro S x1 x2 x3
    rw [f_E_reckonCheck_25]
    refine j_iload_n C 3 rfl rfl d_E_reckonCheck_25 ?_
    refine j_bipush (v := 8) C (by decide) d_E_reckonCheck_26 ?_
    refine j_icmp_ge (tgt := 69) C d_E_reckonCheck_28 (by decide) (fun h24 => ?_) (fun h24 => ?_)
    · refine j_sub [0, 1, 2] rfl ?_
      exact hx S (x1, x2)
    · refine j_iload_n C 1 rfl rfl d_E_reckonCheck_31 ?_
      refine j_sipush (v := 32767) C (by decide) d_E_reckonCheck_32 ?_
      refine j_icmp_le (tgt := 42) C d_E_reckonCheck_35 (by decide) (fun h25 => ?_) (fun h25 => ?_)
      · refine j_iconst (v := 0) C (by decide) d_E_reckonCheck_42 ?_
        refine j_istore (i := 4) (lv2 := [(4, .int (0 : Int32)), (0, .ref (a (100 + j0))), (1, .int x1), (2, .int x2), (3, .int x3)]) C (by decide) rfl d_E_reckonCheck_43 ?_
        refine j_iload_n C 2 rfl rfl d_E_reckonCheck_45 ?_
        refine j_iconst (v := 1) C (by decide) d_E_reckonCheck_46 ?_
        refine j_ishl C d_E_reckonCheck_47 ?_
        refine j_ldc (v := 65535) C u_358 d_E_reckonCheck_48 ?_
        refine j_iand C d_E_reckonCheck_50 ?_
        refine j_lti (fun x26 => ?_)
        refine j_istore_n (i := 1) (lv2 := [(1, .int x26), (4, .int (0 : Int32)), (0, .ref (a (100 + j0))), (2, .int x2), (3, .int x3)]) C rfl (by decide) rfl d_E_reckonCheck_51 ?_
        refine j_iload C 1 rfl d_E_reckonCheck_52 ?_
        refine j_if_eq_T (tgt := 63) C d_E_reckonCheck_54 (by decide) (by decide) ?_
        refine j_iincN (n2 := 1) (lv2 := fun x27 => [(3, .int x27), (1, .int x26), (4, .int (0 : Int32)), (0, .ref (a (100 + j0))), (2, .int x2)]) C 4 rfl (by decide) (by decide) (fun _ => rfl) d_E_reckonCheck_63 (fun x27 => ?_)
        refine j_goto (tgt := 25) C d_E_reckonCheck_66 (by decide) ?_
        refine j_sub [3, 1, 4, 0] rfl ?_
        exact ih S x26 x2 x27
      · refine j_iconst (v := 1) C (by decide) d_E_reckonCheck_38 ?_
        refine j_goto (tgt := 43) C d_E_reckonCheck_39 (by decide) ?_
        refine j_istore (i := 4) (lv2 := [(4, .int (1 : Int32)), (0, .ref (a (100 + j0))), (1, .int x1), (2, .int x2), (3, .int x3)]) C (by decide) rfl d_E_reckonCheck_43 ?_
        refine j_iload_n C 2 rfl rfl d_E_reckonCheck_45 ?_
        refine j_iconst (v := 1) C (by decide) d_E_reckonCheck_46 ?_
        refine j_ishl C d_E_reckonCheck_47 ?_
        refine j_ldc (v := 65535) C u_358 d_E_reckonCheck_48 ?_
        refine j_iand C d_E_reckonCheck_50 ?_
        refine j_lti (fun x28 => ?_)
        refine j_istore_n (i := 1) (lv2 := [(1, .int x28), (4, .int (1 : Int32)), (0, .ref (a (100 + j0))), (2, .int x2), (3, .int x3)]) C rfl (by decide) rfl d_E_reckonCheck_51 ?_
        refine j_iload C 1 rfl d_E_reckonCheck_52 ?_
        refine j_if_eq_F (tgt := 63) C d_E_reckonCheck_54 (by decide) (by decide) ?_
        refine j_iload_n C 0 rfl rfl d_E_reckonCheck_57 ?_
        refine j_sipush (v := 4129) C (by decide) d_E_reckonCheck_58 ?_
        refine j_ixor C d_E_reckonCheck_61 ?_
        refine j_lti (fun x29 => ?_)
        refine j_istore_n (i := 1) (lv2 := [(1, .int x29), (4, .int (1 : Int32)), (0, .ref (a (100 + j0))), (2, .int x2), (3, .int x3)]) C rfl (by decide) rfl d_E_reckonCheck_62 ?_
        refine j_iincN (n2 := 1) (lv2 := fun x30 => [(3, .int x30), (1, .int x29), (4, .int (1 : Int32)), (0, .ref (a (100 + j0))), (2, .int x2)]) C 4 rfl (by decide) (by decide) (fun _ => rfl) d_E_reckonCheck_63 (fun x30 => ?_)
        refine j_goto (tgt := 25) C d_E_reckonCheck_66 (by decide) ?_
        refine j_sub [3, 1, 4, 0] rfl ?_
        exact ih S x29 x2 x30
def f_E_reckonCheck_5 (g : Nat) (j0 : Nat) : Nat → Mem → Int32 → Int32 → Option (Mem × (Int32))
  | 0, _, _, _ => none
  | n + 1, S, x1, x2 => if (11 : Int32) ≤ x2 then (some (S, x1)) else (grd (¬ (x2 < 0 ∨ 13 ≤ x2.toNatClampNeg)) (lt (x1 ^^^ ((S.2.2.2.2 j0 x2.toNatClampNeg) <<< ((8 : Int32) &&& 31))) (fun x23 => seqM (f_E_reckonCheck_25 g j0 g S x23 x2 (0 : Int32)) (fun S31 y32 => lt (y32.2 + (1 : Int32)) (fun x33 => f_E_reckonCheck_5 g j0 n S31 y32.1 x33)))))
set_option maxRecDepth 100000 in
set_option maxHeartbeats 4000000 in
theorem lp_E_reckonCheck_5 {l : Launch} {D : va_G} {cI cJ cZ cL : ClassId} {a : Nat → Nat} {p : Program} {e : Env} {s : State} {m : MethodId} {args : Array Value} {below : List Frame} {meth : Method} {c : Code} {A : Nat → Prop} (C : Cx p s m args meth c "AutoTeller$Letter" prog_4_method_10_code 5 (some .int) D (tyT cI cJ cZ cL) (wdC cI cJ cZ cL a) A) (g : Nat) (j0 : Nat) (hj0 : j0 < 25) {K : (Mem × (Int32)) → Option (Int32 × Mem)} (hx : ∀ (S : Mem) (y : Int32), Tj p l e rm_E_reckonCheck s m args below meth c D (wdC cI cJ cZ cL a) A 5 vI K (some (S, y)) S 75 [(1, .int y)] []) : ∀ (n : Nat) (S : Mem) (x1 : Int32) (x2 : Int32), Tj p l e rm_E_reckonCheck s m args below meth c D (wdC cI cJ cZ cL a) A 5 vI K (f_E_reckonCheck_5 g j0 n S x1 x2) S 5 [(0, .ref (a (100 + j0))), (1, .int x1), (2, .int x2)] [] := by
  intro n
  induction n with
  | zero =>
    intro S x1 x2
    exact j_none
  | succ n ih =>
    intro S x1 x2
    rw [f_E_reckonCheck_5]
    refine j_iload_n C 2 rfl rfl d_E_reckonCheck_5 ?_
    refine j_bipush (v := 11) C (by decide) d_E_reckonCheck_6 ?_
    refine j_icmp_ge (tgt := 75) C d_E_reckonCheck_8 (by decide) (fun h21 => ?_) (fun h21 => ?_)
    · refine j_sub [1] rfl ?_
      exact hx S x1
    · refine j_iload_n C 1 rfl rfl d_E_reckonCheck_11 ?_
      refine j_aload_n C 0 rfl rfl d_E_reckonCheck_12 ?_
      refine gC_E_bytes C hj0 u_33 d_E_reckonCheck_13 ?_
      refine j_iload_n C 2 rfl rfl d_E_reckonCheck_16 ?_
      refine j_grd (fun h22 => ?_)
      refine lC_bytes C hj0 h22 d_E_reckonCheck_17 ?_
      refine j_bipush (v := 8) C (by decide) d_E_reckonCheck_18 ?_
      refine j_ishl C d_E_reckonCheck_20 ?_
      refine j_ixor C d_E_reckonCheck_21 ?_
      refine j_lti (fun x23 => ?_)
      refine j_istore_n (i := 1) (lv2 := [(1, .int x23), (0, .ref (a (100 + j0))), (2, .int x2)]) C rfl (by decide) rfl d_E_reckonCheck_22 ?_
      refine j_iconst (v := 0) C (by decide) d_E_reckonCheck_23 ?_
      refine j_istore_n (i := 3) (lv2 := [(3, .int (0 : Int32)), (1, .int x23), (0, .ref (a (100 + j0))), (2, .int x2)]) C rfl (by decide) rfl d_E_reckonCheck_24 ?_
      refine j_sub [2, 1, 3, 0] rfl ?_
      refine j_seqM ?_
      refine lp_E_reckonCheck_25 C g j0 hj0 (fun S31 y32 => ?_) g S x23 x2 (0 : Int32)
      refine j_outM ?_
      refine j_iincN (n2 := 1) (lv2 := fun x33 => [(2, .int x33), (0, .ref (a (100 + j0))), (1, .int y32.1)]) C 2 rfl (by decide) (by decide) (fun _ => rfl) d_E_reckonCheck_69 (fun x33 => ?_)
      refine j_goto (tgt := 5) C d_E_reckonCheck_72 (by decide) ?_
      refine j_sub [1, 2, 0] rfl ?_
      exact ih S31 y32.1 x33
def f_E_reckonCheck (g : Nat) (j0 : Nat) (S : Mem) : Option (Int32 × Mem) := seqM (f_E_reckonCheck_5 g j0 g S (65535 : Int32) (0 : Int32)) (fun S34 y35 => some (y35, S34))
set_option maxRecDepth 100000 in
set_option maxHeartbeats 4000000 in
theorem c_E_reckonCheck {l : Launch} {D : va_G} {cI cJ cZ cL : ClassId} {a : Nat → Nat} (g : Nat) (j0 : Nat) (hj0 : j0 < 25) (S : Mem) {r : Int32} {S9 : Mem} (h : f_E_reckonCheck g j0 S = some (r, S9)) : Ctr l y_E_reckonCheck prog_4_method_10_code 5 (some .int) rm_E_reckonCheck D (tyT cI cJ cZ cL) (wdC cI cJ cZ cL a) [.ref (a (100 + j0))] S (vI r, S9) := by
  refine Ctr.of (lv0 := [(0, .ref (a (100 + j0)))]) (vv := vI) (by decide) rfl (wdC_fst cI cJ cZ cL a) (Nat.le_of_ble_eq_true rfl) rfl (fun p e s m args below meth c A C => ?_) r S9 h
  unfold f_E_reckonCheck
  refine j_ldc (v := 65535) C u_358 d_E_reckonCheck_0 ?_
  refine j_istore_n (i := 1) (lv2 := [(1, .int (65535 : Int32)), (0, .ref (a (100 + j0)))]) C rfl (by decide) rfl d_E_reckonCheck_2 ?_
  refine j_iconst (v := 0) C (by decide) d_E_reckonCheck_3 ?_
  refine j_istore_n (i := 2) (lv2 := [(2, .int (0 : Int32)), (1, .int (65535 : Int32)), (0, .ref (a (100 + j0)))]) C rfl (by decide) rfl d_E_reckonCheck_4 ?_
  refine j_sub [2, 1, 0] rfl ?_
  refine j_seqM ?_
  refine lp_E_reckonCheck_5 C g j0 hj0 (fun S34 y35 => ?_) g S (65535 : Int32) (0 : Int32)
  refine j_outM ?_
  refine j_iload_n C 0 rfl rfl d_E_reckonCheck_75 ?_
  exact j_iret C rfl rfl d_E_reckonCheck_76
def f_E_write (g : Nat) (j0 : Nat) (S : Mem) (x1 : Int32) (x2 : Int32) (x3 : Int32) (x4 : Int64) (x6 : Int32) : Option (Unit × Mem) := lt (sB S j0 ((0 : Int32).toNatClampNeg) x1) (fun S21 => bnd (f_E_writeNumber g j0 S21 (1 : Int32) x2.toInt64) (fun _ S23 => lt (sB S23 j0 ((5 : Int32).toNatClampNeg) x3) (fun S25 => bnd (f_E_writeNumber g j0 S25 (6 : Int32) x4) (fun _ S27 => lt (sB S27 j0 ((10 : Int32).toNatClampNeg) x6) (fun S29 => bnd (f_E_reckonCheck g j0 S29) (fun r30 S31 => lt (sB S31 j0 ((11 : Int32).toNatClampNeg) (r30 >>> ((8 : Int32) &&& 31))) (fun S33 => lt (sB S33 j0 ((12 : Int32).toNatClampNeg) (r30 &&& (255 : Int32))) (fun S34 => some ((), S34)))))))))
set_option maxRecDepth 100000 in
set_option maxHeartbeats 4000000 in
theorem c_E_write {l : Launch} {D : va_G} {cI cJ cZ cL : ClassId} {a : Nat → Nat} (g : Nat) (j0 : Nat) (hj0 : j0 < 25) (S : Mem) (x1 : Int32) (x2 : Int32) (x3 : Int32) (x4 : Int64) (x6 : Int32) {r : Unit} {S9 : Mem} (h : f_E_write g j0 S x1 x2 x3 x4 x6 = some (r, S9)) : Ctr l y_E_write prog_4_method_2_code 8 none rm_E_write D (tyT cI cJ cZ cL) (wdC cI cJ cZ cL a) [.ref (a (100 + j0)), .int x1, .int x2, .int x3, .long x4, .int x6] S (vV r, S9) := by
  refine Ctr.of (lv0 := [(0, .ref (a (100 + j0))), (1, .int x1), (2, .int x2), (3, .int x3), (4, .long x4), (6, .int x6)]) (vv := vV) (by decide) rfl (wdC_fst cI cJ cZ cL a) (Nat.le_of_ble_eq_true rfl) rfl (fun p e s m args below meth c A C => ?_) r S9 h
  unfold f_E_write
  refine j_aload_n C 0 rfl rfl d_E_write_0 ?_
  refine gC_E_bytes C hj0 u_33 d_E_write_1 ?_
  refine j_iconst (v := 0) C (by decide) d_E_write_4 ?_
  refine j_iload_n C 1 rfl rfl d_E_write_5 ?_
  refine sC_bytes C hj0 (by decide) d_E_write_6 ?_
  refine j_ltS (fun S21 => ?_)
  refine j_aload_n C 0 rfl rfl d_E_write_7 ?_
  refine j_iconst (v := 1) C (by decide) d_E_write_8 ?_
  refine j_iload_n C 2 rfl rfl d_E_write_9 ?_
  refine j_i2l C d_E_write_10 ?_
  refine j_bnd (fun _ S23 e24 => ?_)
  refine j_callVv (As := [.int (1 : Int32), .long x2.toInt64]) (rest := []) C (26 + j0) 2 Y_E_writeNumber u_350 (c_E_writeNumber g j0 hj0 S21 (1 : Int32) x2.toInt64 e24) rfl rfl ⟨by decide, by decide⟩ rfl (wdC_E hj0) rfl rfl (Nat.le_of_ble_eq_true rfl) d_E_write_11 ?_
  refine j_aload_n C 0 rfl rfl d_E_write_14 ?_
  refine gC_E_bytes C hj0 u_33 d_E_write_15 ?_
  refine j_iconst (v := 5) C (by decide) d_E_write_18 ?_
  refine j_iload_n C 3 rfl rfl d_E_write_19 ?_
  refine sC_bytes C hj0 (by decide) d_E_write_20 ?_
  refine j_ltS (fun S25 => ?_)
  refine j_aload_n C 0 rfl rfl d_E_write_21 ?_
  refine j_bipush (v := 6) C (by decide) d_E_write_22 ?_
  refine j_lload C 4 rfl d_E_write_24 ?_
  refine j_bnd (fun _ S27 e28 => ?_)
  refine j_callVv (As := [.int (6 : Int32), .long x4]) (rest := []) C (26 + j0) 2 Y_E_writeNumber u_350 (c_E_writeNumber g j0 hj0 S25 (6 : Int32) x4 e28) rfl rfl ⟨by decide, by decide⟩ rfl (wdC_E hj0) rfl rfl (Nat.le_of_ble_eq_true rfl) d_E_write_26 ?_
  refine j_aload_n C 0 rfl rfl d_E_write_29 ?_
  refine gC_E_bytes C hj0 u_33 d_E_write_30 ?_
  refine j_bipush (v := 10) C (by decide) d_E_write_33 ?_
  refine j_iload C 5 rfl d_E_write_35 ?_
  refine sC_bytes C hj0 (by decide) d_E_write_37 ?_
  refine j_ltS (fun S29 => ?_)
  refine j_aload_n C 0 rfl rfl d_E_write_38 ?_
  refine j_bnd (fun r30 S31 e32 => ?_)
  refine j_callVi (As := []) (rest := []) C (26 + j0) 2 Y_E_reckonCheck u_354 (c_E_reckonCheck g j0 hj0 S29 e32) rfl rfl ⟨by decide, by decide⟩ rfl (wdC_E hj0) rfl rfl (Nat.le_of_ble_eq_true rfl) d_E_write_39 ?_
  refine j_istore (i := 7) (lv2 := [(7, .int r30), (0, .ref (a (100 + j0))), (1, .int x1), (2, .int x2), (3, .int x3), (4, .long x4), (6, .int x6)]) C (by decide) rfl d_E_write_42 ?_
  refine j_aload_n C 1 rfl rfl d_E_write_44 ?_
  refine gC_E_bytes C hj0 u_33 d_E_write_45 ?_
  refine j_bipush (v := 11) C (by decide) d_E_write_48 ?_
  refine j_iload C 0 rfl d_E_write_50 ?_
  refine j_bipush (v := 8) C (by decide) d_E_write_52 ?_
  refine j_ishr C d_E_write_54 ?_
  refine sC_bytes C hj0 (by decide) d_E_write_55 ?_
  refine j_ltS (fun S33 => ?_)
  refine j_aload_n C 1 rfl rfl d_E_write_56 ?_
  refine gC_E_bytes C hj0 u_33 d_E_write_57 ?_
  refine j_bipush (v := 12) C (by decide) d_E_write_60 ?_
  refine j_iload C 0 rfl d_E_write_62 ?_
  refine j_sipush (v := 255) C (by decide) d_E_write_64 ?_
  refine j_iand C d_E_write_67 ?_
  refine sC_bytes C hj0 (by decide) d_E_write_68 ?_
  refine j_ltS (fun S34 => ?_)
  exact j_vret C rfl rfl d_E_write_69
def f_N_has (g : Nat) (S : Mem) (x1 : Int32) : Option (Int32 × Mem) := if x1 < 0 then (some ((0 : Int32), S)) else (if (S.1 0 0) ≤ x1 then (some ((0 : Int32), S)) else (some ((1 : Int32), S)))
set_option maxRecDepth 100000 in
set_option maxHeartbeats 4000000 in
theorem c_N_has {l : Launch} {D : va_G} {cI cJ cZ cL : ClassId} {a : Nat → Nat} (g : Nat) (S : Mem) (x1 : Int32) {r : Int32} {S9 : Mem} (h : f_N_has g S x1 = some (r, S9)) : Ctr l y_N_has prog_5_method_2_code 2 (some .boolean) rm_N_has D (tyT cI cJ cZ cL) (wdC cI cJ cZ cL a) [.ref (a 1), .int x1] S (vI r, S9) := by
  refine Ctr.of (lv0 := [(0, .ref (a 1)), (1, .int x1)]) (vv := vI) (by decide) rfl (wdC_fst cI cJ cZ cL a) (Nat.le_of_ble_eq_true rfl) rfl (fun p e s m args below meth c A C => ?_) r S9 h
  unfold f_N_has
  refine j_iload_n C 1 rfl rfl d_N_has_0 ?_
  refine j_if_lt (tgt := 16) C d_N_has_1 (by decide) (fun h21 => ?_) (fun h21 => ?_)
  · refine j_iconst (v := 0) C (by decide) d_N_has_16 ?_
    exact j_zret C (Or.inl rfl) rfl rfl d_N_has_17
  · refine j_iload_n C 1 rfl rfl d_N_has_4 ?_
    refine j_aload_n C 0 rfl rfl d_N_has_5 ?_
    refine gC_N_inFlight C u_45 d_N_has_6 ?_
    refine j_icmp_ge (tgt := 16) C d_N_has_9 (by decide) (fun h22 => ?_) (fun h22 => ?_)
    · refine j_iconst (v := 0) C (by decide) d_N_has_16 ?_
      exact j_zret C (Or.inl rfl) rfl rfl d_N_has_17
    · refine j_iconst (v := 1) C (by decide) d_N_has_12 ?_
      refine j_goto (tgt := 17) C d_N_has_13 (by decide) ?_
      exact j_zret C (Or.inr rfl) rfl rfl d_N_has_17
def f_N_remove_18 (g : Nat) (j2 : Nat) : Nat → Mem → Int32 → Option (Mem × (Unit))
  | 0, _, _ => none
  | n + 1, S, x3 => if ((S.1 0 0) - (1 : Int32)) ≤ x3 then (some (S, ())) else (grd (¬ ((x3 + (1 : Int32)) < 0 ∨ 24 ≤ (x3 + (1 : Int32)).toNatClampNeg)) (lt (S.2.2.1 ((x3 + (1 : Int32)).toNatClampNeg)) (fun j29 => grd (j29 < 25) (grd (¬ (x3 < 0 ∨ 24 ≤ x3.toNatClampNeg)) (lt (sG S x3.toNatClampNeg j29) (fun S31 => lt (x3 + (1 : Int32)) (fun x32 => f_N_remove_18 g j2 n S31 x32)))))))
set_option maxRecDepth 100000 in
set_option maxHeartbeats 4000000 in
theorem lp_N_remove_18 {l : Launch} {D : va_G} {cI cJ cZ cL : ClassId} {a : Nat → Nat} {p : Program} {e : Env} {s : State} {m : MethodId} {args : Array Value} {below : List Frame} {meth : Method} {c : Code} {A : Nat → Prop} (C : Cx p s m args meth c "AutoTeller$Line" prog_5_method_5_code 4 none D (tyT cI cJ cZ cL) (wdC cI cJ cZ cL a) A) (g : Nat) (j2 : Nat) (hj2 : j2 < 25) {K : (Mem × (Unit)) → Option (Unit × Mem)} (hx : ∀ (S : Mem) (y : Unit), Tj p l e rm_N_remove s m args below meth c D (wdC cI cJ cZ cL a) A 4 vV K (some (S, y)) S 48 [(0, .ref (a 1)), (2, .ref (a (100 + j2)))] []) : ∀ (n : Nat) (S : Mem) (x3 : Int32), Tj p l e rm_N_remove s m args below meth c D (wdC cI cJ cZ cL a) A 4 vV K (f_N_remove_18 g j2 n S x3) S 18 [(0, .ref (a 1)), (2, .ref (a (100 + j2))), (3, .int x3)] [] := by
  intro n
  induction n with
  | zero =>
    intro S x3
    exact j_none
  | succ n ih =>
    intro S x3
    rw [f_N_remove_18]
    refine j_iload_n C 2 rfl rfl d_N_remove_18 ?_
    refine j_aload_n C 0 rfl rfl d_N_remove_19 ?_
    refine gC_N_inFlight C u_45 d_N_remove_20 ?_
    refine j_iconst (v := 1) C (by decide) d_N_remove_23 ?_
    refine j_isub C d_N_remove_24 ?_
    refine j_icmp_ge (tgt := 48) C d_N_remove_25 (by decide) (fun h27 => ?_) (fun h27 => ?_)
    · refine j_sub [0, 1] rfl ?_
      exact hx S ()
    · refine j_aload_n C 0 rfl rfl d_N_remove_28 ?_
      refine gC_N_letters C u_44 d_N_remove_29 ?_
      refine j_iload_n C 2 rfl rfl d_N_remove_32 ?_
      refine j_aload_n C 0 rfl rfl d_N_remove_33 ?_
      refine gC_N_letters C u_44 d_N_remove_34 ?_
      refine j_iload_n C 2 rfl rfl d_N_remove_37 ?_
      refine j_iconst (v := 1) C (by decide) d_N_remove_38 ?_
      refine j_iadd C d_N_remove_39 ?_
      refine j_grd (fun h28 => ?_)
      refine lC_N_letters C h28 d_N_remove_40 ?_
      refine j_ltE (fun j29 => ?_)
      refine j_grd (fun hj29 => ?_)
      refine j_grd (fun h30 => ?_)
      refine sC_letters C hj29 h30 d_N_remove_41 ?_
      refine j_ltS (fun S31 => ?_)
      refine j_iincN (n2 := 1) (lv2 := fun x32 => [(3, .int x32), (0, .ref (a 1)), (2, .ref (a (100 + j2)))]) C 2 rfl (by decide) (by decide) (fun _ => rfl) d_N_remove_42 (fun x32 => ?_)
      refine j_goto (tgt := 18) C d_N_remove_45 (by decide) ?_
      refine j_sub [1, 2, 0] rfl ?_
      exact ih S31 x32
def f_N_remove (g : Nat) (S : Mem) (x1 : Int32) : Option (Unit × Mem) := bnd (f_N_has g S x1) (fun r21 S22 => if r21 = 0 then (some ((), S22)) else (grd (¬ (x1 < 0 ∨ 24 ≤ x1.toNatClampNeg)) (lt (S22.2.2.1 x1.toNatClampNeg) (fun j26 => grd (j26 < 25) (seqM (f_N_remove_18 g j26 g S22 x1) (fun S33 y34 => lt (sI S33 0 0 ((S33.1 0 0) - (1 : Int32))) (fun S35 => grd (¬ ((S35.1 0 0) < 0 ∨ 24 ≤ (S35.1 0 0).toNatClampNeg)) (lt (sG S35 ((S35.1 0 0).toNatClampNeg) j26) (fun S37 => some ((), S37))))))))))
set_option maxRecDepth 100000 in
set_option maxHeartbeats 4000000 in
theorem c_N_remove {l : Launch} {D : va_G} {cI cJ cZ cL : ClassId} {a : Nat → Nat} (g : Nat) (S : Mem) (x1 : Int32) {r : Unit} {S9 : Mem} (h : f_N_remove g S x1 = some (r, S9)) : Ctr l y_N_remove prog_5_method_5_code 4 none rm_N_remove D (tyT cI cJ cZ cL) (wdC cI cJ cZ cL a) [.ref (a 1), .int x1] S (vV r, S9) := by
  refine Ctr.of (lv0 := [(0, .ref (a 1)), (1, .int x1)]) (vv := vV) (by decide) rfl (wdC_fst cI cJ cZ cL a) (Nat.le_of_ble_eq_true rfl) rfl (fun p e s m args below meth c A C => ?_) r S9 h
  unfold f_N_remove
  refine j_aload_n C 0 rfl rfl d_N_remove_0 ?_
  refine j_iload_n C 1 rfl rfl d_N_remove_1 ?_
  refine j_bnd (fun r21 S22 e23 => ?_)
  refine j_callVi (As := [.int x1]) (rest := []) C 1 3 Y_N_has u_342 (c_N_has g S x1 e23) rfl rfl ⟨by decide, by decide⟩ rfl rfl rfl rfl (Nat.le_of_ble_eq_true rfl) d_N_remove_2 ?_
  refine j_if_ne (tgt := 9) C d_N_remove_5 (by decide) (fun h24 => ?_) (fun h24 => ?_)
  · exact j_vret C rfl rfl d_N_remove_8
  · refine j_aload_n C 0 rfl rfl d_N_remove_9 ?_
    refine gC_N_letters C u_44 d_N_remove_10 ?_
    refine j_iload_n C 1 rfl rfl d_N_remove_13 ?_
    refine j_grd (fun h25 => ?_)
    refine lC_N_letters C h25 d_N_remove_14 ?_
    refine j_ltE (fun j26 => ?_)
    refine j_grd (fun hj26 => ?_)
    refine j_astore_n (i := 2) (lv2 := [(2, .ref (a (100 + j26))), (0, .ref (a 1)), (1, .int x1)]) C rfl (by decide) rfl d_N_remove_15 ?_
    refine j_iload_n C 2 rfl rfl d_N_remove_16 ?_
    refine j_istore_n (i := 3) (lv2 := [(3, .int x1), (2, .ref (a (100 + j26))), (0, .ref (a 1)), (1, .int x1)]) C rfl (by decide) rfl d_N_remove_17 ?_
    refine j_sub [2, 1, 0] rfl ?_
    refine j_seqM ?_
    refine lp_N_remove_18 C g j26 hj26 (fun S33 y34 => ?_) g S22 x1
    refine j_outM ?_
    refine j_aload_n C 0 rfl rfl d_N_remove_48 ?_
    refine j_dup C rfl d_N_remove_49 ?_
    refine gC_N_inFlight C u_45 d_N_remove_50 ?_
    refine j_iconst (v := 1) C (by decide) d_N_remove_53 ?_
    refine j_isub C d_N_remove_54 ?_
    refine pC_N_inFlight C u_45 d_N_remove_55 ?_
    refine j_ltS (fun S35 => ?_)
    refine j_aload_n C 0 rfl rfl d_N_remove_58 ?_
    refine gC_N_letters C u_44 d_N_remove_59 ?_
    refine j_aload_n C 0 rfl rfl d_N_remove_62 ?_
    refine gC_N_inFlight C u_45 d_N_remove_63 ?_
    refine j_aload_n C 1 rfl rfl d_N_remove_66 ?_
    refine j_grd (fun h36 => ?_)
    refine sC_letters C hj26 h36 d_N_remove_67 ?_
    refine j_ltS (fun S37 => ?_)
    exact j_vret C rfl rfl d_N_remove_68
def f_N_post (g : Nat) (S : Mem) (x1 : Int32) (x2 : Int32) (x3 : Int32) (x4 : Int32) (x5 : Int64) (x7 : Int32) : Option (Unit × Mem) := if (S.1 0 0) < (24 : Int32) then (grd (¬ ((S.1 0 0) < 0 ∨ 24 ≤ (S.1 0 0).toNatClampNeg)) (lt (S.2.2.1 ((S.1 0 0).toNatClampNeg)) (fun j23 => grd (j23 < 25) (grd (x1 = 0 ∨ x1 = 1) (lt (sF S j23 x1) (fun S25 => bnd (f_E_write g j23 S25 x2 x3 x4 x5 x7) (fun _ S27 => lt (sI S27 0 0 ((S27.1 0 0) + (1 : Int32))) (fun S29 => some ((), S29))))))))) else (bnd (f_N_remove g S (0 : Int32)) (fun _ S31 => lt (sI S31 1 0 ((S31.1 1 0) + (1 : Int32))) (fun S33 => grd (¬ ((S33.1 0 0) < 0 ∨ 24 ≤ (S33.1 0 0).toNatClampNeg)) (lt (S33.2.2.1 ((S33.1 0 0).toNatClampNeg)) (fun j35 => grd (j35 < 25) (grd (x1 = 0 ∨ x1 = 1) (lt (sF S33 j35 x1) (fun S37 => bnd (f_E_write g j35 S37 x2 x3 x4 x5 x7) (fun _ S39 => lt (sI S39 0 0 ((S39.1 0 0) + (1 : Int32))) (fun S41 => some ((), S41)))))))))))
set_option maxRecDepth 100000 in
set_option maxHeartbeats 4000000 in
theorem c_N_post {l : Launch} {D : va_G} {cI cJ cZ cL : ClassId} {a : Nat → Nat} (g : Nat) (S : Mem) (x1 : Int32) (x2 : Int32) (x3 : Int32) (x4 : Int32) (x5 : Int64) (x7 : Int32) {r : Unit} {S9 : Mem} (h : f_N_post g S x1 x2 x3 x4 x5 x7 = some (r, S9)) : Ctr l y_N_post prog_5_method_3_code 9 none rm_N_post D (tyT cI cJ cZ cL) (wdC cI cJ cZ cL a) [.ref (a 1), .int x1, .int x2, .int x3, .int x4, .long x5, .int x7] S (vV r, S9) := by
  refine Ctr.of (lv0 := [(0, .ref (a 1)), (1, .int x1), (2, .int x2), (3, .int x3), (4, .int x4), (5, .long x5), (7, .int x7)]) (vv := vV) (by decide) rfl (wdC_fst cI cJ cZ cL a) (Nat.le_of_ble_eq_true rfl) rfl (fun p e s m args below meth c A C => ?_) r S9 h
  unfold f_N_post
  refine j_aload_n C 0 rfl rfl d_N_post_0 ?_
  refine gC_N_inFlight C u_45 d_N_post_1 ?_
  refine j_bipush (v := 24) C (by decide) d_N_post_4 ?_
  refine j_icmp_lt (tgt := 24) C d_N_post_6 (by decide) (fun h21 => ?_) (fun h21 => ?_)
  · refine j_aload_n C 0 rfl rfl d_N_post_24 ?_
    refine gC_N_letters C u_44 d_N_post_25 ?_
    refine j_aload_n C 0 rfl rfl d_N_post_28 ?_
    refine gC_N_inFlight C u_45 d_N_post_29 ?_
    refine j_grd (fun h22 => ?_)
    refine lC_N_letters C h22 d_N_post_32 ?_
    refine j_ltE (fun j23 => ?_)
    refine j_grd (fun hj23 => ?_)
    refine j_astore (i := 8) (lv2 := [(8, .ref (a (100 + j23))), (0, .ref (a 1)), (1, .int x1), (2, .int x2), (3, .int x3), (4, .int x4), (5, .long x5), (7, .int x7)]) C (by decide) rfl d_N_post_33 ?_
    refine j_aload C 0 rfl d_N_post_35 ?_
    refine j_iload_n C 2 rfl rfl d_N_post_37 ?_
    refine j_grd (fun h24 => ?_)
    refine pnC_E_forHost C hj23 h24 n_36 d_N_post_38 ?_
    refine j_ltS (fun S25 => ?_)
    refine j_aload C 0 rfl d_N_post_41 ?_
    refine j_iload_n C 3 rfl rfl d_N_post_43 ?_
    refine j_iload_n C 4 rfl rfl d_N_post_44 ?_
    refine j_iload C 5 rfl d_N_post_45 ?_
    refine j_lload C 6 rfl d_N_post_47 ?_
    refine j_iload C 7 rfl d_N_post_49 ?_
    refine j_bnd (fun _ S27 e28 => ?_)
    refine j_callVv (As := [.int x2, .int x3, .int x4, .long x5, .int x7]) (rest := []) C (26 + j23) 2 Y_E_write u_346 (c_E_write g j23 hj23 S25 x2 x3 x4 x5 x7 e28) rfl rfl ⟨by decide, by decide⟩ rfl (wdC_E hj23) rfl rfl (Nat.le_of_ble_eq_true rfl) d_N_post_51 ?_
    refine j_aload_n C 1 rfl rfl d_N_post_54 ?_
    refine j_dup C rfl d_N_post_55 ?_
    refine gC_N_inFlight C u_45 d_N_post_56 ?_
    refine j_iconst (v := 1) C (by decide) d_N_post_59 ?_
    refine j_iadd C d_N_post_60 ?_
    refine pC_N_inFlight C u_45 d_N_post_61 ?_
    refine j_ltS (fun S29 => ?_)
    exact j_vret C rfl rfl d_N_post_64
  · refine j_aload_n C 0 rfl rfl d_N_post_9 ?_
    refine j_iconst (v := 0) C (by decide) d_N_post_10 ?_
    refine j_bnd (fun _ S31 e32 => ?_)
    refine j_callVv (As := [.int (0 : Int32)]) (rest := []) C 1 3 Y_N_remove u_338 (c_N_remove g S (0 : Int32) e32) rfl rfl ⟨by decide, by decide⟩ rfl rfl rfl rfl (Nat.le_of_ble_eq_true rfl) d_N_post_11 ?_
    refine j_aload_n C 0 rfl rfl d_N_post_14 ?_
    refine j_dup C rfl d_N_post_15 ?_
    refine gC_N_lostForRoom C u_47 d_N_post_16 ?_
    refine j_iconst (v := 1) C (by decide) d_N_post_19 ?_
    refine j_iadd C d_N_post_20 ?_
    refine pC_N_lostForRoom C u_47 d_N_post_21 ?_
    refine j_ltS (fun S33 => ?_)
    refine j_aload_n C 0 rfl rfl d_N_post_24 ?_
    refine gC_N_letters C u_44 d_N_post_25 ?_
    refine j_aload_n C 0 rfl rfl d_N_post_28 ?_
    refine gC_N_inFlight C u_45 d_N_post_29 ?_
    refine j_grd (fun h34 => ?_)
    refine lC_N_letters C h34 d_N_post_32 ?_
    refine j_ltE (fun j35 => ?_)
    refine j_grd (fun hj35 => ?_)
    refine j_astore (i := 8) (lv2 := [(8, .ref (a (100 + j35))), (0, .ref (a 1)), (1, .int x1), (2, .int x2), (3, .int x3), (4, .int x4), (5, .long x5), (7, .int x7)]) C (by decide) rfl d_N_post_33 ?_
    refine j_aload C 0 rfl d_N_post_35 ?_
    refine j_iload_n C 2 rfl rfl d_N_post_37 ?_
    refine j_grd (fun h36 => ?_)
    refine pnC_E_forHost C hj35 h36 n_36 d_N_post_38 ?_
    refine j_ltS (fun S37 => ?_)
    refine j_aload C 0 rfl d_N_post_41 ?_
    refine j_iload_n C 3 rfl rfl d_N_post_43 ?_
    refine j_iload_n C 4 rfl rfl d_N_post_44 ?_
    refine j_iload C 5 rfl d_N_post_45 ?_
    refine j_lload C 6 rfl d_N_post_47 ?_
    refine j_iload C 7 rfl d_N_post_49 ?_
    refine j_bnd (fun _ S39 e40 => ?_)
    refine j_callVv (As := [.int x2, .int x3, .int x4, .long x5, .int x7]) (rest := []) C (26 + j35) 2 Y_E_write u_346 (c_E_write g j35 hj35 S37 x2 x3 x4 x5 x7 e40) rfl rfl ⟨by decide, by decide⟩ rfl (wdC_E hj35) rfl rfl (Nat.le_of_ble_eq_true rfl) d_N_post_51 ?_
    refine j_aload_n C 1 rfl rfl d_N_post_54 ?_
    refine j_dup C rfl d_N_post_55 ?_
    refine gC_N_inFlight C u_45 d_N_post_56 ?_
    refine j_iconst (v := 1) C (by decide) d_N_post_59 ?_
    refine j_iadd C d_N_post_60 ?_
    refine pC_N_inFlight C u_45 d_N_post_61 ?_
    refine j_ltS (fun S41 => ?_)
    exact j_vret C rfl rfl d_N_post_64
end
