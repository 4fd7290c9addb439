section
-- ===== PART A: goes FIRST, ahead of the names: the tables' words, and 'selects' of the private methods out of them =====
/-- a private method of a class that the tables say can be made, by its rows of tables_1 -/
def lw_okq (q : MethodName × Nat) : Prop := (q.1.cls ≠ "java/lang/invoke/MethodHandle" ∧ q.1.cls ≠ "java/lang/invoke/VarHandle") ∧ Cond.instantiable q.1.cls q.2 ∈ tables_1 ∧ Cond.privateMethod q.1 ∈ tables_1 ∧ Cond.instanceMethod q.1 ∈ tables_1
theorem lw_p0 : lw_okq (⟨"AutoTeller$Machine", "takeTrace", "()V"⟩, 15) := ⟨⟨by decide +kernel, by decide +kernel⟩, List.mem_of_getElem? (i := 103) (by decide +kernel), List.mem_of_getElem? (i := 323) (by decide +kernel), List.mem_of_getElem? (i := 324) (by decide +kernel)⟩
theorem lw_p1 : lw_okq (⟨"AutoTeller$Machine", "send", "(II)Z"⟩, 15) := ⟨⟨by decide +kernel, by decide +kernel⟩, List.mem_of_getElem? (i := 103) (by decide +kernel), List.mem_of_getElem? (i := 327) (by decide +kernel), List.mem_of_getElem? (i := 328) (by decide +kernel)⟩
theorem lw_p2 : lw_okq (⟨"AutoTeller$Machine", "mayStep", "()Z"⟩, 15) := ⟨⟨by decide +kernel, by decide +kernel⟩, List.mem_of_getElem? (i := 103) (by decide +kernel), List.mem_of_getElem? (i := 331) (by decide +kernel), List.mem_of_getElem? (i := 332) (by decide +kernel)⟩
theorem lw_p3 : lw_okq (⟨"AutoTeller$Letter", "writeNumber", "(IJ)V"⟩, 2) := ⟨⟨by decide +kernel, by decide +kernel⟩, List.mem_of_getElem? (i := 28) (by decide +kernel), List.mem_of_getElem? (i := 351) (by decide +kernel), List.mem_of_getElem? (i := 352) (by decide +kernel)⟩
theorem lw_p4 : lw_okq (⟨"AutoTeller$Letter", "reckonCheck", "()I"⟩, 2) := ⟨⟨by decide +kernel, by decide +kernel⟩, List.mem_of_getElem? (i := 28) (by decide +kernel), List.mem_of_getElem? (i := 355) (by decide +kernel), List.mem_of_getElem? (i := 356) (by decide +kernel)⟩
theorem lw_p5 : lw_okq (⟨"AutoTeller$Notes", "findLargest", "()V"⟩, 11) := ⟨⟨by decide +kernel, by decide +kernel⟩, List.mem_of_getElem? (i := 109) (by decide +kernel), List.mem_of_getElem? (i := 377) (by decide +kernel), List.mem_of_getElem? (i := 378) (by decide +kernel)⟩
theorem lw_p6 : lw_okq (⟨"AutoTeller$Notes", "mostOf", "(III)I"⟩, 11) := ⟨⟨by decide +kernel, by decide +kernel⟩, List.mem_of_getElem? (i := 109) (by decide +kernel), List.mem_of_getElem? (i := 384) (by decide +kernel), List.mem_of_getElem? (i := 385) (by decide +kernel)⟩
theorem lw_p7 : lw_okq (⟨"AutoTeller$Notes", "mixRest", "(III)V"⟩, 11) := ⟨⟨by decide +kernel, by decide +kernel⟩, List.mem_of_getElem? (i := 109) (by decide +kernel), List.mem_of_getElem? (i := 388) (by decide +kernel), List.mem_of_getElem? (i := 389) (by decide +kernel)⟩
theorem lw_p8 : lw_okq (⟨"AutoTeller$Machine", "write", "(I)Z"⟩, 15) := ⟨⟨by decide +kernel, by decide +kernel⟩, List.mem_of_getElem? (i := 103) (by decide +kernel), List.mem_of_getElem? (i := 392) (by decide +kernel), List.mem_of_getElem? (i := 393) (by decide +kernel)⟩
theorem lw_p9 : lw_okq (⟨"AutoTeller$Machine", "endWithoutCard", "()V"⟩, 15) := ⟨⟨by decide +kernel, by decide +kernel⟩, List.mem_of_getElem? (i := 103) (by decide +kernel), List.mem_of_getElem? (i := 413) (by decide +kernel), List.mem_of_getElem? (i := 414) (by decide +kernel)⟩
theorem lw_p10 : lw_okq (⟨"AutoTeller$Machine", "reverse", "(Z)V"⟩, 15) := ⟨⟨by decide +kernel, by decide +kernel⟩, List.mem_of_getElem? (i := 103) (by decide +kernel), List.mem_of_getElem? (i := 434) (by decide +kernel), List.mem_of_getElem? (i := 435) (by decide +kernel)⟩
theorem lw_p11 : lw_okq (⟨"AutoTeller$Notes", "emptyStackerInto", "([I)V"⟩, 11) := ⟨⟨by decide +kernel, by decide +kernel⟩, List.mem_of_getElem? (i := 109) (by decide +kernel), List.mem_of_getElem? (i := 446) (by decide +kernel), List.mem_of_getElem? (i := 447) (by decide +kernel)⟩
theorem lw_p12 : lw_okq (⟨"AutoTeller", "handOver", "()V"⟩, 4) := ⟨⟨by decide +kernel, by decide +kernel⟩, List.mem_of_getElem? (i := 13) (by decide +kernel), List.mem_of_getElem? (i := 467) (by decide +kernel), List.mem_of_getElem? (i := 468) (by decide +kernel)⟩
theorem lw_p13 : lw_okq (⟨"AutoTeller$Letter", "readNumber", "(I)J"⟩, 2) := ⟨⟨by decide +kernel, by decide +kernel⟩, List.mem_of_getElem? (i := 28) (by decide +kernel), List.mem_of_getElem? (i := 486) (by decide +kernel), List.mem_of_getElem? (i := 487) (by decide +kernel)⟩
theorem lw_p14 : lw_okq (⟨"AutoTeller$Host", "decide", "(IIIJ)I"⟩, 11) := ⟨⟨by decide +kernel, by decide +kernel⟩, List.mem_of_getElem? (i := 57) (by decide +kernel), List.mem_of_getElem? (i := 505) (by decide +kernel), List.mem_of_getElem? (i := 506) (by decide +kernel)⟩
theorem lw_p15 : lw_okq (⟨"AutoTeller$Host", "tryPin", "(IJ)I"⟩, 11) := ⟨⟨by decide +kernel, by decide +kernel⟩, List.mem_of_getElem? (i := 57) (by decide +kernel), List.mem_of_getElem? (i := 509) (by decide +kernel), List.mem_of_getElem? (i := 510) (by decide +kernel)⟩
def lw_privs_1 : List (MethodName × Nat) := [(⟨"AutoTeller$Machine", "takeTrace", "()V"⟩, 15), (⟨"AutoTeller$Machine", "send", "(II)Z"⟩, 15), (⟨"AutoTeller$Machine", "mayStep", "()Z"⟩, 15), (⟨"AutoTeller$Letter", "writeNumber", "(IJ)V"⟩, 2), (⟨"AutoTeller$Letter", "reckonCheck", "()I"⟩, 2), (⟨"AutoTeller$Notes", "findLargest", "()V"⟩, 11), (⟨"AutoTeller$Notes", "mostOf", "(III)I"⟩, 11), (⟨"AutoTeller$Notes", "mixRest", "(III)V"⟩, 11), (⟨"AutoTeller$Machine", "write", "(I)Z"⟩, 15), (⟨"AutoTeller$Machine", "endWithoutCard", "()V"⟩, 15), (⟨"AutoTeller$Machine", "reverse", "(Z)V"⟩, 15), (⟨"AutoTeller$Notes", "emptyStackerInto", "([I)V"⟩, 11), (⟨"AutoTeller", "handOver", "()V"⟩, 4), (⟨"AutoTeller$Letter", "readNumber", "(I)J"⟩, 2), (⟨"AutoTeller$Host", "decide", "(IIIJ)I"⟩, 11), (⟨"AutoTeller$Host", "tryPin", "(IJ)I"⟩, 11)]
theorem lw_r1 : ∀ q ∈ lw_privs_1, lw_okq q := List.forall_mem_cons.mpr ⟨lw_p0, List.forall_mem_cons.mpr ⟨lw_p1, List.forall_mem_cons.mpr ⟨lw_p2, List.forall_mem_cons.mpr ⟨lw_p3, List.forall_mem_cons.mpr ⟨lw_p4, List.forall_mem_cons.mpr ⟨lw_p5, List.forall_mem_cons.mpr ⟨lw_p6, List.forall_mem_cons.mpr ⟨lw_p7, List.forall_mem_cons.mpr ⟨lw_p8, List.forall_mem_cons.mpr ⟨lw_p9, List.forall_mem_cons.mpr ⟨lw_p10, List.forall_mem_cons.mpr ⟨lw_p11, List.forall_mem_cons.mpr ⟨lw_p12, List.forall_mem_cons.mpr ⟨lw_p13, List.forall_mem_cons.mpr ⟨lw_p14, List.forall_mem_cons.mpr ⟨lw_p15, fun _ h => absurd h List.not_mem_nil⟩⟩⟩⟩⟩⟩⟩⟩⟩⟩⟩⟩⟩⟩⟩⟩
theorem lw_p16 : lw_okq (⟨"AutoTeller$Host", "takeOff", "(III)V"⟩, 11) := ⟨⟨by decide +kernel, by decide +kernel⟩, List.mem_of_getElem? (i := 57) (by decide +kernel), List.mem_of_getElem? (i := 513) (by decide +kernel), List.mem_of_getElem? (i := 514) (by decide +kernel)⟩
theorem lw_p17 : lw_okq (⟨"AutoTeller$Host", "giveBack", "(I)V"⟩, 11) := ⟨⟨by decide +kernel, by decide +kernel⟩, List.mem_of_getElem? (i := 57) (by decide +kernel), List.mem_of_getElem? (i := 517) (by decide +kernel), List.mem_of_getElem? (i := 518) (by decide +kernel)⟩
theorem lw_p18 : lw_okq (⟨"AutoTeller$Machine", "isAwaited", "(LAutoTeller$Letter;)Z"⟩, 15) := ⟨⟨by decide +kernel, by decide +kernel⟩, List.mem_of_getElem? (i := 103) (by decide +kernel), List.mem_of_getElem? (i := 527) (by decide +kernel), List.mem_of_getElem? (i := 528) (by decide +kernel)⟩
theorem lw_p19 : lw_okq (⟨"AutoTeller$Machine", "endPinCheck", "(I)V"⟩, 15) := ⟨⟨by decide +kernel, by decide +kernel⟩, List.mem_of_getElem? (i := 103) (by decide +kernel), List.mem_of_getElem? (i := 537) (by decide +kernel), List.mem_of_getElem? (i := 538) (by decide +kernel)⟩
theorem lw_p20 : lw_okq (⟨"AutoTeller$Machine", "payOut", "()V"⟩, 15) := ⟨⟨by decide +kernel, by decide +kernel⟩, List.mem_of_getElem? (i := 103) (by decide +kernel), List.mem_of_getElem? (i := 541) (by decide +kernel), List.mem_of_getElem? (i := 542) (by decide +kernel)⟩
theorem lw_p21 : lw_okq (⟨"AutoTeller$Machine", "stackMix", "()Z"⟩, 15) := ⟨⟨by decide +kernel, by decide +kernel⟩, List.mem_of_getElem? (i := 103) (by decide +kernel), List.mem_of_getElem? (i := 545) (by decide +kernel), List.mem_of_getElem? (i := 546) (by decide +kernel)⟩
theorem lw_p22 : lw_okq (⟨"AutoTeller$Machine", "recallLastBegun", "()V"⟩, 15) := ⟨⟨by decide +kernel, by decide +kernel⟩, List.mem_of_getElem? (i := 103) (by decide +kernel), List.mem_of_getElem? (i := 610) (by decide +kernel), List.mem_of_getElem? (i := 611) (by decide +kernel)⟩
theorem lw_p23 : lw_okq (⟨"AutoTellerModel", "sendStep", "(II)Z"⟩, 36) := ⟨⟨by decide +kernel, by decide +kernel⟩, List.mem_of_getElem? (i := 680) (by decide +kernel), List.mem_of_getElem? (i := 816) (by decide +kernel), List.mem_of_getElem? (i := 817) (by decide +kernel)⟩
theorem lw_p24 : lw_okq (⟨"AutoTellerModel", "step", "()Z"⟩, 36) := ⟨⟨by decide +kernel, by decide +kernel⟩, List.mem_of_getElem? (i := 680) (by decide +kernel), List.mem_of_getElem? (i := 820) (by decide +kernel), List.mem_of_getElem? (i := 821) (by decide +kernel)⟩
theorem lw_p25 : lw_okq (⟨"AutoTellerModel", "goOff", "()V"⟩, 36) := ⟨⟨by decide +kernel, by decide +kernel⟩, List.mem_of_getElem? (i := 680) (by decide +kernel), List.mem_of_getElem? (i := 824) (by decide +kernel), List.mem_of_getElem? (i := 825) (by decide +kernel)⟩
theorem lw_p26 : lw_okq (⟨"AutoTellerModel", "send", "(IIIIII)V"⟩, 36) := ⟨⟨by decide +kernel, by decide +kernel⟩, List.mem_of_getElem? (i := 680) (by decide +kernel), List.mem_of_getElem? (i := 828) (by decide +kernel), List.mem_of_getElem? (i := 829) (by decide +kernel)⟩
theorem lw_p27 : lw_okq (⟨"AutoTellerModel", "drop", "(I)V"⟩, 36) := ⟨⟨by decide +kernel, by decide +kernel⟩, List.mem_of_getElem? (i := 680) (by decide +kernel), List.mem_of_getElem? (i := 832) (by decide +kernel), List.mem_of_getElem? (i := 833) (by decide +kernel)⟩
theorem lw_p28 : lw_okq (⟨"AutoTellerModel", "findMix", "(I)Z"⟩, 36) := ⟨⟨by decide +kernel, by decide +kernel⟩, List.mem_of_getElem? (i := 680) (by decide +kernel), List.mem_of_getElem? (i := 845) (by decide +kernel), List.mem_of_getElem? (i := 846) (by decide +kernel)⟩
theorem lw_p29 : lw_okq (⟨"AutoTellerModel", "record", "(I)Z"⟩, 36) := ⟨⟨by decide +kernel, by decide +kernel⟩, List.mem_of_getElem? (i := 680) (by decide +kernel), List.mem_of_getElem? (i := 849) (by decide +kernel), List.mem_of_getElem? (i := 850) (by decide +kernel)⟩
theorem lw_p30 : lw_okq (⟨"AutoTellerModel", "reverse", "(Z)V"⟩, 36) := ⟨⟨by decide +kernel, by decide +kernel⟩, List.mem_of_getElem? (i := 680) (by decide +kernel), List.mem_of_getElem? (i := 865) (by decide +kernel), List.mem_of_getElem? (i := 866) (by decide +kernel)⟩
theorem lw_p31 : lw_okq (⟨"AutoTellerModel", "hasStacked", "()Z"⟩, 36) := ⟨⟨by decide +kernel, by decide +kernel⟩, List.mem_of_getElem? (i := 680) (by decide +kernel), List.mem_of_getElem? (i := 869) (by decide +kernel), List.mem_of_getElem? (i := 870) (by decide +kernel)⟩
def lw_privs_2 : List (MethodName × Nat) := [(⟨"AutoTeller$Host", "takeOff", "(III)V"⟩, 11), (⟨"AutoTeller$Host", "giveBack", "(I)V"⟩, 11), (⟨"AutoTeller$Machine", "isAwaited", "(LAutoTeller$Letter;)Z"⟩, 15), (⟨"AutoTeller$Machine", "endPinCheck", "(I)V"⟩, 15), (⟨"AutoTeller$Machine", "payOut", "()V"⟩, 15), (⟨"AutoTeller$Machine", "stackMix", "()Z"⟩, 15), (⟨"AutoTeller$Machine", "recallLastBegun", "()V"⟩, 15), (⟨"AutoTellerModel", "sendStep", "(II)Z"⟩, 36), (⟨"AutoTellerModel", "step", "()Z"⟩, 36), (⟨"AutoTellerModel", "goOff", "()V"⟩, 36), (⟨"AutoTellerModel", "send", "(IIIIII)V"⟩, 36), (⟨"AutoTellerModel", "drop", "(I)V"⟩, 36), (⟨"AutoTellerModel", "findMix", "(I)Z"⟩, 36), (⟨"AutoTellerModel", "record", "(I)Z"⟩, 36), (⟨"AutoTellerModel", "reverse", "(Z)V"⟩, 36), (⟨"AutoTellerModel", "hasStacked", "()Z"⟩, 36)]
theorem lw_r2 : ∀ q ∈ lw_privs_2, lw_okq q := List.forall_mem_cons.mpr ⟨lw_p16, List.forall_mem_cons.mpr ⟨lw_p17, List.forall_mem_cons.mpr ⟨lw_p18, List.forall_mem_cons.mpr ⟨lw_p19, List.forall_mem_cons.mpr ⟨lw_p20, List.forall_mem_cons.mpr ⟨lw_p21, List.forall_mem_cons.mpr ⟨lw_p22, List.forall_mem_cons.mpr ⟨lw_p23, List.forall_mem_cons.mpr ⟨lw_p24, List.forall_mem_cons.mpr ⟨lw_p25, List.forall_mem_cons.mpr ⟨lw_p26, List.forall_mem_cons.mpr ⟨lw_p27, List.forall_mem_cons.mpr ⟨lw_p28, List.forall_mem_cons.mpr ⟨lw_p29, List.forall_mem_cons.mpr ⟨lw_p30, List.forall_mem_cons.mpr ⟨lw_p31, fun _ h => absurd h List.not_mem_nil⟩⟩⟩⟩⟩⟩⟩⟩⟩⟩⟩⟩⟩⟩⟩⟩
theorem lw_p32 : lw_okq (⟨"AutoTellerModel", "isLetter", "(I)Z"⟩, 36) := ⟨⟨by decide +kernel, by decide +kernel⟩, List.mem_of_getElem? (i := 680) (by decide +kernel), List.mem_of_getElem? (i := 877) (by decide +kernel), List.mem_of_getElem? (i := 878) (by decide +kernel)⟩
theorem lw_p33 : lw_okq (⟨"AutoTellerModel", "come", "(IZ)V"⟩, 36) := ⟨⟨by decide +kernel, by decide +kernel⟩, List.mem_of_getElem? (i := 680) (by decide +kernel), List.mem_of_getElem? (i := 881) (by decide +kernel), List.mem_of_getElem? (i := 882) (by decide +kernel)⟩
theorem lw_p34 : lw_okq (⟨"AutoTellerModel", "machineTakes", "()Z"⟩, 36) := ⟨⟨by decide +kernel, by decide +kernel⟩, List.mem_of_getElem? (i := 680) (by decide +kernel), List.mem_of_getElem? (i := 885) (by decide +kernel), List.mem_of_getElem? (i := 886) (by decide +kernel)⟩
theorem lw_p35 : lw_okq (⟨"AutoTellerModel", "numberAt", "(I)I"⟩, 36) := ⟨⟨by decide +kernel, by decide +kernel⟩, List.mem_of_getElem? (i := 680) (by decide +kernel), List.mem_of_getElem? (i := 889) (by decide +kernel), List.mem_of_getElem? (i := 890) (by decide +kernel)⟩
theorem lw_p36 : lw_okq (⟨"AutoTellerModel", "giveOut", "()V"⟩, 36) := ⟨⟨by decide +kernel, by decide +kernel⟩, List.mem_of_getElem? (i := 680) (by decide +kernel), List.mem_of_getElem? (i := 893) (by decide +kernel), List.mem_of_getElem? (i := 894) (by decide +kernel)⟩
theorem lw_p37 : lw_okq (⟨"AutoTellerModel", "hostTakes", "()Z"⟩, 36) := ⟨⟨by decide +kernel, by decide +kernel⟩, List.mem_of_getElem? (i := 680) (by decide +kernel), List.mem_of_getElem? (i := 897) (by decide +kernel), List.mem_of_getElem? (i := 898) (by decide +kernel)⟩
theorem lw_p38 : lw_okq (⟨"AutoTellerModel", "onPin", "(III)I"⟩, 36) := ⟨⟨by decide +kernel, by decide +kernel⟩, List.mem_of_getElem? (i := 680) (by decide +kernel), List.mem_of_getElem? (i := 901) (by decide +kernel), List.mem_of_getElem? (i := 902) (by decide +kernel)⟩
theorem lw_p39 : lw_okq (⟨"AutoTellerModel", "onDebit", "(III)I"⟩, 36) := ⟨⟨by decide +kernel, by decide +kernel⟩, List.mem_of_getElem? (i := 680) (by decide +kernel), List.mem_of_getElem? (i := 905) (by decide +kernel), List.mem_of_getElem? (i := 906) (by decide +kernel)⟩
theorem lw_p40 : lw_okq (⟨"AutoTellerModel", "onReversal", "(I)I"⟩, 36) := ⟨⟨by decide +kernel, by decide +kernel⟩, List.mem_of_getElem? (i := 680) (by decide +kernel), List.mem_of_getElem? (i := 909) (by decide +kernel), List.mem_of_getElem? (i := 910) (by decide +kernel)⟩
def lw_privs_3 : List (MethodName × Nat) := [(⟨"AutoTellerModel", "isLetter", "(I)Z"⟩, 36), (⟨"AutoTellerModel", "come", "(IZ)V"⟩, 36), (⟨"AutoTellerModel", "machineTakes", "()Z"⟩, 36), (⟨"AutoTellerModel", "numberAt", "(I)I"⟩, 36), (⟨"AutoTellerModel", "giveOut", "()V"⟩, 36), (⟨"AutoTellerModel", "hostTakes", "()Z"⟩, 36), (⟨"AutoTellerModel", "onPin", "(III)I"⟩, 36), (⟨"AutoTellerModel", "onDebit", "(III)I"⟩, 36), (⟨"AutoTellerModel", "onReversal", "(I)I"⟩, 36)]
theorem lw_r3 : ∀ q ∈ lw_privs_3, lw_okq q := List.forall_mem_cons.mpr ⟨lw_p32, List.forall_mem_cons.mpr ⟨lw_p33, List.forall_mem_cons.mpr ⟨lw_p34, List.forall_mem_cons.mpr ⟨lw_p35, List.forall_mem_cons.mpr ⟨lw_p36, List.forall_mem_cons.mpr ⟨lw_p37, List.forall_mem_cons.mpr ⟨lw_p38, List.forall_mem_cons.mpr ⟨lw_p39, List.forall_mem_cons.mpr ⟨lw_p40, fun _ h => absurd h List.not_mem_nil⟩⟩⟩⟩⟩⟩⟩⟩⟩
def lw_privs : List (MethodName × Nat) := lw_privs_1 ++ (lw_privs_2 ++ (lw_privs_3))
def lw_tbl : List Cond := k2_sels lw_privs ++ tables_1
theorem lw_privs_ok : ∀ q ∈ lw_privs, lw_okq q := by
  show ∀ q ∈ lw_privs_1 ++ (lw_privs_2 ++ (lw_privs_3)), lw_okq q
  exact List.forall_mem_append.mpr ⟨lw_r1, List.forall_mem_append.mpr ⟨lw_r2, lw_r3⟩⟩
end
section
/-! the classes: fields in the order of their slots -/
def T_H : u_T := fun k => match k with
  | 0 => ("AutoTeller$Host", "line", "LAutoTeller$Line;", true)
  | 1 => ("AutoTeller$Host", "balances", "[J", true)
  | 2 => ("AutoTeller$Host", "accountOfCard", "[I", true)
  | 3 => ("AutoTeller$Host", "pinOfCard", "[I", true)
  | 4 => ("AutoTeller$Host", "triesOfCard", "[I", true)
  | 5 => ("AutoTeller$Host", "pinCodes", "[I", true)
  | 6 => ("AutoTeller$Host", "debits", "[I", true)
  | 7 => ("AutoTeller$Host", "debitAmounts", "[I", true)
  | 8 => ("AutoTeller$Host", "debitAccounts", "[I", true)
  | 9 => ("AutoTeller$Host", "takenOff", "J", false)
  | _ => ("AutoTeller$Host", "dropped", "I", false)
def ty_H : Nat → FieldType := fun k => match k with
  | 0 => .object "AutoTeller$Line"
  | 1 => .array .long
  | 2 => .array .int
  | 3 => .array .int
  | 4 => .array .int
  | 5 => .array .int
  | 6 => .array .int
  | 7 => .array .int
  | 8 => .array .int
  | 9 => .long
  | _ => .int
theorem nm_H : ∀ a, a < 11 → ∀ b, b < 11 → a ≠ b → (T_H a).2.1 ≠ (T_H b).2.1 := by decide +kernel
theorem tk_H : ∀ k, k < 11 → parseFieldDescriptor (T_H k).2.2.1 = some (ty_H k) := by decide +kernel
def T_J : u_T := fun k => match k with
  | 0 => ("AutoTeller$Journal", "kinds", "[I", true)
  | 1 => ("AutoTeller$Journal", "traces", "[I", true)
  | 2 => ("AutoTeller$Journal", "amounts", "[I", true)
  | 3 => ("AutoTeller$Journal", "cards", "[I", true)
  | _ => ("AutoTeller$Journal", "size", "I", false)
def ty_J : Nat → FieldType := fun k => match k with
  | 0 => .array .int
  | 1 => .array .int
  | 2 => .array .int
  | 3 => .array .int
  | _ => .int
theorem nm_J : ∀ a, a < 5 → ∀ b, b < 5 → a ≠ b → (T_J a).2.1 ≠ (T_J b).2.1 := by decide +kernel
theorem tk_J : ∀ k, k < 5 → parseFieldDescriptor (T_J k).2.2.1 = some (ty_J k) := by decide +kernel
def T_E : u_T := fun k => match k with
  | 0 => ("AutoTeller$Letter", "bytes", "[I", true)
  | _ => ("AutoTeller$Letter", "forHost", "Z", false)
def ty_E : Nat → FieldType := fun k => match k with
  | 0 => .array .int
  | _ => .boolean
theorem nm_E : ∀ a, a < 2 → ∀ b, b < 2 → a ≠ b → (T_E a).2.1 ≠ (T_E b).2.1 := by decide +kernel
theorem tk_E : ∀ k, k < 2 → parseFieldDescriptor (T_E k).2.2.1 = some (ty_E k) := by decide +kernel
def T_N : u_T := fun k => match k with
  | 0 => ("AutoTeller$Line", "letters", "[LAutoTeller$Letter;", true)
  | 1 => ("AutoTeller$Line", "inFlight", "I", false)
  | _ => ("AutoTeller$Line", "lostForRoom", "I", false)
def ty_N : Nat → FieldType := fun k => match k with
  | 0 => .array (.object "AutoTeller$Letter")
  | 1 => .int
  | _ => .int
theorem nm_N : ∀ a, a < 3 → ∀ b, b < 3 → a ≠ b → (T_N a).2.1 ≠ (T_N b).2.1 := by decide +kernel
theorem tk_N : ∀ k, k < 3 → parseFieldDescriptor (T_N k).2.2.1 = some (ty_N k) := by decide +kernel
def T_M : u_T := fun k => match k with
  | 0 => ("AutoTeller$Machine", "line", "LAutoTeller$Line;", true)
  | 1 => ("AutoTeller$Machine", "notes", "LAutoTeller$Notes;", true)
  | 2 => ("AutoTeller$Machine", "journal", "LAutoTeller$Journal;", true)
  | 3 => ("AutoTeller$Machine", "kept", "[Z", true)
  | 4 => ("AutoTeller$Machine", "on", "Z", false)
  | 5 => ("AutoTeller$Machine", "stepsLeft", "I", false)
  | 6 => ("AutoTeller$Machine", "phase", "I", false)
  | 7 => ("AutoTeller$Machine", "slot", "I", false)
  | 8 => ("AutoTeller$Machine", "nextTrace", "I", false)
  | 9 => ("AutoTeller$Machine", "openings", "I", false)
  | 10 => ("AutoTeller$Machine", "openingsWhenBegun", "I", false)
  | 11 => ("AutoTeller$Machine", "dropped", "I", false)
  | 12 => ("AutoTeller$Machine", "traceAtHand", "I", false)
  | 13 => ("AutoTeller$Machine", "cardAtHand", "I", false)
  | _ => ("AutoTeller$Machine", "amountAtHand", "I", false)
def ty_M : Nat → FieldType := fun k => match k with
  | 0 => .object "AutoTeller$Line"
  | 1 => .object "AutoTeller$Notes"
  | 2 => .object "AutoTeller$Journal"
  | 3 => .array .boolean
  | 4 => .boolean
  | 5 => .int
  | 6 => .int
  | 7 => .int
  | 8 => .int
  | 9 => .int
  | 10 => .int
  | 11 => .int
  | 12 => .int
  | 13 => .int
  | _ => .int
theorem nm_M : ∀ a, a < 15 → ∀ b, b < 15 → a ≠ b → (T_M a).2.1 ≠ (T_M b).2.1 := by decide +kernel
theorem tk_M : ∀ k, k < 15 → parseFieldDescriptor (T_M k).2.2.1 = some (ty_M k) := by decide +kernel
def T_O : u_T := fun k => match k with
  | 0 => ("AutoTeller$Notes", "denominations", "[I", true)
  | 1 => ("AutoTeller$Notes", "inCassette", "[I", true)
  | 2 => ("AutoTeller$Notes", "inStacker", "[I", true)
  | 3 => ("AutoTeller$Notes", "inTray", "[I", true)
  | 4 => ("AutoTeller$Notes", "inBin", "[I", true)
  | 5 => ("AutoTeller$Notes", "stackerWorth", "I", false)
  | 6 => ("AutoTeller$Notes", "trayWorth", "I", false)
  | 7 => ("AutoTeller$Notes", "everInTray", "J", false)
  | 8 => ("AutoTeller$Notes", "mixed", "[I", true)
  | 9 => ("AutoTeller$Notes", "fewest", "I", false)
  | _ => ("AutoTeller$Notes", "largest", "I", false)
def ty_O : Nat → FieldType := fun k => match k with
  | 0 => .array .int
  | 1 => .array .int
  | 2 => .array .int
  | 3 => .array .int
  | 4 => .array .int
  | 5 => .int
  | 6 => .int
  | 7 => .long
  | 8 => .array .int
  | 9 => .int
  | _ => .int
theorem nm_O : ∀ a, a < 11 → ∀ b, b < 11 → a ≠ b → (T_O a).2.1 ≠ (T_O b).2.1 := by decide +kernel
theorem tk_O : ∀ k, k < 11 → parseFieldDescriptor (T_O k).2.2.1 = some (ty_O k) := by decide +kernel
def T_A : u_T := fun k => match k with
  | 0 => ("AutoTeller", "line", "LAutoTeller$Line;", true)
  | 1 => ("AutoTeller", "host", "LAutoTeller$Host;", true)
  | 2 => ("AutoTeller", "machine", "LAutoTeller$Machine;", true)
  | _ => ("AutoTeller", "arriving", "LAutoTeller$Letter;", true)
def ty_A : Nat → FieldType := fun k => match k with
  | 0 => .object "AutoTeller$Line"
  | 1 => .object "AutoTeller$Host"
  | 2 => .object "AutoTeller$Machine"
  | _ => .object "AutoTeller$Letter"
theorem nm_A : ∀ a, a < 4 → ∀ b, b < 4 → a ≠ b → (T_A a).2.1 ≠ (T_A b).2.1 := by decide +kernel
theorem tk_A : ∀ k, k < 4 → parseFieldDescriptor (T_A k).2.2.1 = some (ty_A k) := by decide +kernel
def T_R : u_T := fun k => match k with
  | 0 => ("AutoTellerModel", "balances", "[J", true)
  | 1 => ("AutoTellerModel", "accountOf", "[I", true)
  | 2 => ("AutoTellerModel", "pinOf", "[I", true)
  | 3 => ("AutoTellerModel", "tries", "[I", true)
  | 4 => ("AutoTellerModel", "pinCode", "[I", true)
  | 5 => ("AutoTellerModel", "debitCode", "[I", true)
  | 6 => ("AutoTellerModel", "debitAccount", "[I", true)
  | 7 => ("AutoTellerModel", "debitAmount", "[I", true)
  | 8 => ("AutoTellerModel", "isReversed", "[Z", true)
  | 9 => ("AutoTellerModel", "off", "J", false)
  | 10 => ("AutoTellerModel", "denomination", "[I", true)
  | 11 => ("AutoTellerModel", "notes", "[I", true)
  | 12 => ("AutoTellerModel", "stacked", "[I", true)
  | 13 => ("AutoTellerModel", "inTray", "[I", true)
  | 14 => ("AutoTellerModel", "inBin", "[I", true)
  | 15 => ("AutoTellerModel", "stackedWorth", "J", false)
  | 16 => ("AutoTellerModel", "trayWorth", "J", false)
  | 17 => ("AutoTellerModel", "everWorth", "J", false)
  | 18 => ("AutoTellerModel", "isKept", "[Z", true)
  | 19 => ("AutoTellerModel", "records", "[I", true)
  | 20 => ("AutoTellerModel", "recordCount", "I", false)
  | 21 => ("AutoTellerModel", "nextTrace", "I", false)
  | 22 => ("AutoTellerModel", "openings", "I", false)
  | 23 => ("AutoTellerModel", "isOn", "Z", false)
  | 24 => ("AutoTellerModel", "armed", "I", false)
  | 25 => ("AutoTellerModel", "phase", "I", false)
  | 26 => ("AutoTellerModel", "slotCard", "I", false)
  | 27 => ("AutoTellerModel", "trace", "I", false)
  | 28 => ("AutoTellerModel", "cardAtHand", "I", false)
  | 29 => ("AutoTellerModel", "amount", "I", false)
  | 30 => ("AutoTellerModel", "line", "[I", true)
  | 31 => ("AutoTellerModel", "flying", "I", false)
  | 32 => ("AutoTellerModel", "dropped", "I", false)
  | 33 => ("AutoTellerModel", "lost", "I", false)
  | 34 => ("AutoTellerModel", "letter", "[I", true)
  | _ => ("AutoTellerModel", "mixed", "[I", true)
def ty_R : Nat → FieldType := fun k => match k with
  | 0 => .array .long
  | 1 => .array .int
  | 2 => .array .int
  | 3 => .array .int
  | 4 => .array .int
  | 5 => .array .int
  | 6 => .array .int
  | 7 => .array .int
  | 8 => .array .boolean
  | 9 => .long
  | 10 => .array .int
  | 11 => .array .int
  | 12 => .array .int
  | 13 => .array .int
  | 14 => .array .int
  | 15 => .long
  | 16 => .long
  | 17 => .long
  | 18 => .array .boolean
  | 19 => .array .int
  | 20 => .int
  | 21 => .int
  | 22 => .int
  | 23 => .boolean
  | 24 => .int
  | 25 => .int
  | 26 => .int
  | 27 => .int
  | 28 => .int
  | 29 => .int
  | 30 => .array .int
  | 31 => .int
  | 32 => .int
  | 33 => .int
  | 34 => .array .int
  | _ => .array .int
theorem nm_R : ∀ a, a < 36 → ∀ b, b < 36 → a ≠ b → (T_R a).2.1 ≠ (T_R b).2.1 := by decide +kernel
theorem tk_R : ∀ k, k < 36 → parseFieldDescriptor (T_R k).2.2.1 = some (ty_R k) := by decide +kernel
abbrev vwCl : List vw_C := [("AutoTeller$Host", T_H, 11), ("AutoTeller$Journal", T_J, 5), ("AutoTeller$Letter", T_E, 2), ("AutoTeller$Line", T_N, 3), ("AutoTeller$Machine", T_M, 15), ("AutoTeller$Notes", T_O, 11), ("AutoTeller", T_A, 4), ("AutoTellerModel", T_R, 36)]
end
section
/-! The machine's steps as a judgement over a pure program: Tj says that from this place the method ends, and ends as the pure program says. -/
abbrev Mem : Type := (Nat → Nat → Int32) × (Nat → Nat → Int64) × (Nat → Nat) × (Nat → Int32) × (Nat → Nat → Int32)
def sI (S : Mem) (f j : Nat) (v : Int32) : Mem := (fun g => if g = f then upd (S.1 f) j v else S.1 g, S.2)
def sL (S : Mem) (f j : Nat) (v : Int64) : Mem := (S.1, fun g => if g = f then vp_updL (S.2.1 f) j v else S.2.1 g, S.2.2)
def sG (S : Mem) (j v : Nat) : Mem := (S.1, S.2.1, va_up S.2.2.1 j v, S.2.2.2)
def sF (S : Mem) (j : Nat) (v : Int32) : Mem := (S.1, S.2.1, S.2.2.1, upd S.2.2.2.1 j v, S.2.2.2.2)
def sB (S : Mem) (j k : Nat) (v : Int32) : Mem := (S.1, S.2.1, S.2.2.1, S.2.2.2.1, va_up S.2.2.2.2 j (upd (S.2.2.2.2 j) k v))
def lt {γ : Type} {δ : Type} (e : γ) (k : γ → δ) : δ := k e
def grd {β : Type} (P : Prop) [Decidable P] (q : Option β) : Option β := if P then q else none
def vI (r : Int32) : Option Value := some (.int r)
def vL (r : Int64) : Option Value := some (.long r)
def vV (_ : Unit) : Option Value := none
/-- words that stay, and words of nest mates -/
def wU : List Cond := lw_tbl.filter goodWord
def isNest : Cond → Bool
  | .fieldLinkNest .. => true
  | .methodLinkNest .. => true
  | _ => false
def wN : List Cond := tables_1.filter isNest
theorem mU {q : Cond} (i : Nat) (h : tables_1[i]? = some q) (g : goodWord q = true) : q ∈ wU := List.mem_filter.mpr ⟨List.mem_append_right _ (List.mem_of_getElem? h), g⟩
theorem mUs {q : MethodName} (i : Nat) (h : (lw_privs[i]?).map (fun z => z.1) = some q) (g : goodWord (.selects q.cls q q) = true) : Cond.selects q.cls q q ∈ wU := by
  refine List.mem_filter.mpr ⟨List.mem_append_left _ ?_, g⟩
  cases hz : lw_privs[i]? with
  | none => rw [hz] at h; cases h
  | some z =>
    rw [hz] at h
    cases h
    exact List.mem_map.mpr ⟨z, List.mem_of_getElem? hz, rfl⟩
theorem mN {q : Cond} (i : Nat) (h : tables_1[i]? = some q) (g : isNest q = true) : q ∈ wN := List.mem_filter.mpr ⟨List.mem_of_getElem? h, g⟩
theorem wU_good : GoodIn wU wU := fun q h => ⟨h, good_of_word (List.mem_filter.mp h).2⟩
theorem goodIn_cons {big ws : List Cond} {q : Cond} (hq : q ∈ big) (hg : GoodIn big big) (h : GoodIn big ws) : GoodIn big (q :: ws) := fun z hz => by
  rcases List.mem_cons.mp hz with rfl | hz
  · exact hg _ hq
  · exact h _ hz
theorem wN_warm {s U : State} (hW : s.WarmedH U.vm) (h : ∀ q ∈ wN, va_Nw q s) : ∀ q ∈ wN, va_Nw q U := by
  intro q hq
  have h1 := h q hq
  have h2 := (List.mem_filter.mp hq).2
  cases q <;> first | exact va_Nw.warmF hW h1 | exact va_Nw.warmM hW h1 | (simp [isNest] at h2; done)
theorem wN_same {s U : State} (hW : s.vm = U.vm) (h : ∀ q ∈ wN, va_Nw q s) : ∀ q ∈ wN, va_Nw q U := by
  intro q hq
  have h1 := h q hq
  have h2 := (List.mem_filter.mp hq).2
  cases q <;> first | exact va_Nw.same rfl hW h1 | (simp [isNest] at h2; done)
/-- a method's end: its answer, and the world behind it -/
def Qg (D : va_G) (w : Mem → va_W) (A : Nat → Prop) (tgt : Option Value × Mem) : Array Value → State → Outcome → State → Prop := fun _ st oc t => oc = .returned tgt.1 ∧ va_P D vwCl (w tgt.2) t.heap ∧ va_F A st t
/-- a method's contract, for one start and one end -/
def Ctr (l : Launch) (y : MethodName) (cc : ByteArray) (nL : Nat) (rt : Option FieldType) (rm : Room) (D : va_G) (tys : List (ClassId × FieldType)) (w : Mem → va_W) (av : List Value) (S : Mem) (tgt : Option Value × Mem) : Prop :=
  ∀ sz : Nat, Met l y (.code y cc nL rt :: wU) rm (va_Pc av (fun U => U.heap.size = sz ∧ va_P D vwCl (w S) U.heap ∧ va_K D vwCl tys U ∧ (∀ q ∈ wN, va_Nw q U) ∧ va_D (fun _ => True) (w S))) (Qg D w (va_A (w S) sz) tgt) 0 0 (va_A (w S) sz)
/-- what holds all through a method's body -/
def Cx (p : Program) (s : State) (m : MethodId) (args : Array Value) (meth : Method) (c : Code) (own : String) (cc : ByteArray) (nL : Nat) (rt : Option FieldType) (D : va_G) (tys : List (ClassId × FieldType)) (w : Mem → va_W) (A : Nat → Prop) : Prop :=
  p.tables.exec = Jvm.exec ∧ c.code = cc ∧ c.maxLocals = nL ∧ s.vm.findClass own = some m.cls ∧ (∀ q ∈ wU, q.before args s = true) ∧ (∀ q ∈ wN, va_Nw q s) ∧ va_K D vwCl tys s ∧ (∀ S, va_D A (w S)) ∧ (∀ q, s.heap.size ≤ q → A q) ∧ meth.sig.returnType = rt ∧ meth.locks = false
def Tj (p : Program) (l : Launch) (e : Env) (R : Room) (s : State) (m : MethodId) (args : Array Value) (below : List Frame) (meth : Method) (c : Code) (D : va_G) (w : Mem → va_W) (A : Nat → Prop) (nL : Nat) {α β : Type} (vv : α → Option Value) (K : β → Option (α × Mem)) (prog : Option β) (S : Mem) (pc : Nat) (lv : List (Nat × Value)) (st : List Value) : Prop :=
  ∀ (r : α) (S1 : Mem), prog.bind K = some (r, S1) → ∀ (H : Heap) (locs : List Loc) (ls : Array Slot), va_P D vwCl (w S) H → va_S A s.heap H locs → lv_has ls nL lv → W p l e R s m args below meth c H locs 0 0 (MQ below (Qg D w A (vv r, S1)) args s 0 0 A) (F0 m pc ls st)
theorem w_D {w : Mem → va_W} {A : Nat → Prop} (hw : ∀ S S' : Mem, (w S).map Prod.fst = (w S').map Prod.fst) {S : Mem} (h : va_D A (w S)) (S' : Mem) : va_D A (w S') := by
  have key : ∀ (k : Nat) (q : Nat × va_E), (w S')[k]? = some q → ∃ q', (w S)[k]? = some q' ∧ q'.1 = q.1 := by
    intro k q hk
    have h1 : ((w S').map Prod.fst)[k]? = some q.1 := by rw [List.getElem?_map, hk]; rfl
    rw [hw S' S, List.getElem?_map] at h1
    cases hz : (w S)[k]? with
    | none => rw [hz] at h1; cases h1
    | some z => rw [hz] at h1; exact ⟨z, rfl, Option.some.inj h1⟩
  refine ⟨fun i j p q hi hj hpq => ?_, fun k q hk => ?_⟩
  · obtain ⟨a1, b1, c1⟩ := key i p hi
    obtain ⟨a2, b2, c2⟩ := key j q hj
    exact h.1 i j a1 a2 b1 b2 (by rw [c1, c2, hpq])
  · obtain ⟨a1, b1, c1⟩ := key k q hk
    rw [← c1]
    exact h.2 k a1 b1
section GO
variable {p : Program} {l : Launch} {e : Env} {R : Room} {s : State} {m : MethodId} {args : Array Value} {below : List Frame} {meth : Method} {c : Code}
variable {own : String} {cc : ByteArray} {nL : Nat} {rt : Option FieldType} {D : va_G} {tys : List (ClassId × FieldType)} {w : Mem → va_W} {A : Nat → Prop}
variable {α β γ δ : Type} {vv : α → Option Value} {K : β → Option (α × Mem)} {prog progA progB : Option β} {S : Mem} {pc : Nat} {lv : List (Nat × Value)} {rest st : List Value}
theorem Cx.hx (C : Cx p s m args meth c own cc nL rt D tys w A) : p.tables.exec = Jvm.exec := C.1
theorem Cx.hb (C : Cx p s m args meth c own cc nL rt D tys w A) : c.code = cc := C.2.1
theorem Cx.hml (C : Cx p s m args meth c own cc nL rt D tys w A) : c.maxLocals = nL := C.2.2.1
theorem Cx.hown (C : Cx p s m args meth c own cc nL rt D tys w A) : s.vm.findClass own = some m.cls := C.2.2.2.1
theorem Cx.hts (C : Cx p s m args meth c own cc nL rt D tys w A) : ∀ q ∈ wU, q.before args s = true := C.2.2.2.2.1
theorem Cx.hN (C : Cx p s m args meth c own cc nL rt D tys w A) : ∀ q ∈ wN, va_Nw q s := C.2.2.2.2.2.1
theorem Cx.hK (C : Cx p s m args meth c own cc nL rt D tys w A) : va_K D vwCl tys s := C.2.2.2.2.2.2.1
theorem Cx.hD (C : Cx p s m args meth c own cc nL rt D tys w A) : ∀ S, va_D A (w S) := C.2.2.2.2.2.2.2.1
theorem Cx.hA (C : Cx p s m args meth c own cc nL rt D tys w A) : ∀ q, s.heap.size ≤ q → A q := C.2.2.2.2.2.2.2.2.1
theorem Cx.hr (C : Cx p s m args meth c own cc nL rt D tys w A) : meth.sig.returnType = rt := C.2.2.2.2.2.2.2.2.2.1
theorem Cx.hk (C : Cx p s m args meth c own cc nL rt D tys w A) : meth.locks = false := C.2.2.2.2.2.2.2.2.2.2
-- the program's own steps
theorem j_lt {e0 : γ} {k : γ → Option β} {f : γ → Value} (h : ∀ x : γ, Tj p l e R s m args below meth c D w A nL vv K (k x) S pc lv (f x :: rest)) : Tj p l e R s m args below meth c D w A nL vv K (lt e0 k) S pc lv (f e0 :: rest) := h e0
theorem j_lti {e0 : Int32} {k : Int32 → Option β} (h : ∀ x : Int32, Tj p l e R s m args below meth c D w A nL vv K (k x) S pc lv (.int x :: rest)) : Tj p l e R s m args below meth c D w A nL vv K (lt e0 k) S pc lv (.int e0 :: rest) := h e0
theorem j_ltl {e0 : Int64} {k : Int64 → Option β} (h : ∀ x : Int64, Tj p l e R s m args below meth c D w A nL vv K (k x) S pc lv (.long x :: rest)) : Tj p l e R s m args below meth c D w A nL vv K (lt e0 k) S pc lv (.long e0 :: rest) := h e0
theorem j_ltS {S0 : Mem} {k : Mem → Option β} (h : ∀ x : Mem, Tj p l e R s m args below meth c D w A nL vv K (k x) x pc lv st) : Tj p l e R s m args below meth c D w A nL vv K (lt S0 k) S0 pc lv st := h S0
theorem j_grd {P : Prop} {iP : Decidable P} (h : P → Tj p l e R s m args below meth c D w A nL vv K prog S pc lv st) : Tj p l e R s m args below meth c D w A nL vv K (@grd β P iP prog) S pc lv st := by
  intro r S1 hb
  by_cases hP : P
  · exact h hP r S1 (by rw [grd, if_pos hP] at hb; exact hb)
  · rw [grd, if_neg hP] at hb
    cases hb
theorem j_if {P : Prop} {iP : Decidable P} (ht : P → Tj p l e R s m args below meth c D w A nL vv K progA S pc lv st) (hf : ¬ P → Tj p l e R s m args below meth c D w A nL vv K progB S pc lv st) : Tj p l e R s m args below meth c D w A nL vv K (@ite _ P iP progA progB) S pc lv st := by
  intro r S1 hb
  by_cases hP : P
  · exact ht hP r S1 (by rw [if_pos hP] at hb; exact hb)
  · exact hf hP r S1 (by rw [if_neg hP] at hb; exact hb)
theorem j_sub {lv' : List (Nat × Value)} (ks : List Nat) (hl : lv_pick lv ks = lv') (h : Tj p l e R s m args below meth c D w A nL vv K prog S pc lv' st) : Tj p l e R s m args below meth c D w A nL vv K prog S pc lv st := fun r S1 hb H locs ls hP hS hv => h r S1 hb H locs ls hP hS (lv_sub hv ks hl)
/-- a piece, and what follows it -/
theorem j_seq {β' : Type} {q : Option β'} {F : β' → Option β} (h : Tj p l e R s m args below meth c D w A nL vv (fun z => (F z).bind K) q S pc lv st) : Tj p l e R s m args below meth c D w A nL vv K (q.bind F) S pc lv st := by
  intro r S1 hb
  exact h r S1 (by rw [Option.bind_assoc] at hb; exact hb)
theorem j_out {β' : Type} {z : β'} {F : β' → Option β} (h : Tj p l e R s m args below meth c D w A nL vv K (F z) S pc lv st) : Tj p l e R s m args below meth c D w A nL vv (fun z => (F z).bind K) (some z) S pc lv st := fun r S1 hb => h r S1 hb
theorem j_iret (C : Cx p s m args meth c own cc nL (some .int) D tys w A) {b : β} {r : α} {v : Int32} (hk : K b = some (r, S)) (hv : vv r = some (.int v)) (d : decode cc pc = .ok (.ireturn, 1)) : Tj p l e R s m args below meth c D w A nL vv K (some b) S pc lv [.int v] := by
  intro r' S1 hb H locs ls hP hS hl
  have h1 : some (r, S) = some (r', S1) := hk.symm.trans hb
  cases h1
  have hlk := C.hk
  exact W.iret C.hx C.hb C.hr (fun t ht hW => ⟨by rw [hv], by rw [ht]; exact hP, hS.F ht⟩) hS.2.2 d
theorem j_zret (C : Cx p s m args meth c own cc nL (some .boolean) D tys w A) {b : β} {r : α} {v : Int32} (hz : v = 0 ∨ v = 1) (hk : K b = some (r, S)) (hv : vv r = some (.int v)) (d : decode cc pc = .ok (.ireturn, 1)) : Tj p l e R s m args below meth c D w A nL vv K (some b) S pc lv [.int v] := by
  intro r' S1 hb H locs ls hP hS hl
  have h1 : some (r, S) = some (r', S1) := hk.symm.trans hb
  cases h1
  have hlk := C.hk
  exact W.zret (ty := .boolean) C.hx C.hb C.hr (by rcases hz with rfl | rfl <;> rfl) (fun t ht hW => ⟨by rw [hv], by rw [ht]; exact hP, hS.F ht⟩) hS.2.2 d
theorem j_lret (C : Cx p s m args meth c own cc nL (some .long) D tys w A) {b : β} {r : α} {v : Int64} (hk : K b = some (r, S)) (hv : vv r = some (.long v)) (d : decode cc pc = .ok (.lreturn, 1)) : Tj p l e R s m args below meth c D w A nL vv K (some b) S pc lv [.long v] := by
  intro r' S1 hb H locs ls hP hS hl
  have h1 : some (r, S) = some (r', S1) := hk.symm.trans hb
  cases h1
  have hlk := C.hk
  exact W.lret C.hx C.hb C.hr (fun t ht hW => ⟨by rw [hv], by rw [ht]; exact hP, hS.F ht⟩) hS.2.2 d
theorem j_vret (C : Cx p s m args meth c own cc nL none D tys w A) {b : β} {r : α} (hk : K b = some (r, S)) (hv : vv r = none) (d : decode cc pc = .ok (.return_, 1)) : Tj p l e R s m args below meth c D w A nL vv K (some b) S pc lv [] := by
  intro r' S1 hb H locs ls hP hS hl
  have h1 : some (r, S) = some (r', S1) := hk.symm.trans hb
  cases h1
  have hlk := C.hk
  exact W.vret C.hx C.hb C.hr (fun t ht hW => ⟨by rw [hv], by rw [ht]; exact hP, hS.F ht⟩) hS.2.2 d
-- fields
theorem j_get (C : Cx p s m args meth c own cc nL rt D tys w A) {Cn ref : String} {T : u_T} {N ci index a : Nat} {fs : List Value} {v : Value} (q0 k : Nat) (hin : ∀ q ∈ u_ws Cn T N, q ∈ wU) (hc : vwCl[ci]? = some (Cn, T, N)) (he : (w S)[q0]? = some (a, .inr (ci, fs))) (hv : fs[k]? = some v) (hk : k < N) (hrf : (T k).1 = ref) (hl : Cond.fieldLink own index ref (T k).2.1 (T k).2.2.1 ∈ wU) (d : decode cc pc = .ok (.getfield index, 3))
    (h : Tj p l e R s m args below meth c D w A nL vv K prog S (pc + 3) lv (v :: rest)) : Tj p l e R s m args below meth c D w A nL vv K prog S pc lv (.ref a :: rest) := fun r S1 hb H locs ls hP hS hlv =>
  va_get (ref := ref) C.hx C.hb C.hts hin C.hown C.hK hP q0 he hc k hk (C.hts _ hl) (fun z hz => by rw [← hrf]; exact hz) hv d (h r S1 hb H locs ls hP hS hlv)
theorem j_getN (C : Cx p s m args meth c own cc nL rt D tys w A) {Cn ref host : String} {T : u_T} {N ci index a : Nat} {fs : List Value} {v : Value} (q0 k : Nat) (hin : ∀ q ∈ u_ws Cn T N, q ∈ wU) (hc : vwCl[ci]? = some (Cn, T, N)) (he : (w S)[q0]? = some (a, .inr (ci, fs))) (hv : fs[k]? = some v) (hk : k < N) (hrf : (T k).1 = ref) (hl : Cond.fieldLinkNest own index ref (T k).2.1 (T k).2.2.1 host ∈ wN) (d : decode cc pc = .ok (.getfield index, 3))
    (h : Tj p l e R s m args below meth c D w A nL vv K prog S (pc + 3) lv (v :: rest)) : Tj p l e R s m args below meth c D w A nL vv K prog S pc lv (.ref a :: rest) := fun r S1 hb H locs ls hP hS hlv =>
  va_getN (ref := ref) C.hx C.hb C.hts hin C.hown C.hK hP q0 he hc k hk (va_Nw.use rfl (C.hN _ hl)) (fun z hz => by rw [← hrf]; exact hz) hv d (h r S1 hb H locs ls hP hS hlv)
theorem j_put (C : Cx p s m args meth c own cc nL rt D tys w A) {Cn ref : String} {T : u_T} {ty0 : Nat → FieldType} {N ci index a : Nat} {fs : List Value} {v : Value} {S2 : Mem} {ty : FieldType} (q0 k : Nat) (hin : ∀ q ∈ u_ws Cn T N, q ∈ wU) (hty : ∀ k, k < N → parseFieldDescriptor (T k).2.2.1 = some (ty0 k)) (hnm : ∀ a, a < N → ∀ b, b < N → a ≠ b → (T a).2.1 ≠ (T b).2.1) (hc : vwCl[ci]? = some (Cn, T, N)) (he : (w S)[q0]? = some (a, .inr (ci, fs))) (hfs : k < fs.length) (hset : (w S).set q0 (a, .inr (ci, fs.set k v)) = w S2) (hk : k < N) (hrf : (T k).1 = ref) (hfin : (T k).2.2.2 = false) (hd : parseFieldDescriptor (T k).2.2.1 = some ty) (hn : narrow ty v = v) (hfit : fits ty v = true) (hl : Cond.fieldLink own index ref (T k).2.1 (T k).2.2.1 ∈ wU) (d : decode cc pc = .ok (.putfield index, 3))
    (h : Tj p l e R s m args below meth c D w A nL vv K prog S2 (pc + 3) lv rest) : Tj p l e R s m args below meth c D w A nL vv K prog S pc lv (v :: .ref a :: rest) := fun r S1 hb H locs ls hP hS hlv =>
  va_put (ref := ref) C.hx C.hb C.hts hin ty0 hty hnm C.hown C.hK hP (C.hD S) hS q0 he hc k hk (C.hts _ hl) (fun z hz => by rw [← hrf]; exact hz) hfin hd hn hfit hfs d (fun H1 locs1 hP1 _ hS1 => h r S1 hb H1 locs1 ls (by rw [hset] at hP1; exact hP1) hS1 hlv)
theorem j_putN (C : Cx p s m args meth c own cc nL rt D tys w A) {Cn ref host : String} {T : u_T} {ty0 : Nat → FieldType} {N ci index a : Nat} {fs : List Value} {v : Value} {S2 : Mem} {ty : FieldType} (q0 k : Nat) (hin : ∀ q ∈ u_ws Cn T N, q ∈ wU) (hty : ∀ k, k < N → parseFieldDescriptor (T k).2.2.1 = some (ty0 k)) (hnm : ∀ a, a < N → ∀ b, b < N → a ≠ b → (T a).2.1 ≠ (T b).2.1) (hc : vwCl[ci]? = some (Cn, T, N)) (he : (w S)[q0]? = some (a, .inr (ci, fs))) (hfs : k < fs.length) (hset : (w S).set q0 (a, .inr (ci, fs.set k v)) = w S2) (hk : k < N) (hrf : (T k).1 = ref) (hfin : (T k).2.2.2 = false) (hd : parseFieldDescriptor (T k).2.2.1 = some ty) (hn : narrow ty v = v) (hfit : fits ty v = true) (hl : Cond.fieldLinkNest own index ref (T k).2.1 (T k).2.2.1 host ∈ wN) (d : decode cc pc = .ok (.putfield index, 3))
    (h : Tj p l e R s m args below meth c D w A nL vv K prog S2 (pc + 3) lv rest) : Tj p l e R s m args below meth c D w A nL vv K prog S pc lv (v :: .ref a :: rest) := fun r S1 hb H locs ls hP hS hlv =>
  va_putN (ref := ref) C.hx C.hb C.hts hin ty0 hty hnm C.hown C.hK hP (C.hD S) hS q0 he hc k hk (va_Nw.use rfl (C.hN _ hl)) (fun z hz => by rw [← hrf]; exact hz) hfin hd hn hfit hfs d (fun H1 locs1 hP1 _ hS1 => h r S1 hb H1 locs1 ls (by rw [hset] at hP1; exact hP1) hS1 hlv)
-- arrays
theorem j_iald (C : Cx p s m args meth c own cc nL rt D tys w A) (q0 t0 : Nat) {cA : ClassId} {n a : Nat} {f : Nat → Int32} {i : Int32} (ht : tys[t0]? = some (cA, .int)) (ha : (w S)[q0]? = some (a, .inl (cA, n, .inl f))) (hin : ¬ (i < 0 ∨ n ≤ i.toNatClampNeg)) (d : decode cc pc = .ok (.iaload, 1))
    (h : Tj p l e R s m args below meth c D w A nL vv K prog S (pc + 1) lv (.int (f i.toNatClampNeg) :: rest)) : Tj p l e R s m args below meth c D w A nL vv K prog S pc lv (.int i :: .ref a :: rest) := fun r S1 hb H locs ls hP hS hlv =>
  va_iald C.hx C.hb C.hK hP q0 t0 ha ht hin d (h r S1 hb H locs ls hP hS hlv)
theorem j_zald (C : Cx p s m args meth c own cc nL rt D tys w A) (q0 t0 : Nat) {cA : ClassId} {n a : Nat} {f : Nat → Int32} {i : Int32} (ht : tys[t0]? = some (cA, .boolean)) (ha : (w S)[q0]? = some (a, .inl (cA, n, .inl f))) (hin : ¬ (i < 0 ∨ n ≤ i.toNatClampNeg)) (d : decode cc pc = .ok (.baload, 1))
    (h : Tj p l e R s m args below meth c D w A nL vv K prog S (pc + 1) lv (.int (f i.toNatClampNeg) :: rest)) : Tj p l e R s m args below meth c D w A nL vv K prog S pc lv (.int i :: .ref a :: rest) := fun r S1 hb H locs ls hP hS hlv =>
  va_zald C.hx C.hb C.hK hP q0 t0 ha ht hin d (h r S1 hb H locs ls hP hS hlv)
theorem j_lald (C : Cx p s m args meth c own cc nL rt D tys w A) (q0 t0 : Nat) {cA : ClassId} {n a : Nat} {f : Nat → Int64} {i : Int32} (ht : tys[t0]? = some (cA, .long)) (ha : (w S)[q0]? = some (a, .inl (cA, n, .inr (.inl f)))) (hin : ¬ (i < 0 ∨ n ≤ i.toNatClampNeg)) (d : decode cc pc = .ok (.laload, 1))
    (h : Tj p l e R s m args below meth c D w A nL vv K prog S (pc + 1) lv (.long (f i.toNatClampNeg) :: rest)) : Tj p l e R s m args below meth c D w A nL vv K prog S pc lv (.int i :: .ref a :: rest) := fun r S1 hb H locs ls hP hS hlv =>
  va_lald C.hx C.hb C.hK hP q0 t0 ha ht hin d (h r S1 hb H locs ls hP hS hlv)
theorem j_iast (C : Cx p s m args meth c own cc nL rt D tys w A) (q0 t0 : Nat) {cA : ClassId} {n a : Nat} {f : Nat → Int32} {i v : Int32} {S2 : Mem} (ht : tys[t0]? = some (cA, .int)) (ha : (w S)[q0]? = some (a, .inl (cA, n, .inl f))) (hset : (w S).set q0 (a, .inl (cA, n, .inl (upd f i.toNatClampNeg v))) = w S2) (hin : ¬ (i < 0 ∨ n ≤ i.toNatClampNeg)) (d : decode cc pc = .ok (.iastore, 1))
    (h : Tj p l e R s m args below meth c D w A nL vv K prog S2 (pc + 1) lv rest) : Tj p l e R s m args below meth c D w A nL vv K prog S pc lv (.int v :: .int i :: .ref a :: rest) := fun r S1 hb H locs ls hP hS hlv =>
  va_iast C.hx C.hb C.hK hP (C.hD S) hS q0 t0 ha ht hin d (fun H1 locs1 hP1 _ hS1 => h r S1 hb H1 locs1 ls (by rw [← hset]; exact hP1) hS1 hlv)
theorem j_zast (C : Cx p s m args meth c own cc nL rt D tys w A) (q0 t0 : Nat) {cA : ClassId} {n a : Nat} {f : Nat → Int32} {i v : Int32} {S2 : Mem} (hz : v = 0 ∨ v = 1) (ht : tys[t0]? = some (cA, .boolean)) (ha : (w S)[q0]? = some (a, .inl (cA, n, .inl f))) (hset : (w S).set q0 (a, .inl (cA, n, .inl (upd f i.toNatClampNeg v))) = w S2) (hin : ¬ (i < 0 ∨ n ≤ i.toNatClampNeg)) (d : decode cc pc = .ok (.bastore, 1))
    (h : Tj p l e R s m args below meth c D w A nL vv K prog S2 (pc + 1) lv rest) : Tj p l e R s m args below meth c D w A nL vv K prog S pc lv (.int v :: .int i :: .ref a :: rest) := fun r S1 hb H locs ls hP hS hlv =>
  va_zast C.hx C.hb C.hK hP (C.hD S) hS q0 t0 ha ht hin d (fun H1 locs1 hP1 _ hS1 => h r S1 hb H1 locs1 ls (by rw [← hset]; rw [show vp_nar .boolean v = v by rcases hz with rfl | rfl <;> rfl] at hP1; exact hP1) hS1 hlv)
theorem j_last (C : Cx p s m args meth c own cc nL rt D tys w A) (q0 t0 : Nat) {cA : ClassId} {n a : Nat} {f : Nat → Int64} {i : Int32} {v : Int64} {S2 : Mem} (ht : tys[t0]? = some (cA, .long)) (ha : (w S)[q0]? = some (a, .inl (cA, n, .inr (.inl f)))) (hset : (w S).set q0 (a, .inl (cA, n, .inr (.inl (vp_updL f i.toNatClampNeg v)))) = w S2) (hin : ¬ (i < 0 ∨ n ≤ i.toNatClampNeg)) (d : decode cc pc = .ok (.lastore, 1))
    (h : Tj p l e R s m args below meth c D w A nL vv K prog S2 (pc + 1) lv rest) : Tj p l e R s m args below meth c D w A nL vv K prog S pc lv (.long v :: .int i :: .ref a :: rest) := fun r S1 hb H locs ls hP hS hlv =>
  va_last C.hx C.hb C.hK hP (C.hD S) hS q0 t0 ha ht hin d (fun H1 locs1 hP1 _ hS1 => h r S1 hb H1 locs1 ls (by rw [← hset]; exact hP1) hS1 hlv)
theorem j_alen (C : Cx p s m args meth c own cc nL rt D tys w A) (q0 t0 : Nat) {cA : ClassId} {a : Nat} {z : vp_A} {ty : FieldType} {v : Int32} (ht : tys[t0]? = some (cA, ty)) (ha : (w S)[q0]? = some (a, .inl (cA, z))) (hv : Int32.ofNat z.1 = v) (d : decode cc pc = .ok (.arraylength, 1))
    (h : Tj p l e R s m args below meth c D w A nL vv K prog S (pc + 1) lv (.int v :: rest)) : Tj p l e R s m args below meth c D w A nL vv K prog S pc lv (.ref a :: rest) := fun r S1 hb H locs ls hP hS hlv =>
  va_alen C.hx C.hb C.hK hP q0 t0 ha ht hv d (h r S1 hb H locs ls hP hS hlv)
theorem j_aald (C : Cx p s m args meth c own cc nL rt D tys w A) (q0 t0 : Nat) {cA : ClassId} {Cn : String} {n a b : Nat} {f : Nat → Option Nat} {i : Int32} (ht : tys[t0]? = some (cA, .object Cn)) (ha : (w S)[q0]? = some (a, .inl (cA, n, .inr (.inr (.inr (.inr f)))))) (hin : ¬ (i < 0 ∨ n ≤ i.toNatClampNeg)) (hf : f i.toNatClampNeg = some b) (d : decode cc pc = .ok (.aaload, 1))
    (h : Tj p l e R s m args below meth c D w A nL vv K prog S (pc + 1) lv (.ref b :: rest)) : Tj p l e R s m args below meth c D w A nL vv K prog S pc lv (.int i :: .ref a :: rest) := fun r S1 hb H locs ls hP hS hlv =>
  va_aldq C.hx C.hb C.hK hP q0 t0 ha ht hin d (by rw [hf]; exact h r S1 hb H locs ls hP hS hlv)
theorem j_aast (C : Cx p s m args meth c own cc nL rt D tys w A) (q0 t0 qk ci : Nat) {cA : ClassId} {r0 : vw_C} {n a b : Nat} {vs : List Value} {f : Nat → Option Nat} {i : Int32} {S2 : Mem} (ht : tys[t0]? = some (cA, .object r0.1)) (ha : (w S)[q0]? = some (a, .inl (cA, n, .inr (.inr (.inr (.inr f)))))) (hb0 : (w S)[qk]? = some (b, .inr (ci, vs))) (hc : vwCl[ci]? = some r0) (hset : (w S).set q0 (a, .inl (cA, n, .inr (.inr (.inr (.inr (va_up f i.toNatClampNeg (some b))))))) = w S2) (hin : ¬ (i < 0 ∨ n ≤ i.toNatClampNeg)) (d : decode cc pc = .ok (.aastore, 1))
    (h : Tj p l e R s m args below meth c D w A nL vv K prog S2 (pc + 1) lv rest) : Tj p l e R s m args below meth c D w A nL vv K prog S pc lv (.ref b :: .int i :: .ref a :: rest) := fun r S1 hb H locs ls hP hS hlv =>
  va_astq C.hx C.hb C.hK hP (C.hD S) hS q0 t0 qk ci ha ht hb0 hc hin d (fun H1 locs1 hP1 _ hS1 => h r S1 hb H1 locs1 ls (by rw [← hset]; exact hP1) hS1 hlv)
-- calls
theorem j_run {tgt : Option Value × Mem} {ar : Array Value} {st0 : List Value} (C : Cx p s m args meth c own cc nL rt D tys w A) (hr : ∀ (H : Heap) (locs : List Loc) (ls : Array Slot), va_P D vwCl (w S) H → va_S A s.heap H locs → lv_has ls nL lv → va_Run p l e R s m args below meth c H locs 0 0 0 0 (F0 m pc ls st0) rest (Qg D w (va_A (w S) H.size) tgt ar) (va_A (w S) H.size))
    (h : Tj p l e R s m args below meth c D w A nL vv K prog tgt.2 (pc + 3) lv (tgt.1.toList ++ rest)) : Tj p l e R s m args below meth c D w A nL vv K prog S pc lv st0 := by
  intro r S1 hb H locs ls hP hS hlv T hT X
  have hsub : ∀ q, va_A (w S) H.size q → A q := fun q hq => by
    rcases hq with ⟨k, e0, hk⟩ | hq
    · exact (C.hD S).2 k _ hk
    · exact C.hA q (Nat.le_trans hS.1 hq)
  obtain ⟨v, st₀, t, T', L, h0, X', hL, e1, e2, ⟨hv, hP1, hz, hk⟩, stp⟩ := hr H locs ls hP hS hlv T hT X
  have hv' : v = tgt.1 := Outcome.returned.inj hv
  rw [h0] at hz hk
  have hS' : va_S A s.heap T'.heap (locs ++ L) := by
    refine ⟨Nat.le_trans hS.1 (by rw [e1]; exact hz), fun q h1 h2 => ?_, fun q hq => ?_⟩
    · rw [e1, hk q (Nat.lt_of_lt_of_le h1 hS.1) (fun z => h2 (hsub q z))]
      exact hS.2.1 q h1 h2
    · rcases List.mem_append.mp hq with h | h
      · exact hS.2.2 q h
      · exact hsub _ (hL q h)
  obtain ⟨t2, a1, b1⟩ := h r S1 hb T'.heap (locs ++ L) ls (by rw [e1]; exact hP1) hS' hlv T' rfl X'
  exact ⟨t2, stp t2 (by rw [hv']; exact a1), b1⟩
def Yv (y : MethodName) (bytes : ByteArray) (maxL : Nat) (ry : Option FieldType) (n : Nat) : Prop := Cond.instanceMethod y ∈ wU ∧ Cond.selects y.cls y y ∈ wU ∧ Cond.initialized y.cls ∈ wU ∧ Cond.code y bytes maxL ry ∈ wU ∧ y.cls ≠ "java/lang/invoke/MethodHandle" ∧ y.cls ≠ "java/lang/invoke/VarHandle" ∧ (parseMethodDescriptor y.desc).map (fun d => d.parameters.length) = some n
def Ys (y : MethodName) (bytes : ByteArray) (maxL : Nat) (ry : Option FieldType) (n : Nat) : Prop := Cond.static y ∈ wU ∧ Cond.initialized y.cls ∈ wU ∧ Cond.code y bytes maxL ry ∈ wU ∧ y.cls ≠ "java/lang/invoke/MethodHandle" ∧ y.cls ≠ "java/lang/invoke/VarHandle" ∧ (parseMethodDescriptor y.desc).map (fun d => d.parameters.length) = some n
theorem c_blind {av : List Value} {sz : Nat} : FrameBlind (va_Pc av (fun U => U.heap.size = sz ∧ va_P D vwCl (w S) U.heap ∧ va_K D vwCl tys U ∧ (∀ q ∈ wN, va_Nw q U) ∧ va_D (fun _ => True) (w S))) := fun a U g mk q => by
  obtain ⟨q0, q1, qP, qK, qN, qD⟩ := q
  exact ⟨q0, q1, qP, va_K.moved (u := U) (U := U.calling g mk a) (Vm.Alike.refl U.vm) qK, wN_same (s := U) (U := U.calling g mk a) rfl qN, qD⟩
theorem c_pre (C : Cx p s m args meth c own cc nL rt D tys w A) {H : Heap} (hP : va_P D vwCl (w S) H) {av : List Value} : ∀ U : State, U.heap = H → s.WarmedH U.vm → va_Pc av (fun U => U.heap.size = H.size ∧ va_P D vwCl (w S) U.heap ∧ va_K D vwCl tys U ∧ (∀ q ∈ wN, va_Nw q U) ∧ va_D (fun _ => True) (w S)) av.toArray U := fun U hU hW => ⟨rfl, by rw [hU], by rw [hU]; exact hP, va_K.moved hW.alike C.hK, wN_warm hW C.hN, (C.hD S).weaken (fun _ _ _ _ => trivial)⟩
theorem j_callV (C : Cx p s m args meth c own cc nL rt D tys w A) {y : MethodName} {bytes : ByteArray} {maxL n index b : Nat} {ry : Option FieldType} {rm : Room} {As : List Value} {tgt : Option Value × Mem} {fs : List Value} {N : Nat} {T : u_T} (q0 ci : Nat) (Y : Yv y bytes maxL ry n) (hl : Cond.methodLink own index y ∈ wU) (hM : Ctr l y bytes maxL ry rm D tys w (.ref b :: As) S tgt) (hrc : rm.cells = 0) (hrs : rm.slots = 0) (hR : rm.frames + 1 ≤ R.frames ∧ 8 + (maxL + 11) + rm.locals ≤ R.locals) (hc : vwCl[ci]? = some (y.cls, T, N)) (he : (w S)[q0]? = some (b, .inr (ci, fs))) (hn : As.length = n) (hst : st = As.reverse ++ .ref b :: rest) (hW : (rest.map fun v => v.category).sum ≤ 8) (d : decode cc pc = .ok (.invokevirtual index, 3))
    (h : Tj p l e R s m args below meth c D w A nL vv K prog tgt.2 (pc + 3) lv (tgt.1.toList ++ rest)) : Tj p l e R s m args below meth c D w A nL vv K prog S pc lv st := by
  obtain ⟨y1, y2, y3, y4, y5⟩ := Y
  refine j_run (ar := (.ref b :: As).toArray) C (fun H locs ls hP hS hlv => ?_) h
  exact va_runV (C := y.cls) (n := n) ⟨C.hx, C.hb, C.hml, C.hown, C.hts⟩ (hM H.size) (cwV n C.hts (goodIn_cons hl wU_good (goodIn_cons y1 wU_good (goodIn_cons y2 wU_good (goodIn_cons y3 wU_good (goodIn_cons y4 wU_good wU_good))))) rfl hrc hrs ⟨rfl, y5⟩ hR) ⟨c_blind, va_recv C.hK hP hc he, c_pre C hP⟩ rfl hn hlv.1 hst (lv_room hW) d ⟨Nat.zero_le _, Nat.zero_le _⟩
theorem j_callVN (C : Cx p s m args meth c own cc nL rt D tys w A) {y : MethodName} {host : String} {bytes : ByteArray} {maxL n index b : Nat} {ry : Option FieldType} {rm : Room} {As : List Value} {tgt : Option Value × Mem} {fs : List Value} {N : Nat} {T : u_T} (q0 ci : Nat) (Y : Yv y bytes maxL ry n) (hl : Cond.methodLinkNest own index y host ∈ wN) (hM : Ctr l y bytes maxL ry rm D tys w (.ref b :: As) S tgt) (hrc : rm.cells = 0) (hrs : rm.slots = 0) (hR : rm.frames + 1 ≤ R.frames ∧ 8 + (maxL + 11) + rm.locals ≤ R.locals) (hc : vwCl[ci]? = some (y.cls, T, N)) (he : (w S)[q0]? = some (b, .inr (ci, fs))) (hn : As.length = n) (hst : st = As.reverse ++ .ref b :: rest) (hW : (rest.map fun v => v.category).sum ≤ 8) (d : decode cc pc = .ok (.invokevirtual index, 3))
    (h : Tj p l e R s m args below meth c D w A nL vv K prog tgt.2 (pc + 3) lv (tgt.1.toList ++ rest)) : Tj p l e R s m args below meth c D w A nL vv K prog S pc lv st := by
  obtain ⟨y1, y2, y3, y4, y5⟩ := Y
  refine j_run (ar := (.ref b :: As).toArray) C (fun H locs ls hP hS hlv => ?_) h
  exact va_runVN (C := y.cls) (n := n) ⟨C.hx, C.hb, C.hml, C.hown, C.hts⟩ (hM H.size) ⟨va_cnB n C.hts (goodIn_cons y4 wU_good wU_good) rfl hrc hrs (C.hN _ hl) (C.hts _ y3) y5 hR, C.hts _ y1, C.hts _ y2⟩ ⟨c_blind, va_recv C.hK hP hc he, c_pre C hP⟩ rfl hn hlv.1 hst (lv_room hW) d ⟨Nat.zero_le _, Nat.zero_le _⟩
theorem j_callS (C : Cx p s m args meth c own cc nL rt D tys w A) {y : MethodName} {bytes : ByteArray} {maxL n index : Nat} {ry : Option FieldType} {rm : Room} {As : List Value} {tgt : Option Value × Mem} (Y : Ys y bytes maxL ry n) (hl : Cond.methodLink own index y ∈ wU) (hM : Ctr l y bytes maxL ry rm D tys w As S tgt) (hrc : rm.cells = 0) (hrs : rm.slots = 0) (hR : rm.frames + 1 ≤ R.frames ∧ 8 + (maxL + 11) + rm.locals ≤ R.locals) (hn : As.length = n) (hst : st = As.reverse ++ rest) (hW : (rest.map fun v => v.category).sum ≤ 8) (d : decode cc pc = .ok (.invokestatic index, 3))
    (h : Tj p l e R s m args below meth c D w A nL vv K prog tgt.2 (pc + 3) lv (tgt.1.toList ++ rest)) : Tj p l e R s m args below meth c D w A nL vv K prog S pc lv st := by
  obtain ⟨y1, y3, y4, y5⟩ := Y
  refine j_run (ar := As.toArray) C (fun H locs ls hP hS hlv => ?_) h
  exact va_runS (n := n) ⟨C.hx, C.hb, C.hml, C.hown, C.hts⟩ (hM H.size) ⟨callB_of n C.hts (goodIn_cons y4 wU_good wU_good) rfl hrc hrs (C.hts _ y3) (C.hts _ hl) y5 hR, C.hts _ y1⟩ ⟨c_blind, c_pre C hP⟩ rfl hn hlv.1 hst (lv_room hW) d ⟨Nat.zero_le _, Nat.zero_le _⟩
theorem j_callSN (C : Cx p s m args meth c own cc nL rt D tys w A) {y : MethodName} {host : String} {bytes : ByteArray} {maxL n index : Nat} {ry : Option FieldType} {rm : Room} {As : List Value} {tgt : Option Value × Mem} (Y : Ys y bytes maxL ry n) (hl : Cond.methodLinkNest own index y host ∈ wN) (hM : Ctr l y bytes maxL ry rm D tys w As S tgt) (hrc : rm.cells = 0) (hrs : rm.slots = 0) (hR : rm.frames + 1 ≤ R.frames ∧ 8 + (maxL + 11) + rm.locals ≤ R.locals) (hn : As.length = n) (hst : st = As.reverse ++ rest) (hW : (rest.map fun v => v.category).sum ≤ 8) (d : decode cc pc = .ok (.invokestatic index, 3))
    (h : Tj p l e R s m args below meth c D w A nL vv K prog tgt.2 (pc + 3) lv (tgt.1.toList ++ rest)) : Tj p l e R s m args below meth c D w A nL vv K prog S pc lv st := by
  obtain ⟨y1, y3, y4, y5⟩ := Y
  refine j_run (ar := As.toArray) C (fun H locs ls hP hS hlv => ?_) h
  exact va_runSN (n := n) ⟨C.hx, C.hb, C.hml, C.hown, C.hts⟩ (hM H.size) ⟨va_cnB n C.hts (goodIn_cons y4 wU_good wU_good) rfl hrc hrs (C.hN _ hl) (C.hts _ y3) y5 hR, C.hts _ y1, trivial⟩ ⟨c_blind, c_pre C hP⟩ rfl hn hlv.1 hst (lv_room hW) d ⟨Nat.zero_le _, Nat.zero_le _⟩
/-- a call's answer out of the callee's pure program -/
theorem j_bind {γ : Type} {g : Option (γ × Mem)} {F : γ × Mem → Option β} (h : ∀ (r : γ) (S' : Mem), g = some (r, S') → Tj p l e R s m args below meth c D w A nL vv K (F (r, S')) S pc lv st) : Tj p l e R s m args below meth c D w A nL vv K (g.bind F) S pc lv st := by
  intro r S1 hb
  cases hg : g with
  | none => rw [hg] at hb; cases hb
  | some z => exact h z.1 z.2 hg r S1 (by rw [hg] at hb; exact hb)
theorem j_callVi (C : Cx p s m args meth c own cc nL rt D tys w A) {y : MethodName} {bytes : ByteArray} {maxL n index b : Nat} {ry : Option FieldType} {rm : Room} {As : List Value} {rr : Int32} {S2 : Mem} {fs : List Value} {N : Nat} {T : u_T} (q0 ci : Nat) (Y : Yv y bytes maxL ry n) (hl : Cond.methodLink own index y ∈ wU) (hM : Ctr l y bytes maxL ry rm D tys w (.ref b :: As) S (vI rr, S2)) (hrc : rm.cells = 0) (hrs : rm.slots = 0) (hR : rm.frames + 1 ≤ R.frames ∧ 8 + (maxL + 11) + rm.locals ≤ R.locals) (hc : vwCl[ci]? = some (y.cls, T, N)) (he : (w S)[q0]? = some (b, .inr (ci, fs))) (hn : As.length = n) (hst : st = As.reverse ++ .ref b :: rest) (hW : (rest.map fun v => v.category).sum ≤ 8) (d : decode cc pc = .ok (.invokevirtual index, 3))
    (h : Tj p l e R s m args below meth c D w A nL vv K prog S2 (pc + 3) lv (.int rr :: rest)) : Tj p l e R s m args below meth c D w A nL vv K prog S pc lv st := j_callV C q0 ci Y hl hM hrc hrs hR hc he hn hst hW d h
theorem j_callVl (C : Cx p s m args meth c own cc nL rt D tys w A) {y : MethodName} {bytes : ByteArray} {maxL n index b : Nat} {ry : Option FieldType} {rm : Room} {As : List Value} {rr : Int64} {S2 : Mem} {fs : List Value} {N : Nat} {T : u_T} (q0 ci : Nat) (Y : Yv y bytes maxL ry n) (hl : Cond.methodLink own index y ∈ wU) (hM : Ctr l y bytes maxL ry rm D tys w (.ref b :: As) S (vL rr, S2)) (hrc : rm.cells = 0) (hrs : rm.slots = 0) (hR : rm.frames + 1 ≤ R.frames ∧ 8 + (maxL + 11) + rm.locals ≤ R.locals) (hc : vwCl[ci]? = some (y.cls, T, N)) (he : (w S)[q0]? = some (b, .inr (ci, fs))) (hn : As.length = n) (hst : st = As.reverse ++ .ref b :: rest) (hW : (rest.map fun v => v.category).sum ≤ 8) (d : decode cc pc = .ok (.invokevirtual index, 3))
    (h : Tj p l e R s m args below meth c D w A nL vv K prog S2 (pc + 3) lv (.long rr :: rest)) : Tj p l e R s m args below meth c D w A nL vv K prog S pc lv st := j_callV C q0 ci Y hl hM hrc hrs hR hc he hn hst hW d h
theorem j_callVv (C : Cx p s m args meth c own cc nL rt D tys w A) {y : MethodName} {bytes : ByteArray} {maxL n index b : Nat} {ry : Option FieldType} {rm : Room} {As : List Value} {rr : Unit} {S2 : Mem} {fs : List Value} {N : Nat} {T : u_T} (q0 ci : Nat) (Y : Yv y bytes maxL ry n) (hl : Cond.methodLink own index y ∈ wU) (hM : Ctr l y bytes maxL ry rm D tys w (.ref b :: As) S (vV rr, S2)) (hrc : rm.cells = 0) (hrs : rm.slots = 0) (hR : rm.frames + 1 ≤ R.frames ∧ 8 + (maxL + 11) + rm.locals ≤ R.locals) (hc : vwCl[ci]? = some (y.cls, T, N)) (he : (w S)[q0]? = some (b, .inr (ci, fs))) (hn : As.length = n) (hst : st = As.reverse ++ .ref b :: rest) (hW : (rest.map fun v => v.category).sum ≤ 8) (d : decode cc pc = .ok (.invokevirtual index, 3))
    (h : Tj p l e R s m args below meth c D w A nL vv K prog S2 (pc + 3) lv (rest)) : Tj p l e R s m args below meth c D w A nL vv K prog S pc lv st := j_callV C q0 ci Y hl hM hrc hrs hR hc he hn hst hW d h
theorem j_callVNi (C : Cx p s m args meth c own cc nL rt D tys w A) {y : MethodName} {host : String} {bytes : ByteArray} {maxL n index b : Nat} {ry : Option FieldType} {rm : Room} {As : List Value} {rr : Int32} {S2 : Mem} {fs : List Value} {N : Nat} {T : u_T} (q0 ci : Nat) (Y : Yv y bytes maxL ry n) (hl : Cond.methodLinkNest own index y host ∈ wN) (hM : Ctr l y bytes maxL ry rm D tys w (.ref b :: As) S (vI rr, S2)) (hrc : rm.cells = 0) (hrs : rm.slots = 0) (hR : rm.frames + 1 ≤ R.frames ∧ 8 + (maxL + 11) + rm.locals ≤ R.locals) (hc : vwCl[ci]? = some (y.cls, T, N)) (he : (w S)[q0]? = some (b, .inr (ci, fs))) (hn : As.length = n) (hst : st = As.reverse ++ .ref b :: rest) (hW : (rest.map fun v => v.category).sum ≤ 8) (d : decode cc pc = .ok (.invokevirtual index, 3))
    (h : Tj p l e R s m args below meth c D w A nL vv K prog S2 (pc + 3) lv (.int rr :: rest)) : Tj p l e R s m args below meth c D w A nL vv K prog S pc lv st := j_callVN C q0 ci Y hl hM hrc hrs hR hc he hn hst hW d h
theorem j_callVNl (C : Cx p s m args meth c own cc nL rt D tys w A) {y : MethodName} {host : String} {bytes : ByteArray} {maxL n index b : Nat} {ry : Option FieldType} {rm : Room} {As : List Value} {rr : Int64} {S2 : Mem} {fs : List Value} {N : Nat} {T : u_T} (q0 ci : Nat) (Y : Yv y bytes maxL ry n) (hl : Cond.methodLinkNest own index y host ∈ wN) (hM : Ctr l y bytes maxL ry rm D tys w (.ref b :: As) S (vL rr, S2)) (hrc : rm.cells = 0) (hrs : rm.slots = 0) (hR : rm.frames + 1 ≤ R.frames ∧ 8 + (maxL + 11) + rm.locals ≤ R.locals) (hc : vwCl[ci]? = some (y.cls, T, N)) (he : (w S)[q0]? = some (b, .inr (ci, fs))) (hn : As.length = n) (hst : st = As.reverse ++ .ref b :: rest) (hW : (rest.map fun v => v.category).sum ≤ 8) (d : decode cc pc = .ok (.invokevirtual index, 3))
    (h : Tj p l e R s m args below meth c D w A nL vv K prog S2 (pc + 3) lv (.long rr :: rest)) : Tj p l e R s m args below meth c D w A nL vv K prog S pc lv st := j_callVN C q0 ci Y hl hM hrc hrs hR hc he hn hst hW d h
theorem j_callVNv (C : Cx p s m args meth c own cc nL rt D tys w A) {y : MethodName} {host : String} {bytes : ByteArray} {maxL n index b : Nat} {ry : Option FieldType} {rm : Room} {As : List Value} {rr : Unit} {S2 : Mem} {fs : List Value} {N : Nat} {T : u_T} (q0 ci : Nat) (Y : Yv y bytes maxL ry n) (hl : Cond.methodLinkNest own index y host ∈ wN) (hM : Ctr l y bytes maxL ry rm D tys w (.ref b :: As) S (vV rr, S2)) (hrc : rm.cells = 0) (hrs : rm.slots = 0) (hR : rm.frames + 1 ≤ R.frames ∧ 8 + (maxL + 11) + rm.locals ≤ R.locals) (hc : vwCl[ci]? = some (y.cls, T, N)) (he : (w S)[q0]? = some (b, .inr (ci, fs))) (hn : As.length = n) (hst : st = As.reverse ++ .ref b :: rest) (hW : (rest.map fun v => v.category).sum ≤ 8) (d : decode cc pc = .ok (.invokevirtual index, 3))
    (h : Tj p l e R s m args below meth c D w A nL vv K prog S2 (pc + 3) lv (rest)) : Tj p l e R s m args below meth c D w A nL vv K prog S pc lv st := j_callVN C q0 ci Y hl hM hrc hrs hR hc he hn hst hW d h
theorem j_callSi (C : Cx p s m args meth c own cc nL rt D tys w A) {y : MethodName} {bytes : ByteArray} {maxL n index : Nat} {ry : Option FieldType} {rm : Room} {As : List Value} {rr : Int32} {S2 : Mem} (Y : Ys y bytes maxL ry n) (hl : Cond.methodLink own index y ∈ wU) (hM : Ctr l y bytes maxL ry rm D tys w As S (vI rr, S2)) (hrc : rm.cells = 0) (hrs : rm.slots = 0) (hR : rm.frames + 1 ≤ R.frames ∧ 8 + (maxL + 11) + rm.locals ≤ R.locals) (hn : As.length = n) (hst : st = As.reverse ++ rest) (hW : (rest.map fun v => v.category).sum ≤ 8) (d : decode cc pc = .ok (.invokestatic index, 3))
    (h : Tj p l e R s m args below meth c D w A nL vv K prog S2 (pc + 3) lv (.int rr :: rest)) : Tj p l e R s m args below meth c D w A nL vv K prog S pc lv st := j_callS C Y hl hM hrc hrs hR hn hst hW d h
theorem j_callSl (C : Cx p s m args meth c own cc nL rt D tys w A) {y : MethodName} {bytes : ByteArray} {maxL n index : Nat} {ry : Option FieldType} {rm : Room} {As : List Value} {rr : Int64} {S2 : Mem} (Y : Ys y bytes maxL ry n) (hl : Cond.methodLink own index y ∈ wU) (hM : Ctr l y bytes maxL ry rm D tys w As S (vL rr, S2)) (hrc : rm.cells = 0) (hrs : rm.slots = 0) (hR : rm.frames + 1 ≤ R.frames ∧ 8 + (maxL + 11) + rm.locals ≤ R.locals) (hn : As.length = n) (hst : st = As.reverse ++ rest) (hW : (rest.map fun v => v.category).sum ≤ 8) (d : decode cc pc = .ok (.invokestatic index, 3))
    (h : Tj p l e R s m args below meth c D w A nL vv K prog S2 (pc + 3) lv (.long rr :: rest)) : Tj p l e R s m args below meth c D w A nL vv K prog S pc lv st := j_callS C Y hl hM hrc hrs hR hn hst hW d h
theorem j_callSv (C : Cx p s m args meth c own cc nL rt D tys w A) {y : MethodName} {bytes : ByteArray} {maxL n index : Nat} {ry : Option FieldType} {rm : Room} {As : List Value} {rr : Unit} {S2 : Mem} (Y : Ys y bytes maxL ry n) (hl : Cond.methodLink own index y ∈ wU) (hM : Ctr l y bytes maxL ry rm D tys w As S (vV rr, S2)) (hrc : rm.cells = 0) (hrs : rm.slots = 0) (hR : rm.frames + 1 ≤ R.frames ∧ 8 + (maxL + 11) + rm.locals ≤ R.locals) (hn : As.length = n) (hst : st = As.reverse ++ rest) (hW : (rest.map fun v => v.category).sum ≤ 8) (d : decode cc pc = .ok (.invokestatic index, 3))
    (h : Tj p l e R s m args below meth c D w A nL vv K prog S2 (pc + 3) lv (rest)) : Tj p l e R s m args below meth c D w A nL vv K prog S pc lv st := j_callS C Y hl hM hrc hrs hR hn hst hW d h
theorem j_callSNi (C : Cx p s m args meth c own cc nL rt D tys w A) {y : MethodName} {host : String} {bytes : ByteArray} {maxL n index : Nat} {ry : Option FieldType} {rm : Room} {As : List Value} {rr : Int32} {S2 : Mem} (Y : Ys y bytes maxL ry n) (hl : Cond.methodLinkNest own index y host ∈ wN) (hM : Ctr l y bytes maxL ry rm D tys w As S (vI rr, S2)) (hrc : rm.cells = 0) (hrs : rm.slots = 0) (hR : rm.frames + 1 ≤ R.frames ∧ 8 + (maxL + 11) + rm.locals ≤ R.locals) (hn : As.length = n) (hst : st = As.reverse ++ rest) (hW : (rest.map fun v => v.category).sum ≤ 8) (d : decode cc pc = .ok (.invokestatic index, 3))
    (h : Tj p l e R s m args below meth c D w A nL vv K prog S2 (pc + 3) lv (.int rr :: rest)) : Tj p l e R s m args below meth c D w A nL vv K prog S pc lv st := j_callSN C Y hl hM hrc hrs hR hn hst hW d h
theorem j_callSNl (C : Cx p s m args meth c own cc nL rt D tys w A) {y : MethodName} {host : String} {bytes : ByteArray} {maxL n index : Nat} {ry : Option FieldType} {rm : Room} {As : List Value} {rr : Int64} {S2 : Mem} (Y : Ys y bytes maxL ry n) (hl : Cond.methodLinkNest own index y host ∈ wN) (hM : Ctr l y bytes maxL ry rm D tys w As S (vL rr, S2)) (hrc : rm.cells = 0) (hrs : rm.slots = 0) (hR : rm.frames + 1 ≤ R.frames ∧ 8 + (maxL + 11) + rm.locals ≤ R.locals) (hn : As.length = n) (hst : st = As.reverse ++ rest) (hW : (rest.map fun v => v.category).sum ≤ 8) (d : decode cc pc = .ok (.invokestatic index, 3))
    (h : Tj p l e R s m args below meth c D w A nL vv K prog S2 (pc + 3) lv (.long rr :: rest)) : Tj p l e R s m args below meth c D w A nL vv K prog S pc lv st := j_callSN C Y hl hM hrc hrs hR hn hst hW d h
theorem j_callSNv (C : Cx p s m args meth c own cc nL rt D tys w A) {y : MethodName} {host : String} {bytes : ByteArray} {maxL n index : Nat} {ry : Option FieldType} {rm : Room} {As : List Value} {rr : Unit} {S2 : Mem} (Y : Ys y bytes maxL ry n) (hl : Cond.methodLinkNest own index y host ∈ wN) (hM : Ctr l y bytes maxL ry rm D tys w As S (vV rr, S2)) (hrc : rm.cells = 0) (hrs : rm.slots = 0) (hR : rm.frames + 1 ≤ R.frames ∧ 8 + (maxL + 11) + rm.locals ≤ R.locals) (hn : As.length = n) (hst : st = As.reverse ++ rest) (hW : (rest.map fun v => v.category).sum ≤ 8) (d : decode cc pc = .ok (.invokestatic index, 3))
    (h : Tj p l e R s m args below meth c D w A nL vv K prog S2 (pc + 3) lv (rest)) : Tj p l e R s m args below meth c D w A nL vv K prog S pc lv st := j_callSN C Y hl hM hrc hrs hR hn hst hW d h
/-- a loop, and what follows it -/
def seqM {γ β : Type} (o : Option (Mem × γ)) (F : Mem → γ → Option β) : Option β := o.bind (fun z => F z.1 z.2)
def rsel {ρ γ β : Type} (E : ρ → Option β) (F : Mem → γ → Option β) (z : ρ ⊕ (Mem × γ)) : Option β := match z with
  | .inl t => E t
  | .inr q => F q.1 q.2
def seqR {ρ γ β : Type} (o : Option (ρ ⊕ (Mem × γ))) (E : ρ → Option β) (F : Mem → γ → Option β) : Option β := o.bind (rsel E F)
theorem j_seqM {o : Option (Mem × γ)} {F : Mem → γ → Option β} (h : Tj p l e R s m args below meth c D w A nL vv (fun z => (F z.1 z.2).bind K) o S pc lv st) : Tj p l e R s m args below meth c D w A nL vv K (seqM o F) S pc lv st := j_seq h
theorem j_outM {F : Mem → γ → Option β} {S' : Mem} {y : γ} {S0 : Mem} (h : Tj p l e R s m args below meth c D w A nL vv K (F S' y) S0 pc lv st) : Tj p l e R s m args below meth c D w A nL vv (fun z : Mem × γ => (F z.1 z.2).bind K) (some (S', y)) S0 pc lv st := fun r S1 hb => h r S1 hb
theorem j_seqR {ρ : Type} {o : Option (ρ ⊕ (Mem × γ))} {E : ρ → Option β} {F : Mem → γ → Option β} (h : Tj p l e R s m args below meth c D w A nL vv (fun z => (rsel E F z).bind K) o S pc lv st) : Tj p l e R s m args below meth c D w A nL vv K (seqR o E F) S pc lv st := j_seq h
theorem j_outR {ρ : Type} {E : ρ → Option β} {F : Mem → γ → Option β} {S' : Mem} {y : γ} {S0 : Mem} (h : Tj p l e R s m args below meth c D w A nL vv K (F S' y) S0 pc lv st) : Tj p l e R s m args below meth c D w A nL vv (fun z : ρ ⊕ (Mem × γ) => (rsel E F z).bind K) (some (.inr (S', y))) S0 pc lv st := fun r S1 hb => h r S1 hb
theorem j_none : Tj p l e R s m args below meth c D w A nL vv K none S pc lv st := fun r S1 hb => by cases hb
theorem Ctr.of {y : MethodName} {av : List Value} {lv0 : List (Nat × Value)} {rm : Room} {prog : Option (α × Mem)} (hy : plainName y.cls = true) (hrc : rm.cells = 0) (hw : ∀ S S' : Mem, (w S).map Prod.fst = (w S').map Prod.fst) (hlen : (lg_sl av).length ≤ nL) (hl0 : lv_args 0 av = lv0)
    (body : ∀ (p : Program) (e : Env) (s : State) (m : MethodId) (args : Array Value) (below : List Frame) (meth : Method) (c : Code) (A : Nat → Prop), Cx p s m args meth c y.cls cc nL rt D tys w A → Tj p l e rm s m args below meth c D w A nL vv some prog S 0 lv0 []) (r : α) (S1 : Mem) (hp : prog = some (r, S1)) : Ctr l y cc nL rt rm D tys w av S (vv r, S1) := by
  intro sz
  refine Met.ofW (cc := cc) (maxL := nL) (ret := rt) hy rfl ?_
  intro p e s m args below meth c s₁ B hml hv
  obtain ⟨rfl, hsz, hP, hK, hN, hD0⟩ := hv
  subst hsz
  have hts := atoms_spec (ws := .code y cc nL rt :: wU) B.pre
  have hD := hD0.self (sz := s.heap.size)
  have C : Cx p s m av.toArray meth c y.cls cc nL rt D tys w (va_A (w S) s.heap.size) := ⟨B.exec, B.bytes, hml, findClass_of_methodNamed B.named, fun q hq => hts q (List.mem_cons_of_mem _ hq), hN, hK, fun S' => w_D hw hD S', fun q hq => Or.inr hq, B.returns, B.notSynchronized⟩
  have hl := lv_entry av (n := nL) hlen
  rw [lg_entry_eq]
  exact body p e s m av.toArray below meth c _ C r S1 (by rw [hp]; rfl) s.heap [] _ hP va_S.rf (by rw [← hl0]; exact hl)
end GO
end
section
/-! rows of single instructions, written by gen/base2.py -/
section GO2
variable {p : Program} {l : Launch} {e : Env} {R : Room} {s : State} {m : MethodId} {args : Array Value} {below : List Frame} {meth : Method} {c : Code}
variable {own : String} {cc : ByteArray} {nL : Nat} {rt : Option FieldType} {D : va_G} {tys : List (ClassId × FieldType)} {w : Mem → va_W} {A : Nat → Prop}
variable {α β γ δ : Type} {vv : α → Option Value} {K : β → Option (α × Mem)} {prog progA progB : Option β} {S : Mem} {pc : Nat} {lv : List (Nat × Value)} {rest st : List Value}
theorem j_iadd (C : Cx p s m args meth c own cc nL rt D tys w A) {x y : Int32} (d : decode cc pc = .ok (.iadd, 1))
    (h : Tj p l e R s m args below meth c D w A nL vv K prog S (pc + 1) lv (.int (x + y) :: rest)) : Tj p l e R s m args below meth c D w A nL vv K prog S pc lv (.int y :: .int x :: rest) := fun r S1 hb H locs ls hP hS hlv => lv_iadd C.hx C.hb d (h r S1 hb H locs ls hP hS hlv)
theorem j_isub (C : Cx p s m args meth c own cc nL rt D tys w A) {x y : Int32} (d : decode cc pc = .ok (.isub, 1))
    (h : Tj p l e R s m args below meth c D w A nL vv K prog S (pc + 1) lv (.int (x - y) :: rest)) : Tj p l e R s m args below meth c D w A nL vv K prog S pc lv (.int y :: .int x :: rest) := fun r S1 hb H locs ls hP hS hlv => lv_isub C.hx C.hb d (h r S1 hb H locs ls hP hS hlv)
theorem j_imul (C : Cx p s m args meth c own cc nL rt D tys w A) {x y : Int32} (d : decode cc pc = .ok (.imul, 1))
    (h : Tj p l e R s m args below meth c D w A nL vv K prog S (pc + 1) lv (.int (x * y) :: rest)) : Tj p l e R s m args below meth c D w A nL vv K prog S pc lv (.int y :: .int x :: rest) := fun r S1 hb H locs ls hP hS hlv => lv_imul C.hx C.hb d (h r S1 hb H locs ls hP hS hlv)
theorem j_iand (C : Cx p s m args meth c own cc nL rt D tys w A) {x y : Int32} (d : decode cc pc = .ok (.iand, 1))
    (h : Tj p l e R s m args below meth c D w A nL vv K prog S (pc + 1) lv (.int (x &&& y) :: rest)) : Tj p l e R s m args below meth c D w A nL vv K prog S pc lv (.int y :: .int x :: rest) := fun r S1 hb H locs ls hP hS hlv => lv_iand C.hx C.hb d (h r S1 hb H locs ls hP hS hlv)
theorem j_ior (C : Cx p s m args meth c own cc nL rt D tys w A) {x y : Int32} (d : decode cc pc = .ok (.ior, 1))
    (h : Tj p l e R s m args below meth c D w A nL vv K prog S (pc + 1) lv (.int (x ||| y) :: rest)) : Tj p l e R s m args below meth c D w A nL vv K prog S pc lv (.int y :: .int x :: rest) := fun r S1 hb H locs ls hP hS hlv => lv_ior C.hx C.hb d (h r S1 hb H locs ls hP hS hlv)
theorem j_ixor (C : Cx p s m args meth c own cc nL rt D tys w A) {x y : Int32} (d : decode cc pc = .ok (.ixor, 1))
    (h : Tj p l e R s m args below meth c D w A nL vv K prog S (pc + 1) lv (.int (x ^^^ y) :: rest)) : Tj p l e R s m args below meth c D w A nL vv K prog S pc lv (.int y :: .int x :: rest) := fun r S1 hb H locs ls hP hS hlv => lv_ixor C.hx C.hb d (h r S1 hb H locs ls hP hS hlv)
theorem j_ishl (C : Cx p s m args meth c own cc nL rt D tys w A) {x y : Int32} (d : decode cc pc = .ok (.ishl, 1))
    (h : Tj p l e R s m args below meth c D w A nL vv K prog S (pc + 1) lv (.int (x <<< (y &&& 31)) :: rest)) : Tj p l e R s m args below meth c D w A nL vv K prog S pc lv (.int y :: .int x :: rest) := fun r S1 hb H locs ls hP hS hlv => lv_ishl C.hx C.hb d (h r S1 hb H locs ls hP hS hlv)
theorem j_ishr (C : Cx p s m args meth c own cc nL rt D tys w A) {x y : Int32} (d : decode cc pc = .ok (.ishr, 1))
    (h : Tj p l e R s m args below meth c D w A nL vv K prog S (pc + 1) lv (.int (x >>> (y &&& 31)) :: rest)) : Tj p l e R s m args below meth c D w A nL vv K prog S pc lv (.int y :: .int x :: rest) := fun r S1 hb H locs ls hP hS hlv => lv_ishr C.hx C.hb d (h r S1 hb H locs ls hP hS hlv)
theorem j_ladd (C : Cx p s m args meth c own cc nL rt D tys w A) {x y : Int64} (d : decode cc pc = .ok (.ladd, 1))
    (h : Tj p l e R s m args below meth c D w A nL vv K prog S (pc + 1) lv (.long (x + y) :: rest)) : Tj p l e R s m args below meth c D w A nL vv K prog S pc lv (.long y :: .long x :: rest) := fun r S1 hb H locs ls hP hS hlv => lv_ladd C.hx C.hb d (h r S1 hb H locs ls hP hS hlv)
theorem j_lsub (C : Cx p s m args meth c own cc nL rt D tys w A) {x y : Int64} (d : decode cc pc = .ok (.lsub, 1))
    (h : Tj p l e R s m args below meth c D w A nL vv K prog S (pc + 1) lv (.long (x - y) :: rest)) : Tj p l e R s m args below meth c D w A nL vv K prog S pc lv (.long y :: .long x :: rest) := fun r S1 hb H locs ls hP hS hlv => lv_lsub C.hx C.hb d (h r S1 hb H locs ls hP hS hlv)
theorem j_lmul (C : Cx p s m args meth c own cc nL rt D tys w A) {x y : Int64} (d : decode cc pc = .ok (.lmul, 1))
    (h : Tj p l e R s m args below meth c D w A nL vv K prog S (pc + 1) lv (.long (x * y) :: rest)) : Tj p l e R s m args below meth c D w A nL vv K prog S pc lv (.long y :: .long x :: rest) := fun r S1 hb H locs ls hP hS hlv => lv_lmul C.hx C.hb d (h r S1 hb H locs ls hP hS hlv)
theorem j_land (C : Cx p s m args meth c own cc nL rt D tys w A) {x y : Int64} (d : decode cc pc = .ok (.land, 1))
    (h : Tj p l e R s m args below meth c D w A nL vv K prog S (pc + 1) lv (.long (x &&& y) :: rest)) : Tj p l e R s m args below meth c D w A nL vv K prog S pc lv (.long y :: .long x :: rest) := fun r S1 hb H locs ls hP hS hlv => lv_land C.hx C.hb d (h r S1 hb H locs ls hP hS hlv)
theorem j_lor (C : Cx p s m args meth c own cc nL rt D tys w A) {x y : Int64} (d : decode cc pc = .ok (.lor, 1))
    (h : Tj p l e R s m args below meth c D w A nL vv K prog S (pc + 1) lv (.long (x ||| y) :: rest)) : Tj p l e R s m args below meth c D w A nL vv K prog S pc lv (.long y :: .long x :: rest) := fun r S1 hb H locs ls hP hS hlv => lv_lor C.hx C.hb d (h r S1 hb H locs ls hP hS hlv)
theorem j_lxor (C : Cx p s m args meth c own cc nL rt D tys w A) {x y : Int64} (d : decode cc pc = .ok (.lxor, 1))
    (h : Tj p l e R s m args below meth c D w A nL vv K prog S (pc + 1) lv (.long (x ^^^ y) :: rest)) : Tj p l e R s m args below meth c D w A nL vv K prog S pc lv (.long y :: .long x :: rest) := fun r S1 hb H locs ls hP hS hlv => lv_lxor C.hx C.hb d (h r S1 hb H locs ls hP hS hlv)
theorem j_idiv (C : Cx p s m args meth c own cc nL rt D tys w A) {x y : Int32} (hne : ¬ y = 0) (d : decode cc pc = .ok (.idiv, 1))
    (h : Tj p l e R s m args below meth c D w A nL vv K prog S (pc + 1) lv (.int (x / y) :: rest)) : Tj p l e R s m args below meth c D w A nL vv K prog S pc lv (.int y :: .int x :: rest) := fun r S1 hb H locs ls hP hS hlv => lv_idiv C.hx C.hb d hne (h r S1 hb H locs ls hP hS hlv)
theorem j_irem (C : Cx p s m args meth c own cc nL rt D tys w A) {x y : Int32} (hne : ¬ y = 0) (d : decode cc pc = .ok (.irem, 1))
    (h : Tj p l e R s m args below meth c D w A nL vv K prog S (pc + 1) lv (.int (x - x / y * y) :: rest)) : Tj p l e R s m args below meth c D w A nL vv K prog S pc lv (.int y :: .int x :: rest) := fun r S1 hb H locs ls hP hS hlv => lv_irem C.hx C.hb d hne (h r S1 hb H locs ls hP hS hlv)
theorem j_lshl (C : Cx p s m args meth c own cc nL rt D tys w A) {x : Int64} {y : Int32} (d : decode cc pc = .ok (.lshl, 1))
    (h : Tj p l e R s m args below meth c D w A nL vv K prog S (pc + 1) lv (.long (x <<< (y.toInt64 &&& 63)) :: rest)) : Tj p l e R s m args below meth c D w A nL vv K prog S pc lv (.int y :: .long x :: rest) := fun r S1 hb H locs ls hP hS hlv => lv_lshl C.hx C.hb d rfl (h r S1 hb H locs ls hP hS hlv)
theorem j_lshr (C : Cx p s m args meth c own cc nL rt D tys w A) {x : Int64} {y : Int32} (d : decode cc pc = .ok (.lshr, 1))
    (h : Tj p l e R s m args below meth c D w A nL vv K prog S (pc + 1) lv (.long (x >>> (y.toInt64 &&& 63)) :: rest)) : Tj p l e R s m args below meth c D w A nL vv K prog S pc lv (.int y :: .long x :: rest) := fun r S1 hb H locs ls hP hS hlv => lv_lshr C.hx C.hb d rfl (h r S1 hb H locs ls hP hS hlv)
theorem j_i2l (C : Cx p s m args meth c own cc nL rt D tys w A) {x : Int32} (d : decode cc pc = .ok (.i2l, 1))
    (h : Tj p l e R s m args below meth c D w A nL vv K prog S (pc + 1) lv (.long (x.toInt64) :: rest)) : Tj p l e R s m args below meth c D w A nL vv K prog S pc lv (.int x :: rest) := fun r S1 hb H locs ls hP hS hlv => lv_i2l C.hx C.hb d rfl (h r S1 hb H locs ls hP hS hlv)
theorem j_l2i (C : Cx p s m args meth c own cc nL rt D tys w A) {x : Int64} (d : decode cc pc = .ok (.l2i, 1))
    (h : Tj p l e R s m args below meth c D w A nL vv K prog S (pc + 1) lv (.int (x.toInt32) :: rest)) : Tj p l e R s m args below meth c D w A nL vv K prog S pc lv (.long x :: rest) := fun r S1 hb H locs ls hP hS hlv => lv_l2i C.hx C.hb d rfl (h r S1 hb H locs ls hP hS hlv)
theorem j_lcmp (C : Cx p s m args meth c own cc nL rt D tys w A) {x y : Int64} (d : decode cc pc = .ok (.lcmp, 1))
    (h : Tj p l e R s m args below meth c D w A nL vv K prog S (pc + 1) lv (.int (lg_cmp x y) :: rest)) : Tj p l e R s m args below meth c D w A nL vv K prog S pc lv (.long y :: .long x :: rest) := fun r S1 hb H locs ls hP hS hlv => W.lcmp C.hx C.hb d (h r S1 hb H locs ls hP hS hlv)
theorem j_iconst (C : Cx p s m args meth c own cc nL rt D tys w A) {n : Int} {v : Int32} (hv : Int32.ofInt n = v) (d : decode cc pc = .ok (.iconst n, 1))
    (h : Tj p l e R s m args below meth c D w A nL vv K prog S (pc + 1) lv (.int v :: rest)) : Tj p l e R s m args below meth c D w A nL vv K prog S pc lv (rest) := fun r S1 hb H locs ls hP hS hlv => lv_iconst C.hx C.hb d hv (h r S1 hb H locs ls hP hS hlv)
theorem j_bipush (C : Cx p s m args meth c own cc nL rt D tys w A) {n : Int} {v : Int32} (hv : (Int8.ofInt n).toInt32 = v) (d : decode cc pc = .ok (.bipush n, 2))
    (h : Tj p l e R s m args below meth c D w A nL vv K prog S (pc + 2) lv (.int v :: rest)) : Tj p l e R s m args below meth c D w A nL vv K prog S pc lv (rest) := fun r S1 hb H locs ls hP hS hlv => lv_bipush C.hx C.hb d hv (h r S1 hb H locs ls hP hS hlv)
theorem j_sipush (C : Cx p s m args meth c own cc nL rt D tys w A) {n : Int} {v : Int32} (hv : (Int16.ofInt n).toInt32 = v) (d : decode cc pc = .ok (.sipush n, 3))
    (h : Tj p l e R s m args below meth c D w A nL vv K prog S (pc + 3) lv (.int v :: rest)) : Tj p l e R s m args below meth c D w A nL vv K prog S pc lv (rest) := fun r S1 hb H locs ls hP hS hlv => lv_sipush C.hx C.hb d hv (h r S1 hb H locs ls hP hS hlv)
theorem j_lconst (C : Cx p s m args meth c own cc nL rt D tys w A) {n : Fin 2} {v : Int64} (hv : Int64.ofNat (n : Nat) = v) (d : decode cc pc = .ok (.lconst n, 1))
    (h : Tj p l e R s m args below meth c D w A nL vv K prog S (pc + 1) lv (.long v :: rest)) : Tj p l e R s m args below meth c D w A nL vv K prog S pc lv (rest) := fun r S1 hb H locs ls hP hS hlv => lv_lconst C.hx C.hb d hv (h r S1 hb H locs ls hP hS hlv)
theorem j_ldc (C : Cx p s m args meth c own cc nL rt D tys w A) {v : Int32} {index : Nat} (hc : Jvm.Cond.constant own index v ∈ wU) (d : decode cc pc = .ok (.ldc index, 2))
    (h : Tj p l e R s m args below meth c D w A nL vv K prog S (pc + 2) lv (.int v :: rest)) : Tj p l e R s m args below meth c D w A nL vv K prog S pc lv (rest) := fun r S1 hb H locs ls hP hS hlv => lv_ldc C.hx C.hb C.hown (C.hts _ hc) d (h r S1 hb H locs ls hP hS hlv)
theorem j_ldc2 (C : Cx p s m args meth c own cc nL rt D tys w A) {v : Int64} {index : Nat} (hc : Jvm.Cond.constantLong own index v ∈ wU) (d : decode cc pc = .ok (.ldc2_w index, 3))
    (h : Tj p l e R s m args below meth c D w A nL vv K prog S (pc + 3) lv (.long v :: rest)) : Tj p l e R s m args below meth c D w A nL vv K prog S pc lv (rest) := fun r S1 hb H locs ls hP hS hlv => lv_ldc2 C.hx C.hb C.hown (C.hts _ hc) d (h r S1 hb H locs ls hP hS hlv)
theorem j_iload_n (C : Cx p s m args meth c own cc nL rt D tys w A) {x : Int32} {k : Fin 4} {i : Nat} (q : Nat) (hi : (k : Nat) = i) (hq : lv[q]? = some (i, .int x)) (d : decode cc pc = .ok (.iload_n k, 1))
    (h : Tj p l e R s m args below meth c D w A nL vv K prog S (pc + 1) lv (.int x :: rest)) : Tj p l e R s m args below meth c D w A nL vv K prog S pc lv (rest) := fun r S1 hb H locs ls hP hS hlv => lv_iload_n C.hx C.hb d hi (lv_at hlv q hq) (h r S1 hb H locs ls hP hS hlv)
theorem j_iload (C : Cx p s m args meth c own cc nL rt D tys w A) {x : Int32} {i : Nat} (q : Nat) (hq : lv[q]? = some (i, .int x)) (d : decode cc pc = .ok (.iload i, 2))
    (h : Tj p l e R s m args below meth c D w A nL vv K prog S (pc + 2) lv (.int x :: rest)) : Tj p l e R s m args below meth c D w A nL vv K prog S pc lv (rest) := fun r S1 hb H locs ls hP hS hlv => lv_iload C.hx C.hb d (lv_at hlv q hq) (h r S1 hb H locs ls hP hS hlv)
theorem j_istore_n (C : Cx p s m args meth c own cc nL rt D tys w A) {x : Int32} {k : Fin 4} {i : Nat} {lv2 : List (Nat × Value)} (hi : (k : Nat) = i) (hn : i < nL) (hl : (i, Value.int x) :: lv.filter (fun q => !(q.1 == i) && !(q.1 + 1 == i && q.2.category == 2)) = lv2) (d : decode cc pc = .ok (.istore_n k, 1))
    (h : Tj p l e R s m args below meth c D w A nL vv K prog S (pc + 1) lv2 rest) : Tj p l e R s m args below meth c D w A nL vv K prog S pc lv (.int x :: rest) := fun r S1 hb H locs ls hP hS hlv => lv_istore_n C.hx C.hb d hi hlv hn hl (fun ls2 hl2 => h r S1 hb H locs ls2 hP hS hl2)
theorem j_istore (C : Cx p s m args meth c own cc nL rt D tys w A) {x : Int32} {i : Nat} {lv2 : List (Nat × Value)} (hn : i < nL) (hl : (i, Value.int x) :: lv.filter (fun q => !(q.1 == i) && !(q.1 + 1 == i && q.2.category == 2)) = lv2) (d : decode cc pc = .ok (.istore i, 2))
    (h : Tj p l e R s m args below meth c D w A nL vv K prog S (pc + 2) lv2 rest) : Tj p l e R s m args below meth c D w A nL vv K prog S pc lv (.int x :: rest) := fun r S1 hb H locs ls hP hS hlv => lv_istore C.hx C.hb d hlv hn hl (fun ls2 hl2 => h r S1 hb H locs ls2 hP hS hl2)
theorem j_lload_n (C : Cx p s m args meth c own cc nL rt D tys w A) {x : Int64} {k : Fin 4} {i : Nat} (q : Nat) (hi : (k : Nat) = i) (hq : lv[q]? = some (i, .long x)) (d : decode cc pc = .ok (.lload_n k, 1))
    (h : Tj p l e R s m args below meth c D w A nL vv K prog S (pc + 1) lv (.long x :: rest)) : Tj p l e R s m args below meth c D w A nL vv K prog S pc lv (rest) := fun r S1 hb H locs ls hP hS hlv => lv_lload_n C.hx C.hb d hi (lv_at hlv q hq) (h r S1 hb H locs ls hP hS hlv)
theorem j_lload (C : Cx p s m args meth c own cc nL rt D tys w A) {x : Int64} {i : Nat} (q : Nat) (hq : lv[q]? = some (i, .long x)) (d : decode cc pc = .ok (.lload i, 2))
    (h : Tj p l e R s m args below meth c D w A nL vv K prog S (pc + 2) lv (.long x :: rest)) : Tj p l e R s m args below meth c D w A nL vv K prog S pc lv (rest) := fun r S1 hb H locs ls hP hS hlv => lv_lload C.hx C.hb d (lv_at hlv q hq) (h r S1 hb H locs ls hP hS hlv)
theorem j_lstore_n (C : Cx p s m args meth c own cc nL rt D tys w A) {x : Int64} {k : Fin 4} {i : Nat} {lv2 : List (Nat × Value)} (hi : (k : Nat) = i) (hn : i + 1 < nL) (hl : (i, Value.long x) :: lv.filter (fun q => !(q.1 == i) && (!(q.1 == i + 1) && !(q.1 + 1 == i && q.2.category == 2))) = lv2) (d : decode cc pc = .ok (.lstore_n k, 1))
    (h : Tj p l e R s m args below meth c D w A nL vv K prog S (pc + 1) lv2 rest) : Tj p l e R s m args below meth c D w A nL vv K prog S pc lv (.long x :: rest) := fun r S1 hb H locs ls hP hS hlv => lv_lstore_n C.hx C.hb d hi hlv hn hl (fun ls2 hl2 => h r S1 hb H locs ls2 hP hS hl2)
theorem j_lstore (C : Cx p s m args meth c own cc nL rt D tys w A) {x : Int64} {i : Nat} {lv2 : List (Nat × Value)} (hn : i + 1 < nL) (hl : (i, Value.long x) :: lv.filter (fun q => !(q.1 == i) && (!(q.1 == i + 1) && !(q.1 + 1 == i && q.2.category == 2))) = lv2) (d : decode cc pc = .ok (.lstore i, 2))
    (h : Tj p l e R s m args below meth c D w A nL vv K prog S (pc + 2) lv2 rest) : Tj p l e R s m args below meth c D w A nL vv K prog S pc lv (.long x :: rest) := fun r S1 hb H locs ls hP hS hlv => lv_lstore C.hx C.hb d hlv hn hl (fun ls2 hl2 => h r S1 hb H locs ls2 hP hS hl2)
theorem j_aload_n (C : Cx p s m args meth c own cc nL rt D tys w A) {x : Nat} {k : Fin 4} {i : Nat} (q : Nat) (hi : (k : Nat) = i) (hq : lv[q]? = some (i, .ref x)) (d : decode cc pc = .ok (.aload_n k, 1))
    (h : Tj p l e R s m args below meth c D w A nL vv K prog S (pc + 1) lv (.ref x :: rest)) : Tj p l e R s m args below meth c D w A nL vv K prog S pc lv (rest) := fun r S1 hb H locs ls hP hS hlv => lv_aload_n C.hx C.hb d hi (lv_at hlv q hq) (h r S1 hb H locs ls hP hS hlv)
theorem j_aload (C : Cx p s m args meth c own cc nL rt D tys w A) {x : Nat} {i : Nat} (q : Nat) (hq : lv[q]? = some (i, .ref x)) (d : decode cc pc = .ok (.aload i, 2))
    (h : Tj p l e R s m args below meth c D w A nL vv K prog S (pc + 2) lv (.ref x :: rest)) : Tj p l e R s m args below meth c D w A nL vv K prog S pc lv (rest) := fun r S1 hb H locs ls hP hS hlv => lv_aload C.hx C.hb d (lv_at hlv q hq) (h r S1 hb H locs ls hP hS hlv)
theorem j_astore_n (C : Cx p s m args meth c own cc nL rt D tys w A) {x : Nat} {k : Fin 4} {i : Nat} {lv2 : List (Nat × Value)} (hi : (k : Nat) = i) (hn : i < nL) (hl : (i, Value.ref x) :: lv.filter (fun q => !(q.1 == i) && !(q.1 + 1 == i && q.2.category == 2)) = lv2) (d : decode cc pc = .ok (.astore_n k, 1))
    (h : Tj p l e R s m args below meth c D w A nL vv K prog S (pc + 1) lv2 rest) : Tj p l e R s m args below meth c D w A nL vv K prog S pc lv (.ref x :: rest) := fun r S1 hb H locs ls hP hS hlv => lv_astore_n C.hx C.hb d hi hlv hn hl (fun ls2 hl2 => h r S1 hb H locs ls2 hP hS hl2)
theorem j_astore (C : Cx p s m args meth c own cc nL rt D tys w A) {x : Nat} {i : Nat} {lv2 : List (Nat × Value)} (hn : i < nL) (hl : (i, Value.ref x) :: lv.filter (fun q => !(q.1 == i) && !(q.1 + 1 == i && q.2.category == 2)) = lv2) (d : decode cc pc = .ok (.astore i, 2))
    (h : Tj p l e R s m args below meth c D w A nL vv K prog S (pc + 2) lv2 rest) : Tj p l e R s m args below meth c D w A nL vv K prog S pc lv (.ref x :: rest) := fun r S1 hb H locs ls hP hS hlv => lv_astore C.hx C.hb d hlv hn hl (fun ls2 hl2 => h r S1 hb H locs ls2 hP hS hl2)
theorem j_iinc (C : Cx p s m args meth c own cc nL rt D tys w A) {i : Nat} {n : Int} {x v : Int32} {lv2 : List (Nat × Value)} (q : Nat) (hq : lv[q]? = some (i, .int x)) (hv : x + Int32.ofInt n = v) (hn : i < nL) (hl : (i, Value.int v) :: lv.filter (fun q => !(q.1 == i) && !(q.1 + 1 == i && q.2.category == 2)) = lv2) (d : decode cc pc = .ok (.iinc i n, 3))
    (h : Tj p l e R s m args below meth c D w A nL vv K prog S (pc + 3) lv2 rest) : Tj p l e R s m args below meth c D w A nL vv K prog S pc lv rest := fun r S1 hb H locs ls hP hS hlv => lv_iinc C.hx C.hb d hlv hq hv hn hl (fun ls2 hl2 => h r S1 hb H locs ls2 hP hS hl2)
theorem j_dup (C : Cx p s m args meth c own cc nL rt D tys w A) {va : Value} (hva : va.category = 1) (d : decode cc pc = .ok (.dup, 1))
    (h : Tj p l e R s m args below meth c D w A nL vv K prog S (pc + 1) lv (va :: va :: rest)) : Tj p l e R s m args below meth c D w A nL vv K prog S pc lv (va :: rest) := fun r S1 hb H locs ls hP hS hlv => lv_dup C.hx C.hb d hva (h r S1 hb H locs ls hP hS hlv)
theorem j_pop (C : Cx p s m args meth c own cc nL rt D tys w A) {va : Value} (hva : va.category = 1) (d : decode cc pc = .ok (.pop, 1))
    (h : Tj p l e R s m args below meth c D w A nL vv K prog S (pc + 1) lv (rest)) : Tj p l e R s m args below meth c D w A nL vv K prog S pc lv (va :: rest) := fun r S1 hb H locs ls hP hS hlv => lv_pop C.hx C.hb d hva (h r S1 hb H locs ls hP hS hlv)
theorem j_dup2 (C : Cx p s m args meth c own cc nL rt D tys w A) {va vb : Value} (hva : va.category = 1) (hvb : vb.category = 1) (d : decode cc pc = .ok (.dup2, 1))
    (h : Tj p l e R s m args below meth c D w A nL vv K prog S (pc + 1) lv (va :: vb :: va :: vb :: rest)) : Tj p l e R s m args below meth c D w A nL vv K prog S pc lv (va :: vb :: rest) := fun r S1 hb H locs ls hP hS hlv => lv_dup2_11 C.hx C.hb d hva hvb (h r S1 hb H locs ls hP hS hlv)
theorem j_goto (C : Cx p s m args meth c own cc nL rt D tys w A) {off : Int} {tgt : Nat} (d : decode cc pc = .ok (.goto off, 3)) (ht : (pc : Int) + off = (tgt : Int)) (h : Tj p l e R s m args below meth c D w A nL vv K prog S tgt lv rest) : Tj p l e R s m args below meth c D w A nL vv K prog S pc lv rest := fun r S1 hb H locs ls hP hS hlv => lv_goto C.hx C.hb d ht (h r S1 hb H locs ls hP hS hlv)
theorem j_if_eq (C : Cx p s m args meth c own cc nL rt D tys w A) {x : Int32} {off : Int} {tgt : Nat} {iP : Decidable (x = 0)} (d : decode cc pc = .ok (.ifCond .eq off, 3)) (ht : (pc : Int) + off = (tgt : Int)) (kt : x = 0 → Tj p l e R s m args below meth c D w A nL vv K progA S tgt lv rest) (kf : ¬ x = 0 → Tj p l e R s m args below meth c D w A nL vv K progB S (pc + 3) lv rest) : Tj p l e R s m args below meth c D w A nL vv K (@ite _ (x = 0) iP progA progB) S pc lv (.int x :: rest) := by
  refine j_if (fun hQ => ?_) (fun hQ => ?_)
  · exact fun r S1 hb H locs ls hP hS hlv => lv_if_eq C.hx C.hb d ht (fun _ => (kt hQ r S1 hb H locs ls hP hS hlv)) (fun z => absurd hQ z)
  · exact fun r S1 hb H locs ls hP hS hlv => lv_if_eq C.hx C.hb d ht (fun z => absurd z hQ) (fun _ => (kf hQ r S1 hb H locs ls hP hS hlv))
theorem j_if_eq_T (C : Cx p s m args meth c own cc nL rt D tys w A) {x : Int32} {off : Int} {tgt : Nat} (d : decode cc pc = .ok (.ifCond .eq off, 3)) (ht : (pc : Int) + off = (tgt : Int)) (hQ : x = 0) (h : Tj p l e R s m args below meth c D w A nL vv K prog S tgt lv rest) : Tj p l e R s m args below meth c D w A nL vv K prog S pc lv (.int x :: rest) := fun r S1 hb H locs ls hP hS hlv => lv_if_eq C.hx C.hb d ht (fun _ => (h r S1 hb H locs ls hP hS hlv)) (fun z => absurd hQ z)
theorem j_if_eq_F (C : Cx p s m args meth c own cc nL rt D tys w A) {x : Int32} {off : Int} {tgt : Nat} (d : decode cc pc = .ok (.ifCond .eq off, 3)) (ht : (pc : Int) + off = (tgt : Int)) (hQ : ¬ x = 0) (h : Tj p l e R s m args below meth c D w A nL vv K prog S (pc + 3) lv rest) : Tj p l e R s m args below meth c D w A nL vv K prog S pc lv (.int x :: rest) := fun r S1 hb H locs ls hP hS hlv => lv_if_eq C.hx C.hb d ht (fun z => absurd z hQ) (fun _ => (h r S1 hb H locs ls hP hS hlv))
theorem j_if_ne (C : Cx p s m args meth c own cc nL rt D tys w A) {x : Int32} {off : Int} {tgt : Nat} {iP : Decidable (x = 0)} (d : decode cc pc = .ok (.ifCond .ne off, 3)) (ht : (pc : Int) + off = (tgt : Int)) (kf : x = 0 → Tj p l e R s m args below meth c D w A nL vv K progA S (pc + 3) lv rest) (kt : ¬ x = 0 → Tj p l e R s m args below meth c D w A nL vv K progB S tgt lv rest) : Tj p l e R s m args below meth c D w A nL vv K (@ite _ (x = 0) iP progA progB) S pc lv (.int x :: rest) := by
  refine j_if (fun hQ => ?_) (fun hQ => ?_)
  · exact fun r S1 hb H locs ls hP hS hlv => lv_if_ne C.hx C.hb d ht (fun z => absurd hQ z) (fun _ => (kf hQ r S1 hb H locs ls hP hS hlv))
  · exact fun r S1 hb H locs ls hP hS hlv => lv_if_ne C.hx C.hb d ht (fun _ => (kt hQ r S1 hb H locs ls hP hS hlv)) (fun z => absurd z hQ)
theorem j_if_ne_T (C : Cx p s m args meth c own cc nL rt D tys w A) {x : Int32} {off : Int} {tgt : Nat} (d : decode cc pc = .ok (.ifCond .ne off, 3)) (ht : (pc : Int) + off = (tgt : Int)) (hQ : ¬ x = 0) (h : Tj p l e R s m args below meth c D w A nL vv K prog S tgt lv rest) : Tj p l e R s m args below meth c D w A nL vv K prog S pc lv (.int x :: rest) := fun r S1 hb H locs ls hP hS hlv => lv_if_ne C.hx C.hb d ht (fun _ => (h r S1 hb H locs ls hP hS hlv)) (fun z => absurd z hQ)
theorem j_if_ne_F (C : Cx p s m args meth c own cc nL rt D tys w A) {x : Int32} {off : Int} {tgt : Nat} (d : decode cc pc = .ok (.ifCond .ne off, 3)) (ht : (pc : Int) + off = (tgt : Int)) (hQ : x = 0) (h : Tj p l e R s m args below meth c D w A nL vv K prog S (pc + 3) lv rest) : Tj p l e R s m args below meth c D w A nL vv K prog S pc lv (.int x :: rest) := fun r S1 hb H locs ls hP hS hlv => lv_if_ne C.hx C.hb d ht (fun z => absurd hQ z) (fun _ => (h r S1 hb H locs ls hP hS hlv))
theorem j_if_lt (C : Cx p s m args meth c own cc nL rt D tys w A) {x : Int32} {off : Int} {tgt : Nat} {iP : Decidable (x < 0)} (d : decode cc pc = .ok (.ifCond .lt off, 3)) (ht : (pc : Int) + off = (tgt : Int)) (kt : x < 0 → Tj p l e R s m args below meth c D w A nL vv K progA S tgt lv rest) (kf : ¬ x < 0 → Tj p l e R s m args below meth c D w A nL vv K progB S (pc + 3) lv rest) : Tj p l e R s m args below meth c D w A nL vv K (@ite _ (x < 0) iP progA progB) S pc lv (.int x :: rest) := by
  refine j_if (fun hQ => ?_) (fun hQ => ?_)
  · exact fun r S1 hb H locs ls hP hS hlv => lv_if_lt C.hx C.hb d ht (fun _ => (kt hQ r S1 hb H locs ls hP hS hlv)) (fun z => absurd hQ z)
  · exact fun r S1 hb H locs ls hP hS hlv => lv_if_lt C.hx C.hb d ht (fun z => absurd z hQ) (fun _ => (kf hQ r S1 hb H locs ls hP hS hlv))
theorem j_if_lt_T (C : Cx p s m args meth c own cc nL rt D tys w A) {x : Int32} {off : Int} {tgt : Nat} (d : decode cc pc = .ok (.ifCond .lt off, 3)) (ht : (pc : Int) + off = (tgt : Int)) (hQ : x < 0) (h : Tj p l e R s m args below meth c D w A nL vv K prog S tgt lv rest) : Tj p l e R s m args below meth c D w A nL vv K prog S pc lv (.int x :: rest) := fun r S1 hb H locs ls hP hS hlv => lv_if_lt C.hx C.hb d ht (fun _ => (h r S1 hb H locs ls hP hS hlv)) (fun z => absurd hQ z)
theorem j_if_lt_F (C : Cx p s m args meth c own cc nL rt D tys w A) {x : Int32} {off : Int} {tgt : Nat} (d : decode cc pc = .ok (.ifCond .lt off, 3)) (ht : (pc : Int) + off = (tgt : Int)) (hQ : ¬ x < 0) (h : Tj p l e R s m args below meth c D w A nL vv K prog S (pc + 3) lv rest) : Tj p l e R s m args below meth c D w A nL vv K prog S pc lv (.int x :: rest) := fun r S1 hb H locs ls hP hS hlv => lv_if_lt C.hx C.hb d ht (fun z => absurd z hQ) (fun _ => (h r S1 hb H locs ls hP hS hlv))
theorem j_if_ge (C : Cx p s m args meth c own cc nL rt D tys w A) {x : Int32} {off : Int} {tgt : Nat} {iP : Decidable (0 ≤ x)} (d : decode cc pc = .ok (.ifCond .ge off, 3)) (ht : (pc : Int) + off = (tgt : Int)) (kt : 0 ≤ x → Tj p l e R s m args below meth c D w A nL vv K progA S tgt lv rest) (kf : ¬ 0 ≤ x → Tj p l e R s m args below meth c D w A nL vv K progB S (pc + 3) lv rest) : Tj p l e R s m args below meth c D w A nL vv K (@ite _ (0 ≤ x) iP progA progB) S pc lv (.int x :: rest) := by
  refine j_if (fun hQ => ?_) (fun hQ => ?_)
  · exact fun r S1 hb H locs ls hP hS hlv => lv_if_ge C.hx C.hb d ht (fun _ => (kt hQ r S1 hb H locs ls hP hS hlv)) (fun z => absurd hQ z)
  · exact fun r S1 hb H locs ls hP hS hlv => lv_if_ge C.hx C.hb d ht (fun z => absurd z hQ) (fun _ => (kf hQ r S1 hb H locs ls hP hS hlv))
theorem j_if_ge_T (C : Cx p s m args meth c own cc nL rt D tys w A) {x : Int32} {off : Int} {tgt : Nat} (d : decode cc pc = .ok (.ifCond .ge off, 3)) (ht : (pc : Int) + off = (tgt : Int)) (hQ : 0 ≤ x) (h : Tj p l e R s m args below meth c D w A nL vv K prog S tgt lv rest) : Tj p l e R s m args below meth c D w A nL vv K prog S pc lv (.int x :: rest) := fun r S1 hb H locs ls hP hS hlv => lv_if_ge C.hx C.hb d ht (fun _ => (h r S1 hb H locs ls hP hS hlv)) (fun z => absurd hQ z)
theorem j_if_ge_F (C : Cx p s m args meth c own cc nL rt D tys w A) {x : Int32} {off : Int} {tgt : Nat} (d : decode cc pc = .ok (.ifCond .ge off, 3)) (ht : (pc : Int) + off = (tgt : Int)) (hQ : ¬ 0 ≤ x) (h : Tj p l e R s m args below meth c D w A nL vv K prog S (pc + 3) lv rest) : Tj p l e R s m args below meth c D w A nL vv K prog S pc lv (.int x :: rest) := fun r S1 hb H locs ls hP hS hlv => lv_if_ge C.hx C.hb d ht (fun z => absurd z hQ) (fun _ => (h r S1 hb H locs ls hP hS hlv))
theorem j_if_gt (C : Cx p s m args meth c own cc nL rt D tys w A) {x : Int32} {off : Int} {tgt : Nat} {iP : Decidable (0 < x)} (d : decode cc pc = .ok (.ifCond .gt off, 3)) (ht : (pc : Int) + off = (tgt : Int)) (kt : 0 < x → Tj p l e R s m args below meth c D w A nL vv K progA S tgt lv rest) (kf : ¬ 0 < x → Tj p l e R s m args below meth c D w A nL vv K progB S (pc + 3) lv rest) : Tj p l e R s m args below meth c D w A nL vv K (@ite _ (0 < x) iP progA progB) S pc lv (.int x :: rest) := by
  refine j_if (fun hQ => ?_) (fun hQ => ?_)
  · exact fun r S1 hb H locs ls hP hS hlv => lv_if_gt C.hx C.hb d ht (fun _ => (kt hQ r S1 hb H locs ls hP hS hlv)) (fun z => absurd hQ z)
  · exact fun r S1 hb H locs ls hP hS hlv => lv_if_gt C.hx C.hb d ht (fun z => absurd z hQ) (fun _ => (kf hQ r S1 hb H locs ls hP hS hlv))
theorem j_if_gt_T (C : Cx p s m args meth c own cc nL rt D tys w A) {x : Int32} {off : Int} {tgt : Nat} (d : decode cc pc = .ok (.ifCond .gt off, 3)) (ht : (pc : Int) + off = (tgt : Int)) (hQ : 0 < x) (h : Tj p l e R s m args below meth c D w A nL vv K prog S tgt lv rest) : Tj p l e R s m args below meth c D w A nL vv K prog S pc lv (.int x :: rest) := fun r S1 hb H locs ls hP hS hlv => lv_if_gt C.hx C.hb d ht (fun _ => (h r S1 hb H locs ls hP hS hlv)) (fun z => absurd hQ z)
theorem j_if_gt_F (C : Cx p s m args meth c own cc nL rt D tys w A) {x : Int32} {off : Int} {tgt : Nat} (d : decode cc pc = .ok (.ifCond .gt off, 3)) (ht : (pc : Int) + off = (tgt : Int)) (hQ : ¬ 0 < x) (h : Tj p l e R s m args below meth c D w A nL vv K prog S (pc + 3) lv rest) : Tj p l e R s m args below meth c D w A nL vv K prog S pc lv (.int x :: rest) := fun r S1 hb H locs ls hP hS hlv => lv_if_gt C.hx C.hb d ht (fun z => absurd z hQ) (fun _ => (h r S1 hb H locs ls hP hS hlv))
theorem j_if_le (C : Cx p s m args meth c own cc nL rt D tys w A) {x : Int32} {off : Int} {tgt : Nat} {iP : Decidable (x ≤ 0)} (d : decode cc pc = .ok (.ifCond .le off, 3)) (ht : (pc : Int) + off = (tgt : Int)) (kt : x ≤ 0 → Tj p l e R s m args below meth c D w A nL vv K progA S tgt lv rest) (kf : ¬ x ≤ 0 → Tj p l e R s m args below meth c D w A nL vv K progB S (pc + 3) lv rest) : Tj p l e R s m args below meth c D w A nL vv K (@ite _ (x ≤ 0) iP progA progB) S pc lv (.int x :: rest) := by
  refine j_if (fun hQ => ?_) (fun hQ => ?_)
  · exact fun r S1 hb H locs ls hP hS hlv => lv_if_le C.hx C.hb d ht (fun _ => (kt hQ r S1 hb H locs ls hP hS hlv)) (fun z => absurd hQ z)
  · exact fun r S1 hb H locs ls hP hS hlv => lv_if_le C.hx C.hb d ht (fun z => absurd z hQ) (fun _ => (kf hQ r S1 hb H locs ls hP hS hlv))
theorem j_if_le_T (C : Cx p s m args meth c own cc nL rt D tys w A) {x : Int32} {off : Int} {tgt : Nat} (d : decode cc pc = .ok (.ifCond .le off, 3)) (ht : (pc : Int) + off = (tgt : Int)) (hQ : x ≤ 0) (h : Tj p l e R s m args below meth c D w A nL vv K prog S tgt lv rest) : Tj p l e R s m args below meth c D w A nL vv K prog S pc lv (.int x :: rest) := fun r S1 hb H locs ls hP hS hlv => lv_if_le C.hx C.hb d ht (fun _ => (h r S1 hb H locs ls hP hS hlv)) (fun z => absurd hQ z)
theorem j_if_le_F (C : Cx p s m args meth c own cc nL rt D tys w A) {x : Int32} {off : Int} {tgt : Nat} (d : decode cc pc = .ok (.ifCond .le off, 3)) (ht : (pc : Int) + off = (tgt : Int)) (hQ : ¬ x ≤ 0) (h : Tj p l e R s m args below meth c D w A nL vv K prog S (pc + 3) lv rest) : Tj p l e R s m args below meth c D w A nL vv K prog S pc lv (.int x :: rest) := fun r S1 hb H locs ls hP hS hlv => lv_if_le C.hx C.hb d ht (fun z => absurd z hQ) (fun _ => (h r S1 hb H locs ls hP hS hlv))
theorem j_icmp_eq (C : Cx p s m args meth c own cc nL rt D tys w A) {x y : Int32} {off : Int} {tgt : Nat} {iP : Decidable (x = y)} (d : decode cc pc = .ok (.if_icmp .eq off, 3)) (ht : (pc : Int) + off = (tgt : Int)) (kt : x = y → Tj p l e R s m args below meth c D w A nL vv K progA S tgt lv rest) (kf : ¬ x = y → Tj p l e R s m args below meth c D w A nL vv K progB S (pc + 3) lv rest) : Tj p l e R s m args below meth c D w A nL vv K (@ite _ (x = y) iP progA progB) S pc lv (.int y :: .int x :: rest) := by
  refine j_if (fun hQ => ?_) (fun hQ => ?_)
  · exact fun r S1 hb H locs ls hP hS hlv => lv_icmp_eq C.hx C.hb d ht (fun _ => (kt hQ r S1 hb H locs ls hP hS hlv)) (fun z => absurd hQ z)
  · exact fun r S1 hb H locs ls hP hS hlv => lv_icmp_eq C.hx C.hb d ht (fun z => absurd z hQ) (fun _ => (kf hQ r S1 hb H locs ls hP hS hlv))
theorem j_icmp_eq_T (C : Cx p s m args meth c own cc nL rt D tys w A) {x y : Int32} {off : Int} {tgt : Nat} (d : decode cc pc = .ok (.if_icmp .eq off, 3)) (ht : (pc : Int) + off = (tgt : Int)) (hQ : x = y) (h : Tj p l e R s m args below meth c D w A nL vv K prog S tgt lv rest) : Tj p l e R s m args below meth c D w A nL vv K prog S pc lv (.int y :: .int x :: rest) := fun r S1 hb H locs ls hP hS hlv => lv_icmp_eq C.hx C.hb d ht (fun _ => (h r S1 hb H locs ls hP hS hlv)) (fun z => absurd hQ z)
theorem j_icmp_eq_F (C : Cx p s m args meth c own cc nL rt D tys w A) {x y : Int32} {off : Int} {tgt : Nat} (d : decode cc pc = .ok (.if_icmp .eq off, 3)) (ht : (pc : Int) + off = (tgt : Int)) (hQ : ¬ x = y) (h : Tj p l e R s m args below meth c D w A nL vv K prog S (pc + 3) lv rest) : Tj p l e R s m args below meth c D w A nL vv K prog S pc lv (.int y :: .int x :: rest) := fun r S1 hb H locs ls hP hS hlv => lv_icmp_eq C.hx C.hb d ht (fun z => absurd z hQ) (fun _ => (h r S1 hb H locs ls hP hS hlv))
theorem j_icmp_ne (C : Cx p s m args meth c own cc nL rt D tys w A) {x y : Int32} {off : Int} {tgt : Nat} {iP : Decidable (x = y)} (d : decode cc pc = .ok (.if_icmp .ne off, 3)) (ht : (pc : Int) + off = (tgt : Int)) (kf : x = y → Tj p l e R s m args below meth c D w A nL vv K progA S (pc + 3) lv rest) (kt : ¬ x = y → Tj p l e R s m args below meth c D w A nL vv K progB S tgt lv rest) : Tj p l e R s m args below meth c D w A nL vv K (@ite _ (x = y) iP progA progB) S pc lv (.int y :: .int x :: rest) := by
  refine j_if (fun hQ => ?_) (fun hQ => ?_)
  · exact fun r S1 hb H locs ls hP hS hlv => lv_icmp_ne C.hx C.hb d ht (fun z => absurd hQ z) (fun _ => (kf hQ r S1 hb H locs ls hP hS hlv))
  · exact fun r S1 hb H locs ls hP hS hlv => lv_icmp_ne C.hx C.hb d ht (fun _ => (kt hQ r S1 hb H locs ls hP hS hlv)) (fun z => absurd z hQ)
theorem j_icmp_ne_T (C : Cx p s m args meth c own cc nL rt D tys w A) {x y : Int32} {off : Int} {tgt : Nat} (d : decode cc pc = .ok (.if_icmp .ne off, 3)) (ht : (pc : Int) + off = (tgt : Int)) (hQ : ¬ x = y) (h : Tj p l e R s m args below meth c D w A nL vv K prog S tgt lv rest) : Tj p l e R s m args below meth c D w A nL vv K prog S pc lv (.int y :: .int x :: rest) := fun r S1 hb H locs ls hP hS hlv => lv_icmp_ne C.hx C.hb d ht (fun _ => (h r S1 hb H locs ls hP hS hlv)) (fun z => absurd z hQ)
theorem j_icmp_ne_F (C : Cx p s m args meth c own cc nL rt D tys w A) {x y : Int32} {off : Int} {tgt : Nat} (d : decode cc pc = .ok (.if_icmp .ne off, 3)) (ht : (pc : Int) + off = (tgt : Int)) (hQ : x = y) (h : Tj p l e R s m args below meth c D w A nL vv K prog S (pc + 3) lv rest) : Tj p l e R s m args below meth c D w A nL vv K prog S pc lv (.int y :: .int x :: rest) := fun r S1 hb H locs ls hP hS hlv => lv_icmp_ne C.hx C.hb d ht (fun z => absurd hQ z) (fun _ => (h r S1 hb H locs ls hP hS hlv))
theorem j_icmp_lt (C : Cx p s m args meth c own cc nL rt D tys w A) {x y : Int32} {off : Int} {tgt : Nat} {iP : Decidable (x < y)} (d : decode cc pc = .ok (.if_icmp .lt off, 3)) (ht : (pc : Int) + off = (tgt : Int)) (kt : x < y → Tj p l e R s m args below meth c D w A nL vv K progA S tgt lv rest) (kf : ¬ x < y → Tj p l e R s m args below meth c D w A nL vv K progB S (pc + 3) lv rest) : Tj p l e R s m args below meth c D w A nL vv K (@ite _ (x < y) iP progA progB) S pc lv (.int y :: .int x :: rest) := by
  refine j_if (fun hQ => ?_) (fun hQ => ?_)
  · exact fun r S1 hb H locs ls hP hS hlv => lv_icmp_lt C.hx C.hb d ht (fun _ => (kt hQ r S1 hb H locs ls hP hS hlv)) (fun z => absurd hQ z)
  · exact fun r S1 hb H locs ls hP hS hlv => lv_icmp_lt C.hx C.hb d ht (fun z => absurd z hQ) (fun _ => (kf hQ r S1 hb H locs ls hP hS hlv))
theorem j_icmp_lt_T (C : Cx p s m args meth c own cc nL rt D tys w A) {x y : Int32} {off : Int} {tgt : Nat} (d : decode cc pc = .ok (.if_icmp .lt off, 3)) (ht : (pc : Int) + off = (tgt : Int)) (hQ : x < y) (h : Tj p l e R s m args below meth c D w A nL vv K prog S tgt lv rest) : Tj p l e R s m args below meth c D w A nL vv K prog S pc lv (.int y :: .int x :: rest) := fun r S1 hb H locs ls hP hS hlv => lv_icmp_lt C.hx C.hb d ht (fun _ => (h r S1 hb H locs ls hP hS hlv)) (fun z => absurd hQ z)
theorem j_icmp_lt_F (C : Cx p s m args meth c own cc nL rt D tys w A) {x y : Int32} {off : Int} {tgt : Nat} (d : decode cc pc = .ok (.if_icmp .lt off, 3)) (ht : (pc : Int) + off = (tgt : Int)) (hQ : ¬ x < y) (h : Tj p l e R s m args below meth c D w A nL vv K prog S (pc + 3) lv rest) : Tj p l e R s m args below meth c D w A nL vv K prog S pc lv (.int y :: .int x :: rest) := fun r S1 hb H locs ls hP hS hlv => lv_icmp_lt C.hx C.hb d ht (fun z => absurd z hQ) (fun _ => (h r S1 hb H locs ls hP hS hlv))
theorem j_icmp_ge (C : Cx p s m args meth c own cc nL rt D tys w A) {x y : Int32} {off : Int} {tgt : Nat} {iP : Decidable (y ≤ x)} (d : decode cc pc = .ok (.if_icmp .ge off, 3)) (ht : (pc : Int) + off = (tgt : Int)) (kt : y ≤ x → Tj p l e R s m args below meth c D w A nL vv K progA S tgt lv rest) (kf : ¬ y ≤ x → Tj p l e R s m args below meth c D w A nL vv K progB S (pc + 3) lv rest) : Tj p l e R s m args below meth c D w A nL vv K (@ite _ (y ≤ x) iP progA progB) S pc lv (.int y :: .int x :: rest) := by
  refine j_if (fun hQ => ?_) (fun hQ => ?_)
  · exact fun r S1 hb H locs ls hP hS hlv => lv_icmp_ge C.hx C.hb d ht (fun _ => (kt hQ r S1 hb H locs ls hP hS hlv)) (fun z => absurd hQ z)
  · exact fun r S1 hb H locs ls hP hS hlv => lv_icmp_ge C.hx C.hb d ht (fun z => absurd z hQ) (fun _ => (kf hQ r S1 hb H locs ls hP hS hlv))
theorem j_icmp_ge_T (C : Cx p s m args meth c own cc nL rt D tys w A) {x y : Int32} {off : Int} {tgt : Nat} (d : decode cc pc = .ok (.if_icmp .ge off, 3)) (ht : (pc : Int) + off = (tgt : Int)) (hQ : y ≤ x) (h : Tj p l e R s m args below meth c D w A nL vv K prog S tgt lv rest) : Tj p l e R s m args below meth c D w A nL vv K prog S pc lv (.int y :: .int x :: rest) := fun r S1 hb H locs ls hP hS hlv => lv_icmp_ge C.hx C.hb d ht (fun _ => (h r S1 hb H locs ls hP hS hlv)) (fun z => absurd hQ z)
theorem j_icmp_ge_F (C : Cx p s m args meth c own cc nL rt D tys w A) {x y : Int32} {off : Int} {tgt : Nat} (d : decode cc pc = .ok (.if_icmp .ge off, 3)) (ht : (pc : Int) + off = (tgt : Int)) (hQ : ¬ y ≤ x) (h : Tj p l e R s m args below meth c D w A nL vv K prog S (pc + 3) lv rest) : Tj p l e R s m args below meth c D w A nL vv K prog S pc lv (.int y :: .int x :: rest) := fun r S1 hb H locs ls hP hS hlv => lv_icmp_ge C.hx C.hb d ht (fun z => absurd z hQ) (fun _ => (h r S1 hb H locs ls hP hS hlv))
theorem j_icmp_gt (C : Cx p s m args meth c own cc nL rt D tys w A) {x y : Int32} {off : Int} {tgt : Nat} {iP : Decidable (y < x)} (d : decode cc pc = .ok (.if_icmp .gt off, 3)) (ht : (pc : Int) + off = (tgt : Int)) (kt : y < x → Tj p l e R s m args below meth c D w A nL vv K progA S tgt lv rest) (kf : ¬ y < x → Tj p l e R s m args below meth c D w A nL vv K progB S (pc + 3) lv rest) : Tj p l e R s m args below meth c D w A nL vv K (@ite _ (y < x) iP progA progB) S pc lv (.int y :: .int x :: rest) := by
  refine j_if (fun hQ => ?_) (fun hQ => ?_)
  · exact fun r S1 hb H locs ls hP hS hlv => lv_icmp_gt C.hx C.hb d ht (fun _ => (kt hQ r S1 hb H locs ls hP hS hlv)) (fun z => absurd hQ z)
  · exact fun r S1 hb H locs ls hP hS hlv => lv_icmp_gt C.hx C.hb d ht (fun z => absurd z hQ) (fun _ => (kf hQ r S1 hb H locs ls hP hS hlv))
theorem j_icmp_gt_T (C : Cx p s m args meth c own cc nL rt D tys w A) {x y : Int32} {off : Int} {tgt : Nat} (d : decode cc pc = .ok (.if_icmp .gt off, 3)) (ht : (pc : Int) + off = (tgt : Int)) (hQ : y < x) (h : Tj p l e R s m args below meth c D w A nL vv K prog S tgt lv rest) : Tj p l e R s m args below meth c D w A nL vv K prog S pc lv (.int y :: .int x :: rest) := fun r S1 hb H locs ls hP hS hlv => lv_icmp_gt C.hx C.hb d ht (fun _ => (h r S1 hb H locs ls hP hS hlv)) (fun z => absurd hQ z)
theorem j_icmp_gt_F (C : Cx p s m args meth c own cc nL rt D tys w A) {x y : Int32} {off : Int} {tgt : Nat} (d : decode cc pc = .ok (.if_icmp .gt off, 3)) (ht : (pc : Int) + off = (tgt : Int)) (hQ : ¬ y < x) (h : Tj p l e R s m args below meth c D w A nL vv K prog S (pc + 3) lv rest) : Tj p l e R s m args below meth c D w A nL vv K prog S pc lv (.int y :: .int x :: rest) := fun r S1 hb H locs ls hP hS hlv => lv_icmp_gt C.hx C.hb d ht (fun z => absurd z hQ) (fun _ => (h r S1 hb H locs ls hP hS hlv))
theorem j_icmp_le (C : Cx p s m args meth c own cc nL rt D tys w A) {x y : Int32} {off : Int} {tgt : Nat} {iP : Decidable (x ≤ y)} (d : decode cc pc = .ok (.if_icmp .le off, 3)) (ht : (pc : Int) + off = (tgt : Int)) (kt : x ≤ y → Tj p l e R s m args below meth c D w A nL vv K progA S tgt lv rest) (kf : ¬ x ≤ y → Tj p l e R s m args below meth c D w A nL vv K progB S (pc + 3) lv rest) : Tj p l e R s m args below meth c D w A nL vv K (@ite _ (x ≤ y) iP progA progB) S pc lv (.int y :: .int x :: rest) := by
  refine j_if (fun hQ => ?_) (fun hQ => ?_)
  · exact fun r S1 hb H locs ls hP hS hlv => lv_icmp_le C.hx C.hb d ht (fun _ => (kt hQ r S1 hb H locs ls hP hS hlv)) (fun z => absurd hQ z)
  · exact fun r S1 hb H locs ls hP hS hlv => lv_icmp_le C.hx C.hb d ht (fun z => absurd z hQ) (fun _ => (kf hQ r S1 hb H locs ls hP hS hlv))
theorem j_icmp_le_T (C : Cx p s m args meth c own cc nL rt D tys w A) {x y : Int32} {off : Int} {tgt : Nat} (d : decode cc pc = .ok (.if_icmp .le off, 3)) (ht : (pc : Int) + off = (tgt : Int)) (hQ : x ≤ y) (h : Tj p l e R s m args below meth c D w A nL vv K prog S tgt lv rest) : Tj p l e R s m args below meth c D w A nL vv K prog S pc lv (.int y :: .int x :: rest) := fun r S1 hb H locs ls hP hS hlv => lv_icmp_le C.hx C.hb d ht (fun _ => (h r S1 hb H locs ls hP hS hlv)) (fun z => absurd hQ z)
theorem j_icmp_le_F (C : Cx p s m args meth c own cc nL rt D tys w A) {x y : Int32} {off : Int} {tgt : Nat} (d : decode cc pc = .ok (.if_icmp .le off, 3)) (ht : (pc : Int) + off = (tgt : Int)) (hQ : ¬ x ≤ y) (h : Tj p l e R s m args below meth c D w A nL vv K prog S (pc + 3) lv rest) : Tj p l e R s m args below meth c D w A nL vv K prog S pc lv (.int y :: .int x :: rest) := fun r S1 hb H locs ls hP hS hlv => lv_icmp_le C.hx C.hb d ht (fun z => absurd z hQ) (fun _ => (h r S1 hb H locs ls hP hS hlv))
theorem j_tabIn (C : Cx p s m args meth c own cc nL rt D tys w A) {dflt lo hi : Int} {offs : Array Int} {len : Nat} {x : Int32} {off : Int} {tgt : Nat} (d : decode cc pc = .ok (.tableswitch dflt lo hi offs, len)) (h1 : ¬ x.toInt < lo) (h2 : ¬ hi < x.toInt) (ho : offs[(x.toInt - lo).toNat]? = some off) (ht : (pc : Int) + off = (tgt : Int)) (h : Tj p l e R s m args below meth c D w A nL vv K prog S tgt lv rest) : Tj p l e R s m args below meth c D w A nL vv K prog S pc lv (.int x :: rest) := fun r S1 hb H locs ls hP hS hlv => lv_tableIn C.hx C.hb d h1 h2 ho ht (h r S1 hb H locs ls hP hS hlv)
theorem j_tabOut (C : Cx p s m args meth c own cc nL rt D tys w A) {dflt lo hi : Int} {offs : Array Int} {len : Nat} {x : Int32} {tgt : Nat} (d : decode cc pc = .ok (.tableswitch dflt lo hi offs, len)) (h1 : x.toInt < lo ∨ hi < x.toInt) (ht : (pc : Int) + dflt = (tgt : Int)) (h : Tj p l e R s m args below meth c D w A nL vv K prog S tgt lv rest) : Tj p l e R s m args below meth c D w A nL vv K prog S pc lv (.int x :: rest) := fun r S1 hb H locs ls hP hS hlv => lv_tableOut C.hx C.hb d h1 ht (h r S1 hb H locs ls hP hS hlv)
theorem j_look (C : Cx p s m args meth c own cc nL rt D tys w A) {dflt : Int} {ps : Array (Int × Int)} {len : Nat} {x : Int32} {off : Int} {tgt : Nat} (d : decode cc pc = .ok (.lookupswitch dflt ps, len)) (hp : (ps.toList.zip (ps.toList.drop 1)).all (fun (a, next) => a.1 < next.1) = true) (ho : Op.lookupswitch.offset ps.toList dflt x.toInt = off) (ht : (pc : Int) + off = (tgt : Int)) (h : Tj p l e R s m args below meth c D w A nL vv K prog S tgt lv rest) : Tj p l e R s m args below meth c D w A nL vv K prog S pc lv (.int x :: rest) := fun r S1 hb H locs ls hP hS hlv => lv_lookup C.hx C.hb d hp ho ht (h r S1 hb H locs ls hP hS hlv)
theorem j_max (C : Cx p s m args meth c own cc nL rt D tys w A) {index : Nat} {x y : Int32} (hl : Cond.methodLink own index Lib.Math.max.name ∈ wU) (h2 : Cond.static Lib.Math.max.name ∈ wU) (h3 : Cond.initialized "java/lang/Math" ∈ wU) (h4 : Cond.code Lib.Math.max.name Lib.Math.max.code 2 (some .int) ∈ wU) (hf : 1 ≤ R.frames) (hlo : (rest.map fun v => v.category).sum + 13 ≤ R.locals) (d : decode cc pc = .ok (.invokestatic index, 3))
    (h : Tj p l e R s m args below meth c D w A nL vv K prog S (pc + 3) lv (.int (if x < y then y else x) :: rest)) : Tj p l e R s m args below meth c D w A nL vv K prog S pc lv (.int y :: .int x :: rest) := fun r S1 hb H locs ls hP hS hlv => va_mmax C.hx C.hb (C.hml.trans hlv.1.symm) C.hown (C.hts _ hl) (C.hts _ h2) (C.hts _ h3) (C.hts _ h4) hf hlo (Nat.zero_le _) (Nat.zero_le _) d (h r S1 hb H locs ls hP hS hlv)
end GO2
end
