/-! methods: names, words, rooms -/
abbrev y_A_isWithin : MethodName := ⟨"AutoTeller", "isWithin", "(JJJ)Z"⟩
abbrev y_H_isAccount : MethodName := ⟨"AutoTeller$Host", "isAccount", "(I)Z"⟩
abbrev y_H_setBalance : MethodName := ⟨"AutoTeller$Host", "setBalance", "(IJ)Z"⟩
abbrev y_A_account : MethodName := ⟨"AutoTeller", "account", "(IJ)Z"⟩
abbrev y_A_isCard : MethodName := ⟨"AutoTeller", "isCard", "(I)Z"⟩
abbrev y_A_isPin : MethodName := ⟨"AutoTeller", "isPin", "(J)Z"⟩
abbrev y_H_tellCard : MethodName := ⟨"AutoTeller$Host", "tellCard", "(III)Z"⟩
abbrev y_A_card : MethodName := ⟨"AutoTeller", "card", "(III)Z"⟩
abbrev y_O_isCassette : MethodName := ⟨"AutoTeller$Notes", "isCassette", "(I)Z"⟩
abbrev y_O_fill : MethodName := ⟨"AutoTeller$Notes", "fill", "(III)Z"⟩
abbrev y_M_fillCassette : MethodName := ⟨"AutoTeller$Machine", "fillCassette", "(III)Z"⟩
abbrev y_A_load : MethodName := ⟨"AutoTeller", "load", "(III)Z"⟩
abbrev y_M_putCardIn : MethodName := ⟨"AutoTeller$Machine", "putCardIn", "(I)Z"⟩
abbrev y_A_insert : MethodName := ⟨"AutoTeller", "insert", "(I)Z"⟩
abbrev y_M_takeTrace : MethodName := ⟨"AutoTeller$Machine", "takeTrace", "()V"⟩
abbrev y_M_mayStep : MethodName := ⟨"AutoTeller$Machine", "mayStep", "()Z"⟩
abbrev y_E_writeNumber : MethodName := ⟨"AutoTeller$Letter", "writeNumber", "(IJ)V"⟩
abbrev y_E_reckonCheck : MethodName := ⟨"AutoTeller$Letter", "reckonCheck", "()I"⟩
abbrev y_E_write : MethodName := ⟨"AutoTeller$Letter", "write", "(IIIJI)V"⟩
abbrev y_N_has : MethodName := ⟨"AutoTeller$Line", "has", "(I)Z"⟩
abbrev y_N_remove : MethodName := ⟨"AutoTeller$Line", "remove", "(I)V"⟩
abbrev y_N_post : MethodName := ⟨"AutoTeller$Line", "post", "(ZIIIJI)V"⟩
abbrev y_M_send : MethodName := ⟨"AutoTeller$Machine", "send", "(II)Z"⟩
abbrev y_M_beginPinCheck : MethodName := ⟨"AutoTeller$Machine", "beginPinCheck", "(I)Z"⟩
abbrev y_A_pin : MethodName := ⟨"AutoTeller", "pin", "(I)Z"⟩
abbrev y_A_isAmount : MethodName := ⟨"AutoTeller", "isAmount", "(J)Z"⟩
abbrev y_O_findLargest : MethodName := ⟨"AutoTeller$Notes", "findLargest", "()V"⟩
abbrev y_O_mostOf : MethodName := ⟨"AutoTeller$Notes", "mostOf", "(III)I"⟩
abbrev y_O_mixRest : MethodName := ⟨"AutoTeller$Notes", "mixRest", "(III)V"⟩
abbrev y_O_findMix : MethodName := ⟨"AutoTeller$Notes", "findMix", "(I)Z"⟩
abbrev y_J_isFull : MethodName := ⟨"AutoTeller$Journal", "isFull", "()Z"⟩
abbrev y_J_add : MethodName := ⟨"AutoTeller$Journal", "add", "(IIII)V"⟩
abbrev y_M_write : MethodName := ⟨"AutoTeller$Machine", "write", "(I)Z"⟩
abbrev y_M_beginWithdrawal : MethodName := ⟨"AutoTeller$Machine", "beginWithdrawal", "(I)I"⟩
abbrev y_A_ask : MethodName := ⟨"AutoTeller", "ask", "(I)I"⟩
abbrev y_M_endWithoutCard : MethodName := ⟨"AutoTeller$Machine", "endWithoutCard", "()V"⟩
abbrev y_M_giveCardBack : MethodName := ⟨"AutoTeller$Machine", "giveCardBack", "()Z"⟩
abbrev y_A_eject : MethodName := ⟨"AutoTeller", "eject", "()Z"⟩
abbrev y_F_fill : MethodName := ⟨"java/util/Arrays", "fill", "([II)V"⟩
abbrev y_O_clearTray : MethodName := ⟨"AutoTeller$Notes", "clearTray", "()I"⟩
abbrev y_A_take : MethodName := ⟨"AutoTeller", "take", "()I"⟩
abbrev y_O_areStacked : MethodName := ⟨"AutoTeller$Notes", "areStacked", "()Z"⟩
abbrev y_O_emptyStackerInto : MethodName := ⟨"AutoTeller$Notes", "emptyStackerInto", "([I)V"⟩
abbrev y_O_moveStackerToBin : MethodName := ⟨"AutoTeller$Notes", "moveStackerToBin", "()V"⟩
abbrev y_M_reverse : MethodName := ⟨"AutoTeller$Machine", "reverse", "(Z)V"⟩
abbrev y_M_endWaiting : MethodName := ⟨"AutoTeller$Machine", "endWaiting", "()Z"⟩
abbrev y_A_timeout : MethodName := ⟨"AutoTeller", "timeout", "()Z"⟩
abbrev y_E_copyFrom : MethodName := ⟨"AutoTeller$Letter", "copyFrom", "(LAutoTeller$Letter;)V"⟩
abbrev y_N_copyTo : MethodName := ⟨"AutoTeller$Line", "copyTo", "(ILAutoTeller$Letter;)V"⟩
abbrev y_E_isSound : MethodName := ⟨"AutoTeller$Letter", "isSound", "()Z"⟩
abbrev y_E_readNumber : MethodName := ⟨"AutoTeller$Letter", "readNumber", "(I)J"⟩
abbrev y_E_trace : MethodName := ⟨"AutoTeller$Letter", "trace", "()J"⟩
abbrev y_E_kind : MethodName := ⟨"AutoTeller$Letter", "kind", "()I"⟩
abbrev y_M_isAwaited : MethodName := ⟨"AutoTeller$Machine", "isAwaited", "(LAutoTeller$Letter;)Z"⟩
abbrev y_E_code : MethodName := ⟨"AutoTeller$Letter", "code", "()I"⟩
abbrev y_M_endPinCheck : MethodName := ⟨"AutoTeller$Machine", "endPinCheck", "(I)V"⟩
abbrev y_O_stackOne : MethodName := ⟨"AutoTeller$Notes", "stackOne", "(I)V"⟩
abbrev y_M_stackMix : MethodName := ⟨"AutoTeller$Machine", "stackMix", "()Z"⟩
abbrev y_O_moveStackerToTray : MethodName := ⟨"AutoTeller$Notes", "moveStackerToTray", "()V"⟩
abbrev y_M_payOut : MethodName := ⟨"AutoTeller$Machine", "payOut", "()V"⟩
abbrev y_M_receive : MethodName := ⟨"AutoTeller$Machine", "receive", "(LAutoTeller$Letter;)V"⟩
abbrev y_E_cardNumber : MethodName := ⟨"AutoTeller$Letter", "cardNumber", "()I"⟩
abbrev y_E_value : MethodName := ⟨"AutoTeller$Letter", "value", "()J"⟩
abbrev y_H_isUsable : MethodName := ⟨"AutoTeller$Host", "isUsable", "(LAutoTeller$Letter;)Z"⟩
abbrev y_H_tryPin : MethodName := ⟨"AutoTeller$Host", "tryPin", "(IJ)I"⟩
abbrev y_H_takeOff : MethodName := ⟨"AutoTeller$Host", "takeOff", "(III)V"⟩
abbrev y_H_giveBack : MethodName := ⟨"AutoTeller$Host", "giveBack", "(I)V"⟩
abbrev y_H_decide : MethodName := ⟨"AutoTeller$Host", "decide", "(IIIJ)I"⟩
abbrev y_H_receive : MethodName := ⟨"AutoTeller$Host", "receive", "(LAutoTeller$Letter;)V"⟩
abbrev y_A_handOver : MethodName := ⟨"AutoTeller", "handOver", "()V"⟩
abbrev y_A_deliver : MethodName := ⟨"AutoTeller", "deliver", "(I)I"⟩
abbrev y_A_twice : MethodName := ⟨"AutoTeller", "twice", "(I)I"⟩
abbrev y_A_lose : MethodName := ⟨"AutoTeller", "lose", "(I)I"⟩
abbrev y_N_changeByte : MethodName := ⟨"AutoTeller$Line", "changeByte", "(III)Z"⟩
abbrev y_A_poke : MethodName := ⟨"AutoTeller", "poke", "(III)Z"⟩
abbrev y_N_byteOf : MethodName := ⟨"AutoTeller$Line", "byteOf", "(II)I"⟩
abbrev y_A_letter : MethodName := ⟨"AutoTeller", "letter", "(II)I"⟩
abbrev y_M_switchOff : MethodName := ⟨"AutoTeller$Machine", "switchOff", "()Z"⟩
abbrev y_A_cut : MethodName := ⟨"AutoTeller", "cut", "()Z"⟩
abbrev y_M_allowSteps : MethodName := ⟨"AutoTeller$Machine", "allowSteps", "(I)Z"⟩
abbrev y_A_arm : MethodName := ⟨"AutoTeller", "arm", "(I)Z"⟩
abbrev y_J_tell : MethodName := ⟨"AutoTeller$Journal", "tell", "(II)I"⟩
abbrev y_J_lastBegun : MethodName := ⟨"AutoTeller$Journal", "lastBegun", "()I"⟩
abbrev y_M_recallLastBegun : MethodName := ⟨"AutoTeller$Machine", "recallLastBegun", "()V"⟩
abbrev y_J_lastKind : MethodName := ⟨"AutoTeller$Journal", "lastKind", "()I"⟩
abbrev y_M_switchOn : MethodName := ⟨"AutoTeller$Machine", "switchOn", "()Z"⟩
abbrev y_A_power : MethodName := ⟨"AutoTeller", "power", "()Z"⟩
abbrev y_O_tell : MethodName := ⟨"AutoTeller$Notes", "tell", "(II)I"⟩
abbrev y_A_cassette : MethodName := ⟨"AutoTeller", "cassette", "(II)I"⟩
abbrev y_O_mixedOf : MethodName := ⟨"AutoTeller$Notes", "mixedOf", "(II)I"⟩
abbrev y_A_mix : MethodName := ⟨"AutoTeller", "mix", "(II)I"⟩
abbrev y_H_balanceOf : MethodName := ⟨"AutoTeller$Host", "balanceOf", "(I)J"⟩
abbrev y_A_balance : MethodName := ⟨"AutoTeller", "balance", "(I)J"⟩
abbrev y_H_triesOf : MethodName := ⟨"AutoTeller$Host", "triesOf", "(I)I"⟩
abbrev y_M_keptOf : MethodName := ⟨"AutoTeller$Machine", "keptOf", "(I)I"⟩
abbrev y_H_accountOf : MethodName := ⟨"AutoTeller$Host", "accountOf", "(I)I"⟩
abbrev y_A_ofCard : MethodName := ⟨"AutoTeller", "ofCard", "(II)I"⟩
abbrev y_A_record : MethodName := ⟨"AutoTeller", "record", "(II)I"⟩
abbrev y_A_count : MethodName := ⟨"AutoTeller", "count", "(I)J"⟩
abbrev y_R_account : MethodName := ⟨"AutoTellerModel", "account", "(IJ)Z"⟩
abbrev y_R_card : MethodName := ⟨"AutoTellerModel", "card", "(III)Z"⟩
abbrev y_R_load : MethodName := ⟨"AutoTellerModel", "load", "(III)Z"⟩
abbrev y_R_insert : MethodName := ⟨"AutoTellerModel", "insert", "(I)Z"⟩
abbrev y_R_goOff : MethodName := ⟨"AutoTellerModel", "goOff", "()V"⟩
abbrev y_R_step : MethodName := ⟨"AutoTellerModel", "step", "()Z"⟩
abbrev y_R_drop : MethodName := ⟨"AutoTellerModel", "drop", "(I)V"⟩
abbrev y_R_check : MethodName := ⟨"AutoTellerModel", "check", "([II)I"⟩
abbrev y_R_send : MethodName := ⟨"AutoTellerModel", "send", "(IIIIII)V"⟩
abbrev y_R_sendStep : MethodName := ⟨"AutoTellerModel", "sendStep", "(II)Z"⟩
abbrev y_R_pin : MethodName := ⟨"AutoTellerModel", "pin", "(I)Z"⟩
abbrev y_R_findMix : MethodName := ⟨"AutoTellerModel", "findMix", "(I)Z"⟩
abbrev y_R_record : MethodName := ⟨"AutoTellerModel", "record", "(I)Z"⟩
abbrev y_R_ask : MethodName := ⟨"AutoTellerModel", "ask", "(I)I"⟩
abbrev y_R_eject : MethodName := ⟨"AutoTellerModel", "eject", "()Z"⟩
abbrev y_R_take : MethodName := ⟨"AutoTellerModel", "take", "()I"⟩
abbrev y_R_hasStacked : MethodName := ⟨"AutoTellerModel", "hasStacked", "()Z"⟩
abbrev y_R_reverse : MethodName := ⟨"AutoTellerModel", "reverse", "(Z)V"⟩
abbrev y_R_timeout : MethodName := ⟨"AutoTellerModel", "timeout", "()Z"⟩
abbrev y_R_isLetter : MethodName := ⟨"AutoTellerModel", "isLetter", "(I)Z"⟩
abbrev y_R_numberAt : MethodName := ⟨"AutoTellerModel", "numberAt", "(I)I"⟩
abbrev y_R_giveOut : MethodName := ⟨"AutoTellerModel", "giveOut", "()V"⟩
abbrev y_R_machineTakes : MethodName := ⟨"AutoTellerModel", "machineTakes", "()Z"⟩
abbrev y_R_onPin : MethodName := ⟨"AutoTellerModel", "onPin", "(III)I"⟩
abbrev y_R_onDebit : MethodName := ⟨"AutoTellerModel", "onDebit", "(III)I"⟩
abbrev y_R_onReversal : MethodName := ⟨"AutoTellerModel", "onReversal", "(I)I"⟩
abbrev y_R_hostTakes : MethodName := ⟨"AutoTellerModel", "hostTakes", "()Z"⟩
abbrev y_R_come : MethodName := ⟨"AutoTellerModel", "come", "(IZ)V"⟩
abbrev y_R_deliver : MethodName := ⟨"AutoTellerModel", "deliver", "(I)I"⟩
abbrev y_R_twice : MethodName := ⟨"AutoTellerModel", "twice", "(I)I"⟩
abbrev y_R_lose : MethodName := ⟨"AutoTellerModel", "lose", "(I)I"⟩
abbrev y_R_poke : MethodName := ⟨"AutoTellerModel", "poke", "(III)Z"⟩
abbrev y_R_letter : MethodName := ⟨"AutoTellerModel", "letter", "(II)I"⟩
abbrev y_R_cut : MethodName := ⟨"AutoTellerModel", "cut", "()Z"⟩
abbrev y_R_arm : MethodName := ⟨"AutoTellerModel", "arm", "(I)Z"⟩
abbrev y_R_power : MethodName := ⟨"AutoTellerModel", "power", "()Z"⟩
abbrev y_R_cassette : MethodName := ⟨"AutoTellerModel", "cassette", "(II)I"⟩
abbrev y_R_mix : MethodName := ⟨"AutoTellerModel", "mix", "(II)I"⟩
abbrev y_R_balance : MethodName := ⟨"AutoTellerModel", "balance", "(I)J"⟩
abbrev y_R_ofCard : MethodName := ⟨"AutoTellerModel", "ofCard", "(II)I"⟩
abbrev y_R_recordOf : MethodName := ⟨"AutoTellerModel", "record", "(II)I"⟩
abbrev y_R_count : MethodName := ⟨"AutoTellerModel", "count", "(I)J"⟩
theorem u_1 : Cond.initialized "AutoTeller" ∈ wU := mU 1 (by decide +kernel) (by decide +kernel)
theorem u_2 : Cond.initialized "AutoTeller$Line" ∈ wU := mU 2 (by decide +kernel) (by decide +kernel)
theorem u_3 : Cond.initialized "AutoTeller$Letter" ∈ wU := mU 3 (by decide +kernel) (by decide +kernel)
theorem u_4 : Cond.initialized "AutoTeller$Host" ∈ wU := mU 4 (by decide +kernel) (by decide +kernel)
theorem u_5 : Cond.initialized "java/util/Arrays" ∈ wU := mU 5 (by decide +kernel) (by decide +kernel)
theorem u_6 : Cond.initialized "AutoTeller$Machine" ∈ wU := mU 6 (by decide +kernel) (by decide +kernel)
theorem u_7 : Cond.initialized "AutoTeller$Notes" ∈ wU := mU 7 (by decide +kernel) (by decide +kernel)
theorem u_8 : Cond.initialized "AutoTeller$Journal" ∈ wU := mU 8 (by decide +kernel) (by decide +kernel)
theorem u_9 : Cond.initialized "AutoTellerModel" ∈ wU := mU 9 (by decide +kernel) (by decide +kernel)
theorem u_10 : Cond.initialized "java/lang/Math" ∈ wU := mU 10 (by decide +kernel) (by decide +kernel)
theorem u_11 : Cond.initialized "java/lang/System" ∈ wU := mU 11 (by decide +kernel) (by decide +kernel)
theorem u_33 : Cond.fieldLink "AutoTeller$Letter" 9 "AutoTeller$Letter" "bytes" "[I" ∈ wU := mU 33 (by decide +kernel) (by decide +kernel)
theorem n_34 : Cond.fieldLinkNest "AutoTeller$Line" 53 "AutoTeller$Letter" "bytes" "[I" "AutoTeller" ∈ wN := mN 34 (by decide +kernel) (by decide +kernel)
theorem u_35 : Cond.fieldLink "AutoTeller$Letter" 29 "AutoTeller$Letter" "forHost" "Z" ∈ wU := mU 35 (by decide +kernel) (by decide +kernel)
theorem n_36 : Cond.fieldLinkNest "AutoTeller$Line" 29 "AutoTeller$Letter" "forHost" "Z" "AutoTeller" ∈ wN := mN 36 (by decide +kernel) (by decide +kernel)
theorem n_37 : Cond.fieldLinkNest "AutoTeller" 173 "AutoTeller$Letter" "forHost" "Z" "AutoTeller" ∈ wN := mN 37 (by decide +kernel) (by decide +kernel)
theorem u_44 : Cond.fieldLink "AutoTeller$Line" 11 "AutoTeller$Line" "letters" "[LAutoTeller$Letter;" ∈ wU := mU 44 (by decide +kernel) (by decide +kernel)
theorem u_45 : Cond.fieldLink "AutoTeller$Line" 18 "AutoTeller$Line" "inFlight" "I" ∈ wU := mU 45 (by decide +kernel) (by decide +kernel)
theorem n_46 : Cond.fieldLinkNest "AutoTeller" 92 "AutoTeller$Line" "inFlight" "I" "AutoTeller" ∈ wN := mN 46 (by decide +kernel) (by decide +kernel)
theorem u_47 : Cond.fieldLink "AutoTeller$Line" 26 "AutoTeller$Line" "lostForRoom" "I" ∈ wU := mU 47 (by decide +kernel) (by decide +kernel)
theorem n_48 : Cond.fieldLinkNest "AutoTeller" 163 "AutoTeller$Line" "lostForRoom" "I" "AutoTeller" ∈ wN := mN 48 (by decide +kernel) (by decide +kernel)
theorem u_63 : Cond.static ⟨"java/util/Arrays", "fill", "([II)V"⟩ ∈ wU := mU 63 (by decide +kernel) (by decide +kernel)
theorem u_64 : Cond.code ⟨"java/util/Arrays", "fill", "([II)V"⟩ prog_13_method_103_code 4 (Option.none : Option Jvm.ClassFile.FieldType) ∈ wU := mU 64 (by decide +kernel) (by decide +kernel)
theorem u_65 : Cond.fieldLink "AutoTeller$Host" 37 "AutoTeller$Host" "line" "LAutoTeller$Line;" ∈ wU := mU 65 (by decide +kernel) (by decide +kernel)
theorem u_66 : Cond.fieldLink "AutoTeller$Host" 9 "AutoTeller$Host" "balances" "[J" ∈ wU := mU 66 (by decide +kernel) (by decide +kernel)
theorem u_67 : Cond.fieldLink "AutoTeller$Host" 15 "AutoTeller$Host" "accountOfCard" "[I" ∈ wU := mU 67 (by decide +kernel) (by decide +kernel)
theorem u_68 : Cond.fieldLink "AutoTeller$Host" 19 "AutoTeller$Host" "pinOfCard" "[I" ∈ wU := mU 68 (by decide +kernel) (by decide +kernel)
theorem u_69 : Cond.fieldLink "AutoTeller$Host" 22 "AutoTeller$Host" "triesOfCard" "[I" ∈ wU := mU 69 (by decide +kernel) (by decide +kernel)
theorem u_70 : Cond.fieldLink "AutoTeller$Host" 25 "AutoTeller$Host" "pinCodes" "[I" ∈ wU := mU 70 (by decide +kernel) (by decide +kernel)
theorem u_71 : Cond.fieldLink "AutoTeller$Host" 28 "AutoTeller$Host" "debits" "[I" ∈ wU := mU 71 (by decide +kernel) (by decide +kernel)
theorem u_72 : Cond.fieldLink "AutoTeller$Host" 31 "AutoTeller$Host" "debitAmounts" "[I" ∈ wU := mU 72 (by decide +kernel) (by decide +kernel)
theorem u_73 : Cond.fieldLink "AutoTeller$Host" 34 "AutoTeller$Host" "debitAccounts" "[I" ∈ wU := mU 73 (by decide +kernel) (by decide +kernel)
theorem u_74 : Cond.fieldLink "AutoTeller$Host" 121 "AutoTeller$Host" "takenOff" "J" ∈ wU := mU 74 (by decide +kernel) (by decide +kernel)
theorem n_75 : Cond.fieldLinkNest "AutoTeller" 166 "AutoTeller$Host" "takenOff" "J" "AutoTeller" ∈ wN := mN 75 (by decide +kernel) (by decide +kernel)
theorem u_76 : Cond.fieldLink "AutoTeller$Host" 76 "AutoTeller$Host" "dropped" "I" ∈ wU := mU 76 (by decide +kernel) (by decide +kernel)
theorem n_77 : Cond.fieldLinkNest "AutoTeller" 159 "AutoTeller$Host" "dropped" "I" "AutoTeller" ∈ wN := mN 77 (by decide +kernel) (by decide +kernel)
theorem u_123 : Cond.fieldLink "AutoTeller$Notes" 18 "AutoTeller$Notes" "denominations" "[I" ∈ wU := mU 123 (by decide +kernel) (by decide +kernel)
theorem u_124 : Cond.fieldLink "AutoTeller$Notes" 23 "AutoTeller$Notes" "inCassette" "[I" ∈ wU := mU 124 (by decide +kernel) (by decide +kernel)
theorem u_125 : Cond.fieldLink "AutoTeller$Notes" 26 "AutoTeller$Notes" "inStacker" "[I" ∈ wU := mU 125 (by decide +kernel) (by decide +kernel)
theorem u_126 : Cond.fieldLink "AutoTeller$Notes" 29 "AutoTeller$Notes" "inTray" "[I" ∈ wU := mU 126 (by decide +kernel) (by decide +kernel)
theorem u_127 : Cond.fieldLink "AutoTeller$Notes" 32 "AutoTeller$Notes" "inBin" "[I" ∈ wU := mU 127 (by decide +kernel) (by decide +kernel)
theorem u_128 : Cond.fieldLink "AutoTeller$Notes" 81 "AutoTeller$Notes" "stackerWorth" "I" ∈ wU := mU 128 (by decide +kernel) (by decide +kernel)
theorem u_129 : Cond.fieldLink "AutoTeller$Notes" 88 "AutoTeller$Notes" "trayWorth" "I" ∈ wU := mU 129 (by decide +kernel) (by decide +kernel)
theorem u_130 : Cond.fieldLink "AutoTeller$Notes" 91 "AutoTeller$Notes" "everInTray" "J" ∈ wU := mU 130 (by decide +kernel) (by decide +kernel)
theorem n_131 : Cond.fieldLinkNest "AutoTeller" 170 "AutoTeller$Notes" "everInTray" "J" "AutoTeller" ∈ wN := mN 131 (by decide +kernel) (by decide +kernel)
theorem u_132 : Cond.fieldLink "AutoTeller$Notes" 35 "AutoTeller$Notes" "mixed" "[I" ∈ wU := mU 132 (by decide +kernel) (by decide +kernel)
theorem n_133 : Cond.fieldLinkNest "AutoTeller$Machine" 143 "AutoTeller$Notes" "mixed" "[I" "AutoTeller" ∈ wN := mN 133 (by decide +kernel) (by decide +kernel)
theorem u_134 : Cond.fieldLink "AutoTeller$Notes" 53 "AutoTeller$Notes" "fewest" "I" ∈ wU := mU 134 (by decide +kernel) (by decide +kernel)
theorem u_135 : Cond.fieldLink "AutoTeller$Notes" 72 "AutoTeller$Notes" "largest" "I" ∈ wU := mU 135 (by decide +kernel) (by decide +kernel)
theorem u_165 : Cond.fieldLink "AutoTeller$Journal" 9 "AutoTeller$Journal" "kinds" "[I" ∈ wU := mU 165 (by decide +kernel) (by decide +kernel)
theorem u_166 : Cond.fieldLink "AutoTeller$Journal" 15 "AutoTeller$Journal" "traces" "[I" ∈ wU := mU 166 (by decide +kernel) (by decide +kernel)
theorem u_167 : Cond.fieldLink "AutoTeller$Journal" 18 "AutoTeller$Journal" "amounts" "[I" ∈ wU := mU 167 (by decide +kernel) (by decide +kernel)
theorem u_168 : Cond.fieldLink "AutoTeller$Journal" 21 "AutoTeller$Journal" "cards" "[I" ∈ wU := mU 168 (by decide +kernel) (by decide +kernel)
theorem u_169 : Cond.fieldLink "AutoTeller$Journal" 24 "AutoTeller$Journal" "size" "I" ∈ wU := mU 169 (by decide +kernel) (by decide +kernel)
theorem n_170 : Cond.fieldLinkNest "AutoTeller$Machine" 78 "AutoTeller$Journal" "size" "I" "AutoTeller" ∈ wN := mN 170 (by decide +kernel) (by decide +kernel)
theorem n_171 : Cond.fieldLinkNest "AutoTeller" 150 "AutoTeller$Journal" "size" "I" "AutoTeller" ∈ wN := mN 171 (by decide +kernel) (by decide +kernel)
theorem u_183 : Cond.fieldLink "AutoTeller$Machine" 49 "AutoTeller$Machine" "line" "LAutoTeller$Line;" ∈ wU := mU 183 (by decide +kernel) (by decide +kernel)
theorem u_184 : Cond.fieldLink "AutoTeller$Machine" 12 "AutoTeller$Machine" "notes" "LAutoTeller$Notes;" ∈ wU := mU 184 (by decide +kernel) (by decide +kernel)
theorem n_185 : Cond.fieldLinkNest "AutoTeller" 65 "AutoTeller$Machine" "notes" "LAutoTeller$Notes;" "AutoTeller" ∈ wN := mN 185 (by decide +kernel) (by decide +kernel)
theorem u_186 : Cond.fieldLink "AutoTeller$Machine" 21 "AutoTeller$Machine" "journal" "LAutoTeller$Journal;" ∈ wU := mU 186 (by decide +kernel) (by decide +kernel)
theorem n_187 : Cond.fieldLinkNest "AutoTeller" 131 "AutoTeller$Machine" "journal" "LAutoTeller$Journal;" "AutoTeller" ∈ wN := mN 187 (by decide +kernel) (by decide +kernel)
theorem u_188 : Cond.fieldLink "AutoTeller$Machine" 25 "AutoTeller$Machine" "kept" "[Z" ∈ wU := mU 188 (by decide +kernel) (by decide +kernel)
theorem u_189 : Cond.fieldLink "AutoTeller$Machine" 29 "AutoTeller$Machine" "on" "Z" ∈ wU := mU 189 (by decide +kernel) (by decide +kernel)
theorem n_190 : Cond.fieldLinkNest "AutoTeller" 138 "AutoTeller$Machine" "on" "Z" "AutoTeller" ∈ wN := mN 190 (by decide +kernel) (by decide +kernel)
theorem u_191 : Cond.fieldLink "AutoTeller$Machine" 33 "AutoTeller$Machine" "stepsLeft" "I" ∈ wU := mU 191 (by decide +kernel) (by decide +kernel)
theorem u_192 : Cond.fieldLink "AutoTeller$Machine" 37 "AutoTeller$Machine" "phase" "I" ∈ wU := mU 192 (by decide +kernel) (by decide +kernel)
theorem n_193 : Cond.fieldLinkNest "AutoTeller" 142 "AutoTeller$Machine" "phase" "I" "AutoTeller" ∈ wN := mN 193 (by decide +kernel) (by decide +kernel)
theorem u_194 : Cond.fieldLink "AutoTeller$Machine" 40 "AutoTeller$Machine" "slot" "I" ∈ wU := mU 194 (by decide +kernel) (by decide +kernel)
theorem n_195 : Cond.fieldLinkNest "AutoTeller" 147 "AutoTeller$Machine" "slot" "I" "AutoTeller" ∈ wN := mN 195 (by decide +kernel) (by decide +kernel)
theorem u_196 : Cond.fieldLink "AutoTeller$Machine" 43 "AutoTeller$Machine" "nextTrace" "I" ∈ wU := mU 196 (by decide +kernel) (by decide +kernel)
theorem n_197 : Cond.fieldLinkNest "AutoTeller" 153 "AutoTeller$Machine" "nextTrace" "I" "AutoTeller" ∈ wN := mN 197 (by decide +kernel) (by decide +kernel)
theorem u_198 : Cond.fieldLink "AutoTeller$Machine" 90 "AutoTeller$Machine" "openings" "I" ∈ wU := mU 198 (by decide +kernel) (by decide +kernel)
theorem n_199 : Cond.fieldLinkNest "AutoTeller" 156 "AutoTeller$Machine" "openings" "I" "AutoTeller" ∈ wN := mN 199 (by decide +kernel) (by decide +kernel)
theorem u_200 : Cond.fieldLink "AutoTeller$Machine" 93 "AutoTeller$Machine" "openingsWhenBegun" "I" ∈ wU := mU 200 (by decide +kernel) (by decide +kernel)
theorem u_201 : Cond.fieldLink "AutoTeller$Machine" 110 "AutoTeller$Machine" "dropped" "I" ∈ wU := mU 201 (by decide +kernel) (by decide +kernel)
theorem n_202 : Cond.fieldLinkNest "AutoTeller" 162 "AutoTeller$Machine" "dropped" "I" "AutoTeller" ∈ wN := mN 202 (by decide +kernel) (by decide +kernel)
theorem u_203 : Cond.fieldLink "AutoTeller$Machine" 128 "AutoTeller$Machine" "traceAtHand" "I" ∈ wU := mU 203 (by decide +kernel) (by decide +kernel)
theorem u_204 : Cond.fieldLink "AutoTeller$Machine" 46 "AutoTeller$Machine" "cardAtHand" "I" ∈ wU := mU 204 (by decide +kernel) (by decide +kernel)
theorem u_205 : Cond.fieldLink "AutoTeller$Machine" 84 "AutoTeller$Machine" "amountAtHand" "I" ∈ wU := mU 205 (by decide +kernel) (by decide +kernel)
theorem u_240 : Cond.fieldLink "AutoTeller" 10 "AutoTeller" "line" "LAutoTeller$Line;" ∈ wU := mU 240 (by decide +kernel) (by decide +kernel)
theorem u_241 : Cond.fieldLink "AutoTeller" 21 "AutoTeller" "host" "LAutoTeller$Host;" ∈ wU := mU 241 (by decide +kernel) (by decide +kernel)
theorem u_242 : Cond.fieldLink "AutoTeller" 28 "AutoTeller" "machine" "LAutoTeller$Machine;" ∈ wU := mU 242 (by decide +kernel) (by decide +kernel)
theorem u_243 : Cond.fieldLink "AutoTeller" 35 "AutoTeller" "arriving" "LAutoTeller$Letter;" ∈ wU := mU 243 (by decide +kernel) (by decide +kernel)
theorem u_254 : Cond.instanceMethod ⟨"AutoTeller", "account", "(IJ)Z"⟩ ∈ wU := mU 254 (by decide +kernel) (by decide +kernel)
theorem u_255 : Cond.selects "AutoTeller" ⟨"AutoTeller", "account", "(IJ)Z"⟩ ⟨"AutoTeller", "account", "(IJ)Z"⟩ ∈ wU := mU 255 (by decide +kernel) (by decide +kernel)
theorem u_256 : Cond.code ⟨"AutoTeller", "account", "(IJ)Z"⟩ prog_1_method_2_code 4 (Option.some Jvm.ClassFile.FieldType.boolean) ∈ wU := mU 256 (by decide +kernel) (by decide +kernel)
theorem u_257 : Cond.methodLink "AutoTeller" 39 ⟨"AutoTeller$Host", "setBalance", "(IJ)Z"⟩ ∈ wU := mU 257 (by decide +kernel) (by decide +kernel)
theorem u_258 : Cond.instanceMethod ⟨"AutoTeller$Host", "setBalance", "(IJ)Z"⟩ ∈ wU := mU 258 (by decide +kernel) (by decide +kernel)
theorem u_259 : Cond.selects "AutoTeller$Host" ⟨"AutoTeller$Host", "setBalance", "(IJ)Z"⟩ ⟨"AutoTeller$Host", "setBalance", "(IJ)Z"⟩ ∈ wU := mU 259 (by decide +kernel) (by decide +kernel)
theorem u_260 : Cond.code ⟨"AutoTeller$Host", "setBalance", "(IJ)Z"⟩ prog_2_method_2_code 4 (Option.some Jvm.ClassFile.FieldType.boolean) ∈ wU := mU 260 (by decide +kernel) (by decide +kernel)
theorem u_261 : Cond.methodLink "AutoTeller$Host" 47 ⟨"AutoTeller$Host", "isAccount", "(I)Z"⟩ ∈ wU := mU 261 (by decide +kernel) (by decide +kernel)
theorem u_262 : Cond.static ⟨"AutoTeller$Host", "isAccount", "(I)Z"⟩ ∈ wU := mU 262 (by decide +kernel) (by decide +kernel)
theorem u_263 : Cond.code ⟨"AutoTeller$Host", "isAccount", "(I)Z"⟩ prog_2_method_13_code 1 (Option.some Jvm.ClassFile.FieldType.boolean) ∈ wU := mU 263 (by decide +kernel) (by decide +kernel)
theorem u_264 : Cond.constantLong "AutoTeller$Host" 125 7 ∈ wU := mU 264 (by decide +kernel) (by decide +kernel)
theorem n_265 : Cond.methodLinkNest "AutoTeller$Host" 53 ⟨"AutoTeller", "isWithin", "(JJJ)Z"⟩ "AutoTeller" ∈ wN := mN 265 (by decide +kernel) (by decide +kernel)
theorem u_266 : Cond.static ⟨"AutoTeller", "isWithin", "(JJJ)Z"⟩ ∈ wU := mU 266 (by decide +kernel) (by decide +kernel)
theorem u_267 : Cond.code ⟨"AutoTeller", "isWithin", "(JJJ)Z"⟩ prog_1_method_26_code 6 (Option.some Jvm.ClassFile.FieldType.boolean) ∈ wU := mU 267 (by decide +kernel) (by decide +kernel)
theorem u_268 : Cond.constantLong "AutoTeller$Host" 51 1000000000 ∈ wU := mU 268 (by decide +kernel) (by decide +kernel)
theorem u_270 : Cond.instanceMethod ⟨"AutoTeller", "card", "(III)Z"⟩ ∈ wU := mU 270 (by decide +kernel) (by decide +kernel)
theorem u_271 : Cond.selects "AutoTeller" ⟨"AutoTeller", "card", "(III)Z"⟩ ⟨"AutoTeller", "card", "(III)Z"⟩ ∈ wU := mU 271 (by decide +kernel) (by decide +kernel)
theorem u_272 : Cond.code ⟨"AutoTeller", "card", "(III)Z"⟩ prog_1_method_3_code 4 (Option.some Jvm.ClassFile.FieldType.boolean) ∈ wU := mU 272 (by decide +kernel) (by decide +kernel)
theorem u_273 : Cond.methodLink "AutoTeller" 43 ⟨"AutoTeller$Host", "tellCard", "(III)Z"⟩ ∈ wU := mU 273 (by decide +kernel) (by decide +kernel)
theorem u_274 : Cond.instanceMethod ⟨"AutoTeller$Host", "tellCard", "(III)Z"⟩ ∈ wU := mU 274 (by decide +kernel) (by decide +kernel)
theorem u_275 : Cond.selects "AutoTeller$Host" ⟨"AutoTeller$Host", "tellCard", "(III)Z"⟩ ⟨"AutoTeller$Host", "tellCard", "(III)Z"⟩ ∈ wU := mU 275 (by decide +kernel) (by decide +kernel)
theorem u_276 : Cond.code ⟨"AutoTeller$Host", "tellCard", "(III)Z"⟩ prog_2_method_3_code 4 (Option.some Jvm.ClassFile.FieldType.boolean) ∈ wU := mU 276 (by decide +kernel) (by decide +kernel)
theorem n_277 : Cond.methodLinkNest "AutoTeller$Host" 57 ⟨"AutoTeller", "isCard", "(I)Z"⟩ "AutoTeller" ∈ wN := mN 277 (by decide +kernel) (by decide +kernel)
theorem u_278 : Cond.static ⟨"AutoTeller", "isCard", "(I)Z"⟩ ∈ wU := mU 278 (by decide +kernel) (by decide +kernel)
theorem u_279 : Cond.code ⟨"AutoTeller", "isCard", "(I)Z"⟩ prog_1_method_27_code 1 (Option.some Jvm.ClassFile.FieldType.boolean) ∈ wU := mU 279 (by decide +kernel) (by decide +kernel)
theorem u_280 : Cond.constantLong "AutoTeller" 181 15 ∈ wU := mU 280 (by decide +kernel) (by decide +kernel)
theorem u_281 : Cond.methodLink "AutoTeller" 183 ⟨"AutoTeller", "isWithin", "(JJJ)Z"⟩ ∈ wU := mU 281 (by decide +kernel) (by decide +kernel)
theorem n_282 : Cond.methodLinkNest "AutoTeller$Host" 60 ⟨"AutoTeller", "isPin", "(J)Z"⟩ "AutoTeller" ∈ wN := mN 282 (by decide +kernel) (by decide +kernel)
theorem u_283 : Cond.static ⟨"AutoTeller", "isPin", "(J)Z"⟩ ∈ wU := mU 283 (by decide +kernel) (by decide +kernel)
theorem u_284 : Cond.code ⟨"AutoTeller", "isPin", "(J)Z"⟩ prog_1_method_28_code 2 (Option.some Jvm.ClassFile.FieldType.boolean) ∈ wU := mU 284 (by decide +kernel) (by decide +kernel)
theorem u_285 : Cond.constantLong "AutoTeller" 187 9999 ∈ wU := mU 285 (by decide +kernel) (by decide +kernel)
theorem u_287 : Cond.instanceMethod ⟨"AutoTeller", "load", "(III)Z"⟩ ∈ wU := mU 287 (by decide +kernel) (by decide +kernel)
theorem u_288 : Cond.selects "AutoTeller" ⟨"AutoTeller", "load", "(III)Z"⟩ ⟨"AutoTeller", "load", "(III)Z"⟩ ∈ wU := mU 288 (by decide +kernel) (by decide +kernel)
theorem u_289 : Cond.code ⟨"AutoTeller", "load", "(III)Z"⟩ prog_1_method_4_code 4 (Option.some Jvm.ClassFile.FieldType.boolean) ∈ wU := mU 289 (by decide +kernel) (by decide +kernel)
theorem u_290 : Cond.methodLink "AutoTeller" 47 ⟨"AutoTeller$Machine", "fillCassette", "(III)Z"⟩ ∈ wU := mU 290 (by decide +kernel) (by decide +kernel)
theorem u_291 : Cond.instanceMethod ⟨"AutoTeller$Machine", "fillCassette", "(III)Z"⟩ ∈ wU := mU 291 (by decide +kernel) (by decide +kernel)
theorem u_292 : Cond.selects "AutoTeller$Machine" ⟨"AutoTeller$Machine", "fillCassette", "(III)Z"⟩ ⟨"AutoTeller$Machine", "fillCassette", "(III)Z"⟩ ∈ wU := mU 292 (by decide +kernel) (by decide +kernel)
theorem u_293 : Cond.code ⟨"AutoTeller$Machine", "fillCassette", "(III)Z"⟩ prog_6_method_2_code 4 (Option.some Jvm.ClassFile.FieldType.boolean) ∈ wU := mU 293 (by decide +kernel) (by decide +kernel)
theorem u_294 : Cond.methodLink "AutoTeller$Machine" 53 ⟨"AutoTeller$Notes", "fill", "(III)Z"⟩ ∈ wU := mU 294 (by decide +kernel) (by decide +kernel)
theorem u_295 : Cond.instanceMethod ⟨"AutoTeller$Notes", "fill", "(III)Z"⟩ ∈ wU := mU 295 (by decide +kernel) (by decide +kernel)
theorem u_296 : Cond.selects "AutoTeller$Notes" ⟨"AutoTeller$Notes", "fill", "(III)Z"⟩ ⟨"AutoTeller$Notes", "fill", "(III)Z"⟩ ∈ wU := mU 296 (by decide +kernel) (by decide +kernel)
theorem u_297 : Cond.code ⟨"AutoTeller$Notes", "fill", "(III)Z"⟩ prog_7_method_2_code 4 (Option.some Jvm.ClassFile.FieldType.boolean) ∈ wU := mU 297 (by decide +kernel) (by decide +kernel)
theorem u_298 : Cond.methodLink "AutoTeller$Notes" 38 ⟨"AutoTeller$Notes", "isCassette", "(I)Z"⟩ ∈ wU := mU 298 (by decide +kernel) (by decide +kernel)
theorem u_299 : Cond.static ⟨"AutoTeller$Notes", "isCassette", "(I)Z"⟩ ∈ wU := mU 299 (by decide +kernel) (by decide +kernel)
theorem u_300 : Cond.code ⟨"AutoTeller$Notes", "isCassette", "(I)Z"⟩ prog_7_method_15_code 1 (Option.some Jvm.ClassFile.FieldType.boolean) ∈ wU := mU 300 (by decide +kernel) (by decide +kernel)
theorem u_301 : Cond.constantLong "AutoTeller$Notes" 42 1000 ∈ wU := mU 301 (by decide +kernel) (by decide +kernel)
theorem n_302 : Cond.methodLinkNest "AutoTeller$Notes" 44 ⟨"AutoTeller", "isWithin", "(JJJ)Z"⟩ "AutoTeller" ∈ wN := mN 302 (by decide +kernel) (by decide +kernel)
theorem u_303 : Cond.constantLong "AutoTeller$Notes" 48 200 ∈ wU := mU 303 (by decide +kernel) (by decide +kernel)
theorem u_305 : Cond.instanceMethod ⟨"AutoTeller", "insert", "(I)Z"⟩ ∈ wU := mU 305 (by decide +kernel) (by decide +kernel)
theorem u_306 : Cond.selects "AutoTeller" ⟨"AutoTeller", "insert", "(I)Z"⟩ ⟨"AutoTeller", "insert", "(I)Z"⟩ ∈ wU := mU 306 (by decide +kernel) (by decide +kernel)
theorem u_307 : Cond.code ⟨"AutoTeller", "insert", "(I)Z"⟩ prog_1_method_5_code 2 (Option.some Jvm.ClassFile.FieldType.boolean) ∈ wU := mU 307 (by decide +kernel) (by decide +kernel)
theorem u_308 : Cond.methodLink "AutoTeller" 50 ⟨"AutoTeller$Machine", "putCardIn", "(I)Z"⟩ ∈ wU := mU 308 (by decide +kernel) (by decide +kernel)
theorem u_309 : Cond.instanceMethod ⟨"AutoTeller$Machine", "putCardIn", "(I)Z"⟩ ∈ wU := mU 309 (by decide +kernel) (by decide +kernel)
theorem u_310 : Cond.selects "AutoTeller$Machine" ⟨"AutoTeller$Machine", "putCardIn", "(I)Z"⟩ ⟨"AutoTeller$Machine", "putCardIn", "(I)Z"⟩ ∈ wU := mU 310 (by decide +kernel) (by decide +kernel)
theorem u_311 : Cond.code ⟨"AutoTeller$Machine", "putCardIn", "(I)Z"⟩ prog_6_method_3_code 2 (Option.some Jvm.ClassFile.FieldType.boolean) ∈ wU := mU 311 (by decide +kernel) (by decide +kernel)
theorem n_312 : Cond.methodLinkNest "AutoTeller$Machine" 57 ⟨"AutoTeller", "isCard", "(I)Z"⟩ "AutoTeller" ∈ wN := mN 312 (by decide +kernel) (by decide +kernel)
theorem u_314 : Cond.instanceMethod ⟨"AutoTeller", "pin", "(I)Z"⟩ ∈ wU := mU 314 (by decide +kernel) (by decide +kernel)
theorem u_315 : Cond.selects "AutoTeller" ⟨"AutoTeller", "pin", "(I)Z"⟩ ⟨"AutoTeller", "pin", "(I)Z"⟩ ∈ wU := mU 315 (by decide +kernel) (by decide +kernel)
theorem u_316 : Cond.code ⟨"AutoTeller", "pin", "(I)Z"⟩ prog_1_method_6_code 2 (Option.some Jvm.ClassFile.FieldType.boolean) ∈ wU := mU 316 (by decide +kernel) (by decide +kernel)
theorem u_317 : Cond.methodLink "AutoTeller" 54 ⟨"AutoTeller$Machine", "beginPinCheck", "(I)Z"⟩ ∈ wU := mU 317 (by decide +kernel) (by decide +kernel)
theorem u_318 : Cond.instanceMethod ⟨"AutoTeller$Machine", "beginPinCheck", "(I)Z"⟩ ∈ wU := mU 318 (by decide +kernel) (by decide +kernel)
theorem u_319 : Cond.selects "AutoTeller$Machine" ⟨"AutoTeller$Machine", "beginPinCheck", "(I)Z"⟩ ⟨"AutoTeller$Machine", "beginPinCheck", "(I)Z"⟩ ∈ wU := mU 319 (by decide +kernel) (by decide +kernel)
theorem u_320 : Cond.code ⟨"AutoTeller$Machine", "beginPinCheck", "(I)Z"⟩ prog_6_method_6_code 2 (Option.some Jvm.ClassFile.FieldType.boolean) ∈ wU := mU 320 (by decide +kernel) (by decide +kernel)
theorem n_321 : Cond.methodLinkNest "AutoTeller$Machine" 64 ⟨"AutoTeller", "isPin", "(J)Z"⟩ "AutoTeller" ∈ wN := mN 321 (by decide +kernel) (by decide +kernel)
theorem u_322 : Cond.methodLink "AutoTeller$Machine" 68 ⟨"AutoTeller$Machine", "takeTrace", "()V"⟩ ∈ wU := mU 322 (by decide +kernel) (by decide +kernel)
theorem u_324 : Cond.instanceMethod ⟨"AutoTeller$Machine", "takeTrace", "()V"⟩ ∈ wU := mU 324 (by decide +kernel) (by decide +kernel)
theorem u_325 : Cond.code ⟨"AutoTeller$Machine", "takeTrace", "()V"⟩ prog_6_method_20_code 1 (Option.none : Option Jvm.ClassFile.FieldType) ∈ wU := mU 325 (by decide +kernel) (by decide +kernel)
theorem u_326 : Cond.methodLink "AutoTeller$Machine" 71 ⟨"AutoTeller$Machine", "send", "(II)Z"⟩ ∈ wU := mU 326 (by decide +kernel) (by decide +kernel)
theorem u_328 : Cond.instanceMethod ⟨"AutoTeller$Machine", "send", "(II)Z"⟩ ∈ wU := mU 328 (by decide +kernel) (by decide +kernel)
theorem u_329 : Cond.code ⟨"AutoTeller$Machine", "send", "(II)Z"⟩ prog_6_method_23_code 3 (Option.some Jvm.ClassFile.FieldType.boolean) ∈ wU := mU 329 (by decide +kernel) (by decide +kernel)
theorem u_330 : Cond.methodLink "AutoTeller$Machine" 137 ⟨"AutoTeller$Machine", "mayStep", "()Z"⟩ ∈ wU := mU 330 (by decide +kernel) (by decide +kernel)
theorem u_332 : Cond.instanceMethod ⟨"AutoTeller$Machine", "mayStep", "()Z"⟩ ∈ wU := mU 332 (by decide +kernel) (by decide +kernel)
theorem u_333 : Cond.code ⟨"AutoTeller$Machine", "mayStep", "()Z"⟩ prog_6_method_21_code 1 (Option.some Jvm.ClassFile.FieldType.boolean) ∈ wU := mU 333 (by decide +kernel) (by decide +kernel)
theorem u_334 : Cond.methodLink "AutoTeller$Machine" 182 ⟨"AutoTeller$Line", "post", "(ZIIIJI)V"⟩ ∈ wU := mU 334 (by decide +kernel) (by decide +kernel)
theorem u_335 : Cond.instanceMethod ⟨"AutoTeller$Line", "post", "(ZIIIJI)V"⟩ ∈ wU := mU 335 (by decide +kernel) (by decide +kernel)
theorem u_336 : Cond.selects "AutoTeller$Line" ⟨"AutoTeller$Line", "post", "(ZIIIJI)V"⟩ ⟨"AutoTeller$Line", "post", "(ZIIIJI)V"⟩ ∈ wU := mU 336 (by decide +kernel) (by decide +kernel)
theorem u_337 : Cond.code ⟨"AutoTeller$Line", "post", "(ZIIIJI)V"⟩ prog_5_method_3_code 9 (Option.none : Option Jvm.ClassFile.FieldType) ∈ wU := mU 337 (by decide +kernel) (by decide +kernel)
theorem u_338 : Cond.methodLink "AutoTeller$Line" 22 ⟨"AutoTeller$Line", "remove", "(I)V"⟩ ∈ wU := mU 338 (by decide +kernel) (by decide +kernel)
theorem u_339 : Cond.instanceMethod ⟨"AutoTeller$Line", "remove", "(I)V"⟩ ∈ wU := mU 339 (by decide +kernel) (by decide +kernel)
theorem u_340 : Cond.selects "AutoTeller$Line" ⟨"AutoTeller$Line", "remove", "(I)V"⟩ ⟨"AutoTeller$Line", "remove", "(I)V"⟩ ∈ wU := mU 340 (by decide +kernel) (by decide +kernel)
theorem u_341 : Cond.code ⟨"AutoTeller$Line", "remove", "(I)V"⟩ prog_5_method_5_code 4 (Option.none : Option Jvm.ClassFile.FieldType) ∈ wU := mU 341 (by decide +kernel) (by decide +kernel)
theorem u_342 : Cond.methodLink "AutoTeller$Line" 37 ⟨"AutoTeller$Line", "has", "(I)Z"⟩ ∈ wU := mU 342 (by decide +kernel) (by decide +kernel)
theorem u_343 : Cond.instanceMethod ⟨"AutoTeller$Line", "has", "(I)Z"⟩ ∈ wU := mU 343 (by decide +kernel) (by decide +kernel)
theorem u_344 : Cond.selects "AutoTeller$Line" ⟨"AutoTeller$Line", "has", "(I)Z"⟩ ⟨"AutoTeller$Line", "has", "(I)Z"⟩ ∈ wU := mU 344 (by decide +kernel) (by decide +kernel)
theorem u_345 : Cond.code ⟨"AutoTeller$Line", "has", "(I)Z"⟩ prog_5_method_2_code 2 (Option.some Jvm.ClassFile.FieldType.boolean) ∈ wU := mU 345 (by decide +kernel) (by decide +kernel)
theorem u_346 : Cond.methodLink "AutoTeller$Line" 33 ⟨"AutoTeller$Letter", "write", "(IIIJI)V"⟩ ∈ wU := mU 346 (by decide +kernel) (by decide +kernel)
theorem u_347 : Cond.instanceMethod ⟨"AutoTeller$Letter", "write", "(IIIJI)V"⟩ ∈ wU := mU 347 (by decide +kernel) (by decide +kernel)
theorem u_348 : Cond.selects "AutoTeller$Letter" ⟨"AutoTeller$Letter", "write", "(IIIJI)V"⟩ ⟨"AutoTeller$Letter", "write", "(IIIJI)V"⟩ ∈ wU := mU 348 (by decide +kernel) (by decide +kernel)
theorem u_349 : Cond.code ⟨"AutoTeller$Letter", "write", "(IIIJI)V"⟩ prog_4_method_2_code 8 (Option.none : Option Jvm.ClassFile.FieldType) ∈ wU := mU 349 (by decide +kernel) (by decide +kernel)
theorem u_350 : Cond.methodLink "AutoTeller$Letter" 15 ⟨"AutoTeller$Letter", "writeNumber", "(IJ)V"⟩ ∈ wU := mU 350 (by decide +kernel) (by decide +kernel)
theorem u_352 : Cond.instanceMethod ⟨"AutoTeller$Letter", "writeNumber", "(IJ)V"⟩ ∈ wU := mU 352 (by decide +kernel) (by decide +kernel)
theorem u_353 : Cond.code ⟨"AutoTeller$Letter", "writeNumber", "(IJ)V"⟩ prog_4_method_11_code 5 (Option.none : Option Jvm.ClassFile.FieldType) ∈ wU := mU 353 (by decide +kernel) (by decide +kernel)
theorem u_354 : Cond.methodLink "AutoTeller$Letter" 19 ⟨"AutoTeller$Letter", "reckonCheck", "()I"⟩ ∈ wU := mU 354 (by decide +kernel) (by decide +kernel)
theorem u_356 : Cond.instanceMethod ⟨"AutoTeller$Letter", "reckonCheck", "()I"⟩ ∈ wU := mU 356 (by decide +kernel) (by decide +kernel)
theorem u_357 : Cond.code ⟨"AutoTeller$Letter", "reckonCheck", "()I"⟩ prog_4_method_10_code 5 (Option.some Jvm.ClassFile.FieldType.int) ∈ wU := mU 357 (by decide +kernel) (by decide +kernel)
theorem u_358 : Cond.constant "AutoTeller$Letter" 37 65535 ∈ wU := mU 358 (by decide +kernel) (by decide +kernel)
theorem u_360 : Cond.instanceMethod ⟨"AutoTeller", "ask", "(I)I"⟩ ∈ wU := mU 360 (by decide +kernel) (by decide +kernel)
theorem u_361 : Cond.selects "AutoTeller" ⟨"AutoTeller", "ask", "(I)I"⟩ ⟨"AutoTeller", "ask", "(I)I"⟩ ∈ wU := mU 361 (by decide +kernel) (by decide +kernel)
theorem u_362 : Cond.code ⟨"AutoTeller", "ask", "(I)I"⟩ prog_1_method_7_code 2 (Option.some Jvm.ClassFile.FieldType.int) ∈ wU := mU 362 (by decide +kernel) (by decide +kernel)
theorem u_363 : Cond.methodLink "AutoTeller" 57 ⟨"AutoTeller$Machine", "beginWithdrawal", "(I)I"⟩ ∈ wU := mU 363 (by decide +kernel) (by decide +kernel)
theorem u_364 : Cond.instanceMethod ⟨"AutoTeller$Machine", "beginWithdrawal", "(I)I"⟩ ∈ wU := mU 364 (by decide +kernel) (by decide +kernel)
theorem u_365 : Cond.selects "AutoTeller$Machine" ⟨"AutoTeller$Machine", "beginWithdrawal", "(I)I"⟩ ⟨"AutoTeller$Machine", "beginWithdrawal", "(I)I"⟩ ∈ wU := mU 365 (by decide +kernel) (by decide +kernel)
theorem u_366 : Cond.code ⟨"AutoTeller$Machine", "beginWithdrawal", "(I)I"⟩ prog_6_method_7_code 2 (Option.some Jvm.ClassFile.FieldType.int) ∈ wU := mU 366 (by decide +kernel) (by decide +kernel)
theorem n_367 : Cond.methodLinkNest "AutoTeller$Machine" 75 ⟨"AutoTeller", "isAmount", "(J)Z"⟩ "AutoTeller" ∈ wN := mN 367 (by decide +kernel) (by decide +kernel)
theorem u_368 : Cond.static ⟨"AutoTeller", "isAmount", "(J)Z"⟩ ∈ wU := mU 368 (by decide +kernel) (by decide +kernel)
theorem u_369 : Cond.code ⟨"AutoTeller", "isAmount", "(J)Z"⟩ prog_1_method_29_code 2 (Option.some Jvm.ClassFile.FieldType.boolean) ∈ wU := mU 369 (by decide +kernel) (by decide +kernel)
theorem u_370 : Cond.constantLong "AutoTeller" 189 40000 ∈ wU := mU 370 (by decide +kernel) (by decide +kernel)
theorem u_371 : Cond.methodLink "AutoTeller$Machine" 81 ⟨"AutoTeller$Notes", "findMix", "(I)Z"⟩ ∈ wU := mU 371 (by decide +kernel) (by decide +kernel)
theorem u_372 : Cond.instanceMethod ⟨"AutoTeller$Notes", "findMix", "(I)Z"⟩ ∈ wU := mU 372 (by decide +kernel) (by decide +kernel)
theorem u_373 : Cond.selects "AutoTeller$Notes" ⟨"AutoTeller$Notes", "findMix", "(I)Z"⟩ ⟨"AutoTeller$Notes", "findMix", "(I)Z"⟩ ∈ wU := mU 373 (by decide +kernel) (by decide +kernel)
theorem u_374 : Cond.code ⟨"AutoTeller$Notes", "findMix", "(I)Z"⟩ prog_7_method_5_code 6 (Option.some Jvm.ClassFile.FieldType.boolean) ∈ wU := mU 374 (by decide +kernel) (by decide +kernel)
theorem n_375 : Cond.methodLinkNest "AutoTeller$Notes" 57 ⟨"AutoTeller", "isAmount", "(J)Z"⟩ "AutoTeller" ∈ wN := mN 375 (by decide +kernel) (by decide +kernel)
theorem u_376 : Cond.methodLink "AutoTeller$Notes" 61 ⟨"AutoTeller$Notes", "findLargest", "()V"⟩ ∈ wU := mU 376 (by decide +kernel) (by decide +kernel)
theorem u_378 : Cond.instanceMethod ⟨"AutoTeller$Notes", "findLargest", "()V"⟩ ∈ wU := mU 378 (by decide +kernel) (by decide +kernel)
theorem u_379 : Cond.code ⟨"AutoTeller$Notes", "findLargest", "()V"⟩ prog_7_method_7_code 2 (Option.none : Option Jvm.ClassFile.FieldType) ∈ wU := mU 379 (by decide +kernel) (by decide +kernel)
theorem u_380 : Cond.methodLink "AutoTeller$Notes" 75 ⟨"java/lang/Math", "max", "(II)I"⟩ ∈ wU := mU 380 (by decide +kernel) (by decide +kernel)
theorem u_381 : Cond.static ⟨"java/lang/Math", "max", "(II)I"⟩ ∈ wU := mU 381 (by decide +kernel) (by decide +kernel)
theorem u_382 : Cond.code ⟨"java/lang/Math", "max", "(II)I"⟩ prog_11_method_65_code 2 (Option.some Jvm.ClassFile.FieldType.int) ∈ wU := mU 382 (by decide +kernel) (by decide +kernel)
theorem u_383 : Cond.methodLink "AutoTeller$Notes" 64 ⟨"AutoTeller$Notes", "mostOf", "(III)I"⟩ ∈ wU := mU 383 (by decide +kernel) (by decide +kernel)
theorem u_385 : Cond.instanceMethod ⟨"AutoTeller$Notes", "mostOf", "(III)I"⟩ ∈ wU := mU 385 (by decide +kernel) (by decide +kernel)
theorem u_386 : Cond.code ⟨"AutoTeller$Notes", "mostOf", "(III)I"⟩ prog_7_method_8_code 7 (Option.some Jvm.ClassFile.FieldType.int) ∈ wU := mU 386 (by decide +kernel) (by decide +kernel)
theorem u_387 : Cond.methodLink "AutoTeller$Notes" 68 ⟨"AutoTeller$Notes", "mixRest", "(III)V"⟩ ∈ wU := mU 387 (by decide +kernel) (by decide +kernel)
theorem u_389 : Cond.instanceMethod ⟨"AutoTeller$Notes", "mixRest", "(III)V"⟩ ∈ wU := mU 389 (by decide +kernel) (by decide +kernel)
theorem u_390 : Cond.code ⟨"AutoTeller$Notes", "mixRest", "(III)V"⟩ prog_7_method_6_code 9 (Option.none : Option Jvm.ClassFile.FieldType) ∈ wU := mU 390 (by decide +kernel) (by decide +kernel)
theorem u_391 : Cond.methodLink "AutoTeller$Machine" 87 ⟨"AutoTeller$Machine", "write", "(I)Z"⟩ ∈ wU := mU 391 (by decide +kernel) (by decide +kernel)
theorem u_393 : Cond.instanceMethod ⟨"AutoTeller$Machine", "write", "(I)Z"⟩ ∈ wU := mU 393 (by decide +kernel) (by decide +kernel)
theorem u_394 : Cond.code ⟨"AutoTeller$Machine", "write", "(I)Z"⟩ prog_6_method_22_code 2 (Option.some Jvm.ClassFile.FieldType.boolean) ∈ wU := mU 394 (by decide +kernel) (by decide +kernel)
theorem u_395 : Cond.methodLink "AutoTeller$Machine" 175 ⟨"AutoTeller$Journal", "isFull", "()Z"⟩ ∈ wU := mU 395 (by decide +kernel) (by decide +kernel)
theorem u_396 : Cond.instanceMethod ⟨"AutoTeller$Journal", "isFull", "()Z"⟩ ∈ wU := mU 396 (by decide +kernel) (by decide +kernel)
theorem u_397 : Cond.selects "AutoTeller$Journal" ⟨"AutoTeller$Journal", "isFull", "()Z"⟩ ⟨"AutoTeller$Journal", "isFull", "()Z"⟩ ∈ wU := mU 397 (by decide +kernel) (by decide +kernel)
theorem u_398 : Cond.code ⟨"AutoTeller$Journal", "isFull", "()Z"⟩ prog_3_method_2_code 1 (Option.some Jvm.ClassFile.FieldType.boolean) ∈ wU := mU 398 (by decide +kernel) (by decide +kernel)
theorem u_399 : Cond.methodLink "AutoTeller$Machine" 178 ⟨"AutoTeller$Journal", "add", "(IIII)V"⟩ ∈ wU := mU 399 (by decide +kernel) (by decide +kernel)
theorem u_400 : Cond.instanceMethod ⟨"AutoTeller$Journal", "add", "(IIII)V"⟩ ∈ wU := mU 400 (by decide +kernel) (by decide +kernel)
theorem u_401 : Cond.selects "AutoTeller$Journal" ⟨"AutoTeller$Journal", "add", "(IIII)V"⟩ ⟨"AutoTeller$Journal", "add", "(IIII)V"⟩ ∈ wU := mU 401 (by decide +kernel) (by decide +kernel)
theorem u_402 : Cond.code ⟨"AutoTeller$Journal", "add", "(IIII)V"⟩ prog_3_method_3_code 5 (Option.none : Option Jvm.ClassFile.FieldType) ∈ wU := mU 402 (by decide +kernel) (by decide +kernel)
theorem u_403 : Cond.methodLink "AutoTeller$Journal" 28 ⟨"AutoTeller$Journal", "isFull", "()Z"⟩ ∈ wU := mU 403 (by decide +kernel) (by decide +kernel)
theorem u_405 : Cond.instanceMethod ⟨"AutoTeller", "eject", "()Z"⟩ ∈ wU := mU 405 (by decide +kernel) (by decide +kernel)
theorem u_406 : Cond.selects "AutoTeller" ⟨"AutoTeller", "eject", "()Z"⟩ ⟨"AutoTeller", "eject", "()Z"⟩ ∈ wU := mU 406 (by decide +kernel) (by decide +kernel)
theorem u_407 : Cond.code ⟨"AutoTeller", "eject", "()Z"⟩ prog_1_method_8_code 1 (Option.some Jvm.ClassFile.FieldType.boolean) ∈ wU := mU 407 (by decide +kernel) (by decide +kernel)
theorem u_408 : Cond.methodLink "AutoTeller" 61 ⟨"AutoTeller$Machine", "giveCardBack", "()Z"⟩ ∈ wU := mU 408 (by decide +kernel) (by decide +kernel)
theorem u_409 : Cond.instanceMethod ⟨"AutoTeller$Machine", "giveCardBack", "()Z"⟩ ∈ wU := mU 409 (by decide +kernel) (by decide +kernel)
theorem u_410 : Cond.selects "AutoTeller$Machine" ⟨"AutoTeller$Machine", "giveCardBack", "()Z"⟩ ⟨"AutoTeller$Machine", "giveCardBack", "()Z"⟩ ∈ wU := mU 410 (by decide +kernel) (by decide +kernel)
theorem u_411 : Cond.code ⟨"AutoTeller$Machine", "giveCardBack", "()Z"⟩ prog_6_method_4_code 1 (Option.some Jvm.ClassFile.FieldType.boolean) ∈ wU := mU 411 (by decide +kernel) (by decide +kernel)
theorem u_412 : Cond.methodLink "AutoTeller$Machine" 61 ⟨"AutoTeller$Machine", "endWithoutCard", "()V"⟩ ∈ wU := mU 412 (by decide +kernel) (by decide +kernel)
theorem u_414 : Cond.instanceMethod ⟨"AutoTeller$Machine", "endWithoutCard", "()V"⟩ ∈ wU := mU 414 (by decide +kernel) (by decide +kernel)
theorem u_415 : Cond.code ⟨"AutoTeller$Machine", "endWithoutCard", "()V"⟩ prog_6_method_19_code 1 (Option.none : Option Jvm.ClassFile.FieldType) ∈ wU := mU 415 (by decide +kernel) (by decide +kernel)
theorem u_417 : Cond.instanceMethod ⟨"AutoTeller", "take", "()I"⟩ ∈ wU := mU 417 (by decide +kernel) (by decide +kernel)
theorem u_418 : Cond.selects "AutoTeller" ⟨"AutoTeller", "take", "()I"⟩ ⟨"AutoTeller", "take", "()I"⟩ ∈ wU := mU 418 (by decide +kernel) (by decide +kernel)
theorem u_419 : Cond.code ⟨"AutoTeller", "take", "()I"⟩ prog_1_method_9_code 1 (Option.some Jvm.ClassFile.FieldType.int) ∈ wU := mU 419 (by decide +kernel) (by decide +kernel)
theorem u_420 : Cond.methodLink "AutoTeller" 69 ⟨"AutoTeller$Notes", "clearTray", "()I"⟩ ∈ wU := mU 420 (by decide +kernel) (by decide +kernel)
theorem u_421 : Cond.instanceMethod ⟨"AutoTeller$Notes", "clearTray", "()I"⟩ ∈ wU := mU 421 (by decide +kernel) (by decide +kernel)
theorem u_422 : Cond.selects "AutoTeller$Notes" ⟨"AutoTeller$Notes", "clearTray", "()I"⟩ ⟨"AutoTeller$Notes", "clearTray", "()I"⟩ ∈ wU := mU 422 (by decide +kernel) (by decide +kernel)
theorem u_423 : Cond.code ⟨"AutoTeller$Notes", "clearTray", "()I"⟩ prog_7_method_14_code 2 (Option.some Jvm.ClassFile.FieldType.int) ∈ wU := mU 423 (by decide +kernel) (by decide +kernel)
theorem u_424 : Cond.methodLink "AutoTeller$Notes" 95 ⟨"java/util/Arrays", "fill", "([II)V"⟩ ∈ wU := mU 424 (by decide +kernel) (by decide +kernel)
theorem u_426 : Cond.instanceMethod ⟨"AutoTeller", "timeout", "()Z"⟩ ∈ wU := mU 426 (by decide +kernel) (by decide +kernel)
theorem u_427 : Cond.selects "AutoTeller" ⟨"AutoTeller", "timeout", "()Z"⟩ ⟨"AutoTeller", "timeout", "()Z"⟩ ∈ wU := mU 427 (by decide +kernel) (by decide +kernel)
theorem u_428 : Cond.code ⟨"AutoTeller", "timeout", "()Z"⟩ prog_1_method_10_code 1 (Option.some Jvm.ClassFile.FieldType.boolean) ∈ wU := mU 428 (by decide +kernel) (by decide +kernel)
theorem u_429 : Cond.methodLink "AutoTeller" 75 ⟨"AutoTeller$Machine", "endWaiting", "()Z"⟩ ∈ wU := mU 429 (by decide +kernel) (by decide +kernel)
theorem u_430 : Cond.instanceMethod ⟨"AutoTeller$Machine", "endWaiting", "()Z"⟩ ∈ wU := mU 430 (by decide +kernel) (by decide +kernel)
theorem u_431 : Cond.selects "AutoTeller$Machine" ⟨"AutoTeller$Machine", "endWaiting", "()Z"⟩ ⟨"AutoTeller$Machine", "endWaiting", "()Z"⟩ ∈ wU := mU 431 (by decide +kernel) (by decide +kernel)
theorem u_432 : Cond.code ⟨"AutoTeller$Machine", "endWaiting", "()Z"⟩ prog_6_method_8_code 1 (Option.some Jvm.ClassFile.FieldType.boolean) ∈ wU := mU 432 (by decide +kernel) (by decide +kernel)
theorem u_433 : Cond.methodLink "AutoTeller$Machine" 96 ⟨"AutoTeller$Machine", "reverse", "(Z)V"⟩ ∈ wU := mU 433 (by decide +kernel) (by decide +kernel)
theorem u_435 : Cond.instanceMethod ⟨"AutoTeller$Machine", "reverse", "(Z)V"⟩ ∈ wU := mU 435 (by decide +kernel) (by decide +kernel)
theorem u_436 : Cond.code ⟨"AutoTeller$Machine", "reverse", "(Z)V"⟩ prog_6_method_14_code 2 (Option.none : Option Jvm.ClassFile.FieldType) ∈ wU := mU 436 (by decide +kernel) (by decide +kernel)
theorem u_437 : Cond.methodLink "AutoTeller$Machine" 150 ⟨"AutoTeller$Notes", "areStacked", "()Z"⟩ ∈ wU := mU 437 (by decide +kernel) (by decide +kernel)
theorem u_438 : Cond.instanceMethod ⟨"AutoTeller$Notes", "areStacked", "()Z"⟩ ∈ wU := mU 438 (by decide +kernel) (by decide +kernel)
theorem u_439 : Cond.selects "AutoTeller$Notes" ⟨"AutoTeller$Notes", "areStacked", "()Z"⟩ ⟨"AutoTeller$Notes", "areStacked", "()Z"⟩ ∈ wU := mU 439 (by decide +kernel) (by decide +kernel)
theorem u_440 : Cond.code ⟨"AutoTeller$Notes", "areStacked", "()Z"⟩ prog_7_method_10_code 3 (Option.some Jvm.ClassFile.FieldType.boolean) ∈ wU := mU 440 (by decide +kernel) (by decide +kernel)
theorem u_441 : Cond.methodLink "AutoTeller$Machine" 153 ⟨"AutoTeller$Notes", "moveStackerToBin", "()V"⟩ ∈ wU := mU 441 (by decide +kernel) (by decide +kernel)
theorem u_442 : Cond.instanceMethod ⟨"AutoTeller$Notes", "moveStackerToBin", "()V"⟩ ∈ wU := mU 442 (by decide +kernel) (by decide +kernel)
theorem u_443 : Cond.selects "AutoTeller$Notes" ⟨"AutoTeller$Notes", "moveStackerToBin", "()V"⟩ ⟨"AutoTeller$Notes", "moveStackerToBin", "()V"⟩ ∈ wU := mU 443 (by decide +kernel) (by decide +kernel)
theorem u_444 : Cond.code ⟨"AutoTeller$Notes", "moveStackerToBin", "()V"⟩ prog_7_method_12_code 1 (Option.none : Option Jvm.ClassFile.FieldType) ∈ wU := mU 444 (by decide +kernel) (by decide +kernel)
theorem u_445 : Cond.methodLink "AutoTeller$Notes" 84 ⟨"AutoTeller$Notes", "emptyStackerInto", "([I)V"⟩ ∈ wU := mU 445 (by decide +kernel) (by decide +kernel)
theorem u_447 : Cond.instanceMethod ⟨"AutoTeller$Notes", "emptyStackerInto", "([I)V"⟩ ∈ wU := mU 447 (by decide +kernel) (by decide +kernel)
theorem u_448 : Cond.code ⟨"AutoTeller$Notes", "emptyStackerInto", "([I)V"⟩ prog_7_method_13_code 3 (Option.none : Option Jvm.ClassFile.FieldType) ∈ wU := mU 448 (by decide +kernel) (by decide +kernel)
theorem u_450 : Cond.instanceMethod ⟨"AutoTeller", "deliver", "(I)I"⟩ ∈ wU := mU 450 (by decide +kernel) (by decide +kernel)
theorem u_451 : Cond.selects "AutoTeller" ⟨"AutoTeller", "deliver", "(I)I"⟩ ⟨"AutoTeller", "deliver", "(I)I"⟩ ∈ wU := mU 451 (by decide +kernel) (by decide +kernel)
theorem u_452 : Cond.code ⟨"AutoTeller", "deliver", "(I)I"⟩ prog_1_method_11_code 2 (Option.some Jvm.ClassFile.FieldType.int) ∈ wU := mU 452 (by decide +kernel) (by decide +kernel)
theorem u_453 : Cond.methodLink "AutoTeller" 78 ⟨"AutoTeller$Line", "has", "(I)Z"⟩ ∈ wU := mU 453 (by decide +kernel) (by decide +kernel)
theorem u_454 : Cond.methodLink "AutoTeller" 81 ⟨"AutoTeller$Line", "copyTo", "(ILAutoTeller$Letter;)V"⟩ ∈ wU := mU 454 (by decide +kernel) (by decide +kernel)
theorem u_455 : Cond.instanceMethod ⟨"AutoTeller$Line", "copyTo", "(ILAutoTeller$Letter;)V"⟩ ∈ wU := mU 455 (by decide +kernel) (by decide +kernel)
theorem u_456 : Cond.selects "AutoTeller$Line" ⟨"AutoTeller$Line", "copyTo", "(ILAutoTeller$Letter;)V"⟩ ⟨"AutoTeller$Line", "copyTo", "(ILAutoTeller$Letter;)V"⟩ ∈ wU := mU 456 (by decide +kernel) (by decide +kernel)
theorem u_457 : Cond.code ⟨"AutoTeller$Line", "copyTo", "(ILAutoTeller$Letter;)V"⟩ prog_5_method_4_code 3 (Option.none : Option Jvm.ClassFile.FieldType) ∈ wU := mU 457 (by decide +kernel) (by decide +kernel)
theorem u_458 : Cond.methodLink "AutoTeller$Line" 41 ⟨"AutoTeller$Letter", "copyFrom", "(LAutoTeller$Letter;)V"⟩ ∈ wU := mU 458 (by decide +kernel) (by decide +kernel)
theorem u_459 : Cond.instanceMethod ⟨"AutoTeller$Letter", "copyFrom", "(LAutoTeller$Letter;)V"⟩ ∈ wU := mU 459 (by decide +kernel) (by decide +kernel)
theorem u_460 : Cond.selects "AutoTeller$Letter" ⟨"AutoTeller$Letter", "copyFrom", "(LAutoTeller$Letter;)V"⟩ ⟨"AutoTeller$Letter", "copyFrom", "(LAutoTeller$Letter;)V"⟩ ∈ wU := mU 460 (by decide +kernel) (by decide +kernel)
theorem u_461 : Cond.code ⟨"AutoTeller$Letter", "copyFrom", "(LAutoTeller$Letter;)V"⟩ prog_4_method_3_code 2 (Option.none : Option Jvm.ClassFile.FieldType) ∈ wU := mU 461 (by decide +kernel) (by decide +kernel)
theorem u_462 : Cond.methodLink "AutoTeller$Letter" 23 ⟨"java/lang/System", "arraycopy", "(Ljava/lang/Object;ILjava/lang/Object;II)V"⟩ ∈ wU := mU 462 (by decide +kernel) (by decide +kernel)
theorem u_463 : Cond.static ⟨"java/lang/System", "arraycopy", "(Ljava/lang/Object;ILjava/lang/Object;II)V"⟩ ∈ wU := mU 463 (by decide +kernel) (by decide +kernel)
theorem u_464 : Cond.native ⟨"java/lang/System", "arraycopy", "(Ljava/lang/Object;ILjava/lang/Object;II)V"⟩ ∈ wU := mU 464 (by decide +kernel) (by decide +kernel)
theorem u_465 : Cond.methodLink "AutoTeller" 85 ⟨"AutoTeller$Line", "remove", "(I)V"⟩ ∈ wU := mU 465 (by decide +kernel) (by decide +kernel)
theorem u_466 : Cond.methodLink "AutoTeller" 89 ⟨"AutoTeller", "handOver", "()V"⟩ ∈ wU := mU 466 (by decide +kernel) (by decide +kernel)
theorem u_468 : Cond.instanceMethod ⟨"AutoTeller", "handOver", "()V"⟩ ∈ wU := mU 468 (by decide +kernel) (by decide +kernel)
theorem u_469 : Cond.code ⟨"AutoTeller", "handOver", "()V"⟩ prog_1_method_25_code 1 (Option.none : Option Jvm.ClassFile.FieldType) ∈ wU := mU 469 (by decide +kernel) (by decide +kernel)
theorem u_470 : Cond.methodLink "AutoTeller" 176 ⟨"AutoTeller$Host", "receive", "(LAutoTeller$Letter;)V"⟩ ∈ wU := mU 470 (by decide +kernel) (by decide +kernel)
theorem u_471 : Cond.instanceMethod ⟨"AutoTeller$Host", "receive", "(LAutoTeller$Letter;)V"⟩ ∈ wU := mU 471 (by decide +kernel) (by decide +kernel)
theorem u_472 : Cond.selects "AutoTeller$Host" ⟨"AutoTeller$Host", "receive", "(LAutoTeller$Letter;)V"⟩ ⟨"AutoTeller$Host", "receive", "(LAutoTeller$Letter;)V"⟩ ∈ wU := mU 472 (by decide +kernel) (by decide +kernel)
theorem u_473 : Cond.code ⟨"AutoTeller$Host", "receive", "(LAutoTeller$Letter;)V"⟩ prog_2_method_7_code 8 (Option.none : Option Jvm.ClassFile.FieldType) ∈ wU := mU 473 (by decide +kernel) (by decide +kernel)
theorem u_474 : Cond.methodLink "AutoTeller$Host" 66 ⟨"AutoTeller$Letter", "isSound", "()Z"⟩ ∈ wU := mU 474 (by decide +kernel) (by decide +kernel)
theorem u_475 : Cond.instanceMethod ⟨"AutoTeller$Letter", "isSound", "()Z"⟩ ∈ wU := mU 475 (by decide +kernel) (by decide +kernel)
theorem u_476 : Cond.selects "AutoTeller$Letter" ⟨"AutoTeller$Letter", "isSound", "()Z"⟩ ⟨"AutoTeller$Letter", "isSound", "()Z"⟩ ∈ wU := mU 476 (by decide +kernel) (by decide +kernel)
theorem u_477 : Cond.code ⟨"AutoTeller$Letter", "isSound", "()Z"⟩ prog_4_method_9_code 1 (Option.some Jvm.ClassFile.FieldType.boolean) ∈ wU := mU 477 (by decide +kernel) (by decide +kernel)
theorem u_478 : Cond.methodLink "AutoTeller$Host" 72 ⟨"AutoTeller$Host", "isUsable", "(LAutoTeller$Letter;)Z"⟩ ∈ wU := mU 478 (by decide +kernel) (by decide +kernel)
theorem u_479 : Cond.static ⟨"AutoTeller$Host", "isUsable", "(LAutoTeller$Letter;)Z"⟩ ∈ wU := mU 479 (by decide +kernel) (by decide +kernel)
theorem u_480 : Cond.code ⟨"AutoTeller$Host", "isUsable", "(LAutoTeller$Letter;)Z"⟩ prog_2_method_8_code 1 (Option.some Jvm.ClassFile.FieldType.boolean) ∈ wU := mU 480 (by decide +kernel) (by decide +kernel)
theorem u_481 : Cond.methodLink "AutoTeller$Host" 84 ⟨"AutoTeller$Letter", "trace", "()J"⟩ ∈ wU := mU 481 (by decide +kernel) (by decide +kernel)
theorem u_482 : Cond.instanceMethod ⟨"AutoTeller$Letter", "trace", "()J"⟩ ∈ wU := mU 482 (by decide +kernel) (by decide +kernel)
theorem u_483 : Cond.selects "AutoTeller$Letter" ⟨"AutoTeller$Letter", "trace", "()J"⟩ ⟨"AutoTeller$Letter", "trace", "()J"⟩ ∈ wU := mU 483 (by decide +kernel) (by decide +kernel)
theorem u_484 : Cond.code ⟨"AutoTeller$Letter", "trace", "()J"⟩ prog_4_method_5_code 1 (Option.some Jvm.ClassFile.FieldType.long) ∈ wU := mU 484 (by decide +kernel) (by decide +kernel)
theorem u_485 : Cond.methodLink "AutoTeller$Letter" 33 ⟨"AutoTeller$Letter", "readNumber", "(I)J"⟩ ∈ wU := mU 485 (by decide +kernel) (by decide +kernel)
theorem u_487 : Cond.instanceMethod ⟨"AutoTeller$Letter", "readNumber", "(I)J"⟩ ∈ wU := mU 487 (by decide +kernel) (by decide +kernel)
theorem u_488 : Cond.code ⟨"AutoTeller$Letter", "readNumber", "(I)J"⟩ prog_4_method_12_code 5 (Option.some Jvm.ClassFile.FieldType.long) ∈ wU := mU 488 (by decide +kernel) (by decide +kernel)
theorem u_489 : Cond.constantLong "AutoTeller$Letter" 38 256 ∈ wU := mU 489 (by decide +kernel) (by decide +kernel)
theorem u_490 : Cond.constantLong "AutoTeller$Host" 104 2000 ∈ wU := mU 490 (by decide +kernel) (by decide +kernel)
theorem u_491 : Cond.methodLink "AutoTeller$Host" 88 ⟨"AutoTeller$Letter", "cardNumber", "()I"⟩ ∈ wU := mU 491 (by decide +kernel) (by decide +kernel)
theorem u_492 : Cond.instanceMethod ⟨"AutoTeller$Letter", "cardNumber", "()I"⟩ ∈ wU := mU 492 (by decide +kernel) (by decide +kernel)
theorem u_493 : Cond.selects "AutoTeller$Letter" ⟨"AutoTeller$Letter", "cardNumber", "()I"⟩ ⟨"AutoTeller$Letter", "cardNumber", "()I"⟩ ∈ wU := mU 493 (by decide +kernel) (by decide +kernel)
theorem u_494 : Cond.code ⟨"AutoTeller$Letter", "cardNumber", "()I"⟩ prog_4_method_6_code 1 (Option.some Jvm.ClassFile.FieldType.int) ∈ wU := mU 494 (by decide +kernel) (by decide +kernel)
theorem u_495 : Cond.methodLink "AutoTeller$Host" 80 ⟨"AutoTeller$Letter", "kind", "()I"⟩ ∈ wU := mU 495 (by decide +kernel) (by decide +kernel)
theorem u_496 : Cond.instanceMethod ⟨"AutoTeller$Letter", "kind", "()I"⟩ ∈ wU := mU 496 (by decide +kernel) (by decide +kernel)
theorem u_497 : Cond.selects "AutoTeller$Letter" ⟨"AutoTeller$Letter", "kind", "()I"⟩ ⟨"AutoTeller$Letter", "kind", "()I"⟩ ∈ wU := mU 497 (by decide +kernel) (by decide +kernel)
theorem u_498 : Cond.code ⟨"AutoTeller$Letter", "kind", "()I"⟩ prog_4_method_4_code 1 (Option.some Jvm.ClassFile.FieldType.int) ∈ wU := mU 498 (by decide +kernel) (by decide +kernel)
theorem u_499 : Cond.methodLink "AutoTeller$Host" 91 ⟨"AutoTeller$Letter", "value", "()J"⟩ ∈ wU := mU 499 (by decide +kernel) (by decide +kernel)
theorem u_500 : Cond.instanceMethod ⟨"AutoTeller$Letter", "value", "()J"⟩ ∈ wU := mU 500 (by decide +kernel) (by decide +kernel)
theorem u_501 : Cond.selects "AutoTeller$Letter" ⟨"AutoTeller$Letter", "value", "()J"⟩ ⟨"AutoTeller$Letter", "value", "()J"⟩ ∈ wU := mU 501 (by decide +kernel) (by decide +kernel)
theorem u_502 : Cond.code ⟨"AutoTeller$Letter", "value", "()J"⟩ prog_4_method_7_code 1 (Option.some Jvm.ClassFile.FieldType.long) ∈ wU := mU 502 (by decide +kernel) (by decide +kernel)
theorem n_503 : Cond.methodLinkNest "AutoTeller$Host" 106 ⟨"AutoTeller", "isAmount", "(J)Z"⟩ "AutoTeller" ∈ wN := mN 503 (by decide +kernel) (by decide +kernel)
theorem u_504 : Cond.methodLink "AutoTeller$Host" 94 ⟨"AutoTeller$Host", "decide", "(IIIJ)I"⟩ ∈ wU := mU 504 (by decide +kernel) (by decide +kernel)
theorem u_506 : Cond.instanceMethod ⟨"AutoTeller$Host", "decide", "(IIIJ)I"⟩ ∈ wU := mU 506 (by decide +kernel) (by decide +kernel)
theorem u_507 : Cond.code ⟨"AutoTeller$Host", "decide", "(IIIJ)I"⟩ prog_2_method_9_code 6 (Option.some Jvm.ClassFile.FieldType.int) ∈ wU := mU 507 (by decide +kernel) (by decide +kernel)
theorem u_508 : Cond.methodLink "AutoTeller$Host" 109 ⟨"AutoTeller$Host", "tryPin", "(IJ)I"⟩ ∈ wU := mU 508 (by decide +kernel) (by decide +kernel)
theorem u_510 : Cond.instanceMethod ⟨"AutoTeller$Host", "tryPin", "(IJ)I"⟩ ∈ wU := mU 510 (by decide +kernel) (by decide +kernel)
theorem u_511 : Cond.code ⟨"AutoTeller$Host", "tryPin", "(IJ)I"⟩ prog_2_method_10_code 4 (Option.some Jvm.ClassFile.FieldType.int) ∈ wU := mU 511 (by decide +kernel) (by decide +kernel)
theorem u_512 : Cond.methodLink "AutoTeller$Host" 113 ⟨"AutoTeller$Host", "takeOff", "(III)V"⟩ ∈ wU := mU 512 (by decide +kernel) (by decide +kernel)
theorem u_514 : Cond.instanceMethod ⟨"AutoTeller$Host", "takeOff", "(III)V"⟩ ∈ wU := mU 514 (by decide +kernel) (by decide +kernel)
theorem u_515 : Cond.code ⟨"AutoTeller$Host", "takeOff", "(III)V"⟩ prog_2_method_11_code 5 (Option.none : Option Jvm.ClassFile.FieldType) ∈ wU := mU 515 (by decide +kernel) (by decide +kernel)
theorem u_516 : Cond.methodLink "AutoTeller$Host" 117 ⟨"AutoTeller$Host", "giveBack", "(I)V"⟩ ∈ wU := mU 516 (by decide +kernel) (by decide +kernel)
theorem u_518 : Cond.instanceMethod ⟨"AutoTeller$Host", "giveBack", "(I)V"⟩ ∈ wU := mU 518 (by decide +kernel) (by decide +kernel)
theorem u_519 : Cond.code ⟨"AutoTeller$Host", "giveBack", "(I)V"⟩ prog_2_method_12_code 3 (Option.none : Option Jvm.ClassFile.FieldType) ∈ wU := mU 519 (by decide +kernel) (by decide +kernel)
theorem u_520 : Cond.methodLink "AutoTeller$Host" 98 ⟨"AutoTeller$Line", "post", "(ZIIIJI)V"⟩ ∈ wU := mU 520 (by decide +kernel) (by decide +kernel)
theorem u_521 : Cond.methodLink "AutoTeller" 180 ⟨"AutoTeller$Machine", "receive", "(LAutoTeller$Letter;)V"⟩ ∈ wU := mU 521 (by decide +kernel) (by decide +kernel)
theorem u_522 : Cond.instanceMethod ⟨"AutoTeller$Machine", "receive", "(LAutoTeller$Letter;)V"⟩ ∈ wU := mU 522 (by decide +kernel) (by decide +kernel)
theorem u_523 : Cond.selects "AutoTeller$Machine" ⟨"AutoTeller$Machine", "receive", "(LAutoTeller$Letter;)V"⟩ ⟨"AutoTeller$Machine", "receive", "(LAutoTeller$Letter;)V"⟩ ∈ wU := mU 523 (by decide +kernel) (by decide +kernel)
theorem u_524 : Cond.code ⟨"AutoTeller$Machine", "receive", "(LAutoTeller$Letter;)V"⟩ prog_6_method_9_code 2 (Option.none : Option Jvm.ClassFile.FieldType) ∈ wU := mU 524 (by decide +kernel) (by decide +kernel)
theorem u_525 : Cond.methodLink "AutoTeller$Machine" 100 ⟨"AutoTeller$Letter", "isSound", "()Z"⟩ ∈ wU := mU 525 (by decide +kernel) (by decide +kernel)
theorem u_526 : Cond.methodLink "AutoTeller$Machine" 106 ⟨"AutoTeller$Machine", "isAwaited", "(LAutoTeller$Letter;)Z"⟩ ∈ wU := mU 526 (by decide +kernel) (by decide +kernel)
theorem u_528 : Cond.instanceMethod ⟨"AutoTeller$Machine", "isAwaited", "(LAutoTeller$Letter;)Z"⟩ ∈ wU := mU 528 (by decide +kernel) (by decide +kernel)
theorem u_529 : Cond.code ⟨"AutoTeller$Machine", "isAwaited", "(LAutoTeller$Letter;)Z"⟩ prog_6_method_10_code 2 (Option.some Jvm.ClassFile.FieldType.boolean) ∈ wU := mU 529 (by decide +kernel) (by decide +kernel)
theorem u_530 : Cond.methodLink "AutoTeller$Machine" 124 ⟨"AutoTeller$Letter", "trace", "()J"⟩ ∈ wU := mU 530 (by decide +kernel) (by decide +kernel)
theorem u_531 : Cond.methodLink "AutoTeller$Machine" 131 ⟨"AutoTeller$Letter", "kind", "()I"⟩ ∈ wU := mU 531 (by decide +kernel) (by decide +kernel)
theorem u_532 : Cond.methodLink "AutoTeller$Machine" 113 ⟨"AutoTeller$Letter", "code", "()I"⟩ ∈ wU := mU 532 (by decide +kernel) (by decide +kernel)
theorem u_533 : Cond.instanceMethod ⟨"AutoTeller$Letter", "code", "()I"⟩ ∈ wU := mU 533 (by decide +kernel) (by decide +kernel)
theorem u_534 : Cond.selects "AutoTeller$Letter" ⟨"AutoTeller$Letter", "code", "()I"⟩ ⟨"AutoTeller$Letter", "code", "()I"⟩ ∈ wU := mU 534 (by decide +kernel) (by decide +kernel)
theorem u_535 : Cond.code ⟨"AutoTeller$Letter", "code", "()I"⟩ prog_4_method_8_code 1 (Option.some Jvm.ClassFile.FieldType.int) ∈ wU := mU 535 (by decide +kernel) (by decide +kernel)
theorem u_536 : Cond.methodLink "AutoTeller$Machine" 117 ⟨"AutoTeller$Machine", "endPinCheck", "(I)V"⟩ ∈ wU := mU 536 (by decide +kernel) (by decide +kernel)
theorem u_538 : Cond.instanceMethod ⟨"AutoTeller$Machine", "endPinCheck", "(I)V"⟩ ∈ wU := mU 538 (by decide +kernel) (by decide +kernel)
theorem u_539 : Cond.code ⟨"AutoTeller$Machine", "endPinCheck", "(I)V"⟩ prog_6_method_11_code 2 (Option.none : Option Jvm.ClassFile.FieldType) ∈ wU := mU 539 (by decide +kernel) (by decide +kernel)
theorem u_540 : Cond.methodLink "AutoTeller$Machine" 121 ⟨"AutoTeller$Machine", "payOut", "()V"⟩ ∈ wU := mU 540 (by decide +kernel) (by decide +kernel)
theorem u_542 : Cond.instanceMethod ⟨"AutoTeller$Machine", "payOut", "()V"⟩ ∈ wU := mU 542 (by decide +kernel) (by decide +kernel)
theorem u_543 : Cond.code ⟨"AutoTeller$Machine", "payOut", "()V"⟩ prog_6_method_12_code 1 (Option.none : Option Jvm.ClassFile.FieldType) ∈ wU := mU 543 (by decide +kernel) (by decide +kernel)
theorem u_544 : Cond.methodLink "AutoTeller$Machine" 134 ⟨"AutoTeller$Machine", "stackMix", "()Z"⟩ ∈ wU := mU 544 (by decide +kernel) (by decide +kernel)
theorem u_546 : Cond.instanceMethod ⟨"AutoTeller$Machine", "stackMix", "()Z"⟩ ∈ wU := mU 546 (by decide +kernel) (by decide +kernel)
theorem u_547 : Cond.code ⟨"AutoTeller$Machine", "stackMix", "()Z"⟩ prog_6_method_13_code 3 (Option.some Jvm.ClassFile.FieldType.boolean) ∈ wU := mU 547 (by decide +kernel) (by decide +kernel)
theorem u_548 : Cond.methodLink "AutoTeller$Machine" 147 ⟨"AutoTeller$Notes", "stackOne", "(I)V"⟩ ∈ wU := mU 548 (by decide +kernel) (by decide +kernel)
theorem u_549 : Cond.instanceMethod ⟨"AutoTeller$Notes", "stackOne", "(I)V"⟩ ∈ wU := mU 549 (by decide +kernel) (by decide +kernel)
theorem u_550 : Cond.selects "AutoTeller$Notes" ⟨"AutoTeller$Notes", "stackOne", "(I)V"⟩ ⟨"AutoTeller$Notes", "stackOne", "(I)V"⟩ ∈ wU := mU 550 (by decide +kernel) (by decide +kernel)
theorem u_551 : Cond.code ⟨"AutoTeller$Notes", "stackOne", "(I)V"⟩ prog_7_method_9_code 2 (Option.none : Option Jvm.ClassFile.FieldType) ∈ wU := mU 551 (by decide +kernel) (by decide +kernel)
theorem u_552 : Cond.methodLink "AutoTeller$Machine" 140 ⟨"AutoTeller$Notes", "moveStackerToTray", "()V"⟩ ∈ wU := mU 552 (by decide +kernel) (by decide +kernel)
theorem u_553 : Cond.instanceMethod ⟨"AutoTeller$Notes", "moveStackerToTray", "()V"⟩ ∈ wU := mU 553 (by decide +kernel) (by decide +kernel)
theorem u_554 : Cond.selects "AutoTeller$Notes" ⟨"AutoTeller$Notes", "moveStackerToTray", "()V"⟩ ⟨"AutoTeller$Notes", "moveStackerToTray", "()V"⟩ ∈ wU := mU 554 (by decide +kernel) (by decide +kernel)
theorem u_555 : Cond.code ⟨"AutoTeller$Notes", "moveStackerToTray", "()V"⟩ prog_7_method_11_code 1 (Option.none : Option Jvm.ClassFile.FieldType) ∈ wU := mU 555 (by decide +kernel) (by decide +kernel)
theorem u_557 : Cond.instanceMethod ⟨"AutoTeller", "twice", "(I)I"⟩ ∈ wU := mU 557 (by decide +kernel) (by decide +kernel)
theorem u_558 : Cond.selects "AutoTeller" ⟨"AutoTeller", "twice", "(I)I"⟩ ⟨"AutoTeller", "twice", "(I)I"⟩ ∈ wU := mU 558 (by decide +kernel) (by decide +kernel)
theorem u_559 : Cond.code ⟨"AutoTeller", "twice", "(I)I"⟩ prog_1_method_12_code 2 (Option.some Jvm.ClassFile.FieldType.int) ∈ wU := mU 559 (by decide +kernel) (by decide +kernel)
theorem u_561 : Cond.instanceMethod ⟨"AutoTeller", "lose", "(I)I"⟩ ∈ wU := mU 561 (by decide +kernel) (by decide +kernel)
theorem u_562 : Cond.selects "AutoTeller" ⟨"AutoTeller", "lose", "(I)I"⟩ ⟨"AutoTeller", "lose", "(I)I"⟩ ∈ wU := mU 562 (by decide +kernel) (by decide +kernel)
theorem u_563 : Cond.code ⟨"AutoTeller", "lose", "(I)I"⟩ prog_1_method_13_code 2 (Option.some Jvm.ClassFile.FieldType.int) ∈ wU := mU 563 (by decide +kernel) (by decide +kernel)
theorem u_565 : Cond.instanceMethod ⟨"AutoTeller", "poke", "(III)Z"⟩ ∈ wU := mU 565 (by decide +kernel) (by decide +kernel)
theorem u_566 : Cond.selects "AutoTeller" ⟨"AutoTeller", "poke", "(III)Z"⟩ ⟨"AutoTeller", "poke", "(III)Z"⟩ ∈ wU := mU 566 (by decide +kernel) (by decide +kernel)
theorem u_567 : Cond.code ⟨"AutoTeller", "poke", "(III)Z"⟩ prog_1_method_14_code 4 (Option.some Jvm.ClassFile.FieldType.boolean) ∈ wU := mU 567 (by decide +kernel) (by decide +kernel)
theorem u_568 : Cond.methodLink "AutoTeller" 96 ⟨"AutoTeller$Line", "changeByte", "(III)Z"⟩ ∈ wU := mU 568 (by decide +kernel) (by decide +kernel)
theorem u_569 : Cond.instanceMethod ⟨"AutoTeller$Line", "changeByte", "(III)Z"⟩ ∈ wU := mU 569 (by decide +kernel) (by decide +kernel)
theorem u_570 : Cond.selects "AutoTeller$Line" ⟨"AutoTeller$Line", "changeByte", "(III)Z"⟩ ⟨"AutoTeller$Line", "changeByte", "(III)Z"⟩ ∈ wU := mU 570 (by decide +kernel) (by decide +kernel)
theorem u_571 : Cond.code ⟨"AutoTeller$Line", "changeByte", "(III)Z"⟩ prog_5_method_6_code 4 (Option.some Jvm.ClassFile.FieldType.boolean) ∈ wU := mU 571 (by decide +kernel) (by decide +kernel)
theorem u_572 : Cond.constantLong "AutoTeller$Line" 45 12 ∈ wU := mU 572 (by decide +kernel) (by decide +kernel)
theorem n_573 : Cond.methodLinkNest "AutoTeller$Line" 47 ⟨"AutoTeller", "isWithin", "(JJJ)Z"⟩ "AutoTeller" ∈ wN := mN 573 (by decide +kernel) (by decide +kernel)
theorem u_574 : Cond.constantLong "AutoTeller$Line" 51 255 ∈ wU := mU 574 (by decide +kernel) (by decide +kernel)
theorem u_576 : Cond.instanceMethod ⟨"AutoTeller", "letter", "(II)I"⟩ ∈ wU := mU 576 (by decide +kernel) (by decide +kernel)
theorem u_577 : Cond.selects "AutoTeller" ⟨"AutoTeller", "letter", "(II)I"⟩ ⟨"AutoTeller", "letter", "(II)I"⟩ ∈ wU := mU 577 (by decide +kernel) (by decide +kernel)
theorem u_578 : Cond.code ⟨"AutoTeller", "letter", "(II)I"⟩ prog_1_method_15_code 3 (Option.some Jvm.ClassFile.FieldType.int) ∈ wU := mU 578 (by decide +kernel) (by decide +kernel)
theorem u_579 : Cond.methodLink "AutoTeller" 99 ⟨"AutoTeller$Line", "byteOf", "(II)I"⟩ ∈ wU := mU 579 (by decide +kernel) (by decide +kernel)
theorem u_580 : Cond.instanceMethod ⟨"AutoTeller$Line", "byteOf", "(II)I"⟩ ∈ wU := mU 580 (by decide +kernel) (by decide +kernel)
theorem u_581 : Cond.selects "AutoTeller$Line" ⟨"AutoTeller$Line", "byteOf", "(II)I"⟩ ⟨"AutoTeller$Line", "byteOf", "(II)I"⟩ ∈ wU := mU 581 (by decide +kernel) (by decide +kernel)
theorem u_582 : Cond.code ⟨"AutoTeller$Line", "byteOf", "(II)I"⟩ prog_5_method_7_code 3 (Option.some Jvm.ClassFile.FieldType.int) ∈ wU := mU 582 (by decide +kernel) (by decide +kernel)
theorem u_584 : Cond.instanceMethod ⟨"AutoTeller", "cut", "()Z"⟩ ∈ wU := mU 584 (by decide +kernel) (by decide +kernel)
theorem u_585 : Cond.selects "AutoTeller" ⟨"AutoTeller", "cut", "()Z"⟩ ⟨"AutoTeller", "cut", "()Z"⟩ ∈ wU := mU 585 (by decide +kernel) (by decide +kernel)
theorem u_586 : Cond.code ⟨"AutoTeller", "cut", "()Z"⟩ prog_1_method_16_code 1 (Option.some Jvm.ClassFile.FieldType.boolean) ∈ wU := mU 586 (by decide +kernel) (by decide +kernel)
theorem u_587 : Cond.methodLink "AutoTeller" 103 ⟨"AutoTeller$Machine", "switchOff", "()Z"⟩ ∈ wU := mU 587 (by decide +kernel) (by decide +kernel)
theorem u_588 : Cond.instanceMethod ⟨"AutoTeller$Machine", "switchOff", "()Z"⟩ ∈ wU := mU 588 (by decide +kernel) (by decide +kernel)
theorem u_589 : Cond.selects "AutoTeller$Machine" ⟨"AutoTeller$Machine", "switchOff", "()Z"⟩ ⟨"AutoTeller$Machine", "switchOff", "()Z"⟩ ∈ wU := mU 589 (by decide +kernel) (by decide +kernel)
theorem u_590 : Cond.code ⟨"AutoTeller$Machine", "switchOff", "()Z"⟩ prog_6_method_15_code 1 (Option.some Jvm.ClassFile.FieldType.boolean) ∈ wU := mU 590 (by decide +kernel) (by decide +kernel)
theorem u_592 : Cond.instanceMethod ⟨"AutoTeller", "arm", "(I)Z"⟩ ∈ wU := mU 592 (by decide +kernel) (by decide +kernel)
theorem u_593 : Cond.selects "AutoTeller" ⟨"AutoTeller", "arm", "(I)Z"⟩ ⟨"AutoTeller", "arm", "(I)Z"⟩ ∈ wU := mU 593 (by decide +kernel) (by decide +kernel)
theorem u_594 : Cond.code ⟨"AutoTeller", "arm", "(I)Z"⟩ prog_1_method_17_code 2 (Option.some Jvm.ClassFile.FieldType.boolean) ∈ wU := mU 594 (by decide +kernel) (by decide +kernel)
theorem u_595 : Cond.methodLink "AutoTeller" 106 ⟨"AutoTeller$Machine", "allowSteps", "(I)Z"⟩ ∈ wU := mU 595 (by decide +kernel) (by decide +kernel)
theorem u_596 : Cond.instanceMethod ⟨"AutoTeller$Machine", "allowSteps", "(I)Z"⟩ ∈ wU := mU 596 (by decide +kernel) (by decide +kernel)
theorem u_597 : Cond.selects "AutoTeller$Machine" ⟨"AutoTeller$Machine", "allowSteps", "(I)Z"⟩ ⟨"AutoTeller$Machine", "allowSteps", "(I)Z"⟩ ∈ wU := mU 597 (by decide +kernel) (by decide +kernel)
theorem u_598 : Cond.code ⟨"AutoTeller$Machine", "allowSteps", "(I)Z"⟩ prog_6_method_16_code 2 (Option.some Jvm.ClassFile.FieldType.boolean) ∈ wU := mU 598 (by decide +kernel) (by decide +kernel)
theorem u_599 : Cond.constantLong "AutoTeller$Machine" 156 100 ∈ wU := mU 599 (by decide +kernel) (by decide +kernel)
theorem n_600 : Cond.methodLinkNest "AutoTeller$Machine" 158 ⟨"AutoTeller", "isWithin", "(JJJ)Z"⟩ "AutoTeller" ∈ wN := mN 600 (by decide +kernel) (by decide +kernel)
theorem u_602 : Cond.instanceMethod ⟨"AutoTeller", "power", "()Z"⟩ ∈ wU := mU 602 (by decide +kernel) (by decide +kernel)
theorem u_603 : Cond.selects "AutoTeller" ⟨"AutoTeller", "power", "()Z"⟩ ⟨"AutoTeller", "power", "()Z"⟩ ∈ wU := mU 603 (by decide +kernel) (by decide +kernel)
theorem u_604 : Cond.code ⟨"AutoTeller", "power", "()Z"⟩ prog_1_method_18_code 1 (Option.some Jvm.ClassFile.FieldType.boolean) ∈ wU := mU 604 (by decide +kernel) (by decide +kernel)
theorem u_605 : Cond.methodLink "AutoTeller" 109 ⟨"AutoTeller$Machine", "switchOn", "()Z"⟩ ∈ wU := mU 605 (by decide +kernel) (by decide +kernel)
theorem u_606 : Cond.instanceMethod ⟨"AutoTeller$Machine", "switchOn", "()Z"⟩ ∈ wU := mU 606 (by decide +kernel) (by decide +kernel)
theorem u_607 : Cond.selects "AutoTeller$Machine" ⟨"AutoTeller$Machine", "switchOn", "()Z"⟩ ⟨"AutoTeller$Machine", "switchOn", "()Z"⟩ ∈ wU := mU 607 (by decide +kernel) (by decide +kernel)
theorem u_608 : Cond.code ⟨"AutoTeller$Machine", "switchOn", "()Z"⟩ prog_6_method_17_code 1 (Option.some Jvm.ClassFile.FieldType.boolean) ∈ wU := mU 608 (by decide +kernel) (by decide +kernel)
theorem u_609 : Cond.methodLink "AutoTeller$Machine" 162 ⟨"AutoTeller$Machine", "recallLastBegun", "()V"⟩ ∈ wU := mU 609 (by decide +kernel) (by decide +kernel)
theorem u_611 : Cond.instanceMethod ⟨"AutoTeller$Machine", "recallLastBegun", "()V"⟩ ∈ wU := mU 611 (by decide +kernel) (by decide +kernel)
theorem u_612 : Cond.code ⟨"AutoTeller$Machine", "recallLastBegun", "()V"⟩ prog_6_method_18_code 2 (Option.none : Option Jvm.ClassFile.FieldType) ∈ wU := mU 612 (by decide +kernel) (by decide +kernel)
theorem u_613 : Cond.methodLink "AutoTeller$Machine" 168 ⟨"AutoTeller$Journal", "lastBegun", "()I"⟩ ∈ wU := mU 613 (by decide +kernel) (by decide +kernel)
theorem u_614 : Cond.instanceMethod ⟨"AutoTeller$Journal", "lastBegun", "()I"⟩ ∈ wU := mU 614 (by decide +kernel) (by decide +kernel)
theorem u_615 : Cond.selects "AutoTeller$Journal" ⟨"AutoTeller$Journal", "lastBegun", "()I"⟩ ⟨"AutoTeller$Journal", "lastBegun", "()I"⟩ ∈ wU := mU 615 (by decide +kernel) (by decide +kernel)
theorem u_616 : Cond.code ⟨"AutoTeller$Journal", "lastBegun", "()I"⟩ prog_3_method_6_code 2 (Option.some Jvm.ClassFile.FieldType.int) ∈ wU := mU 616 (by decide +kernel) (by decide +kernel)
theorem u_617 : Cond.methodLink "AutoTeller$Journal" 36 ⟨"AutoTeller$Journal", "tell", "(II)I"⟩ ∈ wU := mU 617 (by decide +kernel) (by decide +kernel)
theorem u_618 : Cond.instanceMethod ⟨"AutoTeller$Journal", "tell", "(II)I"⟩ ∈ wU := mU 618 (by decide +kernel) (by decide +kernel)
theorem u_619 : Cond.selects "AutoTeller$Journal" ⟨"AutoTeller$Journal", "tell", "(II)I"⟩ ⟨"AutoTeller$Journal", "tell", "(II)I"⟩ ∈ wU := mU 619 (by decide +kernel) (by decide +kernel)
theorem u_620 : Cond.code ⟨"AutoTeller$Journal", "tell", "(II)I"⟩ prog_3_method_4_code 3 (Option.some Jvm.ClassFile.FieldType.int) ∈ wU := mU 620 (by decide +kernel) (by decide +kernel)
theorem n_621 : Cond.methodLinkNest "AutoTeller$Journal" 32 ⟨"AutoTeller", "isWithin", "(JJJ)Z"⟩ "AutoTeller" ∈ wN := mN 621 (by decide +kernel) (by decide +kernel)
theorem u_622 : Cond.methodLink "AutoTeller$Machine" 171 ⟨"AutoTeller$Journal", "tell", "(II)I"⟩ ∈ wU := mU 622 (by decide +kernel) (by decide +kernel)
theorem u_623 : Cond.methodLink "AutoTeller$Machine" 165 ⟨"AutoTeller$Journal", "lastKind", "()I"⟩ ∈ wU := mU 623 (by decide +kernel) (by decide +kernel)
theorem u_624 : Cond.instanceMethod ⟨"AutoTeller$Journal", "lastKind", "()I"⟩ ∈ wU := mU 624 (by decide +kernel) (by decide +kernel)
theorem u_625 : Cond.selects "AutoTeller$Journal" ⟨"AutoTeller$Journal", "lastKind", "()I"⟩ ⟨"AutoTeller$Journal", "lastKind", "()I"⟩ ∈ wU := mU 625 (by decide +kernel) (by decide +kernel)
theorem u_626 : Cond.code ⟨"AutoTeller$Journal", "lastKind", "()I"⟩ prog_3_method_5_code 1 (Option.some Jvm.ClassFile.FieldType.int) ∈ wU := mU 626 (by decide +kernel) (by decide +kernel)
theorem u_628 : Cond.instanceMethod ⟨"AutoTeller", "cassette", "(II)I"⟩ ∈ wU := mU 628 (by decide +kernel) (by decide +kernel)
theorem u_629 : Cond.selects "AutoTeller" ⟨"AutoTeller", "cassette", "(II)I"⟩ ⟨"AutoTeller", "cassette", "(II)I"⟩ ∈ wU := mU 629 (by decide +kernel) (by decide +kernel)
theorem u_630 : Cond.code ⟨"AutoTeller", "cassette", "(II)I"⟩ prog_1_method_19_code 3 (Option.some Jvm.ClassFile.FieldType.int) ∈ wU := mU 630 (by decide +kernel) (by decide +kernel)
theorem u_631 : Cond.methodLink "AutoTeller" 112 ⟨"AutoTeller$Notes", "tell", "(II)I"⟩ ∈ wU := mU 631 (by decide +kernel) (by decide +kernel)
theorem u_632 : Cond.instanceMethod ⟨"AutoTeller$Notes", "tell", "(II)I"⟩ ∈ wU := mU 632 (by decide +kernel) (by decide +kernel)
theorem u_633 : Cond.selects "AutoTeller$Notes" ⟨"AutoTeller$Notes", "tell", "(II)I"⟩ ⟨"AutoTeller$Notes", "tell", "(II)I"⟩ ∈ wU := mU 633 (by decide +kernel) (by decide +kernel)
theorem u_634 : Cond.code ⟨"AutoTeller$Notes", "tell", "(II)I"⟩ prog_7_method_3_code 3 (Option.some Jvm.ClassFile.FieldType.int) ∈ wU := mU 634 (by decide +kernel) (by decide +kernel)
theorem u_636 : Cond.instanceMethod ⟨"AutoTeller", "mix", "(II)I"⟩ ∈ wU := mU 636 (by decide +kernel) (by decide +kernel)
theorem u_637 : Cond.selects "AutoTeller" ⟨"AutoTeller", "mix", "(II)I"⟩ ⟨"AutoTeller", "mix", "(II)I"⟩ ∈ wU := mU 637 (by decide +kernel) (by decide +kernel)
theorem u_638 : Cond.code ⟨"AutoTeller", "mix", "(II)I"⟩ prog_1_method_20_code 3 (Option.some Jvm.ClassFile.FieldType.int) ∈ wU := mU 638 (by decide +kernel) (by decide +kernel)
theorem u_639 : Cond.methodLink "AutoTeller" 115 ⟨"AutoTeller$Notes", "mixedOf", "(II)I"⟩ ∈ wU := mU 639 (by decide +kernel) (by decide +kernel)
theorem u_640 : Cond.instanceMethod ⟨"AutoTeller$Notes", "mixedOf", "(II)I"⟩ ∈ wU := mU 640 (by decide +kernel) (by decide +kernel)
theorem u_641 : Cond.selects "AutoTeller$Notes" ⟨"AutoTeller$Notes", "mixedOf", "(II)I"⟩ ⟨"AutoTeller$Notes", "mixedOf", "(II)I"⟩ ∈ wU := mU 641 (by decide +kernel) (by decide +kernel)
theorem u_642 : Cond.code ⟨"AutoTeller$Notes", "mixedOf", "(II)I"⟩ prog_7_method_4_code 3 (Option.some Jvm.ClassFile.FieldType.int) ∈ wU := mU 642 (by decide +kernel) (by decide +kernel)
theorem u_643 : Cond.methodLink "AutoTeller$Notes" 50 ⟨"AutoTeller$Notes", "findMix", "(I)Z"⟩ ∈ wU := mU 643 (by decide +kernel) (by decide +kernel)
theorem u_645 : Cond.instanceMethod ⟨"AutoTeller", "balance", "(I)J"⟩ ∈ wU := mU 645 (by decide +kernel) (by decide +kernel)
theorem u_646 : Cond.selects "AutoTeller" ⟨"AutoTeller", "balance", "(I)J"⟩ ⟨"AutoTeller", "balance", "(I)J"⟩ ∈ wU := mU 646 (by decide +kernel) (by decide +kernel)
theorem u_647 : Cond.code ⟨"AutoTeller", "balance", "(I)J"⟩ prog_1_method_21_code 2 (Option.some Jvm.ClassFile.FieldType.long) ∈ wU := mU 647 (by decide +kernel) (by decide +kernel)
theorem u_648 : Cond.methodLink "AutoTeller" 118 ⟨"AutoTeller$Host", "balanceOf", "(I)J"⟩ ∈ wU := mU 648 (by decide +kernel) (by decide +kernel)
theorem u_649 : Cond.instanceMethod ⟨"AutoTeller$Host", "balanceOf", "(I)J"⟩ ∈ wU := mU 649 (by decide +kernel) (by decide +kernel)
theorem u_650 : Cond.selects "AutoTeller$Host" ⟨"AutoTeller$Host", "balanceOf", "(I)J"⟩ ⟨"AutoTeller$Host", "balanceOf", "(I)J"⟩ ∈ wU := mU 650 (by decide +kernel) (by decide +kernel)
theorem u_651 : Cond.code ⟨"AutoTeller$Host", "balanceOf", "(I)J"⟩ prog_2_method_4_code 2 (Option.some Jvm.ClassFile.FieldType.long) ∈ wU := mU 651 (by decide +kernel) (by decide +kernel)
theorem u_652 : Cond.constantLong "AutoTeller$Host" 64 (-1) ∈ wU := mU 652 (by decide +kernel) (by decide +kernel)
theorem u_654 : Cond.instanceMethod ⟨"AutoTeller", "ofCard", "(II)I"⟩ ∈ wU := mU 654 (by decide +kernel) (by decide +kernel)
theorem u_655 : Cond.selects "AutoTeller" ⟨"AutoTeller", "ofCard", "(II)I"⟩ ⟨"AutoTeller", "ofCard", "(II)I"⟩ ∈ wU := mU 655 (by decide +kernel) (by decide +kernel)
theorem u_656 : Cond.code ⟨"AutoTeller", "ofCard", "(II)I"⟩ prog_1_method_22_code 3 (Option.some Jvm.ClassFile.FieldType.int) ∈ wU := mU 656 (by decide +kernel) (by decide +kernel)
theorem u_657 : Cond.methodLink "AutoTeller" 122 ⟨"AutoTeller$Host", "triesOf", "(I)I"⟩ ∈ wU := mU 657 (by decide +kernel) (by decide +kernel)
theorem u_658 : Cond.instanceMethod ⟨"AutoTeller$Host", "triesOf", "(I)I"⟩ ∈ wU := mU 658 (by decide +kernel) (by decide +kernel)
theorem u_659 : Cond.selects "AutoTeller$Host" ⟨"AutoTeller$Host", "triesOf", "(I)I"⟩ ⟨"AutoTeller$Host", "triesOf", "(I)I"⟩ ∈ wU := mU 659 (by decide +kernel) (by decide +kernel)
theorem u_660 : Cond.code ⟨"AutoTeller$Host", "triesOf", "(I)I"⟩ prog_2_method_5_code 2 (Option.some Jvm.ClassFile.FieldType.int) ∈ wU := mU 660 (by decide +kernel) (by decide +kernel)
theorem u_661 : Cond.methodLink "AutoTeller" 125 ⟨"AutoTeller$Machine", "keptOf", "(I)I"⟩ ∈ wU := mU 661 (by decide +kernel) (by decide +kernel)
theorem u_662 : Cond.instanceMethod ⟨"AutoTeller$Machine", "keptOf", "(I)I"⟩ ∈ wU := mU 662 (by decide +kernel) (by decide +kernel)
theorem u_663 : Cond.selects "AutoTeller$Machine" ⟨"AutoTeller$Machine", "keptOf", "(I)I"⟩ ⟨"AutoTeller$Machine", "keptOf", "(I)I"⟩ ∈ wU := mU 663 (by decide +kernel) (by decide +kernel)
theorem u_664 : Cond.code ⟨"AutoTeller$Machine", "keptOf", "(I)I"⟩ prog_6_method_5_code 2 (Option.some Jvm.ClassFile.FieldType.int) ∈ wU := mU 664 (by decide +kernel) (by decide +kernel)
theorem u_665 : Cond.methodLink "AutoTeller" 128 ⟨"AutoTeller$Host", "accountOf", "(I)I"⟩ ∈ wU := mU 665 (by decide +kernel) (by decide +kernel)
theorem u_666 : Cond.instanceMethod ⟨"AutoTeller$Host", "accountOf", "(I)I"⟩ ∈ wU := mU 666 (by decide +kernel) (by decide +kernel)
theorem u_667 : Cond.selects "AutoTeller$Host" ⟨"AutoTeller$Host", "accountOf", "(I)I"⟩ ⟨"AutoTeller$Host", "accountOf", "(I)I"⟩ ∈ wU := mU 667 (by decide +kernel) (by decide +kernel)
theorem u_668 : Cond.code ⟨"AutoTeller$Host", "accountOf", "(I)I"⟩ prog_2_method_6_code 2 (Option.some Jvm.ClassFile.FieldType.int) ∈ wU := mU 668 (by decide +kernel) (by decide +kernel)
theorem u_670 : Cond.instanceMethod ⟨"AutoTeller", "record", "(II)I"⟩ ∈ wU := mU 670 (by decide +kernel) (by decide +kernel)
theorem u_671 : Cond.selects "AutoTeller" ⟨"AutoTeller", "record", "(II)I"⟩ ⟨"AutoTeller", "record", "(II)I"⟩ ∈ wU := mU 671 (by decide +kernel) (by decide +kernel)
theorem u_672 : Cond.code ⟨"AutoTeller", "record", "(II)I"⟩ prog_1_method_23_code 3 (Option.some Jvm.ClassFile.FieldType.int) ∈ wU := mU 672 (by decide +kernel) (by decide +kernel)
theorem u_673 : Cond.methodLink "AutoTeller" 135 ⟨"AutoTeller$Journal", "tell", "(II)I"⟩ ∈ wU := mU 673 (by decide +kernel) (by decide +kernel)
theorem u_675 : Cond.instanceMethod ⟨"AutoTeller", "count", "(I)J"⟩ ∈ wU := mU 675 (by decide +kernel) (by decide +kernel)
theorem u_676 : Cond.selects "AutoTeller" ⟨"AutoTeller", "count", "(I)J"⟩ ⟨"AutoTeller", "count", "(I)J"⟩ ∈ wU := mU 676 (by decide +kernel) (by decide +kernel)
theorem u_677 : Cond.code ⟨"AutoTeller", "count", "(I)J"⟩ prog_1_method_24_code 2 (Option.some Jvm.ClassFile.FieldType.long) ∈ wU := mU 677 (by decide +kernel) (by decide +kernel)
theorem u_678 : Cond.constantLong "AutoTeller" 145 (-1) ∈ wU := mU 678 (by decide +kernel) (by decide +kernel)
theorem u_685 : Cond.fieldLink "AutoTellerModel" 7 "AutoTellerModel" "balances" "[J" ∈ wU := mU 685 (by decide +kernel) (by decide +kernel)
theorem u_686 : Cond.fieldLink "AutoTellerModel" 13 "AutoTellerModel" "accountOf" "[I" ∈ wU := mU 686 (by decide +kernel) (by decide +kernel)
theorem u_687 : Cond.fieldLink "AutoTellerModel" 17 "AutoTellerModel" "pinOf" "[I" ∈ wU := mU 687 (by decide +kernel) (by decide +kernel)
theorem u_688 : Cond.fieldLink "AutoTellerModel" 20 "AutoTellerModel" "tries" "[I" ∈ wU := mU 688 (by decide +kernel) (by decide +kernel)
theorem u_689 : Cond.fieldLink "AutoTellerModel" 23 "AutoTellerModel" "pinCode" "[I" ∈ wU := mU 689 (by decide +kernel) (by decide +kernel)
theorem u_690 : Cond.fieldLink "AutoTellerModel" 26 "AutoTellerModel" "debitCode" "[I" ∈ wU := mU 690 (by decide +kernel) (by decide +kernel)
theorem u_691 : Cond.fieldLink "AutoTellerModel" 29 "AutoTellerModel" "debitAccount" "[I" ∈ wU := mU 691 (by decide +kernel) (by decide +kernel)
theorem u_692 : Cond.fieldLink "AutoTellerModel" 32 "AutoTellerModel" "debitAmount" "[I" ∈ wU := mU 692 (by decide +kernel) (by decide +kernel)
theorem u_693 : Cond.fieldLink "AutoTellerModel" 35 "AutoTellerModel" "isReversed" "[Z" ∈ wU := mU 693 (by decide +kernel) (by decide +kernel)
theorem u_694 : Cond.fieldLink "AutoTellerModel" 132 "AutoTellerModel" "off" "J" ∈ wU := mU 694 (by decide +kernel) (by decide +kernel)
theorem u_695 : Cond.fieldLink "AutoTellerModel" 39 "AutoTellerModel" "denomination" "[I" ∈ wU := mU 695 (by decide +kernel) (by decide +kernel)
theorem u_696 : Cond.fieldLink "AutoTellerModel" 42 "AutoTellerModel" "notes" "[I" ∈ wU := mU 696 (by decide +kernel) (by decide +kernel)
theorem u_697 : Cond.fieldLink "AutoTellerModel" 45 "AutoTellerModel" "stacked" "[I" ∈ wU := mU 697 (by decide +kernel) (by decide +kernel)
theorem u_698 : Cond.fieldLink "AutoTellerModel" 48 "AutoTellerModel" "inTray" "[I" ∈ wU := mU 698 (by decide +kernel) (by decide +kernel)
theorem u_699 : Cond.fieldLink "AutoTellerModel" 51 "AutoTellerModel" "inBin" "[I" ∈ wU := mU 699 (by decide +kernel) (by decide +kernel)
theorem u_700 : Cond.fieldLink "AutoTellerModel" 161 "AutoTellerModel" "stackedWorth" "J" ∈ wU := mU 700 (by decide +kernel) (by decide +kernel)
theorem u_701 : Cond.fieldLink "AutoTellerModel" 177 "AutoTellerModel" "trayWorth" "J" ∈ wU := mU 701 (by decide +kernel) (by decide +kernel)
theorem u_702 : Cond.fieldLink "AutoTellerModel" 180 "AutoTellerModel" "everWorth" "J" ∈ wU := mU 702 (by decide +kernel) (by decide +kernel)
theorem u_703 : Cond.fieldLink "AutoTellerModel" 54 "AutoTellerModel" "isKept" "[Z" ∈ wU := mU 703 (by decide +kernel) (by decide +kernel)
theorem u_704 : Cond.fieldLink "AutoTellerModel" 57 "AutoTellerModel" "records" "[I" ∈ wU := mU 704 (by decide +kernel) (by decide +kernel)
theorem u_705 : Cond.fieldLink "AutoTellerModel" 139 "AutoTellerModel" "recordCount" "I" ∈ wU := mU 705 (by decide +kernel) (by decide +kernel)
theorem u_706 : Cond.fieldLink "AutoTellerModel" 60 "AutoTellerModel" "nextTrace" "I" ∈ wU := mU 706 (by decide +kernel) (by decide +kernel)
theorem u_707 : Cond.fieldLink "AutoTellerModel" 151 "AutoTellerModel" "openings" "I" ∈ wU := mU 707 (by decide +kernel) (by decide +kernel)
theorem u_708 : Cond.fieldLink "AutoTellerModel" 64 "AutoTellerModel" "isOn" "Z" ∈ wU := mU 708 (by decide +kernel) (by decide +kernel)
theorem u_709 : Cond.fieldLink "AutoTellerModel" 68 "AutoTellerModel" "armed" "I" ∈ wU := mU 709 (by decide +kernel) (by decide +kernel)
theorem u_710 : Cond.fieldLink "AutoTellerModel" 168 "AutoTellerModel" "phase" "I" ∈ wU := mU 710 (by decide +kernel) (by decide +kernel)
theorem u_711 : Cond.fieldLink "AutoTellerModel" 71 "AutoTellerModel" "slotCard" "I" ∈ wU := mU 711 (by decide +kernel) (by decide +kernel)
theorem u_712 : Cond.fieldLink "AutoTellerModel" 145 "AutoTellerModel" "trace" "I" ∈ wU := mU 712 (by decide +kernel) (by decide +kernel)
theorem u_713 : Cond.fieldLink "AutoTellerModel" 74 "AutoTellerModel" "cardAtHand" "I" ∈ wU := mU 713 (by decide +kernel) (by decide +kernel)
theorem u_714 : Cond.fieldLink "AutoTellerModel" 148 "AutoTellerModel" "amount" "I" ∈ wU := mU 714 (by decide +kernel) (by decide +kernel)
theorem u_715 : Cond.fieldLink "AutoTellerModel" 77 "AutoTellerModel" "line" "[I" ∈ wU := mU 715 (by decide +kernel) (by decide +kernel)
theorem u_716 : Cond.fieldLink "AutoTellerModel" 89 "AutoTellerModel" "flying" "I" ∈ wU := mU 716 (by decide +kernel) (by decide +kernel)
theorem u_717 : Cond.fieldLink "AutoTellerModel" 110 "AutoTellerModel" "dropped" "I" ∈ wU := mU 717 (by decide +kernel) (by decide +kernel)
theorem u_718 : Cond.fieldLink "AutoTellerModel" 96 "AutoTellerModel" "lost" "I" ∈ wU := mU 718 (by decide +kernel) (by decide +kernel)
theorem u_719 : Cond.fieldLink "AutoTellerModel" 80 "AutoTellerModel" "letter" "[I" ∈ wU := mU 719 (by decide +kernel) (by decide +kernel)
theorem u_720 : Cond.fieldLink "AutoTellerModel" 83 "AutoTellerModel" "mixed" "[I" ∈ wU := mU 720 (by decide +kernel) (by decide +kernel)
theorem u_795 : Cond.instanceMethod ⟨"AutoTellerModel", "account", "(IJ)Z"⟩ ∈ wU := mU 795 (by decide +kernel) (by decide +kernel)
theorem u_796 : Cond.selects "AutoTellerModel" ⟨"AutoTellerModel", "account", "(IJ)Z"⟩ ⟨"AutoTellerModel", "account", "(IJ)Z"⟩ ∈ wU := mU 796 (by decide +kernel) (by decide +kernel)
theorem u_797 : Cond.code ⟨"AutoTellerModel", "account", "(IJ)Z"⟩ prog_9_method_3_code 4 (Option.some Jvm.ClassFile.FieldType.boolean) ∈ wU := mU 797 (by decide +kernel) (by decide +kernel)
theorem u_798 : Cond.constantLong "AutoTellerModel" 86 1000000000 ∈ wU := mU 798 (by decide +kernel) (by decide +kernel)
theorem u_800 : Cond.instanceMethod ⟨"AutoTellerModel", "card", "(III)Z"⟩ ∈ wU := mU 800 (by decide +kernel) (by decide +kernel)
theorem u_801 : Cond.selects "AutoTellerModel" ⟨"AutoTellerModel", "card", "(III)Z"⟩ ⟨"AutoTellerModel", "card", "(III)Z"⟩ ∈ wU := mU 801 (by decide +kernel) (by decide +kernel)
theorem u_802 : Cond.code ⟨"AutoTellerModel", "card", "(III)Z"⟩ prog_9_method_4_code 4 (Option.some Jvm.ClassFile.FieldType.boolean) ∈ wU := mU 802 (by decide +kernel) (by decide +kernel)
theorem u_804 : Cond.instanceMethod ⟨"AutoTellerModel", "load", "(III)Z"⟩ ∈ wU := mU 804 (by decide +kernel) (by decide +kernel)
theorem u_805 : Cond.selects "AutoTellerModel" ⟨"AutoTellerModel", "load", "(III)Z"⟩ ⟨"AutoTellerModel", "load", "(III)Z"⟩ ∈ wU := mU 805 (by decide +kernel) (by decide +kernel)
theorem u_806 : Cond.code ⟨"AutoTellerModel", "load", "(III)Z"⟩ prog_9_method_23_code 4 (Option.some Jvm.ClassFile.FieldType.boolean) ∈ wU := mU 806 (by decide +kernel) (by decide +kernel)
theorem u_808 : Cond.instanceMethod ⟨"AutoTellerModel", "insert", "(I)Z"⟩ ∈ wU := mU 808 (by decide +kernel) (by decide +kernel)
theorem u_809 : Cond.selects "AutoTellerModel" ⟨"AutoTellerModel", "insert", "(I)Z"⟩ ⟨"AutoTellerModel", "insert", "(I)Z"⟩ ∈ wU := mU 809 (by decide +kernel) (by decide +kernel)
theorem u_810 : Cond.code ⟨"AutoTellerModel", "insert", "(I)Z"⟩ prog_9_method_24_code 2 (Option.some Jvm.ClassFile.FieldType.boolean) ∈ wU := mU 810 (by decide +kernel) (by decide +kernel)
theorem u_812 : Cond.instanceMethod ⟨"AutoTellerModel", "pin", "(I)Z"⟩ ∈ wU := mU 812 (by decide +kernel) (by decide +kernel)
theorem u_813 : Cond.selects "AutoTellerModel" ⟨"AutoTellerModel", "pin", "(I)Z"⟩ ⟨"AutoTellerModel", "pin", "(I)Z"⟩ ∈ wU := mU 813 (by decide +kernel) (by decide +kernel)
theorem u_814 : Cond.code ⟨"AutoTellerModel", "pin", "(I)Z"⟩ prog_9_method_25_code 2 (Option.some Jvm.ClassFile.FieldType.boolean) ∈ wU := mU 814 (by decide +kernel) (by decide +kernel)
theorem u_815 : Cond.methodLink "AutoTellerModel" 164 ⟨"AutoTellerModel", "sendStep", "(II)Z"⟩ ∈ wU := mU 815 (by decide +kernel) (by decide +kernel)
theorem u_817 : Cond.instanceMethod ⟨"AutoTellerModel", "sendStep", "(II)Z"⟩ ∈ wU := mU 817 (by decide +kernel) (by decide +kernel)
theorem u_818 : Cond.code ⟨"AutoTellerModel", "sendStep", "(II)Z"⟩ prog_9_method_17_code 3 (Option.some Jvm.ClassFile.FieldType.boolean) ∈ wU := mU 818 (by decide +kernel) (by decide +kernel)
theorem u_819 : Cond.methodLink "AutoTellerModel" 142 ⟨"AutoTellerModel", "step", "()Z"⟩ ∈ wU := mU 819 (by decide +kernel) (by decide +kernel)
theorem u_821 : Cond.instanceMethod ⟨"AutoTellerModel", "step", "()Z"⟩ ∈ wU := mU 821 (by decide +kernel) (by decide +kernel)
theorem u_822 : Cond.code ⟨"AutoTellerModel", "step", "()Z"⟩ prog_9_method_14_code 1 (Option.some Jvm.ClassFile.FieldType.boolean) ∈ wU := mU 822 (by decide +kernel) (by decide +kernel)
theorem u_823 : Cond.methodLink "AutoTellerModel" 136 ⟨"AutoTellerModel", "goOff", "()V"⟩ ∈ wU := mU 823 (by decide +kernel) (by decide +kernel)
theorem u_825 : Cond.instanceMethod ⟨"AutoTellerModel", "goOff", "()V"⟩ ∈ wU := mU 825 (by decide +kernel) (by decide +kernel)
theorem u_826 : Cond.code ⟨"AutoTellerModel", "goOff", "()V"⟩ prog_9_method_15_code 1 (Option.none : Option Jvm.ClassFile.FieldType) ∈ wU := mU 826 (by decide +kernel) (by decide +kernel)
theorem u_827 : Cond.methodLink "AutoTellerModel" 128 ⟨"AutoTellerModel", "send", "(IIIIII)V"⟩ ∈ wU := mU 827 (by decide +kernel) (by decide +kernel)
theorem u_829 : Cond.instanceMethod ⟨"AutoTellerModel", "send", "(IIIIII)V"⟩ ∈ wU := mU 829 (by decide +kernel) (by decide +kernel)
theorem u_830 : Cond.code ⟨"AutoTellerModel", "send", "(IIIIII)V"⟩ prog_9_method_7_code 9 (Option.none : Option Jvm.ClassFile.FieldType) ∈ wU := mU 830 (by decide +kernel) (by decide +kernel)
theorem u_831 : Cond.methodLink "AutoTellerModel" 92 ⟨"AutoTellerModel", "drop", "(I)V"⟩ ∈ wU := mU 831 (by decide +kernel) (by decide +kernel)
theorem u_833 : Cond.instanceMethod ⟨"AutoTellerModel", "drop", "(I)V"⟩ ∈ wU := mU 833 (by decide +kernel) (by decide +kernel)
theorem u_834 : Cond.code ⟨"AutoTellerModel", "drop", "(I)V"⟩ prog_9_method_6_code 3 (Option.none : Option Jvm.ClassFile.FieldType) ∈ wU := mU 834 (by decide +kernel) (by decide +kernel)
theorem u_835 : Cond.methodLink "AutoTellerModel" 99 ⟨"AutoTellerModel", "check", "([II)I"⟩ ∈ wU := mU 835 (by decide +kernel) (by decide +kernel)
theorem u_836 : Cond.static ⟨"AutoTellerModel", "check", "([II)I"⟩ ∈ wU := mU 836 (by decide +kernel) (by decide +kernel)
theorem u_837 : Cond.code ⟨"AutoTellerModel", "check", "([II)I"⟩ prog_9_method_5_code 6 (Option.some Jvm.ClassFile.FieldType.int) ∈ wU := mU 837 (by decide +kernel) (by decide +kernel)
theorem u_838 : Cond.constant "AutoTellerModel" 88 65535 ∈ wU := mU 838 (by decide +kernel) (by decide +kernel)
theorem u_840 : Cond.instanceMethod ⟨"AutoTellerModel", "ask", "(I)I"⟩ ∈ wU := mU 840 (by decide +kernel) (by decide +kernel)
theorem u_841 : Cond.selects "AutoTellerModel" ⟨"AutoTellerModel", "ask", "(I)I"⟩ ⟨"AutoTellerModel", "ask", "(I)I"⟩ ∈ wU := mU 841 (by decide +kernel) (by decide +kernel)
theorem u_842 : Cond.code ⟨"AutoTellerModel", "ask", "(I)I"⟩ prog_9_method_26_code 2 (Option.some Jvm.ClassFile.FieldType.int) ∈ wU := mU 842 (by decide +kernel) (by decide +kernel)
theorem u_843 : Cond.constant "AutoTellerModel" 117 40000 ∈ wU := mU 843 (by decide +kernel) (by decide +kernel)
theorem u_844 : Cond.methodLink "AutoTellerModel" 174 ⟨"AutoTellerModel", "findMix", "(I)Z"⟩ ∈ wU := mU 844 (by decide +kernel) (by decide +kernel)
theorem u_846 : Cond.instanceMethod ⟨"AutoTellerModel", "findMix", "(I)Z"⟩ ∈ wU := mU 846 (by decide +kernel) (by decide +kernel)
theorem u_847 : Cond.code ⟨"AutoTellerModel", "findMix", "(I)Z"⟩ prog_9_method_22_code 8 (Option.some Jvm.ClassFile.FieldType.boolean) ∈ wU := mU 847 (by decide +kernel) (by decide +kernel)
theorem u_848 : Cond.methodLink "AutoTellerModel" 154 ⟨"AutoTellerModel", "record", "(I)Z"⟩ ∈ wU := mU 848 (by decide +kernel) (by decide +kernel)
theorem u_850 : Cond.instanceMethod ⟨"AutoTellerModel", "record", "(I)Z"⟩ ∈ wU := mU 850 (by decide +kernel) (by decide +kernel)
theorem u_851 : Cond.code ⟨"AutoTellerModel", "record", "(I)Z"⟩ prog_9_method_16_code 3 (Option.some Jvm.ClassFile.FieldType.boolean) ∈ wU := mU 851 (by decide +kernel) (by decide +kernel)
theorem u_853 : Cond.instanceMethod ⟨"AutoTellerModel", "eject", "()Z"⟩ ∈ wU := mU 853 (by decide +kernel) (by decide +kernel)
theorem u_854 : Cond.selects "AutoTellerModel" ⟨"AutoTellerModel", "eject", "()Z"⟩ ⟨"AutoTellerModel", "eject", "()Z"⟩ ∈ wU := mU 854 (by decide +kernel) (by decide +kernel)
theorem u_855 : Cond.code ⟨"AutoTellerModel", "eject", "()Z"⟩ prog_9_method_27_code 1 (Option.some Jvm.ClassFile.FieldType.boolean) ∈ wU := mU 855 (by decide +kernel) (by decide +kernel)
theorem u_857 : Cond.instanceMethod ⟨"AutoTellerModel", "take", "()I"⟩ ∈ wU := mU 857 (by decide +kernel) (by decide +kernel)
theorem u_858 : Cond.selects "AutoTellerModel" ⟨"AutoTellerModel", "take", "()I"⟩ ⟨"AutoTellerModel", "take", "()I"⟩ ∈ wU := mU 858 (by decide +kernel) (by decide +kernel)
theorem u_859 : Cond.code ⟨"AutoTellerModel", "take", "()I"⟩ prog_9_method_28_code 3 (Option.some Jvm.ClassFile.FieldType.int) ∈ wU := mU 859 (by decide +kernel) (by decide +kernel)
theorem u_861 : Cond.instanceMethod ⟨"AutoTellerModel", "timeout", "()Z"⟩ ∈ wU := mU 861 (by decide +kernel) (by decide +kernel)
theorem u_862 : Cond.selects "AutoTellerModel" ⟨"AutoTellerModel", "timeout", "()Z"⟩ ⟨"AutoTellerModel", "timeout", "()Z"⟩ ∈ wU := mU 862 (by decide +kernel) (by decide +kernel)
theorem u_863 : Cond.code ⟨"AutoTellerModel", "timeout", "()Z"⟩ prog_9_method_29_code 1 (Option.some Jvm.ClassFile.FieldType.boolean) ∈ wU := mU 863 (by decide +kernel) (by decide +kernel)
theorem u_864 : Cond.methodLink "AutoTellerModel" 183 ⟨"AutoTellerModel", "reverse", "(Z)V"⟩ ∈ wU := mU 864 (by decide +kernel) (by decide +kernel)
theorem u_866 : Cond.instanceMethod ⟨"AutoTellerModel", "reverse", "(Z)V"⟩ ∈ wU := mU 866 (by decide +kernel) (by decide +kernel)
theorem u_867 : Cond.code ⟨"AutoTellerModel", "reverse", "(Z)V"⟩ prog_9_method_19_code 3 (Option.none : Option Jvm.ClassFile.FieldType) ∈ wU := mU 867 (by decide +kernel) (by decide +kernel)
theorem u_868 : Cond.methodLink "AutoTellerModel" 158 ⟨"AutoTellerModel", "hasStacked", "()Z"⟩ ∈ wU := mU 868 (by decide +kernel) (by decide +kernel)
theorem u_870 : Cond.instanceMethod ⟨"AutoTellerModel", "hasStacked", "()Z"⟩ ∈ wU := mU 870 (by decide +kernel) (by decide +kernel)
theorem u_871 : Cond.code ⟨"AutoTellerModel", "hasStacked", "()Z"⟩ prog_9_method_18_code 1 (Option.some Jvm.ClassFile.FieldType.boolean) ∈ wU := mU 871 (by decide +kernel) (by decide +kernel)
theorem u_873 : Cond.instanceMethod ⟨"AutoTellerModel", "deliver", "(I)I"⟩ ∈ wU := mU 873 (by decide +kernel) (by decide +kernel)
theorem u_874 : Cond.selects "AutoTellerModel" ⟨"AutoTellerModel", "deliver", "(I)I"⟩ ⟨"AutoTellerModel", "deliver", "(I)I"⟩ ∈ wU := mU 874 (by decide +kernel) (by decide +kernel)
theorem u_875 : Cond.code ⟨"AutoTellerModel", "deliver", "(I)I"⟩ prog_9_method_31_code 2 (Option.some Jvm.ClassFile.FieldType.int) ∈ wU := mU 875 (by decide +kernel) (by decide +kernel)
theorem u_876 : Cond.methodLink "AutoTellerModel" 187 ⟨"AutoTellerModel", "isLetter", "(I)Z"⟩ ∈ wU := mU 876 (by decide +kernel) (by decide +kernel)
theorem u_878 : Cond.instanceMethod ⟨"AutoTellerModel", "isLetter", "(I)Z"⟩ ∈ wU := mU 878 (by decide +kernel) (by decide +kernel)
theorem u_879 : Cond.code ⟨"AutoTellerModel", "isLetter", "(I)Z"⟩ prog_9_method_30_code 2 (Option.some Jvm.ClassFile.FieldType.boolean) ∈ wU := mU 879 (by decide +kernel) (by decide +kernel)
theorem u_880 : Cond.methodLink "AutoTellerModel" 190 ⟨"AutoTellerModel", "come", "(IZ)V"⟩ ∈ wU := mU 880 (by decide +kernel) (by decide +kernel)
theorem u_882 : Cond.instanceMethod ⟨"AutoTellerModel", "come", "(IZ)V"⟩ ∈ wU := mU 882 (by decide +kernel) (by decide +kernel)
theorem u_883 : Cond.code ⟨"AutoTellerModel", "come", "(IZ)V"⟩ prog_9_method_9_code 6 (Option.none : Option Jvm.ClassFile.FieldType) ∈ wU := mU 883 (by decide +kernel) (by decide +kernel)
theorem u_884 : Cond.methodLink "AutoTellerModel" 103 ⟨"AutoTellerModel", "machineTakes", "()Z"⟩ ∈ wU := mU 884 (by decide +kernel) (by decide +kernel)
theorem u_886 : Cond.instanceMethod ⟨"AutoTellerModel", "machineTakes", "()Z"⟩ ∈ wU := mU 886 (by decide +kernel) (by decide +kernel)
theorem u_887 : Cond.code ⟨"AutoTellerModel", "machineTakes", "()Z"⟩ prog_9_method_20_code 3 (Option.some Jvm.ClassFile.FieldType.boolean) ∈ wU := mU 887 (by decide +kernel) (by decide +kernel)
theorem u_888 : Cond.methodLink "AutoTellerModel" 113 ⟨"AutoTellerModel", "numberAt", "(I)I"⟩ ∈ wU := mU 888 (by decide +kernel) (by decide +kernel)
theorem u_890 : Cond.instanceMethod ⟨"AutoTellerModel", "numberAt", "(I)I"⟩ ∈ wU := mU 890 (by decide +kernel) (by decide +kernel)
theorem u_891 : Cond.code ⟨"AutoTellerModel", "numberAt", "(I)I"⟩ prog_9_method_8_code 2 (Option.some Jvm.ClassFile.FieldType.int) ∈ wU := mU 891 (by decide +kernel) (by decide +kernel)
theorem u_892 : Cond.methodLink "AutoTellerModel" 171 ⟨"AutoTellerModel", "giveOut", "()V"⟩ ∈ wU := mU 892 (by decide +kernel) (by decide +kernel)
theorem u_894 : Cond.instanceMethod ⟨"AutoTellerModel", "giveOut", "()V"⟩ ∈ wU := mU 894 (by decide +kernel) (by decide +kernel)
theorem u_895 : Cond.code ⟨"AutoTellerModel", "giveOut", "()V"⟩ prog_9_method_21_code 3 (Option.none : Option Jvm.ClassFile.FieldType) ∈ wU := mU 895 (by decide +kernel) (by decide +kernel)
theorem u_896 : Cond.methodLink "AutoTellerModel" 107 ⟨"AutoTellerModel", "hostTakes", "()Z"⟩ ∈ wU := mU 896 (by decide +kernel) (by decide +kernel)
theorem u_898 : Cond.instanceMethod ⟨"AutoTellerModel", "hostTakes", "()Z"⟩ ∈ wU := mU 898 (by decide +kernel) (by decide +kernel)
theorem u_899 : Cond.code ⟨"AutoTellerModel", "hostTakes", "()Z"⟩ prog_9_method_10_code 7 (Option.some Jvm.ClassFile.FieldType.boolean) ∈ wU := mU 899 (by decide +kernel) (by decide +kernel)
theorem u_900 : Cond.methodLink "AutoTellerModel" 118 ⟨"AutoTellerModel", "onPin", "(III)I"⟩ ∈ wU := mU 900 (by decide +kernel) (by decide +kernel)
theorem u_902 : Cond.instanceMethod ⟨"AutoTellerModel", "onPin", "(III)I"⟩ ∈ wU := mU 902 (by decide +kernel) (by decide +kernel)
theorem u_903 : Cond.code ⟨"AutoTellerModel", "onPin", "(III)I"⟩ prog_9_method_11_code 5 (Option.some Jvm.ClassFile.FieldType.int) ∈ wU := mU 903 (by decide +kernel) (by decide +kernel)
theorem u_904 : Cond.methodLink "AutoTellerModel" 122 ⟨"AutoTellerModel", "onDebit", "(III)I"⟩ ∈ wU := mU 904 (by decide +kernel) (by decide +kernel)
theorem u_906 : Cond.instanceMethod ⟨"AutoTellerModel", "onDebit", "(III)I"⟩ ∈ wU := mU 906 (by decide +kernel) (by decide +kernel)
theorem u_907 : Cond.code ⟨"AutoTellerModel", "onDebit", "(III)I"⟩ prog_9_method_12_code 5 (Option.some Jvm.ClassFile.FieldType.int) ∈ wU := mU 907 (by decide +kernel) (by decide +kernel)
theorem u_908 : Cond.methodLink "AutoTellerModel" 125 ⟨"AutoTellerModel", "onReversal", "(I)I"⟩ ∈ wU := mU 908 (by decide +kernel) (by decide +kernel)
theorem u_910 : Cond.instanceMethod ⟨"AutoTellerModel", "onReversal", "(I)I"⟩ ∈ wU := mU 910 (by decide +kernel) (by decide +kernel)
theorem u_911 : Cond.code ⟨"AutoTellerModel", "onReversal", "(I)I"⟩ prog_9_method_13_code 2 (Option.some Jvm.ClassFile.FieldType.int) ∈ wU := mU 911 (by decide +kernel) (by decide +kernel)
theorem u_913 : Cond.instanceMethod ⟨"AutoTellerModel", "twice", "(I)I"⟩ ∈ wU := mU 913 (by decide +kernel) (by decide +kernel)
theorem u_914 : Cond.selects "AutoTellerModel" ⟨"AutoTellerModel", "twice", "(I)I"⟩ ⟨"AutoTellerModel", "twice", "(I)I"⟩ ∈ wU := mU 914 (by decide +kernel) (by decide +kernel)
theorem u_915 : Cond.code ⟨"AutoTellerModel", "twice", "(I)I"⟩ prog_9_method_32_code 2 (Option.some Jvm.ClassFile.FieldType.int) ∈ wU := mU 915 (by decide +kernel) (by decide +kernel)
theorem u_917 : Cond.instanceMethod ⟨"AutoTellerModel", "lose", "(I)I"⟩ ∈ wU := mU 917 (by decide +kernel) (by decide +kernel)
theorem u_918 : Cond.selects "AutoTellerModel" ⟨"AutoTellerModel", "lose", "(I)I"⟩ ⟨"AutoTellerModel", "lose", "(I)I"⟩ ∈ wU := mU 918 (by decide +kernel) (by decide +kernel)
theorem u_919 : Cond.code ⟨"AutoTellerModel", "lose", "(I)I"⟩ prog_9_method_33_code 2 (Option.some Jvm.ClassFile.FieldType.int) ∈ wU := mU 919 (by decide +kernel) (by decide +kernel)
theorem u_921 : Cond.instanceMethod ⟨"AutoTellerModel", "poke", "(III)Z"⟩ ∈ wU := mU 921 (by decide +kernel) (by decide +kernel)
theorem u_922 : Cond.selects "AutoTellerModel" ⟨"AutoTellerModel", "poke", "(III)Z"⟩ ⟨"AutoTellerModel", "poke", "(III)Z"⟩ ∈ wU := mU 922 (by decide +kernel) (by decide +kernel)
theorem u_923 : Cond.code ⟨"AutoTellerModel", "poke", "(III)Z"⟩ prog_9_method_34_code 4 (Option.some Jvm.ClassFile.FieldType.boolean) ∈ wU := mU 923 (by decide +kernel) (by decide +kernel)
theorem u_925 : Cond.instanceMethod ⟨"AutoTellerModel", "letter", "(II)I"⟩ ∈ wU := mU 925 (by decide +kernel) (by decide +kernel)
theorem u_926 : Cond.selects "AutoTellerModel" ⟨"AutoTellerModel", "letter", "(II)I"⟩ ⟨"AutoTellerModel", "letter", "(II)I"⟩ ∈ wU := mU 926 (by decide +kernel) (by decide +kernel)
theorem u_927 : Cond.code ⟨"AutoTellerModel", "letter", "(II)I"⟩ prog_9_method_35_code 3 (Option.some Jvm.ClassFile.FieldType.int) ∈ wU := mU 927 (by decide +kernel) (by decide +kernel)
theorem u_929 : Cond.instanceMethod ⟨"AutoTellerModel", "cut", "()Z"⟩ ∈ wU := mU 929 (by decide +kernel) (by decide +kernel)
theorem u_930 : Cond.selects "AutoTellerModel" ⟨"AutoTellerModel", "cut", "()Z"⟩ ⟨"AutoTellerModel", "cut", "()Z"⟩ ∈ wU := mU 930 (by decide +kernel) (by decide +kernel)
theorem u_931 : Cond.code ⟨"AutoTellerModel", "cut", "()Z"⟩ prog_9_method_36_code 1 (Option.some Jvm.ClassFile.FieldType.boolean) ∈ wU := mU 931 (by decide +kernel) (by decide +kernel)
theorem u_933 : Cond.instanceMethod ⟨"AutoTellerModel", "arm", "(I)Z"⟩ ∈ wU := mU 933 (by decide +kernel) (by decide +kernel)
theorem u_934 : Cond.selects "AutoTellerModel" ⟨"AutoTellerModel", "arm", "(I)Z"⟩ ⟨"AutoTellerModel", "arm", "(I)Z"⟩ ∈ wU := mU 934 (by decide +kernel) (by decide +kernel)
theorem u_935 : Cond.code ⟨"AutoTellerModel", "arm", "(I)Z"⟩ prog_9_method_37_code 2 (Option.some Jvm.ClassFile.FieldType.boolean) ∈ wU := mU 935 (by decide +kernel) (by decide +kernel)
theorem u_937 : Cond.instanceMethod ⟨"AutoTellerModel", "power", "()Z"⟩ ∈ wU := mU 937 (by decide +kernel) (by decide +kernel)
theorem u_938 : Cond.selects "AutoTellerModel" ⟨"AutoTellerModel", "power", "()Z"⟩ ⟨"AutoTellerModel", "power", "()Z"⟩ ∈ wU := mU 938 (by decide +kernel) (by decide +kernel)
theorem u_939 : Cond.code ⟨"AutoTellerModel", "power", "()Z"⟩ prog_9_method_38_code 4 (Option.some Jvm.ClassFile.FieldType.boolean) ∈ wU := mU 939 (by decide +kernel) (by decide +kernel)
theorem u_941 : Cond.instanceMethod ⟨"AutoTellerModel", "cassette", "(II)I"⟩ ∈ wU := mU 941 (by decide +kernel) (by decide +kernel)
theorem u_942 : Cond.selects "AutoTellerModel" ⟨"AutoTellerModel", "cassette", "(II)I"⟩ ⟨"AutoTellerModel", "cassette", "(II)I"⟩ ∈ wU := mU 942 (by decide +kernel) (by decide +kernel)
theorem u_943 : Cond.code ⟨"AutoTellerModel", "cassette", "(II)I"⟩ prog_9_method_39_code 3 (Option.some Jvm.ClassFile.FieldType.int) ∈ wU := mU 943 (by decide +kernel) (by decide +kernel)
theorem u_945 : Cond.instanceMethod ⟨"AutoTellerModel", "mix", "(II)I"⟩ ∈ wU := mU 945 (by decide +kernel) (by decide +kernel)
theorem u_946 : Cond.selects "AutoTellerModel" ⟨"AutoTellerModel", "mix", "(II)I"⟩ ⟨"AutoTellerModel", "mix", "(II)I"⟩ ∈ wU := mU 946 (by decide +kernel) (by decide +kernel)
theorem u_947 : Cond.code ⟨"AutoTellerModel", "mix", "(II)I"⟩ prog_9_method_40_code 3 (Option.some Jvm.ClassFile.FieldType.int) ∈ wU := mU 947 (by decide +kernel) (by decide +kernel)
theorem u_949 : Cond.instanceMethod ⟨"AutoTellerModel", "balance", "(I)J"⟩ ∈ wU := mU 949 (by decide +kernel) (by decide +kernel)
theorem u_950 : Cond.selects "AutoTellerModel" ⟨"AutoTellerModel", "balance", "(I)J"⟩ ⟨"AutoTellerModel", "balance", "(I)J"⟩ ∈ wU := mU 950 (by decide +kernel) (by decide +kernel)
theorem u_951 : Cond.code ⟨"AutoTellerModel", "balance", "(I)J"⟩ prog_9_method_41_code 2 (Option.some Jvm.ClassFile.FieldType.long) ∈ wU := mU 951 (by decide +kernel) (by decide +kernel)
theorem u_952 : Cond.constantLong "AutoTellerModel" 194 (-1) ∈ wU := mU 952 (by decide +kernel) (by decide +kernel)
theorem u_954 : Cond.instanceMethod ⟨"AutoTellerModel", "ofCard", "(II)I"⟩ ∈ wU := mU 954 (by decide +kernel) (by decide +kernel)
theorem u_955 : Cond.selects "AutoTellerModel" ⟨"AutoTellerModel", "ofCard", "(II)I"⟩ ⟨"AutoTellerModel", "ofCard", "(II)I"⟩ ∈ wU := mU 955 (by decide +kernel) (by decide +kernel)
theorem u_956 : Cond.code ⟨"AutoTellerModel", "ofCard", "(II)I"⟩ prog_9_method_42_code 3 (Option.some Jvm.ClassFile.FieldType.int) ∈ wU := mU 956 (by decide +kernel) (by decide +kernel)
theorem u_958 : Cond.instanceMethod ⟨"AutoTellerModel", "record", "(II)I"⟩ ∈ wU := mU 958 (by decide +kernel) (by decide +kernel)
theorem u_959 : Cond.selects "AutoTellerModel" ⟨"AutoTellerModel", "record", "(II)I"⟩ ⟨"AutoTellerModel", "record", "(II)I"⟩ ∈ wU := mU 959 (by decide +kernel) (by decide +kernel)
theorem u_960 : Cond.code ⟨"AutoTellerModel", "record", "(II)I"⟩ prog_9_method_43_code 3 (Option.some Jvm.ClassFile.FieldType.int) ∈ wU := mU 960 (by decide +kernel) (by decide +kernel)
theorem u_962 : Cond.instanceMethod ⟨"AutoTellerModel", "count", "(I)J"⟩ ∈ wU := mU 962 (by decide +kernel) (by decide +kernel)
theorem u_963 : Cond.selects "AutoTellerModel" ⟨"AutoTellerModel", "count", "(I)J"⟩ ⟨"AutoTellerModel", "count", "(I)J"⟩ ∈ wU := mU 963 (by decide +kernel) (by decide +kernel)
theorem u_964 : Cond.code ⟨"AutoTellerModel", "count", "(I)J"⟩ prog_9_method_44_code 2 (Option.some Jvm.ClassFile.FieldType.long) ∈ wU := mU 964 (by decide +kernel) (by decide +kernel)
theorem Y_A_isWithin : Ys y_A_isWithin prog_1_method_26_code 6 (some .boolean) 3 := ⟨u_266, u_1, u_267, by decide, by decide, by decide +kernel⟩
theorem Y_H_isAccount : Ys y_H_isAccount prog_2_method_13_code 1 (some .boolean) 1 := ⟨u_262, u_4, u_263, by decide, by decide, by decide +kernel⟩
theorem Y_H_setBalance : Yv y_H_setBalance prog_2_method_2_code 4 (some .boolean) 2 := ⟨u_258, u_259, u_4, u_260, by decide, by decide, by decide +kernel⟩
theorem Y_A_account : Yv y_A_account prog_1_method_2_code 4 (some .boolean) 2 := ⟨u_254, u_255, u_1, u_256, by decide, by decide, by decide +kernel⟩
theorem Y_A_isCard : Ys y_A_isCard prog_1_method_27_code 1 (some .boolean) 1 := ⟨u_278, u_1, u_279, by decide, by decide, by decide +kernel⟩
theorem Y_A_isPin : Ys y_A_isPin prog_1_method_28_code 2 (some .boolean) 1 := ⟨u_283, u_1, u_284, by decide, by decide, by decide +kernel⟩
theorem Y_H_tellCard : Yv y_H_tellCard prog_2_method_3_code 4 (some .boolean) 3 := ⟨u_274, u_275, u_4, u_276, by decide, by decide, by decide +kernel⟩
theorem Y_A_card : Yv y_A_card prog_1_method_3_code 4 (some .boolean) 3 := ⟨u_270, u_271, u_1, u_272, by decide, by decide, by decide +kernel⟩
theorem Y_O_isCassette : Ys y_O_isCassette prog_7_method_15_code 1 (some .boolean) 1 := ⟨u_299, u_7, u_300, by decide, by decide, by decide +kernel⟩
theorem Y_O_fill : Yv y_O_fill prog_7_method_2_code 4 (some .boolean) 3 := ⟨u_295, u_296, u_7, u_297, by decide, by decide, by decide +kernel⟩
theorem Y_M_fillCassette : Yv y_M_fillCassette prog_6_method_2_code 4 (some .boolean) 3 := ⟨u_291, u_292, u_6, u_293, by decide, by decide, by decide +kernel⟩
theorem Y_A_load : Yv y_A_load prog_1_method_4_code 4 (some .boolean) 3 := ⟨u_287, u_288, u_1, u_289, by decide, by decide, by decide +kernel⟩
theorem Y_M_putCardIn : Yv y_M_putCardIn prog_6_method_3_code 2 (some .boolean) 1 := ⟨u_309, u_310, u_6, u_311, by decide, by decide, by decide +kernel⟩
theorem Y_A_insert : Yv y_A_insert prog_1_method_5_code 2 (some .boolean) 1 := ⟨u_305, u_306, u_1, u_307, by decide, by decide, by decide +kernel⟩
theorem Y_M_takeTrace : Yv y_M_takeTrace prog_6_method_20_code 1 none 0 := ⟨u_324, (mUs (q := y_M_takeTrace) 0 (by decide +kernel) (by decide +kernel)), u_6, u_325, by decide, by decide, by decide +kernel⟩
theorem Y_M_mayStep : Yv y_M_mayStep prog_6_method_21_code 1 (some .boolean) 0 := ⟨u_332, (mUs (q := y_M_mayStep) 2 (by decide +kernel) (by decide +kernel)), u_6, u_333, by decide, by decide, by decide +kernel⟩
theorem Y_E_writeNumber : Yv y_E_writeNumber prog_4_method_11_code 5 none 2 := ⟨u_352, (mUs (q := y_E_writeNumber) 3 (by decide +kernel) (by decide +kernel)), u_3, u_353, by decide, by decide, by decide +kernel⟩
theorem Y_E_reckonCheck : Yv y_E_reckonCheck prog_4_method_10_code 5 (some .int) 0 := ⟨u_356, (mUs (q := y_E_reckonCheck) 4 (by decide +kernel) (by decide +kernel)), u_3, u_357, by decide, by decide, by decide +kernel⟩
theorem Y_E_write : Yv y_E_write prog_4_method_2_code 8 none 5 := ⟨u_347, u_348, u_3, u_349, by decide, by decide, by decide +kernel⟩
theorem Y_N_has : Yv y_N_has prog_5_method_2_code 2 (some .boolean) 1 := ⟨u_343, u_344, u_2, u_345, by decide, by decide, by decide +kernel⟩
theorem Y_N_remove : Yv y_N_remove prog_5_method_5_code 4 none 1 := ⟨u_339, u_340, u_2, u_341, by decide, by decide, by decide +kernel⟩
theorem Y_N_post : Yv y_N_post prog_5_method_3_code 9 none 6 := ⟨u_335, u_336, u_2, u_337, by decide, by decide, by decide +kernel⟩
theorem Y_M_send : Yv y_M_send prog_6_method_23_code 3 (some .boolean) 2 := ⟨u_328, (mUs (q := y_M_send) 1 (by decide +kernel) (by decide +kernel)), u_6, u_329, by decide, by decide, by decide +kernel⟩
theorem Y_M_beginPinCheck : Yv y_M_beginPinCheck prog_6_method_6_code 2 (some .boolean) 1 := ⟨u_318, u_319, u_6, u_320, by decide, by decide, by decide +kernel⟩
theorem Y_A_pin : Yv y_A_pin prog_1_method_6_code 2 (some .boolean) 1 := ⟨u_314, u_315, u_1, u_316, by decide, by decide, by decide +kernel⟩
theorem Y_A_isAmount : Ys y_A_isAmount prog_1_method_29_code 2 (some .boolean) 1 := ⟨u_368, u_1, u_369, by decide, by decide, by decide +kernel⟩
theorem Y_O_findLargest : Yv y_O_findLargest prog_7_method_7_code 2 none 0 := ⟨u_378, (mUs (q := y_O_findLargest) 5 (by decide +kernel) (by decide +kernel)), u_7, u_379, by decide, by decide, by decide +kernel⟩
theorem Y_O_mostOf : Yv y_O_mostOf prog_7_method_8_code 7 (some .int) 3 := ⟨u_385, (mUs (q := y_O_mostOf) 6 (by decide +kernel) (by decide +kernel)), u_7, u_386, by decide, by decide, by decide +kernel⟩
theorem Y_O_mixRest : Yv y_O_mixRest prog_7_method_6_code 9 none 3 := ⟨u_389, (mUs (q := y_O_mixRest) 7 (by decide +kernel) (by decide +kernel)), u_7, u_390, by decide, by decide, by decide +kernel⟩
theorem Y_O_findMix : Yv y_O_findMix prog_7_method_5_code 6 (some .boolean) 1 := ⟨u_372, u_373, u_7, u_374, by decide, by decide, by decide +kernel⟩
theorem Y_J_isFull : Yv y_J_isFull prog_3_method_2_code 1 (some .boolean) 0 := ⟨u_396, u_397, u_8, u_398, by decide, by decide, by decide +kernel⟩
theorem Y_J_add : Yv y_J_add prog_3_method_3_code 5 none 4 := ⟨u_400, u_401, u_8, u_402, by decide, by decide, by decide +kernel⟩
theorem Y_M_write : Yv y_M_write prog_6_method_22_code 2 (some .boolean) 1 := ⟨u_393, (mUs (q := y_M_write) 8 (by decide +kernel) (by decide +kernel)), u_6, u_394, by decide, by decide, by decide +kernel⟩
theorem Y_M_beginWithdrawal : Yv y_M_beginWithdrawal prog_6_method_7_code 2 (some .int) 1 := ⟨u_364, u_365, u_6, u_366, by decide, by decide, by decide +kernel⟩
theorem Y_A_ask : Yv y_A_ask prog_1_method_7_code 2 (some .int) 1 := ⟨u_360, u_361, u_1, u_362, by decide, by decide, by decide +kernel⟩
theorem Y_M_endWithoutCard : Yv y_M_endWithoutCard prog_6_method_19_code 1 none 0 := ⟨u_414, (mUs (q := y_M_endWithoutCard) 9 (by decide +kernel) (by decide +kernel)), u_6, u_415, by decide, by decide, by decide +kernel⟩
theorem Y_M_giveCardBack : Yv y_M_giveCardBack prog_6_method_4_code 1 (some .boolean) 0 := ⟨u_409, u_410, u_6, u_411, by decide, by decide, by decide +kernel⟩
theorem Y_A_eject : Yv y_A_eject prog_1_method_8_code 1 (some .boolean) 0 := ⟨u_405, u_406, u_1, u_407, by decide, by decide, by decide +kernel⟩
theorem Y_F_fill : Ys y_F_fill prog_13_method_103_code 4 none 2 := ⟨u_63, u_5, u_64, by decide, by decide, by decide +kernel⟩
theorem Y_O_clearTray : Yv y_O_clearTray prog_7_method_14_code 2 (some .int) 0 := ⟨u_421, u_422, u_7, u_423, by decide, by decide, by decide +kernel⟩
theorem Y_A_take : Yv y_A_take prog_1_method_9_code 1 (some .int) 0 := ⟨u_417, u_418, u_1, u_419, by decide, by decide, by decide +kernel⟩
theorem Y_O_areStacked : Yv y_O_areStacked prog_7_method_10_code 3 (some .boolean) 0 := ⟨u_438, u_439, u_7, u_440, by decide, by decide, by decide +kernel⟩
theorem Y_O_emptyStackerInto : Yv y_O_emptyStackerInto prog_7_method_13_code 3 none 1 := ⟨u_447, (mUs (q := y_O_emptyStackerInto) 11 (by decide +kernel) (by decide +kernel)), u_7, u_448, by decide, by decide, by decide +kernel⟩
theorem Y_O_moveStackerToBin : Yv y_O_moveStackerToBin prog_7_method_12_code 1 none 0 := ⟨u_442, u_443, u_7, u_444, by decide, by decide, by decide +kernel⟩
theorem Y_M_reverse : Yv y_M_reverse prog_6_method_14_code 2 none 1 := ⟨u_435, (mUs (q := y_M_reverse) 10 (by decide +kernel) (by decide +kernel)), u_6, u_436, by decide, by decide, by decide +kernel⟩
theorem Y_M_endWaiting : Yv y_M_endWaiting prog_6_method_8_code 1 (some .boolean) 0 := ⟨u_430, u_431, u_6, u_432, by decide, by decide, by decide +kernel⟩
theorem Y_A_timeout : Yv y_A_timeout prog_1_method_10_code 1 (some .boolean) 0 := ⟨u_426, u_427, u_1, u_428, by decide, by decide, by decide +kernel⟩
theorem Y_E_copyFrom : Yv y_E_copyFrom prog_4_method_3_code 2 none 1 := ⟨u_459, u_460, u_3, u_461, by decide, by decide, by decide +kernel⟩
theorem Y_N_copyTo : Yv y_N_copyTo prog_5_method_4_code 3 none 2 := ⟨u_455, u_456, u_2, u_457, by decide, by decide, by decide +kernel⟩
theorem Y_E_isSound : Yv y_E_isSound prog_4_method_9_code 1 (some .boolean) 0 := ⟨u_475, u_476, u_3, u_477, by decide, by decide, by decide +kernel⟩
theorem Y_E_readNumber : Yv y_E_readNumber prog_4_method_12_code 5 (some .long) 1 := ⟨u_487, (mUs (q := y_E_readNumber) 13 (by decide +kernel) (by decide +kernel)), u_3, u_488, by decide, by decide, by decide +kernel⟩
theorem Y_E_trace : Yv y_E_trace prog_4_method_5_code 1 (some .long) 0 := ⟨u_482, u_483, u_3, u_484, by decide, by decide, by decide +kernel⟩
theorem Y_E_kind : Yv y_E_kind prog_4_method_4_code 1 (some .int) 0 := ⟨u_496, u_497, u_3, u_498, by decide, by decide, by decide +kernel⟩
theorem Y_M_isAwaited : Yv y_M_isAwaited prog_6_method_10_code 2 (some .boolean) 1 := ⟨u_528, (mUs (q := y_M_isAwaited) 18 (by decide +kernel) (by decide +kernel)), u_6, u_529, by decide, by decide, by decide +kernel⟩
theorem Y_E_code : Yv y_E_code prog_4_method_8_code 1 (some .int) 0 := ⟨u_533, u_534, u_3, u_535, by decide, by decide, by decide +kernel⟩
theorem Y_M_endPinCheck : Yv y_M_endPinCheck prog_6_method_11_code 2 none 1 := ⟨u_538, (mUs (q := y_M_endPinCheck) 19 (by decide +kernel) (by decide +kernel)), u_6, u_539, by decide, by decide, by decide +kernel⟩
theorem Y_O_stackOne : Yv y_O_stackOne prog_7_method_9_code 2 none 1 := ⟨u_549, u_550, u_7, u_551, by decide, by decide, by decide +kernel⟩
theorem Y_M_stackMix : Yv y_M_stackMix prog_6_method_13_code 3 (some .boolean) 0 := ⟨u_546, (mUs (q := y_M_stackMix) 21 (by decide +kernel) (by decide +kernel)), u_6, u_547, by decide, by decide, by decide +kernel⟩
theorem Y_O_moveStackerToTray : Yv y_O_moveStackerToTray prog_7_method_11_code 1 none 0 := ⟨u_553, u_554, u_7, u_555, by decide, by decide, by decide +kernel⟩
theorem Y_M_payOut : Yv y_M_payOut prog_6_method_12_code 1 none 0 := ⟨u_542, (mUs (q := y_M_payOut) 20 (by decide +kernel) (by decide +kernel)), u_6, u_543, by decide, by decide, by decide +kernel⟩
theorem Y_M_receive : Yv y_M_receive prog_6_method_9_code 2 none 1 := ⟨u_522, u_523, u_6, u_524, by decide, by decide, by decide +kernel⟩
theorem Y_E_cardNumber : Yv y_E_cardNumber prog_4_method_6_code 1 (some .int) 0 := ⟨u_492, u_493, u_3, u_494, by decide, by decide, by decide +kernel⟩
theorem Y_E_value : Yv y_E_value prog_4_method_7_code 1 (some .long) 0 := ⟨u_500, u_501, u_3, u_502, by decide, by decide, by decide +kernel⟩
theorem Y_H_isUsable : Ys y_H_isUsable prog_2_method_8_code 1 (some .boolean) 1 := ⟨u_479, u_4, u_480, by decide, by decide, by decide +kernel⟩
theorem Y_H_tryPin : Yv y_H_tryPin prog_2_method_10_code 4 (some .int) 2 := ⟨u_510, (mUs (q := y_H_tryPin) 15 (by decide +kernel) (by decide +kernel)), u_4, u_511, by decide, by decide, by decide +kernel⟩
theorem Y_H_takeOff : Yv y_H_takeOff prog_2_method_11_code 5 none 3 := ⟨u_514, (mUs (q := y_H_takeOff) 16 (by decide +kernel) (by decide +kernel)), u_4, u_515, by decide, by decide, by decide +kernel⟩
theorem Y_H_giveBack : Yv y_H_giveBack prog_2_method_12_code 3 none 1 := ⟨u_518, (mUs (q := y_H_giveBack) 17 (by decide +kernel) (by decide +kernel)), u_4, u_519, by decide, by decide, by decide +kernel⟩
theorem Y_H_decide : Yv y_H_decide prog_2_method_9_code 6 (some .int) 4 := ⟨u_506, (mUs (q := y_H_decide) 14 (by decide +kernel) (by decide +kernel)), u_4, u_507, by decide, by decide, by decide +kernel⟩
theorem Y_H_receive : Yv y_H_receive prog_2_method_7_code 8 none 1 := ⟨u_471, u_472, u_4, u_473, by decide, by decide, by decide +kernel⟩
theorem Y_A_handOver : Yv y_A_handOver prog_1_method_25_code 1 none 0 := ⟨u_468, (mUs (q := y_A_handOver) 12 (by decide +kernel) (by decide +kernel)), u_1, u_469, by decide, by decide, by decide +kernel⟩
theorem Y_A_deliver : Yv y_A_deliver prog_1_method_11_code 2 (some .int) 1 := ⟨u_450, u_451, u_1, u_452, by decide, by decide, by decide +kernel⟩
theorem Y_A_twice : Yv y_A_twice prog_1_method_12_code 2 (some .int) 1 := ⟨u_557, u_558, u_1, u_559, by decide, by decide, by decide +kernel⟩
theorem Y_A_lose : Yv y_A_lose prog_1_method_13_code 2 (some .int) 1 := ⟨u_561, u_562, u_1, u_563, by decide, by decide, by decide +kernel⟩
theorem Y_N_changeByte : Yv y_N_changeByte prog_5_method_6_code 4 (some .boolean) 3 := ⟨u_569, u_570, u_2, u_571, by decide, by decide, by decide +kernel⟩
theorem Y_A_poke : Yv y_A_poke prog_1_method_14_code 4 (some .boolean) 3 := ⟨u_565, u_566, u_1, u_567, by decide, by decide, by decide +kernel⟩
theorem Y_N_byteOf : Yv y_N_byteOf prog_5_method_7_code 3 (some .int) 2 := ⟨u_580, u_581, u_2, u_582, by decide, by decide, by decide +kernel⟩
theorem Y_A_letter : Yv y_A_letter prog_1_method_15_code 3 (some .int) 2 := ⟨u_576, u_577, u_1, u_578, by decide, by decide, by decide +kernel⟩
theorem Y_M_switchOff : Yv y_M_switchOff prog_6_method_15_code 1 (some .boolean) 0 := ⟨u_588, u_589, u_6, u_590, by decide, by decide, by decide +kernel⟩
theorem Y_A_cut : Yv y_A_cut prog_1_method_16_code 1 (some .boolean) 0 := ⟨u_584, u_585, u_1, u_586, by decide, by decide, by decide +kernel⟩
theorem Y_M_allowSteps : Yv y_M_allowSteps prog_6_method_16_code 2 (some .boolean) 1 := ⟨u_596, u_597, u_6, u_598, by decide, by decide, by decide +kernel⟩
theorem Y_A_arm : Yv y_A_arm prog_1_method_17_code 2 (some .boolean) 1 := ⟨u_592, u_593, u_1, u_594, by decide, by decide, by decide +kernel⟩
theorem Y_J_tell : Yv y_J_tell prog_3_method_4_code 3 (some .int) 2 := ⟨u_618, u_619, u_8, u_620, by decide, by decide, by decide +kernel⟩
theorem Y_J_lastBegun : Yv y_J_lastBegun prog_3_method_6_code 2 (some .int) 0 := ⟨u_614, u_615, u_8, u_616, by decide, by decide, by decide +kernel⟩
theorem Y_M_recallLastBegun : Yv y_M_recallLastBegun prog_6_method_18_code 2 none 0 := ⟨u_611, (mUs (q := y_M_recallLastBegun) 22 (by decide +kernel) (by decide +kernel)), u_6, u_612, by decide, by decide, by decide +kernel⟩
theorem Y_J_lastKind : Yv y_J_lastKind prog_3_method_5_code 1 (some .int) 0 := ⟨u_624, u_625, u_8, u_626, by decide, by decide, by decide +kernel⟩
theorem Y_M_switchOn : Yv y_M_switchOn prog_6_method_17_code 1 (some .boolean) 0 := ⟨u_606, u_607, u_6, u_608, by decide, by decide, by decide +kernel⟩
theorem Y_A_power : Yv y_A_power prog_1_method_18_code 1 (some .boolean) 0 := ⟨u_602, u_603, u_1, u_604, by decide, by decide, by decide +kernel⟩
theorem Y_O_tell : Yv y_O_tell prog_7_method_3_code 3 (some .int) 2 := ⟨u_632, u_633, u_7, u_634, by decide, by decide, by decide +kernel⟩
theorem Y_A_cassette : Yv y_A_cassette prog_1_method_19_code 3 (some .int) 2 := ⟨u_628, u_629, u_1, u_630, by decide, by decide, by decide +kernel⟩
theorem Y_O_mixedOf : Yv y_O_mixedOf prog_7_method_4_code 3 (some .int) 2 := ⟨u_640, u_641, u_7, u_642, by decide, by decide, by decide +kernel⟩
theorem Y_A_mix : Yv y_A_mix prog_1_method_20_code 3 (some .int) 2 := ⟨u_636, u_637, u_1, u_638, by decide, by decide, by decide +kernel⟩
theorem Y_H_balanceOf : Yv y_H_balanceOf prog_2_method_4_code 2 (some .long) 1 := ⟨u_649, u_650, u_4, u_651, by decide, by decide, by decide +kernel⟩
theorem Y_A_balance : Yv y_A_balance prog_1_method_21_code 2 (some .long) 1 := ⟨u_645, u_646, u_1, u_647, by decide, by decide, by decide +kernel⟩
theorem Y_H_triesOf : Yv y_H_triesOf prog_2_method_5_code 2 (some .int) 1 := ⟨u_658, u_659, u_4, u_660, by decide, by decide, by decide +kernel⟩
theorem Y_M_keptOf : Yv y_M_keptOf prog_6_method_5_code 2 (some .int) 1 := ⟨u_662, u_663, u_6, u_664, by decide, by decide, by decide +kernel⟩
theorem Y_H_accountOf : Yv y_H_accountOf prog_2_method_6_code 2 (some .int) 1 := ⟨u_666, u_667, u_4, u_668, by decide, by decide, by decide +kernel⟩
theorem Y_A_ofCard : Yv y_A_ofCard prog_1_method_22_code 3 (some .int) 2 := ⟨u_654, u_655, u_1, u_656, by decide, by decide, by decide +kernel⟩
theorem Y_A_record : Yv y_A_record prog_1_method_23_code 3 (some .int) 2 := ⟨u_670, u_671, u_1, u_672, by decide, by decide, by decide +kernel⟩
theorem Y_A_count : Yv y_A_count prog_1_method_24_code 2 (some .long) 1 := ⟨u_675, u_676, u_1, u_677, by decide, by decide, by decide +kernel⟩
theorem Y_R_account : Yv y_R_account prog_9_method_3_code 4 (some .boolean) 2 := ⟨u_795, u_796, u_9, u_797, by decide, by decide, by decide +kernel⟩
theorem Y_R_card : Yv y_R_card prog_9_method_4_code 4 (some .boolean) 3 := ⟨u_800, u_801, u_9, u_802, by decide, by decide, by decide +kernel⟩
theorem Y_R_load : Yv y_R_load prog_9_method_23_code 4 (some .boolean) 3 := ⟨u_804, u_805, u_9, u_806, by decide, by decide, by decide +kernel⟩
theorem Y_R_insert : Yv y_R_insert prog_9_method_24_code 2 (some .boolean) 1 := ⟨u_808, u_809, u_9, u_810, by decide, by decide, by decide +kernel⟩
theorem Y_R_goOff : Yv y_R_goOff prog_9_method_15_code 1 none 0 := ⟨u_825, (mUs (q := y_R_goOff) 25 (by decide +kernel) (by decide +kernel)), u_9, u_826, by decide, by decide, by decide +kernel⟩
theorem Y_R_step : Yv y_R_step prog_9_method_14_code 1 (some .boolean) 0 := ⟨u_821, (mUs (q := y_R_step) 24 (by decide +kernel) (by decide +kernel)), u_9, u_822, by decide, by decide, by decide +kernel⟩
theorem Y_R_drop : Yv y_R_drop prog_9_method_6_code 3 none 1 := ⟨u_833, (mUs (q := y_R_drop) 27 (by decide +kernel) (by decide +kernel)), u_9, u_834, by decide, by decide, by decide +kernel⟩
theorem Y_R_check : Ys y_R_check prog_9_method_5_code 6 (some .int) 2 := ⟨u_836, u_9, u_837, by decide, by decide, by decide +kernel⟩
theorem Y_R_send : Yv y_R_send prog_9_method_7_code 9 none 6 := ⟨u_829, (mUs (q := y_R_send) 26 (by decide +kernel) (by decide +kernel)), u_9, u_830, by decide, by decide, by decide +kernel⟩
theorem Y_R_sendStep : Yv y_R_sendStep prog_9_method_17_code 3 (some .boolean) 2 := ⟨u_817, (mUs (q := y_R_sendStep) 23 (by decide +kernel) (by decide +kernel)), u_9, u_818, by decide, by decide, by decide +kernel⟩
theorem Y_R_pin : Yv y_R_pin prog_9_method_25_code 2 (some .boolean) 1 := ⟨u_812, u_813, u_9, u_814, by decide, by decide, by decide +kernel⟩
theorem Y_R_findMix : Yv y_R_findMix prog_9_method_22_code 8 (some .boolean) 1 := ⟨u_846, (mUs (q := y_R_findMix) 28 (by decide +kernel) (by decide +kernel)), u_9, u_847, by decide, by decide, by decide +kernel⟩
theorem Y_R_record : Yv y_R_record prog_9_method_16_code 3 (some .boolean) 1 := ⟨u_850, (mUs (q := y_R_record) 29 (by decide +kernel) (by decide +kernel)), u_9, u_851, by decide, by decide, by decide +kernel⟩
theorem Y_R_ask : Yv y_R_ask prog_9_method_26_code 2 (some .int) 1 := ⟨u_840, u_841, u_9, u_842, by decide, by decide, by decide +kernel⟩
theorem Y_R_eject : Yv y_R_eject prog_9_method_27_code 1 (some .boolean) 0 := ⟨u_853, u_854, u_9, u_855, by decide, by decide, by decide +kernel⟩
theorem Y_R_take : Yv y_R_take prog_9_method_28_code 3 (some .int) 0 := ⟨u_857, u_858, u_9, u_859, by decide, by decide, by decide +kernel⟩
theorem Y_R_hasStacked : Yv y_R_hasStacked prog_9_method_18_code 1 (some .boolean) 0 := ⟨u_870, (mUs (q := y_R_hasStacked) 31 (by decide +kernel) (by decide +kernel)), u_9, u_871, by decide, by decide, by decide +kernel⟩
theorem Y_R_reverse : Yv y_R_reverse prog_9_method_19_code 3 none 1 := ⟨u_866, (mUs (q := y_R_reverse) 30 (by decide +kernel) (by decide +kernel)), u_9, u_867, by decide, by decide, by decide +kernel⟩
theorem Y_R_timeout : Yv y_R_timeout prog_9_method_29_code 1 (some .boolean) 0 := ⟨u_861, u_862, u_9, u_863, by decide, by decide, by decide +kernel⟩
theorem Y_R_isLetter : Yv y_R_isLetter prog_9_method_30_code 2 (some .boolean) 1 := ⟨u_878, (mUs (q := y_R_isLetter) 32 (by decide +kernel) (by decide +kernel)), u_9, u_879, by decide, by decide, by decide +kernel⟩
theorem Y_R_numberAt : Yv y_R_numberAt prog_9_method_8_code 2 (some .int) 1 := ⟨u_890, (mUs (q := y_R_numberAt) 35 (by decide +kernel) (by decide +kernel)), u_9, u_891, by decide, by decide, by decide +kernel⟩
theorem Y_R_giveOut : Yv y_R_giveOut prog_9_method_21_code 3 none 0 := ⟨u_894, (mUs (q := y_R_giveOut) 36 (by decide +kernel) (by decide +kernel)), u_9, u_895, by decide, by decide, by decide +kernel⟩
theorem Y_R_machineTakes : Yv y_R_machineTakes prog_9_method_20_code 3 (some .boolean) 0 := ⟨u_886, (mUs (q := y_R_machineTakes) 34 (by decide +kernel) (by decide +kernel)), u_9, u_887, by decide, by decide, by decide +kernel⟩
theorem Y_R_onPin : Yv y_R_onPin prog_9_method_11_code 5 (some .int) 3 := ⟨u_902, (mUs (q := y_R_onPin) 38 (by decide +kernel) (by decide +kernel)), u_9, u_903, by decide, by decide, by decide +kernel⟩
theorem Y_R_onDebit : Yv y_R_onDebit prog_9_method_12_code 5 (some .int) 3 := ⟨u_906, (mUs (q := y_R_onDebit) 39 (by decide +kernel) (by decide +kernel)), u_9, u_907, by decide, by decide, by decide +kernel⟩
theorem Y_R_onReversal : Yv y_R_onReversal prog_9_method_13_code 2 (some .int) 1 := ⟨u_910, (mUs (q := y_R_onReversal) 40 (by decide +kernel) (by decide +kernel)), u_9, u_911, by decide, by decide, by decide +kernel⟩
theorem Y_R_hostTakes : Yv y_R_hostTakes prog_9_method_10_code 7 (some .boolean) 0 := ⟨u_898, (mUs (q := y_R_hostTakes) 37 (by decide +kernel) (by decide +kernel)), u_9, u_899, by decide, by decide, by decide +kernel⟩
theorem Y_R_come : Yv y_R_come prog_9_method_9_code 6 none 2 := ⟨u_882, (mUs (q := y_R_come) 33 (by decide +kernel) (by decide +kernel)), u_9, u_883, by decide, by decide, by decide +kernel⟩
theorem Y_R_deliver : Yv y_R_deliver prog_9_method_31_code 2 (some .int) 1 := ⟨u_873, u_874, u_9, u_875, by decide, by decide, by decide +kernel⟩
theorem Y_R_twice : Yv y_R_twice prog_9_method_32_code 2 (some .int) 1 := ⟨u_913, u_914, u_9, u_915, by decide, by decide, by decide +kernel⟩
theorem Y_R_lose : Yv y_R_lose prog_9_method_33_code 2 (some .int) 1 := ⟨u_917, u_918, u_9, u_919, by decide, by decide, by decide +kernel⟩
theorem Y_R_poke : Yv y_R_poke prog_9_method_34_code 4 (some .boolean) 3 := ⟨u_921, u_922, u_9, u_923, by decide, by decide, by decide +kernel⟩
theorem Y_R_letter : Yv y_R_letter prog_9_method_35_code 3 (some .int) 2 := ⟨u_925, u_926, u_9, u_927, by decide, by decide, by decide +kernel⟩
theorem Y_R_cut : Yv y_R_cut prog_9_method_36_code 1 (some .boolean) 0 := ⟨u_929, u_930, u_9, u_931, by decide, by decide, by decide +kernel⟩
theorem Y_R_arm : Yv y_R_arm prog_9_method_37_code 2 (some .boolean) 1 := ⟨u_933, u_934, u_9, u_935, by decide, by decide, by decide +kernel⟩
theorem Y_R_power : Yv y_R_power prog_9_method_38_code 4 (some .boolean) 0 := ⟨u_937, u_938, u_9, u_939, by decide, by decide, by decide +kernel⟩
theorem Y_R_cassette : Yv y_R_cassette prog_9_method_39_code 3 (some .int) 2 := ⟨u_941, u_942, u_9, u_943, by decide, by decide, by decide +kernel⟩
theorem Y_R_mix : Yv y_R_mix prog_9_method_40_code 3 (some .int) 2 := ⟨u_945, u_946, u_9, u_947, by decide, by decide, by decide +kernel⟩
theorem Y_R_balance : Yv y_R_balance prog_9_method_41_code 2 (some .long) 1 := ⟨u_949, u_950, u_9, u_951, by decide, by decide, by decide +kernel⟩
theorem Y_R_ofCard : Yv y_R_ofCard prog_9_method_42_code 3 (some .int) 2 := ⟨u_954, u_955, u_9, u_956, by decide, by decide, by decide +kernel⟩
theorem Y_R_recordOf : Yv y_R_recordOf prog_9_method_43_code 3 (some .int) 2 := ⟨u_958, u_959, u_9, u_960, by decide, by decide, by decide +kernel⟩
theorem Y_R_count : Yv y_R_count prog_9_method_44_code 2 (some .long) 1 := ⟨u_962, u_963, u_9, u_964, by decide, by decide, by decide +kernel⟩
def rm_A_isWithin : Room := { frames := 0, cells := 0, slots := 0, locals := 0 }
def rm_H_isAccount : Room := { frames := 1, cells := 0, slots := 0, locals := 25 }
def rm_H_setBalance : Room := { frames := 2, cells := 0, slots := 0, locals := 45 }
def rm_A_account : Room := { frames := 3, cells := 0, slots := 0, locals := 68 }
def rm_A_isCard : Room := { frames := 1, cells := 0, slots := 0, locals := 25 }
def rm_A_isPin : Room := { frames := 1, cells := 0, slots := 0, locals := 25 }
def rm_H_tellCard : Room := { frames := 2, cells := 0, slots := 0, locals := 46 }
def rm_A_card : Room := { frames := 3, cells := 0, slots := 0, locals := 69 }
def rm_O_isCassette : Room := { frames := 0, cells := 0, slots := 0, locals := 0 }
def rm_O_fill : Room := { frames := 1, cells := 0, slots := 0, locals := 25 }
def rm_M_fillCassette : Room := { frames := 2, cells := 0, slots := 0, locals := 48 }
def rm_A_load : Room := { frames := 3, cells := 0, slots := 0, locals := 71 }
def rm_M_putCardIn : Room := { frames := 2, cells := 0, slots := 0, locals := 45 }
def rm_A_insert : Room := { frames := 3, cells := 0, slots := 0, locals := 66 }
def rm_M_takeTrace : Room := { frames := 0, cells := 0, slots := 0, locals := 0 }
def rm_M_mayStep : Room := { frames := 0, cells := 0, slots := 0, locals := 0 }
def rm_E_writeNumber : Room := { frames := 0, cells := 0, slots := 0, locals := 0 }
def rm_E_reckonCheck : Room := { frames := 0, cells := 0, slots := 0, locals := 0 }
def rm_E_write : Room := { frames := 1, cells := 0, slots := 0, locals := 24 }
def rm_N_has : Room := { frames := 0, cells := 0, slots := 0, locals := 0 }
def rm_N_remove : Room := { frames := 1, cells := 0, slots := 0, locals := 21 }
def rm_N_post : Room := { frames := 2, cells := 0, slots := 0, locals := 51 }
def rm_M_send : Room := { frames := 3, cells := 0, slots := 0, locals := 79 }
def rm_M_beginPinCheck : Room := { frames := 4, cells := 0, slots := 0, locals := 101 }
def rm_A_pin : Room := { frames := 5, cells := 0, slots := 0, locals := 122 }
def rm_A_isAmount : Room := { frames := 1, cells := 0, slots := 0, locals := 25 }
def rm_O_findLargest : Room := { frames := 1, cells := 0, slots := 0, locals := 14 }
def rm_O_mostOf : Room := { frames := 0, cells := 0, slots := 0, locals := 0 }
def rm_O_mixRest : Room := { frames := 1, cells := 0, slots := 0, locals := 26 }
def rm_O_findMix : Room := { frames := 2, cells := 0, slots := 0, locals := 54 }
def rm_J_isFull : Room := { frames := 0, cells := 0, slots := 0, locals := 0 }
def rm_J_add : Room := { frames := 1, cells := 0, slots := 0, locals := 20 }
def rm_M_write : Room := { frames := 2, cells := 0, slots := 0, locals := 44 }
def rm_M_beginWithdrawal : Room := { frames := 4, cells := 0, slots := 0, locals := 101 }
def rm_A_ask : Room := { frames := 5, cells := 0, slots := 0, locals := 122 }
def rm_M_endWithoutCard : Room := { frames := 0, cells := 0, slots := 0, locals := 0 }
def rm_M_giveCardBack : Room := { frames := 1, cells := 0, slots := 0, locals := 20 }
def rm_A_eject : Room := { frames := 2, cells := 0, slots := 0, locals := 40 }
def rm_F_fill_inTrayC : Room := { frames := 0, cells := 0, slots := 0, locals := 0 }
def rm_O_clearTray : Room := { frames := 1, cells := 0, slots := 0, locals := 23 }
def rm_A_take : Room := { frames := 2, cells := 0, slots := 0, locals := 44 }
def rm_O_areStacked : Room := { frames := 0, cells := 0, slots := 0, locals := 0 }
def rm_O_emptyStackerInto_inBin : Room := { frames := 0, cells := 0, slots := 0, locals := 0 }
def rm_O_moveStackerToBin : Room := { frames := 1, cells := 0, slots := 0, locals := 22 }
def rm_M_reverse : Room := { frames := 4, cells := 0, slots := 0, locals := 101 }
def rm_M_endWaiting : Room := { frames := 5, cells := 0, slots := 0, locals := 122 }
def rm_A_timeout : Room := { frames := 6, cells := 0, slots := 0, locals := 142 }
def rm_E_copyFrom : Room := { frames := 1, cells := 0, slots := 0, locals := 41 }
def rm_N_copyTo : Room := { frames := 2, cells := 0, slots := 0, locals := 62 }
def rm_E_isSound : Room := { frames := 1, cells := 0, slots := 0, locals := 24 }
def rm_E_readNumber : Room := { frames := 0, cells := 0, slots := 0, locals := 0 }
def rm_E_trace : Room := { frames := 1, cells := 0, slots := 0, locals := 24 }
def rm_E_kind : Room := { frames := 0, cells := 0, slots := 0, locals := 0 }
def rm_M_isAwaited : Room := { frames := 2, cells := 0, slots := 0, locals := 44 }
def rm_E_code : Room := { frames := 0, cells := 0, slots := 0, locals := 0 }
def rm_M_endPinCheck : Room := { frames := 2, cells := 0, slots := 0, locals := 45 }
def rm_O_stackOne : Room := { frames := 1, cells := 0, slots := 0, locals := 20 }
def rm_M_stackMix : Room := { frames := 2, cells := 0, slots := 0, locals := 41 }
def rm_O_emptyStackerInto_inTray : Room := { frames := 0, cells := 0, slots := 0, locals := 0 }
def rm_O_moveStackerToTray : Room := { frames := 1, cells := 0, slots := 0, locals := 22 }
def rm_M_payOut : Room := { frames := 3, cells := 0, slots := 0, locals := 79 }
def rm_M_receive : Room := { frames := 4, cells := 0, slots := 0, locals := 99 }
def rm_E_cardNumber : Room := { frames := 0, cells := 0, slots := 0, locals := 0 }
def rm_E_value : Room := { frames := 1, cells := 0, slots := 0, locals := 24 }
def rm_H_isUsable : Room := { frames := 2, cells := 0, slots := 0, locals := 46 }
def rm_H_tryPin : Room := { frames := 0, cells := 0, slots := 0, locals := 0 }
def rm_H_takeOff : Room := { frames := 2, cells := 0, slots := 0, locals := 45 }
def rm_H_giveBack : Room := { frames := 2, cells := 0, slots := 0, locals := 45 }
def rm_H_decide : Room := { frames := 3, cells := 0, slots := 0, locals := 69 }
def rm_H_receive : Room := { frames := 4, cells := 0, slots := 0, locals := 94 }
def rm_A_handOver : Room := { frames := 5, cells := 0, slots := 0, locals := 121 }
def rm_A_deliver : Room := { frames := 6, cells := 0, slots := 0, locals := 141 }
def rm_A_twice : Room := { frames := 6, cells := 0, slots := 0, locals := 141 }
def rm_A_lose : Room := { frames := 2, cells := 0, slots := 0, locals := 44 }
def rm_N_changeByte : Room := { frames := 1, cells := 0, slots := 0, locals := 25 }
def rm_A_poke : Room := { frames := 2, cells := 0, slots := 0, locals := 48 }
def rm_N_byteOf : Room := { frames := 1, cells := 0, slots := 0, locals := 25 }
def rm_A_letter : Room := { frames := 2, cells := 0, slots := 0, locals := 47 }
def rm_M_switchOff : Room := { frames := 0, cells := 0, slots := 0, locals := 0 }
def rm_A_cut : Room := { frames := 1, cells := 0, slots := 0, locals := 20 }
def rm_M_allowSteps : Room := { frames := 1, cells := 0, slots := 0, locals := 25 }
def rm_A_arm : Room := { frames := 2, cells := 0, slots := 0, locals := 46 }
def rm_J_tell : Room := { frames := 1, cells := 0, slots := 0, locals := 25 }
def rm_J_lastBegun : Room := { frames := 2, cells := 0, slots := 0, locals := 47 }
def rm_M_recallLastBegun : Room := { frames := 3, cells := 0, slots := 0, locals := 68 }
def rm_J_lastKind : Room := { frames := 2, cells := 0, slots := 0, locals := 47 }
def rm_M_switchOn : Room := { frames := 5, cells := 0, slots := 0, locals := 122 }
def rm_A_power : Room := { frames := 6, cells := 0, slots := 0, locals := 142 }
def rm_O_tell : Room := { frames := 1, cells := 0, slots := 0, locals := 20 }
def rm_A_cassette : Room := { frames := 2, cells := 0, slots := 0, locals := 42 }
def rm_O_mixedOf : Room := { frames := 3, cells := 0, slots := 0, locals := 79 }
def rm_A_mix : Room := { frames := 4, cells := 0, slots := 0, locals := 101 }
def rm_H_balanceOf : Room := { frames := 2, cells := 0, slots := 0, locals := 45 }
def rm_A_balance : Room := { frames := 3, cells := 0, slots := 0, locals := 66 }
def rm_H_triesOf : Room := { frames := 2, cells := 0, slots := 0, locals := 45 }
def rm_M_keptOf : Room := { frames := 2, cells := 0, slots := 0, locals := 45 }
def rm_H_accountOf : Room := { frames := 2, cells := 0, slots := 0, locals := 45 }
def rm_A_ofCard : Room := { frames := 3, cells := 0, slots := 0, locals := 66 }
def rm_A_record : Room := { frames := 2, cells := 0, slots := 0, locals := 47 }
def rm_A_count : Room := { frames := 0, cells := 0, slots := 0, locals := 0 }
def rm_R_account : Room := { frames := 0, cells := 0, slots := 0, locals := 0 }
def rm_R_card : Room := { frames := 0, cells := 0, slots := 0, locals := 0 }
def rm_R_load : Room := { frames := 0, cells := 0, slots := 0, locals := 0 }
def rm_R_insert : Room := { frames := 0, cells := 0, slots := 0, locals := 0 }
def rm_R_goOff : Room := { frames := 0, cells := 0, slots := 0, locals := 0 }
def rm_R_step : Room := { frames := 1, cells := 0, slots := 0, locals := 20 }
def rm_R_drop : Room := { frames := 0, cells := 0, slots := 0, locals := 0 }
def rm_R_check_line : Room := { frames := 0, cells := 0, slots := 0, locals := 0 }
def rm_R_send : Room := { frames := 1, cells := 0, slots := 0, locals := 25 }
def rm_R_sendStep : Room := { frames := 2, cells := 0, slots := 0, locals := 53 }
def rm_R_pin : Room := { frames := 3, cells := 0, slots := 0, locals := 75 }
def rm_R_findMix : Room := { frames := 0, cells := 0, slots := 0, locals := 0 }
def rm_R_record : Room := { frames := 2, cells := 0, slots := 0, locals := 40 }
def rm_R_ask : Room := { frames := 3, cells := 0, slots := 0, locals := 75 }
def rm_R_eject : Room := { frames := 0, cells := 0, slots := 0, locals := 0 }
def rm_R_take : Room := { frames := 0, cells := 0, slots := 0, locals := 0 }
def rm_R_hasStacked : Room := { frames := 0, cells := 0, slots := 0, locals := 0 }
def rm_R_reverse : Room := { frames := 3, cells := 0, slots := 0, locals := 75 }
def rm_R_timeout : Room := { frames := 4, cells := 0, slots := 0, locals := 97 }
def rm_R_isLetter : Room := { frames := 0, cells := 0, slots := 0, locals := 0 }
def rm_R_check_letter : Room := { frames := 0, cells := 0, slots := 0, locals := 0 }
def rm_R_numberAt : Room := { frames := 0, cells := 0, slots := 0, locals := 0 }
def rm_R_giveOut : Room := { frames := 3, cells := 0, slots := 0, locals := 62 }
def rm_R_machineTakes : Room := { frames := 4, cells := 0, slots := 0, locals := 84 }
def rm_R_onPin : Room := { frames := 0, cells := 0, slots := 0, locals := 0 }
def rm_R_onDebit : Room := { frames := 0, cells := 0, slots := 0, locals := 0 }
def rm_R_onReversal : Room := { frames := 0, cells := 0, slots := 0, locals := 0 }
def rm_R_hostTakes : Room := { frames := 2, cells := 0, slots := 0, locals := 53 }
def rm_R_come : Room := { frames := 5, cells := 0, slots := 0, locals := 106 }
def rm_R_deliver : Room := { frames := 6, cells := 0, slots := 0, locals := 131 }
def rm_R_twice : Room := { frames := 6, cells := 0, slots := 0, locals := 131 }
def rm_R_lose : Room := { frames := 1, cells := 0, slots := 0, locals := 22 }
def rm_R_poke : Room := { frames := 1, cells := 0, slots := 0, locals := 21 }
def rm_R_letter : Room := { frames := 1, cells := 0, slots := 0, locals := 21 }
def rm_R_cut : Room := { frames := 1, cells := 0, slots := 0, locals := 20 }
def rm_R_arm : Room := { frames := 0, cells := 0, slots := 0, locals := 0 }
def rm_R_power : Room := { frames := 4, cells := 0, slots := 0, locals := 97 }
def rm_R_cassette : Room := { frames := 0, cells := 0, slots := 0, locals := 0 }
def rm_R_mix : Room := { frames := 1, cells := 0, slots := 0, locals := 27 }
def rm_R_balance : Room := { frames := 0, cells := 0, slots := 0, locals := 0 }
def rm_R_ofCard : Room := { frames := 0, cells := 0, slots := 0, locals := 0 }
def rm_R_recordOf : Room := { frames := 0, cells := 0, slots := 0, locals := 0 }
def rm_R_count : Room := { frames := 0, cells := 0, slots := 0, locals := 0 }
