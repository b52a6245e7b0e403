-- ===== PART A: goes FIRST, ahead of the names: the tables' words, and 'selects' of the private methods out of them =====
/-- a private method of a class that the tables say can be made, by its rows of tables_1 -/
def lw_okq (q : MethodName × Nat) : Prop := (q.1.cls ≠ "java/lang/invoke/MethodHandle" ∧ q.1.cls ≠ "java/lang/invoke/VarHandle") ∧ Cond.instantiable q.1.cls q.2 ∈ tables_1 ∧ Cond.privateMethod q.1 ∈ tables_1 ∧ Cond.instanceMethod q.1 ∈ tables_1
theorem lw_p0 : lw_okq (⟨"IntentVats$Tape", "readWord", "()V"⟩, 6) := ⟨⟨by decide +kernel, by decide +kernel⟩, List.mem_of_getElem? (i := 115) (by decide +kernel), List.mem_of_getElem? (i := 255) (by decide +kernel), List.mem_of_getElem? (i := 256) (by decide +kernel)⟩
theorem lw_p1 : lw_okq (⟨"IntentVats$Tape", "readDigits", "()V"⟩, 6) := ⟨⟨by decide +kernel, by decide +kernel⟩, List.mem_of_getElem? (i := 115) (by decide +kernel), List.mem_of_getElem? (i := 260) (by decide +kernel), List.mem_of_getElem? (i := 261) (by decide +kernel)⟩
theorem lw_p2 : lw_okq (⟨"IntentVats$Tape", "readStatement", "(LIntentVats$Mill;)Z"⟩, 6) := ⟨⟨by decide +kernel, by decide +kernel⟩, List.mem_of_getElem? (i := 115) (by decide +kernel), List.mem_of_getElem? (i := 264) (by decide +kernel), List.mem_of_getElem? (i := 265) (by decide +kernel)⟩
theorem lw_p3 : lw_okq (⟨"IntentVats$Tape", "kindNamed", "()I"⟩, 6) := ⟨⟨by decide +kernel, by decide +kernel⟩, List.mem_of_getElem? (i := 115) (by decide +kernel), List.mem_of_getElem? (i := 268) (by decide +kernel), List.mem_of_getElem? (i := 269) (by decide +kernel)⟩
theorem lw_p4 : lw_okq (⟨"IntentVats$Tape", "isName", "(Ljava/lang/String;)Z"⟩, 6) := ⟨⟨by decide +kernel, by decide +kernel⟩, List.mem_of_getElem? (i := 115) (by decide +kernel), List.mem_of_getElem? (i := 273) (by decide +kernel), List.mem_of_getElem? (i := 274) (by decide +kernel)⟩
theorem lw_p5 : lw_okq (⟨"IntentVats$Tape", "readCloth", "(LIntentVats$Mill;I)Z"⟩, 6) := ⟨⟨by decide +kernel, by decide +kernel⟩, List.mem_of_getElem? (i := 115) (by decide +kernel), List.mem_of_getElem? (i := 330) (by decide +kernel), List.mem_of_getElem? (i := 331) (by decide +kernel)⟩
theorem lw_p6 : lw_okq (⟨"IntentVats$Tape", "readNumber", "(II)Z"⟩, 6) := ⟨⟨by decide +kernel, by decide +kernel⟩, List.mem_of_getElem? (i := 115) (by decide +kernel), List.mem_of_getElem? (i := 339) (by decide +kernel), List.mem_of_getElem? (i := 340) (by decide +kernel)⟩
theorem lw_p7 : lw_okq (⟨"IntentVats$Tape", "isStop", "()Z"⟩, 6) := ⟨⟨by decide +kernel, by decide +kernel⟩, List.mem_of_getElem? (i := 115) (by decide +kernel), List.mem_of_getElem? (i := 345) (by decide +kernel), List.mem_of_getElem? (i := 346) (by decide +kernel)⟩
theorem lw_p8 : lw_okq (⟨"IntentVats$Tape", "readVat", "(LIntentVats$Mill;)Z"⟩, 6) := ⟨⟨by decide +kernel, by decide +kernel⟩, List.mem_of_getElem? (i := 115) (by decide +kernel), List.mem_of_getElem? (i := 350) (by decide +kernel), List.mem_of_getElem? (i := 351) (by decide +kernel)⟩
theorem lw_p9 : lw_okq (⟨"IntentVats$Tape", "readName", "(Ljava/lang/String;)Z"⟩, 6) := ⟨⟨by decide +kernel, by decide +kernel⟩, List.mem_of_getElem? (i := 115) (by decide +kernel), List.mem_of_getElem? (i := 355) (by decide +kernel), List.mem_of_getElem? (i := 356) (by decide +kernel)⟩
theorem lw_p10 : lw_okq (⟨"IntentVats$Tape", "readStop", "()Z"⟩, 6) := ⟨⟨by decide +kernel, by decide +kernel⟩, List.mem_of_getElem? (i := 115) (by decide +kernel), List.mem_of_getElem? (i := 359) (by decide +kernel), List.mem_of_getElem? (i := 360) (by decide +kernel)⟩
theorem lw_p11 : lw_okq (⟨"IntentVats$Tape", "readStrong", "(LIntentVats$Mill;)Z"⟩, 6) := ⟨⟨by decide +kernel, by decide +kernel⟩, List.mem_of_getElem? (i := 115) (by decide +kernel), List.mem_of_getElem? (i := 364) (by decide +kernel), List.mem_of_getElem? (i := 365) (by decide +kernel)⟩
theorem lw_p12 : lw_okq (⟨"IntentVats$Tape", "readDay", "(LIntentVats$Mill;)Z"⟩, 6) := ⟨⟨by decide +kernel, by decide +kernel⟩, List.mem_of_getElem? (i := 115) (by decide +kernel), List.mem_of_getElem? (i := 369) (by decide +kernel), List.mem_of_getElem? (i := 370) (by decide +kernel)⟩
theorem lw_p13 : lw_okq (⟨"IntentVats$Tape", "lawNamed", "()I"⟩, 6) := ⟨⟨by decide +kernel, by decide +kernel⟩, List.mem_of_getElem? (i := 115) (by decide +kernel), List.mem_of_getElem? (i := 373) (by decide +kernel), List.mem_of_getElem? (i := 374) (by decide +kernel)⟩
theorem lw_p14 : lw_okq (⟨"IntentVats$Tape", "readLaw", "(LIntentVats$Mill;I)Z"⟩, 6) := ⟨⟨by decide +kernel, by decide +kernel⟩, List.mem_of_getElem? (i := 115) (by decide +kernel), List.mem_of_getElem? (i := 381) (by decide +kernel), List.mem_of_getElem? (i := 382) (by decide +kernel)⟩
theorem lw_p15 : lw_okq (⟨"IntentVats$Mill", "isForOdds", "(I)Z"⟩, 12) := ⟨⟨by decide +kernel, by decide +kernel⟩, List.mem_of_getElem? (i := 27) (by decide +kernel), List.mem_of_getElem? (i := 569) (by decide +kernel), List.mem_of_getElem? (i := 570) (by decide +kernel)⟩
def lw_privs_1 : List (MethodName × Nat) := [(⟨"IntentVats$Tape", "readWord", "()V"⟩, 6), (⟨"IntentVats$Tape", "readDigits", "()V"⟩, 6), (⟨"IntentVats$Tape", "readStatement", "(LIntentVats$Mill;)Z"⟩, 6), (⟨"IntentVats$Tape", "kindNamed", "()I"⟩, 6), (⟨"IntentVats$Tape", "isName", "(Ljava/lang/String;)Z"⟩, 6), (⟨"IntentVats$Tape", "readCloth", "(LIntentVats$Mill;I)Z"⟩, 6), (⟨"IntentVats$Tape", "readNumber", "(II)Z"⟩, 6), (⟨"IntentVats$Tape", "isStop", "()Z"⟩, 6), (⟨"IntentVats$Tape", "readVat", "(LIntentVats$Mill;)Z"⟩, 6), (⟨"IntentVats$Tape", "readName", "(Ljava/lang/String;)Z"⟩, 6), (⟨"IntentVats$Tape", "readStop", "()Z"⟩, 6), (⟨"IntentVats$Tape", "readStrong", "(LIntentVats$Mill;)Z"⟩, 6), (⟨"IntentVats$Tape", "readDay", "(LIntentVats$Mill;)Z"⟩, 6), (⟨"IntentVats$Tape", "lawNamed", "()I"⟩, 6), (⟨"IntentVats$Tape", "readLaw", "(LIntentVats$Mill;I)Z"⟩, 6), (⟨"IntentVats$Mill", "isForOdds", "(I)Z"⟩, 12)]
theorem lw_r1 : ∀ q ∈ lw_privs_1, lw_okq q := List.forall_mem_cons.mpr ⟨lw_p0, List.forall_mem_cons.mpr ⟨lw_p1, List.forall_mem_cons.mpr ⟨lw_p2, List.forall_mem_cons.mpr ⟨lw_p3, List.forall_mem_cons.mpr ⟨lw_p4, List.forall_mem_cons.mpr ⟨lw_p5, List.forall_mem_cons.mpr ⟨lw_p6, List.forall_mem_cons.mpr ⟨lw_p7, List.forall_mem_cons.mpr ⟨lw_p8, List.forall_mem_cons.mpr ⟨lw_p9, List.forall_mem_cons.mpr ⟨lw_p10, List.forall_mem_cons.mpr ⟨lw_p11, List.forall_mem_cons.mpr ⟨lw_p12, List.forall_mem_cons.mpr ⟨lw_p13, List.forall_mem_cons.mpr ⟨lw_p14, List.forall_mem_cons.mpr ⟨lw_p15, fun _ h => absurd h List.not_mem_nil⟩⟩⟩⟩⟩⟩⟩⟩⟩⟩⟩⟩⟩⟩⟩⟩
theorem lw_p16 : lw_okq (⟨"IntentVats$Forecast", "spoiltFromHere", "(LIntentVats$Mill;I)I"⟩, 1) := ⟨⟨by decide +kernel, by decide +kernel⟩, List.mem_of_getElem? (i := 103) (by decide +kernel), List.mem_of_getElem? (i := 606) (by decide +kernel), List.mem_of_getElem? (i := 607) (by decide +kernel)⟩
theorem lw_p17 : lw_okq (⟨"IntentVats$Forecast", "leadsTo", "(LIntentVats$Mill;IIII)Z"⟩, 1) := ⟨⟨by decide +kernel, by decide +kernel⟩, List.mem_of_getElem? (i := 103) (by decide +kernel), List.mem_of_getElem? (i := 618) (by decide +kernel), List.mem_of_getElem? (i := 619) (by decide +kernel)⟩
theorem lw_p18 : lw_okq (⟨"IntentVats$Forecast", "hangJust", "(LIntentVats$Mill;I)V"⟩, 1) := ⟨⟨by decide +kernel, by decide +kernel⟩, List.mem_of_getElem? (i := 103) (by decide +kernel), List.mem_of_getElem? (i := 662) (by decide +kernel), List.mem_of_getElem? (i := 663) (by decide +kernel)⟩
theorem lw_p19 : lw_okq (⟨"IntentVats$Forecast", "fitsAs", "(LIntentVats$Mill;IILIntentVats$SheetRow;)Z"⟩, 1) := ⟨⟨by decide +kernel, by decide +kernel⟩, List.mem_of_getElem? (i := 103) (by decide +kernel), List.mem_of_getElem? (i := 677) (by decide +kernel), List.mem_of_getElem? (i := 678) (by decide +kernel)⟩
theorem lw_p20 : lw_okq (⟨"IntentVats$Forecast", "rowPart", "(II)I"⟩, 1) := ⟨⟨by decide +kernel, by decide +kernel⟩, List.mem_of_getElem? (i := 103) (by decide +kernel), List.mem_of_getElem? (i := 725) (by decide +kernel), List.mem_of_getElem? (i := 726) (by decide +kernel)⟩
theorem lw_p21 : lw_okq (⟨"IntentVats$Acts", "own", "(III)I"⟩, 6) := ⟨⟨by decide +kernel, by decide +kernel⟩, List.mem_of_getElem? (i := 172) (by decide +kernel), List.mem_of_getElem? (i := 850) (by decide +kernel), List.mem_of_getElem? (i := 851) (by decide +kernel)⟩
theorem lw_p22 : lw_okq (⟨"IntentVats$Acts", "body", "(III)I"⟩, 6) := ⟨⟨by decide +kernel, by decide +kernel⟩, List.mem_of_getElem? (i := 172) (by decide +kernel), List.mem_of_getElem? (i := 856) (by decide +kernel), List.mem_of_getElem? (i := 857) (by decide +kernel)⟩
theorem lw_p23 : lw_okq (⟨"IntentVats$Acts", "note", "(I)V"⟩, 6) := ⟨⟨by decide +kernel, by decide +kernel⟩, List.mem_of_getElem? (i := 172) (by decide +kernel), List.mem_of_getElem? (i := 860) (by decide +kernel), List.mem_of_getElem? (i := 861) (by decide +kernel)⟩
theorem lw_p24 : lw_okq (⟨"IntentVats$Acts", "parted", "(II)I"⟩, 6) := ⟨⟨by decide +kernel, by decide +kernel⟩, List.mem_of_getElem? (i := 172) (by decide +kernel), List.mem_of_getElem? (i := 864) (by decide +kernel), List.mem_of_getElem? (i := 865) (by decide +kernel)⟩
theorem lw_p25 : lw_okq (⟨"IntentVatsModel", "anew", "()V"⟩, 25) := ⟨⟨by decide +kernel, by decide +kernel⟩, List.mem_of_getElem? (i := 889) (by decide +kernel), List.mem_of_getElem? (i := 895) (by decide +kernel), List.mem_of_getElem? (i := 896) (by decide +kernel)⟩
theorem lw_p26 : lw_okq (⟨"IntentVatsModel", "becomes", "(II)I"⟩, 25) := ⟨⟨by decide +kernel, by decide +kernel⟩, List.mem_of_getElem? (i := 889) (by decide +kernel), List.mem_of_getElem? (i := 983) (by decide +kernel), List.mem_of_getElem? (i := 984) (by decide +kernel)⟩
theorem lw_p27 : lw_okq (⟨"IntentVatsModel", "adds", "(I)V"⟩, 25) := ⟨⟨by decide +kernel, by decide +kernel⟩, List.mem_of_getElem? (i := 889) (by decide +kernel), List.mem_of_getElem? (i := 1023) (by decide +kernel), List.mem_of_getElem? (i := 1024) (by decide +kernel)⟩
theorem lw_p28 : lw_okq (⟨"IntentVatsModel", "sets", "(III)V"⟩, 25) := ⟨⟨by decide +kernel, by decide +kernel⟩, List.mem_of_getElem? (i := 889) (by decide +kernel), List.mem_of_getElem? (i := 1027) (by decide +kernel), List.mem_of_getElem? (i := 1028) (by decide +kernel)⟩
theorem lw_p29 : lw_okq (⟨"IntentVatsModel", "isCloth", "(I)Z"⟩, 25) := ⟨⟨by decide +kernel, by decide +kernel⟩, List.mem_of_getElem? (i := 889) (by decide +kernel), List.mem_of_getElem? (i := 1035) (by decide +kernel), List.mem_of_getElem? (i := 1036) (by decide +kernel)⟩
theorem lw_p30 : lw_okq (⟨"IntentVatsModel", "its", "(II)I"⟩, 25) := ⟨⟨by decide +kernel, by decide +kernel⟩, List.mem_of_getElem? (i := 889) (by decide +kernel), List.mem_of_getElem? (i := 1040) (by decide +kernel), List.mem_of_getElem? (i := 1041) (by decide +kernel)⟩
theorem lw_p31 : lw_okq (⟨"IntentVatsModel", "takesOf", "(II)I"⟩, 25) := ⟨⟨by decide +kernel, by decide +kernel⟩, List.mem_of_getElem? (i := 889) (by decide +kernel), List.mem_of_getElem? (i := 1049) (by decide +kernel), List.mem_of_getElem? (i := 1050) (by decide +kernel)⟩
def lw_privs_2 : List (MethodName × Nat) := [(⟨"IntentVats$Forecast", "spoiltFromHere", "(LIntentVats$Mill;I)I"⟩, 1), (⟨"IntentVats$Forecast", "leadsTo", "(LIntentVats$Mill;IIII)Z"⟩, 1), (⟨"IntentVats$Forecast", "hangJust", "(LIntentVats$Mill;I)V"⟩, 1), (⟨"IntentVats$Forecast", "fitsAs", "(LIntentVats$Mill;IILIntentVats$SheetRow;)Z"⟩, 1), (⟨"IntentVats$Forecast", "rowPart", "(II)I"⟩, 1), (⟨"IntentVats$Acts", "own", "(III)I"⟩, 6), (⟨"IntentVats$Acts", "body", "(III)I"⟩, 6), (⟨"IntentVats$Acts", "note", "(I)V"⟩, 6), (⟨"IntentVats$Acts", "parted", "(II)I"⟩, 6), (⟨"IntentVatsModel", "anew", "()V"⟩, 25), (⟨"IntentVatsModel", "becomes", "(II)I"⟩, 25), (⟨"IntentVatsModel", "adds", "(I)V"⟩, 25), (⟨"IntentVatsModel", "sets", "(III)V"⟩, 25), (⟨"IntentVatsModel", "isCloth", "(I)Z"⟩, 25), (⟨"IntentVatsModel", "its", "(II)I"⟩, 25), (⟨"IntentVatsModel", "takesOf", "(II)I"⟩, 25)]
theorem lw_r2 : ∀ q ∈ lw_privs_2, lw_okq q := List.forall_mem_cons.mpr ⟨lw_p16, List.forall_mem_cons.mpr ⟨lw_p17, List.forall_mem_cons.mpr ⟨lw_p18, List.forall_mem_cons.mpr ⟨lw_p19, List.forall_mem_cons.mpr ⟨lw_p20, List.forall_mem_cons.mpr ⟨lw_p21, List.forall_mem_cons.mpr ⟨lw_p22, List.forall_mem_cons.mpr ⟨lw_p23, List.forall_mem_cons.mpr ⟨lw_p24, List.forall_mem_cons.mpr ⟨lw_p25, List.forall_mem_cons.mpr ⟨lw_p26, List.forall_mem_cons.mpr ⟨lw_p27, List.forall_mem_cons.mpr ⟨lw_p28, List.forall_mem_cons.mpr ⟨lw_p29, List.forall_mem_cons.mpr ⟨lw_p30, List.forall_mem_cons.mpr ⟨lw_p31, fun _ h => absurd h List.not_mem_nil⟩⟩⟩⟩⟩⟩⟩⟩⟩⟩⟩⟩⟩⟩⟩⟩
theorem lw_p32 : lw_okq (⟨"IntentVatsModel", "fightsOf", "(II)I"⟩, 25) := ⟨⟨by decide +kernel, by decide +kernel⟩, List.mem_of_getElem? (i := 889) (by decide +kernel), List.mem_of_getElem? (i := 1053) (by decide +kernel), List.mem_of_getElem? (i := 1054) (by decide +kernel)⟩
theorem lw_p33 : lw_okq (⟨"IntentVatsModel", "fadesOf", "(I)I"⟩, 25) := ⟨⟨by decide +kernel, by decide +kernel⟩, List.mem_of_getElem? (i := 889) (by decide +kernel), List.mem_of_getElem? (i := 1057) (by decide +kernel), List.mem_of_getElem? (i := 1058) (by decide +kernel)⟩
theorem lw_p34 : lw_okq (⟨"IntentVatsModel", "changed", "(III)I"⟩, 25) := ⟨⟨by decide +kernel, by decide +kernel⟩, List.mem_of_getElem? (i := 889) (by decide +kernel), List.mem_of_getElem? (i := 1065) (by decide +kernel), List.mem_of_getElem? (i := 1066) (by decide +kernel)⟩
theorem lw_p35 : lw_okq (⟨"IntentVatsModel", "dips", "(II)V"⟩, 25) := ⟨⟨by decide +kernel, by decide +kernel⟩, List.mem_of_getElem? (i := 889) (by decide +kernel), List.mem_of_getElem? (i := 1085) (by decide +kernel), List.mem_of_getElem? (i := 1086) (by decide +kernel)⟩
theorem lw_p36 : lw_okq (⟨"IntentVatsModel", "isDeep", "(II)V"⟩, 25) := ⟨⟨by decide +kernel, by decide +kernel⟩, List.mem_of_getElem? (i := 889) (by decide +kernel), List.mem_of_getElem? (i := 1089) (by decide +kernel), List.mem_of_getElem? (i := 1090) (by decide +kernel)⟩
theorem lw_p37 : lw_okq (⟨"IntentVatsModel", "goes", "(I)V"⟩, 25) := ⟨⟨by decide +kernel, by decide +kernel⟩, List.mem_of_getElem? (i := 889) (by decide +kernel), List.mem_of_getElem? (i := 1107) (by decide +kernel), List.mem_of_getElem? (i := 1108) (by decide +kernel)⟩
theorem lw_p38 : lw_okq (⟨"IntentVatsModel", "aDay", "()V"⟩, 25) := ⟨⟨by decide +kernel, by decide +kernel⟩, List.mem_of_getElem? (i := 889) (by decide +kernel), List.mem_of_getElem? (i := 1111) (by decide +kernel), List.mem_of_getElem? (i := 1112) (by decide +kernel)⟩
theorem lw_p39 : lw_okq (⟨"IntentVatsModel", "depths", "()I"⟩, 25) := ⟨⟨by decide +kernel, by decide +kernel⟩, List.mem_of_getElem? (i := 889) (by decide +kernel), List.mem_of_getElem? (i := 1115) (by decide +kernel), List.mem_of_getElem? (i := 1116) (by decide +kernel)⟩
theorem lw_p40 : lw_okq (⟨"IntentVatsModel", "byDraws", "()V"⟩, 25) := ⟨⟨by decide +kernel, by decide +kernel⟩, List.mem_of_getElem? (i := 889) (by decide +kernel), List.mem_of_getElem? (i := 1127) (by decide +kernel), List.mem_of_getElem? (i := 1128) (by decide +kernel)⟩
theorem lw_p41 : lw_okq (⟨"IntentVatsModel", "draw", "()I"⟩, 25) := ⟨⟨by decide +kernel, by decide +kernel⟩, List.mem_of_getElem? (i := 889) (by decide +kernel), List.mem_of_getElem? (i := 1131) (by decide +kernel), List.mem_of_getElem? (i := 1132) (by decide +kernel)⟩
theorem lw_p42 : lw_okq (⟨"IntentVatsModel", "lends", "()V"⟩, 25) := ⟨⟨by decide +kernel, by decide +kernel⟩, List.mem_of_getElem? (i := 889) (by decide +kernel), List.mem_of_getElem? (i := 1141) (by decide +kernel), List.mem_of_getElem? (i := 1142) (by decide +kernel)⟩
theorem lw_p43 : lw_okq (⟨"IntentVatsModel", "laysBack", "()V"⟩, 25) := ⟨⟨by decide +kernel, by decide +kernel⟩, List.mem_of_getElem? (i := 889) (by decide +kernel), List.mem_of_getElem? (i := 1148) (by decide +kernel), List.mem_of_getElem? (i := 1149) (by decide +kernel)⟩
theorem lw_p44 : lw_okq (⟨"IntentVatsModel", "hungSet", "()I"⟩, 25) := ⟨⟨by decide +kernel, by decide +kernel⟩, List.mem_of_getElem? (i := 889) (by decide +kernel), List.mem_of_getElem? (i := 1156) (by decide +kernel), List.mem_of_getElem? (i := 1157) (by decide +kernel)⟩
theorem lw_p45 : lw_okq (⟨"IntentVatsModel", "aboutSet", "()I"⟩, 25) := ⟨⟨by decide +kernel, by decide +kernel⟩, List.mem_of_getElem? (i := 889) (by decide +kernel), List.mem_of_getElem? (i := 1160) (by decide +kernel), List.mem_of_getElem? (i := 1161) (by decide +kernel)⟩
theorem lw_p46 : lw_okq (⟨"IntentVatsModel", "oddsAmong", "()I"⟩, 25) := ⟨⟨by decide +kernel, by decide +kernel⟩, List.mem_of_getElem? (i := 889) (by decide +kernel), List.mem_of_getElem? (i := 1164) (by decide +kernel), List.mem_of_getElem? (i := 1165) (by decide +kernel)⟩
theorem lw_p47 : lw_okq (⟨"IntentVatsModel", "isAtOdds", "(II)Z"⟩, 25) := ⟨⟨by decide +kernel, by decide +kernel⟩, List.mem_of_getElem? (i := 889) (by decide +kernel), List.mem_of_getElem? (i := 1168) (by decide +kernel), List.mem_of_getElem? (i := 1169) (by decide +kernel)⟩
def lw_privs_3 : List (MethodName × Nat) := [(⟨"IntentVatsModel", "fightsOf", "(II)I"⟩, 25), (⟨"IntentVatsModel", "fadesOf", "(I)I"⟩, 25), (⟨"IntentVatsModel", "changed", "(III)I"⟩, 25), (⟨"IntentVatsModel", "dips", "(II)V"⟩, 25), (⟨"IntentVatsModel", "isDeep", "(II)V"⟩, 25), (⟨"IntentVatsModel", "goes", "(I)V"⟩, 25), (⟨"IntentVatsModel", "aDay", "()V"⟩, 25), (⟨"IntentVatsModel", "depths", "()I"⟩, 25), (⟨"IntentVatsModel", "byDraws", "()V"⟩, 25), (⟨"IntentVatsModel", "draw", "()I"⟩, 25), (⟨"IntentVatsModel", "lends", "()V"⟩, 25), (⟨"IntentVatsModel", "laysBack", "()V"⟩, 25), (⟨"IntentVatsModel", "hungSet", "()I"⟩, 25), (⟨"IntentVatsModel", "aboutSet", "()I"⟩, 25), (⟨"IntentVatsModel", "oddsAmong", "()I"⟩, 25), (⟨"IntentVatsModel", "isAtOdds", "(II)Z"⟩, 25)]
theorem lw_r3 : ∀ q ∈ lw_privs_3, lw_okq q := List.forall_mem_cons.mpr ⟨lw_p32, List.forall_mem_cons.mpr ⟨lw_p33, List.forall_mem_cons.mpr ⟨lw_p34, List.forall_mem_cons.mpr ⟨lw_p35, List.forall_mem_cons.mpr ⟨lw_p36, List.forall_mem_cons.mpr ⟨lw_p37, List.forall_mem_cons.mpr ⟨lw_p38, List.forall_mem_cons.mpr ⟨lw_p39, List.forall_mem_cons.mpr ⟨lw_p40, List.forall_mem_cons.mpr ⟨lw_p41, List.forall_mem_cons.mpr ⟨lw_p42, List.forall_mem_cons.mpr ⟨lw_p43, List.forall_mem_cons.mpr ⟨lw_p44, List.forall_mem_cons.mpr ⟨lw_p45, List.forall_mem_cons.mpr ⟨lw_p46, List.forall_mem_cons.mpr ⟨lw_p47, fun _ h => absurd h List.not_mem_nil⟩⟩⟩⟩⟩⟩⟩⟩⟩⟩⟩⟩⟩⟩⟩⟩
theorem lw_p48 : lw_okq (⟨"IntentVatsModel", "behind", "(III)I"⟩, 25) := ⟨⟨by decide +kernel, by decide +kernel⟩, List.mem_of_getElem? (i := 889) (by decide +kernel), List.mem_of_getElem? (i := 1179) (by decide +kernel), List.mem_of_getElem? (i := 1180) (by decide +kernel)⟩
theorem lw_p49 : lw_okq (⟨"IntentVatsModel", "firstAbout", "(II)I"⟩, 25) := ⟨⟨by decide +kernel, by decide +kernel⟩, List.mem_of_getElem? (i := 889) (by decide +kernel), List.mem_of_getElem? (i := 1191) (by decide +kernel), List.mem_of_getElem? (i := 1192) (by decide +kernel)⟩
theorem lw_p50 : lw_okq (⟨"IntentVatsModel", "spoiltIn", "(I)I"⟩, 25) := ⟨⟨by decide +kernel, by decide +kernel⟩, List.mem_of_getElem? (i := 889) (by decide +kernel), List.mem_of_getElem? (i := 1203) (by decide +kernel), List.mem_of_getElem? (i := 1204) (by decide +kernel)⟩
theorem lw_p51 : lw_okq (⟨"IntentVatsModel", "isThrough", "(IIII)Z"⟩, 25) := ⟨⟨by decide +kernel, by decide +kernel⟩, List.mem_of_getElem? (i := 889) (by decide +kernel), List.mem_of_getElem? (i := 1211) (by decide +kernel), List.mem_of_getElem? (i := 1212) (by decide +kernel)⟩
theorem lw_p52 : lw_okq (⟨"IntentVatsModel", "hangs", "(I)V"⟩, 25) := ⟨⟨by decide +kernel, by decide +kernel⟩, List.mem_of_getElem? (i := 889) (by decide +kernel), List.mem_of_getElem? (i := 1239) (by decide +kernel), List.mem_of_getElem? (i := 1240) (by decide +kernel)⟩
theorem lw_p53 : lw_okq (⟨"IntentVatsModel", "isSo", "(III)Z"⟩, 25) := ⟨⟨by decide +kernel, by decide +kernel⟩, List.mem_of_getElem? (i := 889) (by decide +kernel), List.mem_of_getElem? (i := 1250) (by decide +kernel), List.mem_of_getElem? (i := 1251) (by decide +kernel)⟩
theorem lw_p54 : lw_okq (⟨"IntentVatsModel", "next", "()V"⟩, 25) := ⟨⟨by decide +kernel, by decide +kernel⟩, List.mem_of_getElem? (i := 889) (by decide +kernel), List.mem_of_getElem? (i := 1276) (by decide +kernel), List.mem_of_getElem? (i := 1277) (by decide +kernel)⟩
theorem lw_p55 : lw_okq (⟨"IntentVatsModel", "isByte", "(III)Z"⟩, 25) := ⟨⟨by decide +kernel, by decide +kernel⟩, List.mem_of_getElem? (i := 889) (by decide +kernel), List.mem_of_getElem? (i := 1280) (by decide +kernel), List.mem_of_getElem? (i := 1281) (by decide +kernel)⟩
theorem lw_p56 : lw_okq (⟨"IntentVatsModel", "item", "()V"⟩, 25) := ⟨⟨by decide +kernel, by decide +kernel⟩, List.mem_of_getElem? (i := 889) (by decide +kernel), List.mem_of_getElem? (i := 1284) (by decide +kernel), List.mem_of_getElem? (i := 1285) (by decide +kernel)⟩
theorem lw_p57 : lw_okq (⟨"IntentVatsModel", "kindHere", "()I"⟩, 25) := ⟨⟨by decide +kernel, by decide +kernel⟩, List.mem_of_getElem? (i := 889) (by decide +kernel), List.mem_of_getElem? (i := 1288) (by decide +kernel), List.mem_of_getElem? (i := 1289) (by decide +kernel)⟩
theorem lw_p58 : lw_okq (⟨"IntentVatsModel", "isWord", "(Ljava/lang/String;)Z"⟩, 25) := ⟨⟨by decide +kernel, by decide +kernel⟩, List.mem_of_getElem? (i := 889) (by decide +kernel), List.mem_of_getElem? (i := 1293) (by decide +kernel), List.mem_of_getElem? (i := 1294) (by decide +kernel)⟩
theorem lw_p59 : lw_okq (⟨"IntentVatsModel", "lawHere", "()I"⟩, 25) := ⟨⟨by decide +kernel, by decide +kernel⟩, List.mem_of_getElem? (i := 889) (by decide +kernel), List.mem_of_getElem? (i := 1304) (by decide +kernel), List.mem_of_getElem? (i := 1305) (by decide +kernel)⟩
theorem lw_p60 : lw_okq (⟨"IntentVatsModel", "clothTold", "(I)V"⟩, 25) := ⟨⟨by decide +kernel, by decide +kernel⟩, List.mem_of_getElem? (i := 889) (by decide +kernel), List.mem_of_getElem? (i := 1312) (by decide +kernel), List.mem_of_getElem? (i := 1313) (by decide +kernel)⟩
theorem lw_p61 : lw_okq (⟨"IntentVatsModel", "must", "(Z)V"⟩, 25) := ⟨⟨by decide +kernel, by decide +kernel⟩, List.mem_of_getElem? (i := 889) (by decide +kernel), List.mem_of_getElem? (i := 1316) (by decide +kernel), List.mem_of_getElem? (i := 1317) (by decide +kernel)⟩
theorem lw_p62 : lw_okq (⟨"IntentVatsModel", "takes", "(Ljava/lang/String;)Z"⟩, 25) := ⟨⟨by decide +kernel, by decide +kernel⟩, List.mem_of_getElem? (i := 889) (by decide +kernel), List.mem_of_getElem? (i := 1321) (by decide +kernel), List.mem_of_getElem? (i := 1322) (by decide +kernel)⟩
theorem lw_p63 : lw_okq (⟨"IntentVatsModel", "number", "(II)I"⟩, 25) := ⟨⟨by decide +kernel, by decide +kernel⟩, List.mem_of_getElem? (i := 889) (by decide +kernel), List.mem_of_getElem? (i := 1325) (by decide +kernel), List.mem_of_getElem? (i := 1326) (by decide +kernel)⟩
def lw_privs_4 : List (MethodName × Nat) := [(⟨"IntentVatsModel", "behind", "(III)I"⟩, 25), (⟨"IntentVatsModel", "firstAbout", "(II)I"⟩, 25), (⟨"IntentVatsModel", "spoiltIn", "(I)I"⟩, 25), (⟨"IntentVatsModel", "isThrough", "(IIII)Z"⟩, 25), (⟨"IntentVatsModel", "hangs", "(I)V"⟩, 25), (⟨"IntentVatsModel", "isSo", "(III)Z"⟩, 25), (⟨"IntentVatsModel", "next", "()V"⟩, 25), (⟨"IntentVatsModel", "isByte", "(III)Z"⟩, 25), (⟨"IntentVatsModel", "item", "()V"⟩, 25), (⟨"IntentVatsModel", "kindHere", "()I"⟩, 25), (⟨"IntentVatsModel", "isWord", "(Ljava/lang/String;)Z"⟩, 25), (⟨"IntentVatsModel", "lawHere", "()I"⟩, 25), (⟨"IntentVatsModel", "clothTold", "(I)V"⟩, 25), (⟨"IntentVatsModel", "must", "(Z)V"⟩, 25), (⟨"IntentVatsModel", "takes", "(Ljava/lang/String;)Z"⟩, 25), (⟨"IntentVatsModel", "number", "(II)I"⟩, 25)]
theorem lw_r4 : ∀ q ∈ lw_privs_4, lw_okq q := List.forall_mem_cons.mpr ⟨lw_p48, List.forall_mem_cons.mpr ⟨lw_p49, List.forall_mem_cons.mpr ⟨lw_p50, List.forall_mem_cons.mpr ⟨lw_p51, List.forall_mem_cons.mpr ⟨lw_p52, List.forall_mem_cons.mpr ⟨lw_p53, List.forall_mem_cons.mpr ⟨lw_p54, List.forall_mem_cons.mpr ⟨lw_p55, List.forall_mem_cons.mpr ⟨lw_p56, List.forall_mem_cons.mpr ⟨lw_p57, List.forall_mem_cons.mpr ⟨lw_p58, List.forall_mem_cons.mpr ⟨lw_p59, List.forall_mem_cons.mpr ⟨lw_p60, List.forall_mem_cons.mpr ⟨lw_p61, List.forall_mem_cons.mpr ⟨lw_p62, List.forall_mem_cons.mpr ⟨lw_p63, fun _ h => absurd h List.not_mem_nil⟩⟩⟩⟩⟩⟩⟩⟩⟩⟩⟩⟩⟩⟩⟩⟩
theorem lw_p64 : lw_okq (⟨"IntentVatsModel", "figures", "()I"⟩, 25) := ⟨⟨by decide +kernel, by decide +kernel⟩, List.mem_of_getElem? (i := 889) (by decide +kernel), List.mem_of_getElem? (i := 1329) (by decide +kernel), List.mem_of_getElem? (i := 1330) (by decide +kernel)⟩
theorem lw_p65 : lw_okq (⟨"IntentVatsModel", "twoTold", "(IILjava/lang/String;I)V"⟩, 25) := ⟨⟨by decide +kernel, by decide +kernel⟩, List.mem_of_getElem? (i := 889) (by decide +kernel), List.mem_of_getElem? (i := 1337) (by decide +kernel), List.mem_of_getElem? (i := 1338) (by decide +kernel)⟩
theorem lw_p66 : lw_okq (⟨"IntentVatsModel", "lawTold", "(I)V"⟩, 25) := ⟨⟨by decide +kernel, by decide +kernel⟩, List.mem_of_getElem? (i := 889) (by decide +kernel), List.mem_of_getElem? (i := 1344) (by decide +kernel), List.mem_of_getElem? (i := 1345) (by decide +kernel)⟩
theorem lw_p67 : lw_okq (⟨"IntentVatsModel", "isCell", "(II)Z"⟩, 25) := ⟨⟨by decide +kernel, by decide +kernel⟩, List.mem_of_getElem? (i := 889) (by decide +kernel), List.mem_of_getElem? (i := 1358) (by decide +kernel), List.mem_of_getElem? (i := 1359) (by decide +kernel)⟩
theorem lw_p68 : lw_okq (⟨"IntentVatsModel", "isRight", "(II)Z"⟩, 25) := ⟨⟨by decide +kernel, by decide +kernel⟩, List.mem_of_getElem? (i := 889) (by decide +kernel), List.mem_of_getElem? (i := 1370) (by decide +kernel), List.mem_of_getElem? (i := 1371) (by decide +kernel)⟩
theorem lw_p69 : lw_okq (⟨"IntentVatsModel", "isHeld", "(I)Z"⟩, 25) := ⟨⟨by decide +kernel, by decide +kernel⟩, List.mem_of_getElem? (i := 889) (by decide +kernel), List.mem_of_getElem? (i := 1402) (by decide +kernel), List.mem_of_getElem? (i := 1403) (by decide +kernel)⟩
theorem lw_p70 : lw_okq (⟨"IntentVatsModel", "rubs", "(I)I"⟩, 25) := ⟨⟨by decide +kernel, by decide +kernel⟩, List.mem_of_getElem? (i := 889) (by decide +kernel), List.mem_of_getElem? (i := 1413) (by decide +kernel), List.mem_of_getElem? (i := 1414) (by decide +kernel)⟩
theorem lw_p71 : lw_okq (⟨"IntentVatsModel", "linenRubs", "(I)I"⟩, 25) := ⟨⟨by decide +kernel, by decide +kernel⟩, List.mem_of_getElem? (i := 889) (by decide +kernel), List.mem_of_getElem? (i := 1417) (by decide +kernel), List.mem_of_getElem? (i := 1418) (by decide +kernel)⟩
theorem lw_p72 : lw_okq (⟨"IntentVatsModel", "runs", "(I)V"⟩, 25) := ⟨⟨by decide +kernel, by decide +kernel⟩, List.mem_of_getElem? (i := 889) (by decide +kernel), List.mem_of_getElem? (i := 1421) (by decide +kernel), List.mem_of_getElem? (i := 1422) (by decide +kernel)⟩
theorem lw_p73 : lw_okq (⟨"IntentVatsModel", "plainRubs", "(I)I"⟩, 25) := ⟨⟨by decide +kernel, by decide +kernel⟩, List.mem_of_getElem? (i := 889) (by decide +kernel), List.mem_of_getElem? (i := 1425) (by decide +kernel), List.mem_of_getElem? (i := 1426) (by decide +kernel)⟩
theorem lw_p74 : lw_okq (⟨"IntentVatsModel", "steepsAct", "(I)I"⟩, 25) := ⟨⟨by decide +kernel, by decide +kernel⟩, List.mem_of_getElem? (i := 889) (by decide +kernel), List.mem_of_getElem? (i := 1429) (by decide +kernel), List.mem_of_getElem? (i := 1430) (by decide +kernel)⟩
theorem lw_p75 : lw_okq (⟨"IntentVatsModel", "plainSteeps", "(I)I"⟩, 25) := ⟨⟨by decide +kernel, by decide +kernel⟩, List.mem_of_getElem? (i := 889) (by decide +kernel), List.mem_of_getElem? (i := 1433) (by decide +kernel), List.mem_of_getElem? (i := 1434) (by decide +kernel)⟩
theorem lw_p76 : lw_okq (⟨"IntentVatsModel", "parts", "(I)I"⟩, 25) := ⟨⟨by decide +kernel, by decide +kernel⟩, List.mem_of_getElem? (i := 889) (by decide +kernel), List.mem_of_getElem? (i := 1437) (by decide +kernel), List.mem_of_getElem? (i := 1438) (by decide +kernel)⟩
theorem lw_p77 : lw_okq (⟨"IntentVatsModel", "plainParts", "(I)I"⟩, 25) := ⟨⟨by decide +kernel, by decide +kernel⟩, List.mem_of_getElem? (i := 889) (by decide +kernel), List.mem_of_getElem? (i := 1441) (by decide +kernel), List.mem_of_getElem? (i := 1442) (by decide +kernel)⟩
theorem lw_p78 : lw_okq (⟨"IntentVatsModel", "driesAct", "(I)I"⟩, 25) := ⟨⟨by decide +kernel, by decide +kernel⟩, List.mem_of_getElem? (i := 889) (by decide +kernel), List.mem_of_getElem? (i := 1445) (by decide +kernel), List.mem_of_getElem? (i := 1446) (by decide +kernel)⟩
theorem lw_p79 : lw_okq (⟨"IntentVatsModel", "plainDries", "(I)I"⟩, 25) := ⟨⟨by decide +kernel, by decide +kernel⟩, List.mem_of_getElem? (i := 889) (by decide +kernel), List.mem_of_getElem? (i := 1449) (by decide +kernel), List.mem_of_getElem? (i := 1450) (by decide +kernel)⟩
def lw_privs_5 : List (MethodName × Nat) := [(⟨"IntentVatsModel", "figures", "()I"⟩, 25), (⟨"IntentVatsModel", "twoTold", "(IILjava/lang/String;I)V"⟩, 25), (⟨"IntentVatsModel", "lawTold", "(I)V"⟩, 25), (⟨"IntentVatsModel", "isCell", "(II)Z"⟩, 25), (⟨"IntentVatsModel", "isRight", "(II)Z"⟩, 25), (⟨"IntentVatsModel", "isHeld", "(I)Z"⟩, 25), (⟨"IntentVatsModel", "rubs", "(I)I"⟩, 25), (⟨"IntentVatsModel", "linenRubs", "(I)I"⟩, 25), (⟨"IntentVatsModel", "runs", "(I)V"⟩, 25), (⟨"IntentVatsModel", "plainRubs", "(I)I"⟩, 25), (⟨"IntentVatsModel", "steepsAct", "(I)I"⟩, 25), (⟨"IntentVatsModel", "plainSteeps", "(I)I"⟩, 25), (⟨"IntentVatsModel", "parts", "(I)I"⟩, 25), (⟨"IntentVatsModel", "plainParts", "(I)I"⟩, 25), (⟨"IntentVatsModel", "driesAct", "(I)I"⟩, 25), (⟨"IntentVatsModel", "plainDries", "(I)I"⟩, 25)]
theorem lw_r5 : ∀ q ∈ lw_privs_5, lw_okq q := List.forall_mem_cons.mpr ⟨lw_p64, List.forall_mem_cons.mpr ⟨lw_p65, List.forall_mem_cons.mpr ⟨lw_p66, List.forall_mem_cons.mpr ⟨lw_p67, List.forall_mem_cons.mpr ⟨lw_p68, List.forall_mem_cons.mpr ⟨lw_p69, List.forall_mem_cons.mpr ⟨lw_p70, List.forall_mem_cons.mpr ⟨lw_p71, List.forall_mem_cons.mpr ⟨lw_p72, List.forall_mem_cons.mpr ⟨lw_p73, List.forall_mem_cons.mpr ⟨lw_p74, List.forall_mem_cons.mpr ⟨lw_p75, List.forall_mem_cons.mpr ⟨lw_p76, List.forall_mem_cons.mpr ⟨lw_p77, List.forall_mem_cons.mpr ⟨lw_p78, List.forall_mem_cons.mpr ⟨lw_p79, fun _ h => absurd h List.not_mem_nil⟩⟩⟩⟩⟩⟩⟩⟩⟩⟩⟩⟩⟩⟩⟩⟩
theorem lw_p80 : lw_okq (⟨"IntentVatsModel", "purposesAbout", "()I"⟩, 25) := ⟨⟨by decide +kernel, by decide +kernel⟩, List.mem_of_getElem? (i := 889) (by decide +kernel), List.mem_of_getElem? (i := 1461) (by decide +kernel), List.mem_of_getElem? (i := 1462) (by decide +kernel)⟩
def lw_privs_6 : List (MethodName × Nat) := [(⟨"IntentVatsModel", "purposesAbout", "()I"⟩, 25)]
theorem lw_r6 : ∀ q ∈ lw_privs_6, lw_okq q := List.forall_mem_cons.mpr ⟨lw_p80, fun _ h => absurd h List.not_mem_nil⟩
def lw_privs : List (MethodName × Nat) := lw_privs_1 ++ (lw_privs_2 ++ (lw_privs_3 ++ (lw_privs_4 ++ (lw_privs_5 ++ (lw_privs_6)))))
def lw_tbl : List Cond := k2_sels lw_privs ++ tables_1
theorem lw_privs_ok : ∀ q ∈ lw_privs, lw_okq q := by
  show ∀ q ∈ lw_privs_1 ++ (lw_privs_2 ++ (lw_privs_3 ++ (lw_privs_4 ++ (lw_privs_5 ++ (lw_privs_6))))), lw_okq q
  exact List.forall_mem_append.mpr ⟨lw_r1, List.forall_mem_append.mpr ⟨lw_r2, List.forall_mem_append.mpr ⟨lw_r3, List.forall_mem_append.mpr ⟨lw_r4, List.forall_mem_append.mpr ⟨lw_r5, lw_r6⟩⟩⟩⟩⟩
theorem goodIn_r {big : List Cond} (ws : List Cond) (ps : List Nat) (hp : ws = ps.filterMap (fun i => big[i]?)) (h : ws.all goodWord = true) : GoodIn big ws := by
  intro w hw
  have h1 := List.all_eq_true.mp h w hw
  rw [hp] at hw
  obtain ⟨i, -, hi⟩ := List.mem_filterMap.mp hw
  have hm : w ∈ big := by first | exact List.mem_of_getElem? hi | exact List.getElem?_mem hi
  exact ⟨hm, good_of_word h1⟩
theorem goodIn_app {big a b : List Cond} (ha : GoodIn big a) (hb : GoodIn big b) : GoodIn big (a ++ b) := fun w h => (List.mem_append.mp h).elim (ha w) (hb w)
theorem goodIn_ca {big a b : List Cond} {c : Cond} (ha : GoodIn big (c :: a)) (hb : GoodIn big b) : GoodIn big (c :: (a ++ b)) := fun w h => (List.mem_cons.mp h).elim (fun e => ha w (List.mem_cons.mpr (Or.inl e))) (fun h => (List.mem_append.mp h).elim (fun h => ha w (List.mem_cons.mpr (Or.inr h))) (hb w))
theorem goodIn_sub {big ws : List Cond} (hm : ∀ w ∈ ws, w ∈ big) (h : ws.all goodWord = true) : GoodIn big ws := fun w hw => ⟨hm w hw, good_of_word (List.all_eq_true.mp h w hw)⟩

def RX0 : String := "IntentVats$Acts"
def TX0 : u_T := fun k => match k with
  | 0 => ("IntentVats$Acts", "bodies", "[I", true)
  | 1 => ("IntentVats$Acts", "traced", "I", false)
  | 2 => ("IntentVats$Acts", "kind", "I", false)
  | 3 => ("IntentVats$Acts", "n", "I", false)
  | 4 => ("IntentVats$Acts", "a", "I", false)
  | _ => ("IntentVats$Acts", "broken", "Z", false)
def tyX0 : Nat → FieldType := fun k => match k with
  | 0 => .array .int
  | 1 => .int
  | 2 => .int
  | 3 => .int
  | 4 => .int
  | _ => .boolean
abbrev wsX00 : List Cond := u_ws RX0 TX0 6
theorem nmX0 : ∀ a, a < 6 → ∀ b, b < 6 → a ≠ b → (TX0 a).2.1 ≠ (TX0 b).2.1 := by decide +kernel
theorem tyX0_ok : ∀ k, k < 6 → parseFieldDescriptor (TX0 k).2.2.1 = some (tyX0 k) := by decide +kernel
abbrev cX0_init : ByteArray := prog_2_method_1_code
def yX0_init : MethodName := ⟨RX0, "<init>", "()V"⟩
abbrev cX0_forget : ByteArray := prog_2_method_2_code
def yX0_forget : MethodName := ⟨RX0, "forget", "()V"⟩
abbrev cX0_hold : ByteArray := prog_2_method_3_code
def yX0_hold : MethodName := ⟨RX0, "hold", "(III)V"⟩
abbrev cX0_perform : ByteArray := prog_2_method_4_code
def yX0_perform : MethodName := ⟨RX0, "perform", "(II)I"⟩
abbrev cX0_own : ByteArray := prog_2_method_5_code
def yX0_own : MethodName := ⟨RX0, "own", "(III)I"⟩
abbrev cX0_body : ByteArray := prog_2_method_6_code
def yX0_body : MethodName := ⟨RX0, "body", "(III)I"⟩
abbrev cX0_parted : ByteArray := prog_2_method_7_code
def yX0_parted : MethodName := ⟨RX0, "parted", "(II)I"⟩
abbrev cX0_note : ByteArray := prog_2_method_8_code
def yX0_note : MethodName := ⟨RX0, "note", "(I)V"⟩
def RX1 : String := "IntentVats$Chances"
def TX1 : u_T := fun k => match k with
  | _ => ("", "", "", false)
def tyX1 : Nat → FieldType := fun k => match k with
  | _ => .int
abbrev wsX10 : List Cond := u_ws RX1 TX1 0
theorem nmX1 : ∀ a, a < 0 → ∀ b, b < 0 → a ≠ b → (TX1 a).2.1 ≠ (TX1 b).2.1 := by decide +kernel
theorem tyX1_ok : ∀ k, k < 0 → parseFieldDescriptor (TX1 k).2.2.1 = some (tyX1 k) := by decide +kernel
abbrev cX1_justSlip : ByteArray := prog_3_method_2_code
def yX1_justSlip : MethodName := ⟨RX1, "justSlip", "(IIII)J"⟩
abbrev cX1_choices : ByteArray := prog_3_method_3_code
def yX1_choices : MethodName := ⟨RX1, "choices", "(II)J"⟩
abbrev cX1_partOf : ByteArray := prog_3_method_4_code
def yX1_partOf : MethodName := ⟨RX1, "partOf", "(JJI)J"⟩
abbrev cX1_commonDivisor : ByteArray := prog_3_method_5_code
def yX1_commonDivisor : MethodName := ⟨RX1, "commonDivisor", "(JJ)J"⟩
def RX2 : String := "IntentVats$Forecast"
def TX2 : u_T := fun k => match k with
  | _ => ("IntentVats$Forecast", "tried", "LIntentVats$Mill;", true)
def tyX2 : Nat → FieldType := fun k => match k with
  | _ => .object "IntentVats$Mill"
abbrev wsX20 : List Cond := u_ws RX2 TX2 1
theorem nmX2 : ∀ a, a < 1 → ∀ b, b < 1 → a ≠ b → (TX2 a).2.1 ≠ (TX2 b).2.1 := by decide +kernel
theorem tyX2_ok : ∀ k, k < 1 → parseFieldDescriptor (TX2 k).2.2.1 = some (tyX2 k) := by decide +kernel
abbrev cX2_init : ByteArray := prog_4_method_1_code
def yX2_init : MethodName := ⟨RX2, "<init>", "()V"⟩
abbrev cX2_behind : ByteArray := prog_4_method_2_code
def yX2_behind : MethodName := ⟨RX2, "behind", "(LIntentVats$Mill;I)LIntentVats$Mill;"⟩
abbrev cX2_luckyDays : ByteArray := prog_4_method_3_code
def yX2_luckyDays : MethodName := ⟨RX2, "luckyDays", "(LIntentVats$Mill;I)I"⟩
abbrev cX2_daysUntilAbout : ByteArray := prog_4_method_4_code
def yX2_daysUntilAbout : MethodName := ⟨RX2, "daysUntilAbout", "(LIntentVats$Mill;II)I"⟩
abbrev cX2_spoiltBehind : ByteArray := prog_4_method_5_code
def yX2_spoiltBehind : MethodName := ⟨RX2, "spoiltBehind", "(LIntentVats$Mill;I)I"⟩
abbrev cX2_spoiltFromHere : ByteArray := prog_4_method_6_code
def yX2_spoiltFromHere : MethodName := ⟨RX2, "spoiltFromHere", "(LIntentVats$Mill;I)I"⟩
abbrev cX2_vatsThrough : ByteArray := prog_4_method_7_code
def yX2_vatsThrough : MethodName := ⟨RX2, "vatsThrough", "(LIntentVats$Mill;II)I"⟩
abbrev cX2_leadsTo : ByteArray := prog_4_method_8_code
def yX2_leadsTo : MethodName := ⟨RX2, "leadsTo", "(LIntentVats$Mill;IIII)Z"⟩
abbrev cX2_deepestVat : ByteArray := prog_4_method_9_code
def yX2_deepestVat : MethodName := ⟨RX2, "deepestVat", "(LIntentVats$Mill;II)I"⟩
abbrev cX2_deepestKind : ByteArray := prog_4_method_10_code
def yX2_deepestKind : MethodName := ⟨RX2, "deepestKind", "(LIntentVats$Mill;II)I"⟩
abbrev cX2_leastStrength : ByteArray := prog_4_method_11_code
def yX2_leastStrength : MethodName := ⟨RX2, "leastStrength", "(LIntentVats$Mill;IIII)I"⟩
abbrev cX2_fewestHung : ByteArray := prog_4_method_12_code
def yX2_fewestHung : MethodName := ⟨RX2, "fewestHung", "(LIntentVats$Mill;II)I"⟩
abbrev cX2_hangJust : ByteArray := prog_4_method_13_code
def yX2_hangJust : MethodName := ⟨RX2, "hangJust", "(LIntentVats$Mill;I)V"⟩
abbrev cX2_manyFitting : ByteArray := prog_4_method_14_code
def yX2_manyFitting : MethodName := ⟨RX2, "manyFitting", "(LIntentVats$Mill;ILIntentVats$SheetRow;)I"⟩
abbrev cX2_leastFitting : ByteArray := prog_4_method_15_code
def yX2_leastFitting : MethodName := ⟨RX2, "leastFitting", "(LIntentVats$Mill;ILIntentVats$SheetRow;)I"⟩
abbrev cX2_fitsAs : ByteArray := prog_4_method_16_code
def yX2_fitsAs : MethodName := ⟨RX2, "fitsAs", "(LIntentVats$Mill;IILIntentVats$SheetRow;)Z"⟩
abbrev cX2_writeRows : ByteArray := prog_4_method_17_code
def yX2_writeRows : MethodName := ⟨RX2, "writeRows", "(LIntentVats$Mill;IILIntentVats$Rows;)V"⟩
abbrev cX2_firstWrongRow : ByteArray := prog_4_method_18_code
def yX2_firstWrongRow : MethodName := ⟨RX2, "firstWrongRow", "(LIntentVats$Mill;ILIntentVats$Rows;)I"⟩
abbrev cX2_rowPart : ByteArray := prog_4_method_19_code
def yX2_rowPart : MethodName := ⟨RX2, "rowPart", "(II)I"⟩
def RX3 : String := "IntentVats$Mill"
def TX3 : u_T := fun k => match k with
  | 0 => ("IntentVats$Mill", "laws", "[I", true)
  | 1 => ("IntentVats$Mill", "purposes", "[I", true)
  | 2 => ("IntentVats$Mill", "strengths", "[I", true)
  | 3 => ("IntentVats$Mill", "roster", "[I", true)
  | 4 => ("IntentVats$Mill", "kinds", "[I", true)
  | 5 => ("IntentVats$Mill", "abouts", "[I", true)
  | 6 => ("IntentVats$Mill", "deeps", "[I", true)
  | 7 => ("IntentVats$Mill", "hungs", "[I", true)
  | 8 => ("IntentVats$Mill", "dips", "[I", true)
  | 9 => ("IntentVats$Mill", "count", "I", false)
  | 10 => ("IntentVats$Mill", "day", "I", false)
  | _ => ("IntentVats$Mill", "z", "I", false)
def tyX3 : Nat → FieldType := fun k => match k with
  | 0 => .array .int
  | 1 => .array .int
  | 2 => .array .int
  | 3 => .array .int
  | 4 => .array .int
  | 5 => .array .int
  | 6 => .array .int
  | 7 => .array .int
  | 8 => .array .int
  | 9 => .int
  | 10 => .int
  | _ => .int
abbrev wsX30 : List Cond := u_ws RX3 TX3 12
theorem nmX3 : ∀ a, a < 12 → ∀ b, b < 12 → a ≠ b → (TX3 a).2.1 ≠ (TX3 b).2.1 := by decide +kernel
theorem tyX3_ok : ∀ k, k < 12 → parseFieldDescriptor (TX3 k).2.2.1 = some (tyX3 k) := by decide +kernel
abbrev cX3_init : ByteArray := prog_5_method_1_code
def yX3_init : MethodName := ⟨RX3, "<init>", "()V"⟩
abbrev cX3_becomeFirst : ByteArray := prog_5_method_2_code
def yX3_becomeFirst : MethodName := ⟨RX3, "becomeFirst", "()V"⟩
abbrev cX3_copyFrom : ByteArray := prog_5_method_3_code
def yX3_copyFrom : MethodName := ⟨RX3, "copyFrom", "(LIntentVats$Mill;)V"⟩
abbrev cX3_has : ByteArray := prog_5_method_4_code
def yX3_has : MethodName := ⟨RX3, "has", "(I)Z"⟩
abbrev cX3_addCloth : ByteArray := prog_5_method_5_code
def yX3_addCloth : MethodName := ⟨RX3, "addCloth", "(I)I"⟩
abbrev cX3_takes : ByteArray := prog_5_method_6_code
def yX3_takes : MethodName := ⟨RX3, "takes", "(II)I"⟩
abbrev cX3_fights : ByteArray := prog_5_method_7_code
def yX3_fights : MethodName := ⟨RX3, "fights", "(II)I"⟩
abbrev cX3_fades : ByteArray := prog_5_method_8_code
def yX3_fades : MethodName := ⟨RX3, "fades", "(I)I"⟩
abbrev cX3_dipInto : ByteArray := prog_5_method_9_code
def yX3_dipInto : MethodName := ⟨RX3, "dipInto", "(II)V"⟩
abbrev cX3_settle : ByteArray := prog_5_method_10_code
def yX3_settle : MethodName := ⟨RX3, "settle", "(II)V"⟩
abbrev cX3_deepen : ByteArray := prog_5_method_11_code
def yX3_deepen : MethodName := ⟨RX3, "deepen", "(II)V"⟩
abbrev cX3_vatOfToday : ByteArray := prog_5_method_12_code
def yX3_vatOfToday : MethodName := ⟨RX3, "vatOfToday", "()I"⟩
abbrev cX3_passDays : ByteArray := prog_5_method_13_code
def yX3_passDays : MethodName := ⟨RX3, "passDays", "(I)V"⟩
abbrev cX3_passDay : ByteArray := prog_5_method_14_code
def yX3_passDay : MethodName := ⟨RX3, "passDay", "()V"⟩
abbrev cX3_draw : ByteArray := prog_5_method_15_code
def yX3_draw : MethodName := ⟨RX3, "draw", "()I"⟩
abbrev cX3_passDrawnDay : ByteArray := prog_5_method_16_code
def yX3_passDrawnDay : MethodName := ⟨RX3, "passDrawnDay", "()V"⟩
abbrev cX3_allDepths : ByteArray := prog_5_method_17_code
def yX3_allDepths : MethodName := ⟨RX3, "allDepths", "()I"⟩
abbrev cX3_hungSet : ByteArray := prog_5_method_18_code
def yX3_hungSet : MethodName := ⟨RX3, "hungSet", "()I"⟩
abbrev cX3_aboutSet : ByteArray := prog_5_method_19_code
def yX3_aboutSet : MethodName := ⟨RX3, "aboutSet", "()I"⟩
abbrev cX3_purposeSet : ByteArray := prog_5_method_20_code
def yX3_purposeSet : MethodName := ⟨RX3, "purposeSet", "()I"⟩
abbrev cX3_oddPairs : ByteArray := prog_5_method_21_code
def yX3_oddPairs : MethodName := ⟨RX3, "oddPairs", "()I"⟩
abbrev cX3_isForOdds : ByteArray := prog_5_method_22_code
def yX3_isForOdds : MethodName := ⟨RX3, "isForOdds", "(I)Z"⟩
def RX4 : String := "IntentVats$Rows"
def TX4 : u_T := fun k => match k with
  | 0 => ("IntentVats$Rows", "parts", "[I", true)
  | _ => ("IntentVats$Rows", "count", "I", false)
def tyX4 : Nat → FieldType := fun k => match k with
  | 0 => .array .int
  | _ => .int
abbrev wsX40 : List Cond := u_ws RX4 TX4 2
theorem nmX4 : ∀ a, a < 2 → ∀ b, b < 2 → a ≠ b → (TX4 a).2.1 ≠ (TX4 b).2.1 := by decide +kernel
theorem tyX4_ok : ∀ k, k < 2 → parseFieldDescriptor (TX4 k).2.2.1 = some (tyX4 k) := by decide +kernel
abbrev cX4_init : ByteArray := prog_6_method_1_code
def yX4_init : MethodName := ⟨RX4, "<init>", "()V"⟩
abbrev cX4_has : ByteArray := prog_6_method_2_code
def yX4_has : MethodName := ⟨RX4, "has", "(II)Z"⟩
abbrev cX4_read : ByteArray := prog_6_method_3_code
def yX4_read : MethodName := ⟨RX4, "read", "(II)I"⟩
abbrev cX4_write : ByteArray := prog_6_method_4_code
def yX4_write : MethodName := ⟨RX4, "write", "(III)V"⟩
def RX5 : String := "IntentVats$SheetRow"
def TX5 : u_T := fun k => match k with
  | 0 => ("IntentVats$SheetRow", "sort", "I", true)
  | _ => ("IntentVats$SheetRow", "items", "[I", true)
def tyX5 : Nat → FieldType := fun k => match k with
  | 0 => .int
  | _ => .array .int
abbrev wsX50 : List Cond := u_ws RX5 TX5 2
theorem nmX5 : ∀ a, a < 2 → ∀ b, b < 2 → a ≠ b → (TX5 a).2.1 ≠ (TX5 b).2.1 := by decide +kernel
theorem tyX5_ok : ∀ k, k < 2 → parseFieldDescriptor (TX5 k).2.2.1 = some (tyX5 k) := by decide +kernel
abbrev cX5_init : ByteArray := prog_7_method_1_code
def yX5_init : MethodName := ⟨RX5, "<init>", "(II)V"⟩
abbrev cX5_size : ByteArray := prog_7_method_2_code
def yX5_size : MethodName := ⟨RX5, "size", "()I"⟩
abbrev cX5_has : ByteArray := prog_7_method_3_code
def yX5_has : MethodName := ⟨RX5, "has", "(I)Z"⟩
abbrev cX5_read : ByteArray := prog_7_method_4_code
def yX5_read : MethodName := ⟨RX5, "read", "(I)I"⟩
abbrev cX5_write : ByteArray := prog_7_method_5_code
def yX5_write : MethodName := ⟨RX5, "write", "(II)V"⟩
def RX6 : String := "IntentVats$Shelves"
def TX6 : u_T := fun k => match k with
  | 0 => ("IntentVats$Shelves", "cloths", "[I", true)
  | _ => ("IntentVats$Shelves", "held", "[LIntentVats$SheetRow;", true)
def tyX6 : Nat → FieldType := fun k => match k with
  | 0 => .array .int
  | _ => .array (.object "IntentVats$SheetRow")
abbrev wsX60 : List Cond := u_ws RX6 TX6 2
theorem nmX6 : ∀ a, a < 2 → ∀ b, b < 2 → a ≠ b → (TX6 a).2.1 ≠ (TX6 b).2.1 := by decide +kernel
theorem tyX6_ok : ∀ k, k < 2 → parseFieldDescriptor (TX6 k).2.2.1 = some (tyX6 k) := by decide +kernel
abbrev cX6_init : ByteArray := prog_8_method_1_code
def yX6_init : MethodName := ⟨RX6, "<init>", "()V"⟩
abbrev cX6_holdCloth : ByteArray := prog_8_method_2_code
def yX6_holdCloth : MethodName := ⟨RX6, "holdCloth", "(II)V"⟩
abbrev cX6_holdRow : ByteArray := prog_8_method_3_code
def yX6_holdRow : MethodName := ⟨RX6, "holdRow", "(ILIntentVats$SheetRow;)V"⟩
abbrev cX6_clothOn : ByteArray := prog_8_method_4_code
def yX6_clothOn : MethodName := ⟨RX6, "clothOn", "(I)I"⟩
abbrev cX6_rowOn : ByteArray := prog_8_method_5_code
def yX6_rowOn : MethodName := ⟨RX6, "rowOn", "(I)LIntentVats$SheetRow;"⟩
def RX7 : String := "IntentVats$Tape"
def TX7 : u_T := fun k => match k with
  | 0 => ("IntentVats$Tape", "bytes", "[I", true)
  | 1 => ("IntentVats$Tape", "length", "I", false)
  | 2 => ("IntentVats$Tape", "at", "I", false)
  | 3 => ("IntentVats$Tape", "start", "I", false)
  | 4 => ("IntentVats$Tape", "sort", "I", false)
  | _ => ("IntentVats$Tape", "number", "I", false)
def tyX7 : Nat → FieldType := fun k => match k with
  | 0 => .array .int
  | 1 => .int
  | 2 => .int
  | 3 => .int
  | 4 => .int
  | _ => .int
abbrev wsX70 : List Cond := u_ws RX7 TX7 6
theorem nmX7 : ∀ a, a < 6 → ∀ b, b < 6 → a ≠ b → (TX7 a).2.1 ≠ (TX7 b).2.1 := by decide +kernel
theorem tyX7_ok : ∀ k, k < 6 → parseFieldDescriptor (TX7 k).2.2.1 = some (tyX7 k) := by decide +kernel
abbrev cX7_init : ByteArray := prog_9_method_1_code
def yX7_init : MethodName := ⟨RX7, "<init>", "()V"⟩
abbrev cX7_room : ByteArray := prog_9_method_2_code
def yX7_room : MethodName := ⟨RX7, "room", "()I"⟩
abbrev cX7_take : ByteArray := prog_9_method_3_code
def yX7_take : MethodName := ⟨RX7, "take", "(JI)V"⟩
abbrev cX7_useUp : ByteArray := prog_9_method_4_code
def yX7_useUp : MethodName := ⟨RX7, "useUp", "()V"⟩
abbrev cX7_readInto : ByteArray := prog_9_method_5_code
def yX7_readInto : MethodName := ⟨RX7, "readInto", "(LIntentVats$Mill;)I"⟩
abbrev cX7_readStatement : ByteArray := prog_9_method_6_code
def yX7_readStatement : MethodName := ⟨RX7, "readStatement", "(LIntentVats$Mill;)Z"⟩
abbrev cX7_readCloth : ByteArray := prog_9_method_7_code
def yX7_readCloth : MethodName := ⟨RX7, "readCloth", "(LIntentVats$Mill;I)Z"⟩
abbrev cX7_readVat : ByteArray := prog_9_method_8_code
def yX7_readVat : MethodName := ⟨RX7, "readVat", "(LIntentVats$Mill;)Z"⟩
abbrev cX7_readStrong : ByteArray := prog_9_method_9_code
def yX7_readStrong : MethodName := ⟨RX7, "readStrong", "(LIntentVats$Mill;)Z"⟩
abbrev cX7_readDay : ByteArray := prog_9_method_10_code
def yX7_readDay : MethodName := ⟨RX7, "readDay", "(LIntentVats$Mill;)Z"⟩
abbrev cX7_readLaw : ByteArray := prog_9_method_11_code
def yX7_readLaw : MethodName := ⟨RX7, "readLaw", "(LIntentVats$Mill;I)Z"⟩
abbrev cX7_readNumber : ByteArray := prog_9_method_12_code
def yX7_readNumber : MethodName := ⟨RX7, "readNumber", "(II)Z"⟩
abbrev cX7_readName : ByteArray := prog_9_method_13_code
def yX7_readName : MethodName := ⟨RX7, "readName", "(Ljava/lang/String;)Z"⟩
abbrev cX7_readStop : ByteArray := prog_9_method_14_code
def yX7_readStop : MethodName := ⟨RX7, "readStop", "()Z"⟩
abbrev cX7_isStop : ByteArray := prog_9_method_15_code
def yX7_isStop : MethodName := ⟨RX7, "isStop", "()Z"⟩
abbrev cX7_kindNamed : ByteArray := prog_9_method_16_code
def yX7_kindNamed : MethodName := ⟨RX7, "kindNamed", "()I"⟩
abbrev cX7_lawNamed : ByteArray := prog_9_method_17_code
def yX7_lawNamed : MethodName := ⟨RX7, "lawNamed", "()I"⟩
abbrev cX7_isName : ByteArray := prog_9_method_18_code
def yX7_isName : MethodName := ⟨RX7, "isName", "(Ljava/lang/String;)Z"⟩
abbrev cX7_readWord : ByteArray := prog_9_method_19_code
def yX7_readWord : MethodName := ⟨RX7, "readWord", "()V"⟩
abbrev cX7_readDigits : ByteArray := prog_9_method_20_code
def yX7_readDigits : MethodName := ⟨RX7, "readDigits", "()V"⟩
def RX8 : String := "IntentVats"
def TX8 : u_T := fun k => match k with
  | 0 => ("IntentVats", "now", "LIntentVats$Mill;", true)
  | 1 => ("IntentVats", "told", "LIntentVats$Mill;", true)
  | 2 => ("IntentVats", "kept", "LIntentVats$Mill;", true)
  | 3 => ("IntentVats", "isKept", "Z", false)
  | 4 => ("IntentVats", "forecast", "LIntentVats$Forecast;", true)
  | 5 => ("IntentVats", "tape", "LIntentVats$Tape;", true)
  | 6 => ("IntentVats", "rows", "LIntentVats$Rows;", true)
  | 7 => ("IntentVats", "sheets", "[LIntentVats$SheetRow;", true)
  | 8 => ("IntentVats", "shelves", "LIntentVats$Shelves;", true)
  | _ => ("IntentVats", "acts", "LIntentVats$Acts;", true)
def tyX8 : Nat → FieldType := fun k => match k with
  | 0 => .object "IntentVats$Mill"
  | 1 => .object "IntentVats$Mill"
  | 2 => .object "IntentVats$Mill"
  | 3 => .boolean
  | 4 => .object "IntentVats$Forecast"
  | 5 => .object "IntentVats$Tape"
  | 6 => .object "IntentVats$Rows"
  | 7 => .array (.object "IntentVats$SheetRow")
  | 8 => .object "IntentVats$Shelves"
  | _ => .object "IntentVats$Acts"
abbrev wsX80 : List Cond := u_ws RX8 TX8 10
theorem nmX8 : ∀ a, a < 10 → ∀ b, b < 10 → a ≠ b → (TX8 a).2.1 ≠ (TX8 b).2.1 := by decide +kernel
theorem tyX8_ok : ∀ k, k < 10 → parseFieldDescriptor (TX8 k).2.2.1 = some (tyX8 k) := by decide +kernel
abbrev cX8_init : ByteArray := prog_1_method_1_code
def yX8_init : MethodName := ⟨RX8, "<init>", "()V"⟩
abbrev cX8_feed : ByteArray := prog_1_method_2_code
def yX8_feed : MethodName := ⟨RX8, "feed", "(JI)I"⟩
abbrev cX8_mill : ByteArray := prog_1_method_3_code
def yX8_mill : MethodName := ⟨RX8, "mill", "()I"⟩
abbrev cX8_set : ByteArray := prog_1_method_4_code
def yX8_set : MethodName := ⟨RX8, "set", "(II)I"⟩
abbrev cX8_lawOf : ByteArray := prog_1_method_5_code
def yX8_lawOf : MethodName := ⟨RX8, "lawOf", "(I)I"⟩
abbrev cX8_fill : ByteArray := prog_1_method_6_code
def yX8_fill : MethodName := ⟨RX8, "fill", "(III)I"⟩
abbrev cX8_vatOf : ByteArray := prog_1_method_7_code
def yX8_vatOf : MethodName := ⟨RX8, "vatOf", "(II)I"⟩
abbrev cX8_roster : ByteArray := prog_1_method_8_code
def yX8_roster : MethodName := ⟨RX8, "roster", "(II)I"⟩
abbrev cX8_rosterOf : ByteArray := prog_1_method_9_code
def yX8_rosterOf : MethodName := ⟨RX8, "rosterOf", "(I)I"⟩
abbrev cX8_cloth : ByteArray := prog_1_method_10_code
def yX8_cloth : MethodName := ⟨RX8, "cloth", "(I)I"⟩
abbrev cX8_of : ByteArray := prog_1_method_11_code
def yX8_of : MethodName := ⟨RX8, "of", "(II)I"⟩
abbrev cX8_does : ByteArray := prog_1_method_12_code
def yX8_does : MethodName := ⟨RX8, "does", "(III)I"⟩
abbrev cX8_mind : ByteArray := prog_1_method_13_code
def yX8_mind : MethodName := ⟨RX8, "mind", "(II)I"⟩
abbrev cX8_steep : ByteArray := prog_1_method_14_code
def yX8_steep : MethodName := ⟨RX8, "steep", "(III)I"⟩
abbrev cX8_hang : ByteArray := prog_1_method_15_code
def yX8_hang : MethodName := ⟨RX8, "hang", "(II)I"⟩
abbrev cX8_dip : ByteArray := prog_1_method_16_code
def yX8_dip : MethodName := ⟨RX8, "dip", "(II)I"⟩
abbrev cX8_days : ByteArray := prog_1_method_17_code
def yX8_days : MethodName := ⟨RX8, "days", "(I)I"⟩
abbrev cX8_seed : ByteArray := prog_1_method_18_code
def yX8_seed : MethodName := ⟨RX8, "seed", "(I)I"⟩
abbrev cX8_day : ByteArray := prog_1_method_19_code
def yX8_day : MethodName := ⟨RX8, "day", "()I"⟩
abbrev cX8_luck : ByteArray := prog_1_method_20_code
def yX8_luck : MethodName := ⟨RX8, "luck", "(I)I"⟩
abbrev cX8_state : ByteArray := prog_1_method_21_code
def yX8_state : MethodName := ⟨RX8, "state", "(I)I"⟩
abbrev cX8_gone : ByteArray := prog_1_method_22_code
def yX8_gone : MethodName := ⟨RX8, "gone", "(II)I"⟩
abbrev cX8_depth : ByteArray := prog_1_method_23_code
def yX8_depth : MethodName := ⟨RX8, "depth", "(II)I"⟩
abbrev cX8_comes : ByteArray := prog_1_method_24_code
def yX8_comes : MethodName := ⟨RX8, "comes", "(II)I"⟩
abbrev cX8_bare : ByteArray := prog_1_method_25_code
def yX8_bare : MethodName := ⟨RX8, "bare", "(I)I"⟩
abbrev cX8_spoilt : ByteArray := prog_1_method_26_code
def yX8_spoilt : MethodName := ⟨RX8, "spoilt", "(I)I"⟩
abbrev cX8_through : ByteArray := prog_1_method_27_code
def yX8_through : MethodName := ⟨RX8, "through", "(II)I"⟩
abbrev cX8_vatFor : ByteArray := prog_1_method_28_code
def yX8_vatFor : MethodName := ⟨RX8, "vatFor", "(II)I"⟩
abbrev cX8_kindFor : ByteArray := prog_1_method_29_code
def yX8_kindFor : MethodName := ⟨RX8, "kindFor", "(II)I"⟩
abbrev cX8_strengthFor : ByteArray := prog_1_method_30_code
def yX8_strengthFor : MethodName := ⟨RX8, "strengthFor", "(IIII)I"⟩
abbrev cX8_hangFor : ByteArray := prog_1_method_31_code
def yX8_hangFor : MethodName := ⟨RX8, "hangFor", "(II)I"⟩
abbrev cX8_fits : ByteArray := prog_1_method_32_code
def yX8_fits : MethodName := ⟨RX8, "fits", "(III)I"⟩
abbrev cX8_odds : ByteArray := prog_1_method_33_code
def yX8_odds : MethodName := ⟨RX8, "odds", "(III)J"⟩
abbrev cX8_hope : ByteArray := prog_1_method_34_code
def yX8_hope : MethodName := ⟨RX8, "hope", "(II)J"⟩
abbrev cX8_prove : ByteArray := prog_1_method_35_code
def yX8_prove : MethodName := ⟨RX8, "prove", "(II)I"⟩
abbrev cX8_row : ByteArray := prog_1_method_36_code
def yX8_row : MethodName := ⟨RX8, "row", "(II)I"⟩
abbrev cX8_alterRow : ByteArray := prog_1_method_37_code
def yX8_alterRow : MethodName := ⟨RX8, "alterRow", "(III)I"⟩
abbrev cX8_judge : ByteArray := prog_1_method_38_code
def yX8_judge : MethodName := ⟨RX8, "judge", "(I)I"⟩
abbrev cX8_minds : ByteArray := prog_1_method_39_code
def yX8_minds : MethodName := ⟨RX8, "minds", "(IIII)I"⟩
abbrev cX8_sheet : ByteArray := prog_1_method_40_code
def yX8_sheet : MethodName := ⟨RX8, "sheet", "(III)I"⟩
abbrev cX8_put : ByteArray := prog_1_method_41_code
def yX8_put : MethodName := ⟨RX8, "put", "(III)I"⟩
abbrev cX8_item : ByteArray := prog_1_method_42_code
def yX8_item : MethodName := ⟨RX8, "item", "(III)I"⟩
abbrev cX8_shelf : ByteArray := prog_1_method_43_code
def yX8_shelf : MethodName := ⟨RX8, "shelf", "(III)I"⟩
abbrev cX8_taken : ByteArray := prog_1_method_44_code
def yX8_taken : MethodName := ⟨RX8, "taken", "(II)I"⟩
abbrev cX8_act : ByteArray := prog_1_method_45_code
def yX8_act : MethodName := ⟨RX8, "act", "(III)I"⟩
abbrev cX8_trace : ByteArray := prog_1_method_46_code
def yX8_trace : MethodName := ⟨RX8, "trace", "(I)I"⟩
abbrev cX8_many : ByteArray := prog_1_method_47_code
def yX8_many : MethodName := ⟨RX8, "many", "(I)I"⟩
abbrev cX8_keep : ByteArray := prog_1_method_48_code
def yX8_keep : MethodName := ⟨RX8, "keep", "()I"⟩
abbrev cX8_again : ByteArray := prog_1_method_49_code
def yX8_again : MethodName := ⟨RX8, "again", "()I"⟩
abbrev cX8_isIn : ByteArray := prog_1_method_50_code
def yX8_isIn : MethodName := ⟨RX8, "isIn", "(III)Z"⟩
abbrev cX8_isVat : ByteArray := prog_1_method_51_code
def yX8_isVat : MethodName := ⟨RX8, "isVat", "(I)Z"⟩
abbrev cX8_isRest : ByteArray := prog_1_method_52_code
def yX8_isRest : MethodName := ⟨RX8, "isRest", "(I)Z"⟩
abbrev cX8_isKind : ByteArray := prog_1_method_53_code
def yX8_isKind : MethodName := ⟨RX8, "isKind", "(I)Z"⟩
abbrev cX8_isPurpose : ByteArray := prog_1_method_54_code
def yX8_isPurpose : MethodName := ⟨RX8, "isPurpose", "(I)Z"⟩
abbrev cX8_isDays : ByteArray := prog_1_method_55_code
def yX8_isDays : MethodName := ⟨RX8, "isDays", "(I)Z"⟩
abbrev cX8_isSheet : ByteArray := prog_1_method_56_code
def yX8_isSheet : MethodName := ⟨RX8, "isSheet", "(I)Z"⟩
abbrev cX8_isShelf : ByteArray := prog_1_method_57_code
def yX8_isShelf : MethodName := ⟨RX8, "isShelf", "(I)Z"⟩
abbrev cX8_mostOfLaw : ByteArray := prog_1_method_58_code
def yX8_mostOfLaw : MethodName := ⟨RX8, "mostOfLaw", "(I)I"⟩
abbrev cX8_parentKind : ByteArray := prog_1_method_59_code
def yX8_parentKind : MethodName := ⟨RX8, "parentKind", "(I)I"⟩
abbrev cX8_isUnder : ByteArray := prog_1_method_60_code
def yX8_isUnder : MethodName := ⟨RX8, "isUnder", "(II)Z"⟩
def RX9 : String := "IntentVatsModel"
def TX9 : u_T := fun k => match k with
  | 0 => ("IntentVatsModel", "most", "[I", true)
  | 1 => ("IntentVatsModel", "atFirst", "[I", true)
  | 2 => ("IntentVatsModel", "s", "[I", true)
  | 3 => ("IntentVatsModel", "kept", "[I", true)
  | 4 => ("IntentVatsModel", "aside", "[I", true)
  | 5 => ("IntentVatsModel", "isKept", "Z", false)
  | 6 => ("IntentVatsModel", "tape", "[I", true)
  | 7 => ("IntentVatsModel", "taped", "I", false)
  | 8 => ("IntentVatsModel", "from", "I", false)
  | 9 => ("IntentVatsModel", "to", "I", false)
  | 10 => ("IntentVatsModel", "isWrong", "Z", false)
  | 11 => ("IntentVatsModel", "rows", "[I", true)
  | 12 => ("IntentVatsModel", "rowMany", "I", false)
  | 13 => ("IntentVatsModel", "sortOf", "[I", true)
  | 14 => ("IntentVatsModel", "sizeOf", "[I", true)
  | 15 => ("IntentVatsModel", "items", "[I", true)
  | 16 => ("IntentVatsModel", "laid", "[I", true)
  | 17 => ("IntentVatsModel", "heldNumber", "[I", true)
  | 18 => ("IntentVatsModel", "heldSize", "[I", true)
  | 19 => ("IntentVatsModel", "ran", "[I", true)
  | 20 => ("IntentVatsModel", "bodies", "I", false)
  | 21 => ("IntentVatsModel", "kind", "I", false)
  | 22 => ("IntentVatsModel", "n", "I", false)
  | 23 => ("IntentVatsModel", "a", "I", false)
  | _ => ("IntentVatsModel", "isParted", "Z", false)
def tyX9 : Nat → FieldType := fun k => match k with
  | 0 => .array .int
  | 1 => .array .int
  | 2 => .array .int
  | 3 => .array .int
  | 4 => .array .int
  | 5 => .boolean
  | 6 => .array .int
  | 7 => .int
  | 8 => .int
  | 9 => .int
  | 10 => .boolean
  | 11 => .array .int
  | 12 => .int
  | 13 => .array .int
  | 14 => .array .int
  | 15 => .array .int
  | 16 => .array .int
  | 17 => .array .int
  | 18 => .array .int
  | 19 => .array .int
  | 20 => .int
  | 21 => .int
  | 22 => .int
  | 23 => .int
  | _ => .boolean
abbrev wsX90 : List Cond := u_ws RX9 TX9 25
theorem nmX9 : ∀ a, a < 25 → ∀ b, b < 25 → a ≠ b → (TX9 a).2.1 ≠ (TX9 b).2.1 := by decide +kernel
theorem tyX9_ok : ∀ k, k < 25 → parseFieldDescriptor (TX9 k).2.2.1 = some (tyX9 k) := by decide +kernel
abbrev cX9_init : ByteArray := prog_11_method_1_code
def yX9_init : MethodName := ⟨RX9, "<init>", "()V"⟩
abbrev cX9_anew : ByteArray := prog_11_method_2_code
def yX9_anew : MethodName := ⟨RX9, "anew", "()V"⟩
abbrev cX9_in : ByteArray := prog_11_method_3_code
def yX9_in : MethodName := ⟨RX9, "in", "(JJJ)Z"⟩
abbrev cX9_become : ByteArray := prog_11_method_4_code
def yX9_become : MethodName := ⟨RX9, "become", "([I[I)V"⟩
abbrev cX9_lends : ByteArray := prog_11_method_5_code
def yX9_lends : MethodName := ⟨RX9, "lends", "()V"⟩
abbrev cX9_laysBack : ByteArray := prog_11_method_6_code
def yX9_laysBack : MethodName := ⟨RX9, "laysBack", "()V"⟩
abbrev cX9_isCloth : ByteArray := prog_11_method_7_code
def yX9_isCloth : MethodName := ⟨RX9, "isCloth", "(I)Z"⟩
abbrev cX9_isVat : ByteArray := prog_11_method_8_code
def yX9_isVat : MethodName := ⟨RX9, "isVat", "(I)Z"⟩
abbrev cX9_isPurpose : ByteArray := prog_11_method_9_code
def yX9_isPurpose : MethodName := ⟨RX9, "isPurpose", "(I)Z"⟩
abbrev cX9_isRest : ByteArray := prog_11_method_10_code
def yX9_isRest : MethodName := ⟨RX9, "isRest", "(I)Z"⟩
abbrev cX9_its : ByteArray := prog_11_method_11_code
def yX9_its : MethodName := ⟨RX9, "its", "(II)I"⟩
abbrev cX9_sets : ByteArray := prog_11_method_12_code
def yX9_sets : MethodName := ⟨RX9, "sets", "(III)V"⟩
abbrev cX9_becomes : ByteArray := prog_11_method_13_code
def yX9_becomes : MethodName := ⟨RX9, "becomes", "(II)I"⟩
abbrev cX9_set : ByteArray := prog_11_method_14_code
def yX9_set : MethodName := ⟨RX9, "set", "(II)I"⟩
abbrev cX9_lawOf : ByteArray := prog_11_method_15_code
def yX9_lawOf : MethodName := ⟨RX9, "lawOf", "(I)I"⟩
abbrev cX9_fill : ByteArray := prog_11_method_16_code
def yX9_fill : MethodName := ⟨RX9, "fill", "(III)I"⟩
abbrev cX9_vatOf : ByteArray := prog_11_method_17_code
def yX9_vatOf : MethodName := ⟨RX9, "vatOf", "(II)I"⟩
abbrev cX9_roster : ByteArray := prog_11_method_18_code
def yX9_roster : MethodName := ⟨RX9, "roster", "(II)I"⟩
abbrev cX9_rosterOf : ByteArray := prog_11_method_19_code
def yX9_rosterOf : MethodName := ⟨RX9, "rosterOf", "(I)I"⟩
abbrev cX9_isKind : ByteArray := prog_11_method_20_code
def yX9_isKind : MethodName := ⟨RX9, "isKind", "(I)Z"⟩
abbrev cX9_isUnder : ByteArray := prog_11_method_21_code
def yX9_isUnder : MethodName := ⟨RX9, "isUnder", "(II)Z"⟩
abbrev cX9_takesOf : ByteArray := prog_11_method_22_code
def yX9_takesOf : MethodName := ⟨RX9, "takesOf", "(II)I"⟩
abbrev cX9_fightsOf : ByteArray := prog_11_method_23_code
def yX9_fightsOf : MethodName := ⟨RX9, "fightsOf", "(II)I"⟩
abbrev cX9_fadesOf : ByteArray := prog_11_method_24_code
def yX9_fadesOf : MethodName := ⟨RX9, "fadesOf", "(I)I"⟩
abbrev cX9_adds : ByteArray := prog_11_method_25_code
def yX9_adds : MethodName := ⟨RX9, "adds", "(I)V"⟩
abbrev cX9_cloth : ByteArray := prog_11_method_26_code
def yX9_cloth : MethodName := ⟨RX9, "cloth", "(I)I"⟩
abbrev cX9_of : ByteArray := prog_11_method_27_code
def yX9_of : MethodName := ⟨RX9, "of", "(II)I"⟩
abbrev cX9_does : ByteArray := prog_11_method_28_code
def yX9_does : MethodName := ⟨RX9, "does", "(III)I"⟩
abbrev cX9_changed : ByteArray := prog_11_method_29_code
def yX9_changed : MethodName := ⟨RX9, "changed", "(III)I"⟩
abbrev cX9_mind : ByteArray := prog_11_method_30_code
def yX9_mind : MethodName := ⟨RX9, "mind", "(II)I"⟩
abbrev cX9_isDeep : ByteArray := prog_11_method_31_code
def yX9_isDeep : MethodName := ⟨RX9, "isDeep", "(II)V"⟩
abbrev cX9_steep : ByteArray := prog_11_method_32_code
def yX9_steep : MethodName := ⟨RX9, "steep", "(III)I"⟩
abbrev cX9_hang : ByteArray := prog_11_method_33_code
def yX9_hang : MethodName := ⟨RX9, "hang", "(II)I"⟩
abbrev cX9_dips : ByteArray := prog_11_method_34_code
def yX9_dips : MethodName := ⟨RX9, "dips", "(II)V"⟩
abbrev cX9_dip : ByteArray := prog_11_method_35_code
def yX9_dip : MethodName := ⟨RX9, "dip", "(II)I"⟩
abbrev cX9_aDay : ByteArray := prog_11_method_36_code
def yX9_aDay : MethodName := ⟨RX9, "aDay", "()V"⟩
abbrev cX9_goes : ByteArray := prog_11_method_37_code
def yX9_goes : MethodName := ⟨RX9, "goes", "(I)V"⟩
abbrev cX9_depths : ByteArray := prog_11_method_38_code
def yX9_depths : MethodName := ⟨RX9, "depths", "()I"⟩
abbrev cX9_days : ByteArray := prog_11_method_39_code
def yX9_days : MethodName := ⟨RX9, "days", "(I)I"⟩
abbrev cX9_seed : ByteArray := prog_11_method_40_code
def yX9_seed : MethodName := ⟨RX9, "seed", "(I)I"⟩
abbrev cX9_draw : ByteArray := prog_11_method_41_code
def yX9_draw : MethodName := ⟨RX9, "draw", "()I"⟩
abbrev cX9_byDraws : ByteArray := prog_11_method_42_code
def yX9_byDraws : MethodName := ⟨RX9, "byDraws", "()V"⟩
abbrev cX9_day : ByteArray := prog_11_method_43_code
def yX9_day : MethodName := ⟨RX9, "day", "()I"⟩
abbrev cX9_luck : ByteArray := prog_11_method_44_code
def yX9_luck : MethodName := ⟨RX9, "luck", "(I)I"⟩
abbrev cX9_hungSet : ByteArray := prog_11_method_45_code
def yX9_hungSet : MethodName := ⟨RX9, "hungSet", "()I"⟩
abbrev cX9_aboutSet : ByteArray := prog_11_method_46_code
def yX9_aboutSet : MethodName := ⟨RX9, "aboutSet", "()I"⟩
abbrev cX9_isAtOdds : ByteArray := prog_11_method_47_code
def yX9_isAtOdds : MethodName := ⟨RX9, "isAtOdds", "(II)Z"⟩
abbrev cX9_oddsAmong : ByteArray := prog_11_method_48_code
def yX9_oddsAmong : MethodName := ⟨RX9, "oddsAmong", "()I"⟩
abbrev cX9_state : ByteArray := prog_11_method_49_code
def yX9_state : MethodName := ⟨RX9, "state", "(I)I"⟩
abbrev cX9_isAhead : ByteArray := prog_11_method_50_code
def yX9_isAhead : MethodName := ⟨RX9, "isAhead", "(I)Z"⟩
abbrev cX9_isSoon : ByteArray := prog_11_method_51_code
def yX9_isSoon : MethodName := ⟨RX9, "isSoon", "(I)Z"⟩
abbrev cX9_behind : ByteArray := prog_11_method_52_code
def yX9_behind : MethodName := ⟨RX9, "behind", "(III)I"⟩
abbrev cX9_gone : ByteArray := prog_11_method_53_code
def yX9_gone : MethodName := ⟨RX9, "gone", "(II)I"⟩
abbrev cX9_depth : ByteArray := prog_11_method_54_code
def yX9_depth : MethodName := ⟨RX9, "depth", "(II)I"⟩
abbrev cX9_firstAbout : ByteArray := prog_11_method_55_code
def yX9_firstAbout : MethodName := ⟨RX9, "firstAbout", "(II)I"⟩
abbrev cX9_comes : ByteArray := prog_11_method_56_code
def yX9_comes : MethodName := ⟨RX9, "comes", "(II)I"⟩
abbrev cX9_bare : ByteArray := prog_11_method_57_code
def yX9_bare : MethodName := ⟨RX9, "bare", "(I)I"⟩
abbrev cX9_spoiltIn : ByteArray := prog_11_method_58_code
def yX9_spoiltIn : MethodName := ⟨RX9, "spoiltIn", "(I)I"⟩
abbrev cX9_spoilt : ByteArray := prog_11_method_59_code
def yX9_spoilt : MethodName := ⟨RX9, "spoilt", "(I)I"⟩
abbrev cX9_isThrough : ByteArray := prog_11_method_60_code
def yX9_isThrough : MethodName := ⟨RX9, "isThrough", "(IIII)Z"⟩
abbrev cX9_through : ByteArray := prog_11_method_61_code
def yX9_through : MethodName := ⟨RX9, "through", "(II)I"⟩
abbrev cX9_vatFor : ByteArray := prog_11_method_62_code
def yX9_vatFor : MethodName := ⟨RX9, "vatFor", "(II)I"⟩
abbrev cX9_kindFor : ByteArray := prog_11_method_63_code
def yX9_kindFor : MethodName := ⟨RX9, "kindFor", "(II)I"⟩
abbrev cX9_strengthFor : ByteArray := prog_11_method_64_code
def yX9_strengthFor : MethodName := ⟨RX9, "strengthFor", "(IIII)I"⟩
abbrev cX9_ones : ByteArray := prog_11_method_65_code
def yX9_ones : MethodName := ⟨RX9, "ones", "(I)I"⟩
abbrev cX9_hangs : ByteArray := prog_11_method_66_code
def yX9_hangs : MethodName := ⟨RX9, "hangs", "(I)V"⟩
abbrev cX9_hangFor : ByteArray := prog_11_method_67_code
def yX9_hangFor : MethodName := ⟨RX9, "hangFor", "(II)I"⟩
abbrev cX9_isSo : ByteArray := prog_11_method_68_code
def yX9_isSo : MethodName := ⟨RX9, "isSo", "(III)Z"⟩
abbrev cX9_fits : ByteArray := prog_11_method_69_code
def yX9_fits : MethodName := ⟨RX9, "fits", "(III)I"⟩
abbrev cX9_lowest : ByteArray := prog_11_method_70_code
def yX9_lowest : MethodName := ⟨RX9, "lowest", "(JJI)J"⟩
abbrev cX9_odds : ByteArray := prog_11_method_71_code
def yX9_odds : MethodName := ⟨RX9, "odds", "(III)J"⟩
abbrev cX9_hope : ByteArray := prog_11_method_72_code
def yX9_hope : MethodName := ⟨RX9, "hope", "(II)J"⟩
abbrev cX9_feed : ByteArray := prog_11_method_73_code
def yX9_feed : MethodName := ⟨RX9, "feed", "(JI)I"⟩
abbrev cX9_isByte : ByteArray := prog_11_method_74_code
def yX9_isByte : MethodName := ⟨RX9, "isByte", "(III)Z"⟩
abbrev cX9_next : ByteArray := prog_11_method_75_code
def yX9_next : MethodName := ⟨RX9, "next", "()V"⟩
abbrev cX9_isWord : ByteArray := prog_11_method_76_code
def yX9_isWord : MethodName := ⟨RX9, "isWord", "(Ljava/lang/String;)Z"⟩
abbrev cX9_must : ByteArray := prog_11_method_77_code
def yX9_must : MethodName := ⟨RX9, "must", "(Z)V"⟩
abbrev cX9_figures : ByteArray := prog_11_method_78_code
def yX9_figures : MethodName := ⟨RX9, "figures", "()I"⟩
abbrev cX9_number : ByteArray := prog_11_method_79_code
def yX9_number : MethodName := ⟨RX9, "number", "(II)I"⟩
abbrev cX9_kindHere : ByteArray := prog_11_method_80_code
def yX9_kindHere : MethodName := ⟨RX9, "kindHere", "()I"⟩
abbrev cX9_takes : ByteArray := prog_11_method_81_code
def yX9_takes : MethodName := ⟨RX9, "takes", "(Ljava/lang/String;)Z"⟩
abbrev cX9_clothTold : ByteArray := prog_11_method_82_code
def yX9_clothTold : MethodName := ⟨RX9, "clothTold", "(I)V"⟩
abbrev cX9_twoTold : ByteArray := prog_11_method_83_code
def yX9_twoTold : MethodName := ⟨RX9, "twoTold", "(IILjava/lang/String;I)V"⟩
abbrev cX9_lawTold : ByteArray := prog_11_method_84_code
def yX9_lawTold : MethodName := ⟨RX9, "lawTold", "(I)V"⟩
abbrev cX9_lawHere : ByteArray := prog_11_method_85_code
def yX9_lawHere : MethodName := ⟨RX9, "lawHere", "()I"⟩
abbrev cX9_item : ByteArray := prog_11_method_86_code
def yX9_item : MethodName := ⟨RX9, "item", "()V"⟩
abbrev cX9_mill : ByteArray := prog_11_method_87_code
def yX9_mill : MethodName := ⟨RX9, "mill", "()I"⟩
abbrev cX9_prove : ByteArray := prog_11_method_88_code
def yX9_prove : MethodName := ⟨RX9, "prove", "(II)I"⟩
abbrev cX9_isCell : ByteArray := prog_11_method_89_code
def yX9_isCell : MethodName := ⟨RX9, "isCell", "(II)Z"⟩
abbrev cX9_row : ByteArray := prog_11_method_90_code
def yX9_row : MethodName := ⟨RX9, "row", "(II)I"⟩
abbrev cX9_alterRow : ByteArray := prog_11_method_91_code
def yX9_alterRow : MethodName := ⟨RX9, "alterRow", "(III)I"⟩
abbrev cX9_isRight : ByteArray := prog_11_method_92_code
def yX9_isRight : MethodName := ⟨RX9, "isRight", "(II)Z"⟩
abbrev cX9_judge : ByteArray := prog_11_method_93_code
def yX9_judge : MethodName := ⟨RX9, "judge", "(I)I"⟩
abbrev cX9_isFour : ByteArray := prog_11_method_94_code
def yX9_isFour : MethodName := ⟨RX9, "isFour", "(I)Z"⟩
abbrev cX9_minds : ByteArray := prog_11_method_95_code
def yX9_minds : MethodName := ⟨RX9, "minds", "(IIII)I"⟩
abbrev cX9_sheet : ByteArray := prog_11_method_96_code
def yX9_sheet : MethodName := ⟨RX9, "sheet", "(III)I"⟩
abbrev cX9_narrowed : ByteArray := prog_11_method_97_code
def yX9_narrowed : MethodName := ⟨RX9, "narrowed", "(II)I"⟩
abbrev cX9_put : ByteArray := prog_11_method_98_code
def yX9_put : MethodName := ⟨RX9, "put", "(III)I"⟩
abbrev cX9_item_ : ByteArray := prog_11_method_99_code
def yX9_item_ : MethodName := ⟨RX9, "item", "(III)I"⟩
abbrev cX9_shelf : ByteArray := prog_11_method_100_code
def yX9_shelf : MethodName := ⟨RX9, "shelf", "(III)I"⟩
abbrev cX9_isHeld : ByteArray := prog_11_method_101_code
def yX9_isHeld : MethodName := ⟨RX9, "isHeld", "(I)Z"⟩
abbrev cX9_taken : ByteArray := prog_11_method_102_code
def yX9_taken : MethodName := ⟨RX9, "taken", "(II)I"⟩
abbrev cX9_runs : ByteArray := prog_11_method_103_code
def yX9_runs : MethodName := ⟨RX9, "runs", "(I)V"⟩
abbrev cX9_plainRubs : ByteArray := prog_11_method_104_code
def yX9_plainRubs : MethodName := ⟨RX9, "plainRubs", "(I)I"⟩
abbrev cX9_linenRubs : ByteArray := prog_11_method_105_code
def yX9_linenRubs : MethodName := ⟨RX9, "linenRubs", "(I)I"⟩
abbrev cX9_rubs : ByteArray := prog_11_method_106_code
def yX9_rubs : MethodName := ⟨RX9, "rubs", "(I)I"⟩
abbrev cX9_plainSteeps : ByteArray := prog_11_method_107_code
def yX9_plainSteeps : MethodName := ⟨RX9, "plainSteeps", "(I)I"⟩
abbrev cX9_steepsAct : ByteArray := prog_11_method_108_code
def yX9_steepsAct : MethodName := ⟨RX9, "steepsAct", "(I)I"⟩
abbrev cX9_plainParts : ByteArray := prog_11_method_109_code
def yX9_plainParts : MethodName := ⟨RX9, "plainParts", "(I)I"⟩
abbrev cX9_parts : ByteArray := prog_11_method_110_code
def yX9_parts : MethodName := ⟨RX9, "parts", "(I)I"⟩
abbrev cX9_plainDries : ByteArray := prog_11_method_111_code
def yX9_plainDries : MethodName := ⟨RX9, "plainDries", "(I)I"⟩
abbrev cX9_driesAct : ByteArray := prog_11_method_112_code
def yX9_driesAct : MethodName := ⟨RX9, "driesAct", "(I)I"⟩
abbrev cX9_act : ByteArray := prog_11_method_113_code
def yX9_act : MethodName := ⟨RX9, "act", "(III)I"⟩
abbrev cX9_trace : ByteArray := prog_11_method_114_code
def yX9_trace : MethodName := ⟨RX9, "trace", "(I)I"⟩
abbrev cX9_purposesAbout : ByteArray := prog_11_method_115_code
def yX9_purposesAbout : MethodName := ⟨RX9, "purposesAbout", "()I"⟩
abbrev cX9_many : ByteArray := prog_11_method_116_code
def yX9_many : MethodName := ⟨RX9, "many", "(I)I"⟩
abbrev cX9_keep : ByteArray := prog_11_method_117_code
def yX9_keep : MethodName := ⟨RX9, "keep", "()I"⟩
abbrev cX9_again : ByteArray := prog_11_method_118_code
def yX9_again : MethodName := ⟨RX9, "again", "()I"⟩
def RJ6 : String := "java/lang/Integer"
def TJ6 : u_T := fun k => match k with
  | _ => ("", "", "", false)
def tyJ6 : Nat → FieldType := fun k => match k with
  | _ => .int
abbrev wsJ60 : List Cond := u_ws RJ6 TJ6 0
theorem nmJ6 : ∀ a, a < 0 → ∀ b, b < 0 → a ≠ b → (TJ6 a).2.1 ≠ (TJ6 b).2.1 := by decide +kernel
theorem tyJ6_ok : ∀ k, k < 0 → parseFieldDescriptor (TJ6 k).2.2.1 = some (tyJ6 k) := by decide +kernel
abbrev cJ6_bitCount_0f7a4 : ByteArray := prog_12_method_49_code
def yJ6_bitCount_0f7a4 : MethodName := ⟨RJ6, "bitCount", "(I)I"⟩
def RJ9 : String := "java/lang/Math"
def TJ9 : u_T := fun k => match k with
  | _ => ("", "", "", false)
def tyJ9 : Nat → FieldType := fun k => match k with
  | _ => .int
abbrev wsJ90 : List Cond := u_ws RJ9 TJ9 0
theorem nmJ9 : ∀ a, a < 0 → ∀ b, b < 0 → a ≠ b → (TJ9 a).2.1 ≠ (TJ9 b).2.1 := by decide +kernel
theorem tyJ9_ok : ∀ k, k < 0 → parseFieldDescriptor (TJ9 k).2.2.1 = some (tyJ9 k) := by decide +kernel
abbrev cJ9_abs_0f7a4 : ByteArray := prog_13_method_59_code
def yJ9_abs_0f7a4 : MethodName := ⟨RJ9, "abs", "(I)I"⟩
abbrev cJ9_max_7cf53 : ByteArray := prog_13_method_65_code
def yJ9_max_7cf53 : MethodName := ⟨RJ9, "max", "(II)I"⟩
abbrev cJ9_min_7cf53 : ByteArray := prog_13_method_69_code
def yJ9_min_7cf53 : MethodName := ⟨RJ9, "min", "(II)I"⟩
def RJ0 : String := "java/lang/String"
def TJ0 : u_T := fun k => match k with
  | _ => ("", "", "", false)
def tyJ0 : Nat → FieldType := fun k => match k with
  | _ => .int
abbrev wsJ00 : List Cond := u_ws RJ0 TJ0 0
theorem nmJ0 : ∀ a, a < 0 → ∀ b, b < 0 → a ≠ b → (TJ0 a).2.1 ≠ (TJ0 b).2.1 := by decide +kernel
theorem tyJ0_ok : ∀ k, k < 0 → parseFieldDescriptor (TJ0 k).2.2.1 = some (tyJ0 k) := by decide +kernel
abbrev cJ0_length_8abf5 : ByteArray := prog_14_method_54_code
def yJ0_length_8abf5 : MethodName := ⟨RJ0, "length", "()I"⟩
abbrev cJ0_charAt_5068e : ByteArray := prog_14_method_56_code
def yJ0_charAt_5068e : MethodName := ⟨RJ0, "charAt", "(I)C"⟩
abbrev cJ0_coder_7d493 : ByteArray := prog_14_method_152_code
def yJ0_coder_7d493 : MethodName := ⟨RJ0, "coder", "()B"⟩
abbrev cJ0_isLatin1_aae02 : ByteArray := prog_14_method_154_code
def yJ0_isLatin1_aae02 : MethodName := ⟨RJ0, "isLatin1", "()Z"⟩
abbrev cJ0_checkIndex_df160 : ByteArray := prog_14_method_155_code
def yJ0_checkIndex_df160 : MethodName := ⟨RJ0, "checkIndex", "(II)V"⟩
def RJ1 : String := "java/lang/StringLatin1"
def TJ1 : u_T := fun k => match k with
  | _ => ("", "", "", false)
def tyJ1 : Nat → FieldType := fun k => match k with
  | _ => .int
abbrev wsJ10 : List Cond := u_ws RJ1 TJ1 0
theorem nmJ1 : ∀ a, a < 0 → ∀ b, b < 0 → a ≠ b → (TJ1 a).2.1 ≠ (TJ1 b).2.1 := by decide +kernel
theorem tyJ1_ok : ∀ k, k < 0 → parseFieldDescriptor (TJ1 k).2.2.1 = some (tyJ1 k) := by decide +kernel
abbrev cJ1_charAt_3b067 : ByteArray := prog_15_method_2_code
def yJ1_charAt_3b067 : MethodName := ⟨RJ1, "charAt", "([BI)C"⟩
def RJ2 : String := "java/lang/StringUTF16"
def TJ2 : u_T := fun k => match k with
  | _ => ("", "", "", false)
def tyJ2 : Nat → FieldType := fun k => match k with
  | _ => .int
abbrev wsJ20 : List Cond := u_ws RJ2 TJ2 0
theorem nmJ2 : ∀ a, a < 0 → ∀ b, b < 0 → a ≠ b → (TJ2 a).2.1 ≠ (TJ2 b).2.1 := by decide +kernel
theorem tyJ2_ok : ∀ k, k < 0 → parseFieldDescriptor (TJ2 k).2.2.1 = some (tyJ2 k) := by decide +kernel
abbrev cJ2_getChar_3b067 : ByteArray := prog_16_method_5_code
def yJ2_getChar_3b067 : MethodName := ⟨RJ2, "getChar", "([BI)C"⟩
abbrev cJ2_length_9d52b : ByteArray := prog_16_method_6_code
def yJ2_length_9d52b : MethodName := ⟨RJ2, "length", "([B)I"⟩
abbrev cJ2_charAt_3b067 : ByteArray := prog_16_method_83_code
def yJ2_charAt_3b067 : MethodName := ⟨RJ2, "charAt", "([BI)C"⟩
abbrev cJ2_checkIndex_2214a : ByteArray := prog_16_method_91_code
def yJ2_checkIndex_2214a : MethodName := ⟨RJ2, "checkIndex", "(I[B)V"⟩
def RJ10 : String := "java/lang/System"
def TJ10 : u_T := fun k => match k with
  | _ => ("", "", "", false)
def tyJ10 : Nat → FieldType := fun k => match k with
  | _ => .int
abbrev wsJ100 : List Cond := u_ws RJ10 TJ10 0
theorem nmJ10 : ∀ a, a < 0 → ∀ b, b < 0 → a ≠ b → (TJ10 a).2.1 ≠ (TJ10 b).2.1 := by decide +kernel
theorem tyJ10_ok : ∀ k, k < 0 → parseFieldDescriptor (TJ10 k).2.2.1 = some (tyJ10 k) := by decide +kernel
def RJ3 : String := "jdk/internal/util/Preconditions"
def TJ3 : u_T := fun k => match k with
  | _ => ("", "", "", false)
def tyJ3 : Nat → FieldType := fun k => match k with
  | _ => .int
abbrev wsJ30 : List Cond := u_ws RJ3 TJ3 0
theorem nmJ3 : ∀ a, a < 0 → ∀ b, b < 0 → a ≠ b → (TJ3 a).2.1 ≠ (TJ3 b).2.1 := by decide +kernel
theorem tyJ3_ok : ∀ k, k < 0 → parseFieldDescriptor (TJ3 k).2.2.1 = some (tyJ3 k) := by decide +kernel
abbrev cJ3_checkIndex_8e157 : ByteArray := prog_18_method_11_code
def yJ3_checkIndex_8e157 : MethodName := ⟨RJ3, "checkIndex", "(IILjava/util/function/BiFunction;)I"⟩
def RL : String := "IntentVatsLaw"
abbrev cL_law : ByteArray := code
def yL_law : MethodName := ⟨RL, "law", "([I)Z"⟩
set_option maxRecDepth 20000 in
set_option maxRecDepth 20000 in
abbrev vwCl : List vw_C := [(RX0, TX0, 6), (RX2, TX2, 1), (RX3, TX3, 12), (RX4, TX4, 2), (RX5, TX5, 2), (RX6, TX6, 2), (RX7, TX7, 6), (RX8, TX8, 10), (RX9, TX9, 25)]
