section
-- ===== PART A: goes FIRST, ahead of the names: the tables' words, and 'selects' of the private methods out of them =====
/-- a private method of a class that the tables say can be made, by its rows of tables_1 -/
def lw_okq (q : MethodName × Nat) : Prop := (q.1.cls ≠ "java/lang/invoke/MethodHandle" ∧ q.1.cls ≠ "java/lang/invoke/VarHandle") ∧ Cond.instantiable q.1.cls q.2 ∈ tables_1 ∧ Cond.privateMethod q.1 ∈ tables_1 ∧ Cond.instanceMethod q.1 ∈ tables_1
theorem lw_p0 : lw_okq (⟨"IntentVats$Tape", "readWord", "()V"⟩, 6) := ⟨⟨by decide +kernel, by decide +kernel⟩, List.mem_of_getElem? (i := 115) (by decide +kernel), List.mem_of_getElem? (i := 255) (by decide +kernel), List.mem_of_getElem? (i := 256) (by decide +kernel)⟩
theorem lw_p1 : lw_okq (⟨"IntentVats$Tape", "readDigits", "()V"⟩, 6) := ⟨⟨by decide +kernel, by decide +kernel⟩, List.mem_of_getElem? (i := 115) (by decide +kernel), List.mem_of_getElem? (i := 260) (by decide +kernel), List.mem_of_getElem? (i := 261) (by decide +kernel)⟩
theorem lw_p2 : lw_okq (⟨"IntentVats$Tape", "readStatement", "(LIntentVats$Mill;)Z"⟩, 6) := ⟨⟨by decide +kernel, by decide +kernel⟩, List.mem_of_getElem? (i := 115) (by decide +kernel), List.mem_of_getElem? (i := 264) (by decide +kernel), List.mem_of_getElem? (i := 265) (by decide +kernel)⟩
theorem lw_p3 : lw_okq (⟨"IntentVats$Tape", "kindNamed", "()I"⟩, 6) := ⟨⟨by decide +kernel, by decide +kernel⟩, List.mem_of_getElem? (i := 115) (by decide +kernel), List.mem_of_getElem? (i := 268) (by decide +kernel), List.mem_of_getElem? (i := 269) (by decide +kernel)⟩
theorem lw_p4 : lw_okq (⟨"IntentVats$Tape", "isName", "(Ljava/lang/String;)Z"⟩, 6) := ⟨⟨by decide +kernel, by decide +kernel⟩, List.mem_of_getElem? (i := 115) (by decide +kernel), List.mem_of_getElem? (i := 273) (by decide +kernel), List.mem_of_getElem? (i := 274) (by decide +kernel)⟩
theorem lw_p5 : lw_okq (⟨"IntentVats$Tape", "readCloth", "(LIntentVats$Mill;I)Z"⟩, 6) := ⟨⟨by decide +kernel, by decide +kernel⟩, List.mem_of_getElem? (i := 115) (by decide +kernel), List.mem_of_getElem? (i := 330) (by decide +kernel), List.mem_of_getElem? (i := 331) (by decide +kernel)⟩
theorem lw_p6 : lw_okq (⟨"IntentVats$Tape", "readNumber", "(II)Z"⟩, 6) := ⟨⟨by decide +kernel, by decide +kernel⟩, List.mem_of_getElem? (i := 115) (by decide +kernel), List.mem_of_getElem? (i := 339) (by decide +kernel), List.mem_of_getElem? (i := 340) (by decide +kernel)⟩
theorem lw_p7 : lw_okq (⟨"IntentVats$Tape", "isStop", "()Z"⟩, 6) := ⟨⟨by decide +kernel, by decide +kernel⟩, List.mem_of_getElem? (i := 115) (by decide +kernel), List.mem_of_getElem? (i := 345) (by decide +kernel), List.mem_of_getElem? (i := 346) (by decide +kernel)⟩
theorem lw_p8 : lw_okq (⟨"IntentVats$Tape", "readVat", "(LIntentVats$Mill;)Z"⟩, 6) := ⟨⟨by decide +kernel, by decide +kernel⟩, List.mem_of_getElem? (i := 115) (by decide +kernel), List.mem_of_getElem? (i := 350) (by decide +kernel), List.mem_of_getElem? (i := 351) (by decide +kernel)⟩
theorem lw_p9 : lw_okq (⟨"IntentVats$Tape", "readName", "(Ljava/lang/String;)Z"⟩, 6) := ⟨⟨by decide +kernel, by decide +kernel⟩, List.mem_of_getElem? (i := 115) (by decide +kernel), List.mem_of_getElem? (i := 355) (by decide +kernel), List.mem_of_getElem? (i := 356) (by decide +kernel)⟩
theorem lw_p10 : lw_okq (⟨"IntentVats$Tape", "readStop", "()Z"⟩, 6) := ⟨⟨by decide +kernel, by decide +kernel⟩, List.mem_of_getElem? (i := 115) (by decide +kernel), List.mem_of_getElem? (i := 359) (by decide +kernel), List.mem_of_getElem? (i := 360) (by decide +kernel)⟩
theorem lw_p11 : lw_okq (⟨"IntentVats$Tape", "readStrong", "(LIntentVats$Mill;)Z"⟩, 6) := ⟨⟨by decide +kernel, by decide +kernel⟩, List.mem_of_getElem? (i := 115) (by decide +kernel), List.mem_of_getElem? (i := 364) (by decide +kernel), List.mem_of_getElem? (i := 365) (by decide +kernel)⟩
theorem lw_p12 : lw_okq (⟨"IntentVats$Tape", "readDay", "(LIntentVats$Mill;)Z"⟩, 6) := ⟨⟨by decide +kernel, by decide +kernel⟩, List.mem_of_getElem? (i := 115) (by decide +kernel), List.mem_of_getElem? (i := 369) (by decide +kernel), List.mem_of_getElem? (i := 370) (by decide +kernel)⟩
theorem lw_p13 : lw_okq (⟨"IntentVats$Tape", "lawNamed", "()I"⟩, 6) := ⟨⟨by decide +kernel, by decide +kernel⟩, List.mem_of_getElem? (i := 115) (by decide +kernel), List.mem_of_getElem? (i := 373) (by decide +kernel), List.mem_of_getElem? (i := 374) (by decide +kernel)⟩
theorem lw_p14 : lw_okq (⟨"IntentVats$Tape", "readLaw", "(LIntentVats$Mill;I)Z"⟩, 6) := ⟨⟨by decide +kernel, by decide +kernel⟩, List.mem_of_getElem? (i := 115) (by decide +kernel), List.mem_of_getElem? (i := 381) (by decide +kernel), List.mem_of_getElem? (i := 382) (by decide +kernel)⟩
theorem lw_p15 : lw_okq (⟨"IntentVats$Mill", "isForOdds", "(I)Z"⟩, 12) := ⟨⟨by decide +kernel, by decide +kernel⟩, List.mem_of_getElem? (i := 27) (by decide +kernel), List.mem_of_getElem? (i := 569) (by decide +kernel), List.mem_of_getElem? (i := 570) (by decide +kernel)⟩
def lw_privs_1 : List (MethodName × Nat) := [(⟨"IntentVats$Tape", "readWord", "()V"⟩, 6), (⟨"IntentVats$Tape", "readDigits", "()V"⟩, 6), (⟨"IntentVats$Tape", "readStatement", "(LIntentVats$Mill;)Z"⟩, 6), (⟨"IntentVats$Tape", "kindNamed", "()I"⟩, 6), (⟨"IntentVats$Tape", "isName", "(Ljava/lang/String;)Z"⟩, 6), (⟨"IntentVats$Tape", "readCloth", "(LIntentVats$Mill;I)Z"⟩, 6), (⟨"IntentVats$Tape", "readNumber", "(II)Z"⟩, 6), (⟨"IntentVats$Tape", "isStop", "()Z"⟩, 6), (⟨"IntentVats$Tape", "readVat", "(LIntentVats$Mill;)Z"⟩, 6), (⟨"IntentVats$Tape", "readName", "(Ljava/lang/String;)Z"⟩, 6), (⟨"IntentVats$Tape", "readStop", "()Z"⟩, 6), (⟨"IntentVats$Tape", "readStrong", "(LIntentVats$Mill;)Z"⟩, 6), (⟨"IntentVats$Tape", "readDay", "(LIntentVats$Mill;)Z"⟩, 6), (⟨"IntentVats$Tape", "lawNamed", "()I"⟩, 6), (⟨"IntentVats$Tape", "readLaw", "(LIntentVats$Mill;I)Z"⟩, 6), (⟨"IntentVats$Mill", "isForOdds", "(I)Z"⟩, 12)]
theorem lw_r1 : ∀ q ∈ lw_privs_1, lw_okq q := List.forall_mem_cons.mpr ⟨lw_p0, List.forall_mem_cons.mpr ⟨lw_p1, List.forall_mem_cons.mpr ⟨lw_p2, List.forall_mem_cons.mpr ⟨lw_p3, List.forall_mem_cons.mpr ⟨lw_p4, List.forall_mem_cons.mpr ⟨lw_p5, List.forall_mem_cons.mpr ⟨lw_p6, List.forall_mem_cons.mpr ⟨lw_p7, List.forall_mem_cons.mpr ⟨lw_p8, List.forall_mem_cons.mpr ⟨lw_p9, List.forall_mem_cons.mpr ⟨lw_p10, List.forall_mem_cons.mpr ⟨lw_p11, List.forall_mem_cons.mpr ⟨lw_p12, List.forall_mem_cons.mpr ⟨lw_p13, List.forall_mem_cons.mpr ⟨lw_p14, List.forall_mem_cons.mpr ⟨lw_p15, fun _ h => absurd h List.not_mem_nil⟩⟩⟩⟩⟩⟩⟩⟩⟩⟩⟩⟩⟩⟩⟩⟩
theorem lw_p16 : lw_okq (⟨"IntentVats$Forecast", "spoiltFromHere", "(LIntentVats$Mill;I)I"⟩, 1) := ⟨⟨by decide +kernel, by decide +kernel⟩, List.mem_of_getElem? (i := 103) (by decide +kernel), List.mem_of_getElem? (i := 606) (by decide +kernel), List.mem_of_getElem? (i := 607) (by decide +kernel)⟩
theorem lw_p17 : lw_okq (⟨"IntentVats$Forecast", "leadsTo", "(LIntentVats$Mill;IIII)Z"⟩, 1) := ⟨⟨by decide +kernel, by decide +kernel⟩, List.mem_of_getElem? (i := 103) (by decide +kernel), List.mem_of_getElem? (i := 618) (by decide +kernel), List.mem_of_getElem? (i := 619) (by decide +kernel)⟩
theorem lw_p18 : lw_okq (⟨"IntentVats$Forecast", "hangJust", "(LIntentVats$Mill;I)V"⟩, 1) := ⟨⟨by decide +kernel, by decide +kernel⟩, List.mem_of_getElem? (i := 103) (by decide +kernel), List.mem_of_getElem? (i := 662) (by decide +kernel), List.mem_of_getElem? (i := 663) (by decide +kernel)⟩
theorem lw_p19 : lw_okq (⟨"IntentVats$Forecast", "fitsAs", "(LIntentVats$Mill;IILIntentVats$SheetRow;)Z"⟩, 1) := ⟨⟨by decide +kernel, by decide +kernel⟩, List.mem_of_getElem? (i := 103) (by decide +kernel), List.mem_of_getElem? (i := 677) (by decide +kernel), List.mem_of_getElem? (i := 678) (by decide +kernel)⟩
theorem lw_p20 : lw_okq (⟨"IntentVats$Forecast", "rowPart", "(II)I"⟩, 1) := ⟨⟨by decide +kernel, by decide +kernel⟩, List.mem_of_getElem? (i := 103) (by decide +kernel), List.mem_of_getElem? (i := 725) (by decide +kernel), List.mem_of_getElem? (i := 726) (by decide +kernel)⟩
theorem lw_p21 : lw_okq (⟨"IntentVats$Acts", "own", "(III)I"⟩, 6) := ⟨⟨by decide +kernel, by decide +kernel⟩, List.mem_of_getElem? (i := 172) (by decide +kernel), List.mem_of_getElem? (i := 850) (by decide +kernel), List.mem_of_getElem? (i := 851) (by decide +kernel)⟩
theorem lw_p22 : lw_okq (⟨"IntentVats$Acts", "body", "(III)I"⟩, 6) := ⟨⟨by decide +kernel, by decide +kernel⟩, List.mem_of_getElem? (i := 172) (by decide +kernel), List.mem_of_getElem? (i := 856) (by decide +kernel), List.mem_of_getElem? (i := 857) (by decide +kernel)⟩
theorem lw_p23 : lw_okq (⟨"IntentVats$Acts", "note", "(I)V"⟩, 6) := ⟨⟨by decide +kernel, by decide +kernel⟩, List.mem_of_getElem? (i := 172) (by decide +kernel), List.mem_of_getElem? (i := 860) (by decide +kernel), List.mem_of_getElem? (i := 861) (by decide +kernel)⟩
theorem lw_p24 : lw_okq (⟨"IntentVats$Acts", "parted", "(II)I"⟩, 6) := ⟨⟨by decide +kernel, by decide +kernel⟩, List.mem_of_getElem? (i := 172) (by decide +kernel), List.mem_of_getElem? (i := 864) (by decide +kernel), List.mem_of_getElem? (i := 865) (by decide +kernel)⟩
theorem lw_p25 : lw_okq (⟨"IntentVatsModel", "anew", "()V"⟩, 25) := ⟨⟨by decide +kernel, by decide +kernel⟩, List.mem_of_getElem? (i := 889) (by decide +kernel), List.mem_of_getElem? (i := 895) (by decide +kernel), List.mem_of_getElem? (i := 896) (by decide +kernel)⟩
theorem lw_p26 : lw_okq (⟨"IntentVatsModel", "becomes", "(II)I"⟩, 25) := ⟨⟨by decide +kernel, by decide +kernel⟩, List.mem_of_getElem? (i := 889) (by decide +kernel), List.mem_of_getElem? (i := 983) (by decide +kernel), List.mem_of_getElem? (i := 984) (by decide +kernel)⟩
theorem lw_p27 : lw_okq (⟨"IntentVatsModel", "adds", "(I)V"⟩, 25) := ⟨⟨by decide +kernel, by decide +kernel⟩, List.mem_of_getElem? (i := 889) (by decide +kernel), List.mem_of_getElem? (i := 1023) (by decide +kernel), List.mem_of_getElem? (i := 1024) (by decide +kernel)⟩
theorem lw_p28 : lw_okq (⟨"IntentVatsModel", "sets", "(III)V"⟩, 25) := ⟨⟨by decide +kernel, by decide +kernel⟩, List.mem_of_getElem? (i := 889) (by decide +kernel), List.mem_of_getElem? (i := 1027) (by decide +kernel), List.mem_of_getElem? (i := 1028) (by decide +kernel)⟩
theorem lw_p29 : lw_okq (⟨"IntentVatsModel", "isCloth", "(I)Z"⟩, 25) := ⟨⟨by decide +kernel, by decide +kernel⟩, List.mem_of_getElem? (i := 889) (by decide +kernel), List.mem_of_getElem? (i := 1035) (by decide +kernel), List.mem_of_getElem? (i := 1036) (by decide +kernel)⟩
theorem lw_p30 : lw_okq (⟨"IntentVatsModel", "its", "(II)I"⟩, 25) := ⟨⟨by decide +kernel, by decide +kernel⟩, List.mem_of_getElem? (i := 889) (by decide +kernel), List.mem_of_getElem? (i := 1040) (by decide +kernel), List.mem_of_getElem? (i := 1041) (by decide +kernel)⟩
theorem lw_p31 : lw_okq (⟨"IntentVatsModel", "takesOf", "(II)I"⟩, 25) := ⟨⟨by decide +kernel, by decide +kernel⟩, List.mem_of_getElem? (i := 889) (by decide +kernel), List.mem_of_getElem? (i := 1049) (by decide +kernel), List.mem_of_getElem? (i := 1050) (by decide +kernel)⟩
def lw_privs_2 : List (MethodName × Nat) := [(⟨"IntentVats$Forecast", "spoiltFromHere", "(LIntentVats$Mill;I)I"⟩, 1), (⟨"IntentVats$Forecast", "leadsTo", "(LIntentVats$Mill;IIII)Z"⟩, 1), (⟨"IntentVats$Forecast", "hangJust", "(LIntentVats$Mill;I)V"⟩, 1), (⟨"IntentVats$Forecast", "fitsAs", "(LIntentVats$Mill;IILIntentVats$SheetRow;)Z"⟩, 1), (⟨"IntentVats$Forecast", "rowPart", "(II)I"⟩, 1), (⟨"IntentVats$Acts", "own", "(III)I"⟩, 6), (⟨"IntentVats$Acts", "body", "(III)I"⟩, 6), (⟨"IntentVats$Acts", "note", "(I)V"⟩, 6), (⟨"IntentVats$Acts", "parted", "(II)I"⟩, 6), (⟨"IntentVatsModel", "anew", "()V"⟩, 25), (⟨"IntentVatsModel", "becomes", "(II)I"⟩, 25), (⟨"IntentVatsModel", "adds", "(I)V"⟩, 25), (⟨"IntentVatsModel", "sets", "(III)V"⟩, 25), (⟨"IntentVatsModel", "isCloth", "(I)Z"⟩, 25), (⟨"IntentVatsModel", "its", "(II)I"⟩, 25), (⟨"IntentVatsModel", "takesOf", "(II)I"⟩, 25)]
theorem lw_r2 : ∀ q ∈ lw_privs_2, lw_okq q := List.forall_mem_cons.mpr ⟨lw_p16, List.forall_mem_cons.mpr ⟨lw_p17, List.forall_mem_cons.mpr ⟨lw_p18, List.forall_mem_cons.mpr ⟨lw_p19, List.forall_mem_cons.mpr ⟨lw_p20, List.forall_mem_cons.mpr ⟨lw_p21, List.forall_mem_cons.mpr ⟨lw_p22, List.forall_mem_cons.mpr ⟨lw_p23, List.forall_mem_cons.mpr ⟨lw_p24, List.forall_mem_cons.mpr ⟨lw_p25, List.forall_mem_cons.mpr ⟨lw_p26, List.forall_mem_cons.mpr ⟨lw_p27, List.forall_mem_cons.mpr ⟨lw_p28, List.forall_mem_cons.mpr ⟨lw_p29, List.forall_mem_cons.mpr ⟨lw_p30, List.forall_mem_cons.mpr ⟨lw_p31, fun _ h => absurd h List.not_mem_nil⟩⟩⟩⟩⟩⟩⟩⟩⟩⟩⟩⟩⟩⟩⟩⟩
theorem lw_p32 : lw_okq (⟨"IntentVatsModel", "fightsOf", "(II)I"⟩, 25) := ⟨⟨by decide +kernel, by decide +kernel⟩, List.mem_of_getElem? (i := 889) (by decide +kernel), List.mem_of_getElem? (i := 1053) (by decide +kernel), List.mem_of_getElem? (i := 1054) (by decide +kernel)⟩
theorem lw_p33 : lw_okq (⟨"IntentVatsModel", "fadesOf", "(I)I"⟩, 25) := ⟨⟨by decide +kernel, by decide +kernel⟩, List.mem_of_getElem? (i := 889) (by decide +kernel), List.mem_of_getElem? (i := 1057) (by decide +kernel), List.mem_of_getElem? (i := 1058) (by decide +kernel)⟩
theorem lw_p34 : lw_okq (⟨"IntentVatsModel", "changed", "(III)I"⟩, 25) := ⟨⟨by decide +kernel, by decide +kernel⟩, List.mem_of_getElem? (i := 889) (by decide +kernel), List.mem_of_getElem? (i := 1065) (by decide +kernel), List.mem_of_getElem? (i := 1066) (by decide +kernel)⟩
theorem lw_p35 : lw_okq (⟨"IntentVatsModel", "dips", "(II)V"⟩, 25) := ⟨⟨by decide +kernel, by decide +kernel⟩, List.mem_of_getElem? (i := 889) (by decide +kernel), List.mem_of_getElem? (i := 1085) (by decide +kernel), List.mem_of_getElem? (i := 1086) (by decide +kernel)⟩
theorem lw_p36 : lw_okq (⟨"IntentVatsModel", "isDeep", "(II)V"⟩, 25) := ⟨⟨by decide +kernel, by decide +kernel⟩, List.mem_of_getElem? (i := 889) (by decide +kernel), List.mem_of_getElem? (i := 1089) (by decide +kernel), List.mem_of_getElem? (i := 1090) (by decide +kernel)⟩
theorem lw_p37 : lw_okq (⟨"IntentVatsModel", "goes", "(I)V"⟩, 25) := ⟨⟨by decide +kernel, by decide +kernel⟩, List.mem_of_getElem? (i := 889) (by decide +kernel), List.mem_of_getElem? (i := 1107) (by decide +kernel), List.mem_of_getElem? (i := 1108) (by decide +kernel)⟩
theorem lw_p38 : lw_okq (⟨"IntentVatsModel", "aDay", "()V"⟩, 25) := ⟨⟨by decide +kernel, by decide +kernel⟩, List.mem_of_getElem? (i := 889) (by decide +kernel), List.mem_of_getElem? (i := 1111) (by decide +kernel), List.mem_of_getElem? (i := 1112) (by decide +kernel)⟩
theorem lw_p39 : lw_okq (⟨"IntentVatsModel", "depths", "()I"⟩, 25) := ⟨⟨by decide +kernel, by decide +kernel⟩, List.mem_of_getElem? (i := 889) (by decide +kernel), List.mem_of_getElem? (i := 1115) (by decide +kernel), List.mem_of_getElem? (i := 1116) (by decide +kernel)⟩
theorem lw_p40 : lw_okq (⟨"IntentVatsModel", "byDraws", "()V"⟩, 25) := ⟨⟨by decide +kernel, by decide +kernel⟩, List.mem_of_getElem? (i := 889) (by decide +kernel), List.mem_of_getElem? (i := 1127) (by decide +kernel), List.mem_of_getElem? (i := 1128) (by decide +kernel)⟩
theorem lw_p41 : lw_okq (⟨"IntentVatsModel", "draw", "()I"⟩, 25) := ⟨⟨by decide +kernel, by decide +kernel⟩, List.mem_of_getElem? (i := 889) (by decide +kernel), List.mem_of_getElem? (i := 1131) (by decide +kernel), List.mem_of_getElem? (i := 1132) (by decide +kernel)⟩
theorem lw_p42 : lw_okq (⟨"IntentVatsModel", "lends", "()V"⟩, 25) := ⟨⟨by decide +kernel, by decide +kernel⟩, List.mem_of_getElem? (i := 889) (by decide +kernel), List.mem_of_getElem? (i := 1141) (by decide +kernel), List.mem_of_getElem? (i := 1142) (by decide +kernel)⟩
theorem lw_p43 : lw_okq (⟨"IntentVatsModel", "laysBack", "()V"⟩, 25) := ⟨⟨by decide +kernel, by decide +kernel⟩, List.mem_of_getElem? (i := 889) (by decide +kernel), List.mem_of_getElem? (i := 1148) (by decide +kernel), List.mem_of_getElem? (i := 1149) (by decide +kernel)⟩
theorem lw_p44 : lw_okq (⟨"IntentVatsModel", "hungSet", "()I"⟩, 25) := ⟨⟨by decide +kernel, by decide +kernel⟩, List.mem_of_getElem? (i := 889) (by decide +kernel), List.mem_of_getElem? (i := 1156) (by decide +kernel), List.mem_of_getElem? (i := 1157) (by decide +kernel)⟩
theorem lw_p45 : lw_okq (⟨"IntentVatsModel", "aboutSet", "()I"⟩, 25) := ⟨⟨by decide +kernel, by decide +kernel⟩, List.mem_of_getElem? (i := 889) (by decide +kernel), List.mem_of_getElem? (i := 1160) (by decide +kernel), List.mem_of_getElem? (i := 1161) (by decide +kernel)⟩
theorem lw_p46 : lw_okq (⟨"IntentVatsModel", "oddsAmong", "()I"⟩, 25) := ⟨⟨by decide +kernel, by decide +kernel⟩, List.mem_of_getElem? (i := 889) (by decide +kernel), List.mem_of_getElem? (i := 1164) (by decide +kernel), List.mem_of_getElem? (i := 1165) (by decide +kernel)⟩
theorem lw_p47 : lw_okq (⟨"IntentVatsModel", "isAtOdds", "(II)Z"⟩, 25) := ⟨⟨by decide +kernel, by decide +kernel⟩, List.mem_of_getElem? (i := 889) (by decide +kernel), List.mem_of_getElem? (i := 1168) (by decide +kernel), List.mem_of_getElem? (i := 1169) (by decide +kernel)⟩
def lw_privs_3 : List (MethodName × Nat) := [(⟨"IntentVatsModel", "fightsOf", "(II)I"⟩, 25), (⟨"IntentVatsModel", "fadesOf", "(I)I"⟩, 25), (⟨"IntentVatsModel", "changed", "(III)I"⟩, 25), (⟨"IntentVatsModel", "dips", "(II)V"⟩, 25), (⟨"IntentVatsModel", "isDeep", "(II)V"⟩, 25), (⟨"IntentVatsModel", "goes", "(I)V"⟩, 25), (⟨"IntentVatsModel", "aDay", "()V"⟩, 25), (⟨"IntentVatsModel", "depths", "()I"⟩, 25), (⟨"IntentVatsModel", "byDraws", "()V"⟩, 25), (⟨"IntentVatsModel", "draw", "()I"⟩, 25), (⟨"IntentVatsModel", "lends", "()V"⟩, 25), (⟨"IntentVatsModel", "laysBack", "()V"⟩, 25), (⟨"IntentVatsModel", "hungSet", "()I"⟩, 25), (⟨"IntentVatsModel", "aboutSet", "()I"⟩, 25), (⟨"IntentVatsModel", "oddsAmong", "()I"⟩, 25), (⟨"IntentVatsModel", "isAtOdds", "(II)Z"⟩, 25)]
theorem lw_r3 : ∀ q ∈ lw_privs_3, lw_okq q := List.forall_mem_cons.mpr ⟨lw_p32, List.forall_mem_cons.mpr ⟨lw_p33, List.forall_mem_cons.mpr ⟨lw_p34, List.forall_mem_cons.mpr ⟨lw_p35, List.forall_mem_cons.mpr ⟨lw_p36, List.forall_mem_cons.mpr ⟨lw_p37, List.forall_mem_cons.mpr ⟨lw_p38, List.forall_mem_cons.mpr ⟨lw_p39, List.forall_mem_cons.mpr ⟨lw_p40, List.forall_mem_cons.mpr ⟨lw_p41, List.forall_mem_cons.mpr ⟨lw_p42, List.forall_mem_cons.mpr ⟨lw_p43, List.forall_mem_cons.mpr ⟨lw_p44, List.forall_mem_cons.mpr ⟨lw_p45, List.forall_mem_cons.mpr ⟨lw_p46, List.forall_mem_cons.mpr ⟨lw_p47, fun _ h => absurd h List.not_mem_nil⟩⟩⟩⟩⟩⟩⟩⟩⟩⟩⟩⟩⟩⟩⟩⟩
theorem lw_p48 : lw_okq (⟨"IntentVatsModel", "behind", "(III)I"⟩, 25) := ⟨⟨by decide +kernel, by decide +kernel⟩, List.mem_of_getElem? (i := 889) (by decide +kernel), List.mem_of_getElem? (i := 1179) (by decide +kernel), List.mem_of_getElem? (i := 1180) (by decide +kernel)⟩
theorem lw_p49 : lw_okq (⟨"IntentVatsModel", "firstAbout", "(II)I"⟩, 25) := ⟨⟨by decide +kernel, by decide +kernel⟩, List.mem_of_getElem? (i := 889) (by decide +kernel), List.mem_of_getElem? (i := 1191) (by decide +kernel), List.mem_of_getElem? (i := 1192) (by decide +kernel)⟩
theorem lw_p50 : lw_okq (⟨"IntentVatsModel", "spoiltIn", "(I)I"⟩, 25) := ⟨⟨by decide +kernel, by decide +kernel⟩, List.mem_of_getElem? (i := 889) (by decide +kernel), List.mem_of_getElem? (i := 1203) (by decide +kernel), List.mem_of_getElem? (i := 1204) (by decide +kernel)⟩
theorem lw_p51 : lw_okq (⟨"IntentVatsModel", "isThrough", "(IIII)Z"⟩, 25) := ⟨⟨by decide +kernel, by decide +kernel⟩, List.mem_of_getElem? (i := 889) (by decide +kernel), List.mem_of_getElem? (i := 1211) (by decide +kernel), List.mem_of_getElem? (i := 1212) (by decide +kernel)⟩
theorem lw_p52 : lw_okq (⟨"IntentVatsModel", "hangs", "(I)V"⟩, 25) := ⟨⟨by decide +kernel, by decide +kernel⟩, List.mem_of_getElem? (i := 889) (by decide +kernel), List.mem_of_getElem? (i := 1239) (by decide +kernel), List.mem_of_getElem? (i := 1240) (by decide +kernel)⟩
theorem lw_p53 : lw_okq (⟨"IntentVatsModel", "isSo", "(III)Z"⟩, 25) := ⟨⟨by decide +kernel, by decide +kernel⟩, List.mem_of_getElem? (i := 889) (by decide +kernel), List.mem_of_getElem? (i := 1250) (by decide +kernel), List.mem_of_getElem? (i := 1251) (by decide +kernel)⟩
theorem lw_p54 : lw_okq (⟨"IntentVatsModel", "next", "()V"⟩, 25) := ⟨⟨by decide +kernel, by decide +kernel⟩, List.mem_of_getElem? (i := 889) (by decide +kernel), List.mem_of_getElem? (i := 1276) (by decide +kernel), List.mem_of_getElem? (i := 1277) (by decide +kernel)⟩
theorem lw_p55 : lw_okq (⟨"IntentVatsModel", "isByte", "(III)Z"⟩, 25) := ⟨⟨by decide +kernel, by decide +kernel⟩, List.mem_of_getElem? (i := 889) (by decide +kernel), List.mem_of_getElem? (i := 1280) (by decide +kernel), List.mem_of_getElem? (i := 1281) (by decide +kernel)⟩
theorem lw_p56 : lw_okq (⟨"IntentVatsModel", "item", "()V"⟩, 25) := ⟨⟨by decide +kernel, by decide +kernel⟩, List.mem_of_getElem? (i := 889) (by decide +kernel), List.mem_of_getElem? (i := 1284) (by decide +kernel), List.mem_of_getElem? (i := 1285) (by decide +kernel)⟩
theorem lw_p57 : lw_okq (⟨"IntentVatsModel", "kindHere", "()I"⟩, 25) := ⟨⟨by decide +kernel, by decide +kernel⟩, List.mem_of_getElem? (i := 889) (by decide +kernel), List.mem_of_getElem? (i := 1288) (by decide +kernel), List.mem_of_getElem? (i := 1289) (by decide +kernel)⟩
theorem lw_p58 : lw_okq (⟨"IntentVatsModel", "isWord", "(Ljava/lang/String;)Z"⟩, 25) := ⟨⟨by decide +kernel, by decide +kernel⟩, List.mem_of_getElem? (i := 889) (by decide +kernel), List.mem_of_getElem? (i := 1293) (by decide +kernel), List.mem_of_getElem? (i := 1294) (by decide +kernel)⟩
theorem lw_p59 : lw_okq (⟨"IntentVatsModel", "lawHere", "()I"⟩, 25) := ⟨⟨by decide +kernel, by decide +kernel⟩, List.mem_of_getElem? (i := 889) (by decide +kernel), List.mem_of_getElem? (i := 1304) (by decide +kernel), List.mem_of_getElem? (i := 1305) (by decide +kernel)⟩
theorem lw_p60 : lw_okq (⟨"IntentVatsModel", "clothTold", "(I)V"⟩, 25) := ⟨⟨by decide +kernel, by decide +kernel⟩, List.mem_of_getElem? (i := 889) (by decide +kernel), List.mem_of_getElem? (i := 1312) (by decide +kernel), List.mem_of_getElem? (i := 1313) (by decide +kernel)⟩
theorem lw_p61 : lw_okq (⟨"IntentVatsModel", "must", "(Z)V"⟩, 25) := ⟨⟨by decide +kernel, by decide +kernel⟩, List.mem_of_getElem? (i := 889) (by decide +kernel), List.mem_of_getElem? (i := 1316) (by decide +kernel), List.mem_of_getElem? (i := 1317) (by decide +kernel)⟩
theorem lw_p62 : lw_okq (⟨"IntentVatsModel", "takes", "(Ljava/lang/String;)Z"⟩, 25) := ⟨⟨by decide +kernel, by decide +kernel⟩, List.mem_of_getElem? (i := 889) (by decide +kernel), List.mem_of_getElem? (i := 1321) (by decide +kernel), List.mem_of_getElem? (i := 1322) (by decide +kernel)⟩
theorem lw_p63 : lw_okq (⟨"IntentVatsModel", "number", "(II)I"⟩, 25) := ⟨⟨by decide +kernel, by decide +kernel⟩, List.mem_of_getElem? (i := 889) (by decide +kernel), List.mem_of_getElem? (i := 1325) (by decide +kernel), List.mem_of_getElem? (i := 1326) (by decide +kernel)⟩
def lw_privs_4 : List (MethodName × Nat) := [(⟨"IntentVatsModel", "behind", "(III)I"⟩, 25), (⟨"IntentVatsModel", "firstAbout", "(II)I"⟩, 25), (⟨"IntentVatsModel", "spoiltIn", "(I)I"⟩, 25), (⟨"IntentVatsModel", "isThrough", "(IIII)Z"⟩, 25), (⟨"IntentVatsModel", "hangs", "(I)V"⟩, 25), (⟨"IntentVatsModel", "isSo", "(III)Z"⟩, 25), (⟨"IntentVatsModel", "next", "()V"⟩, 25), (⟨"IntentVatsModel", "isByte", "(III)Z"⟩, 25), (⟨"IntentVatsModel", "item", "()V"⟩, 25), (⟨"IntentVatsModel", "kindHere", "()I"⟩, 25), (⟨"IntentVatsModel", "isWord", "(Ljava/lang/String;)Z"⟩, 25), (⟨"IntentVatsModel", "lawHere", "()I"⟩, 25), (⟨"IntentVatsModel", "clothTold", "(I)V"⟩, 25), (⟨"IntentVatsModel", "must", "(Z)V"⟩, 25), (⟨"IntentVatsModel", "takes", "(Ljava/lang/String;)Z"⟩, 25), (⟨"IntentVatsModel", "number", "(II)I"⟩, 25)]
theorem lw_r4 : ∀ q ∈ lw_privs_4, lw_okq q := List.forall_mem_cons.mpr ⟨lw_p48, List.forall_mem_cons.mpr ⟨lw_p49, List.forall_mem_cons.mpr ⟨lw_p50, List.forall_mem_cons.mpr ⟨lw_p51, List.forall_mem_cons.mpr ⟨lw_p52, List.forall_mem_cons.mpr ⟨lw_p53, List.forall_mem_cons.mpr ⟨lw_p54, List.forall_mem_cons.mpr ⟨lw_p55, List.forall_mem_cons.mpr ⟨lw_p56, List.forall_mem_cons.mpr ⟨lw_p57, List.forall_mem_cons.mpr ⟨lw_p58, List.forall_mem_cons.mpr ⟨lw_p59, List.forall_mem_cons.mpr ⟨lw_p60, List.forall_mem_cons.mpr ⟨lw_p61, List.forall_mem_cons.mpr ⟨lw_p62, List.forall_mem_cons.mpr ⟨lw_p63, fun _ h => absurd h List.not_mem_nil⟩⟩⟩⟩⟩⟩⟩⟩⟩⟩⟩⟩⟩⟩⟩⟩
theorem lw_p64 : lw_okq (⟨"IntentVatsModel", "figures", "()I"⟩, 25) := ⟨⟨by decide +kernel, by decide +kernel⟩, List.mem_of_getElem? (i := 889) (by decide +kernel), List.mem_of_getElem? (i := 1329) (by decide +kernel), List.mem_of_getElem? (i := 1330) (by decide +kernel)⟩
theorem lw_p65 : lw_okq (⟨"IntentVatsModel", "twoTold", "(IILjava/lang/String;I)V"⟩, 25) := ⟨⟨by decide +kernel, by decide +kernel⟩, List.mem_of_getElem? (i := 889) (by decide +kernel), List.mem_of_getElem? (i := 1337) (by decide +kernel), List.mem_of_getElem? (i := 1338) (by decide +kernel)⟩
theorem lw_p66 : lw_okq (⟨"IntentVatsModel", "lawTold", "(I)V"⟩, 25) := ⟨⟨by decide +kernel, by decide +kernel⟩, List.mem_of_getElem? (i := 889) (by decide +kernel), List.mem_of_getElem? (i := 1344) (by decide +kernel), List.mem_of_getElem? (i := 1345) (by decide +kernel)⟩
theorem lw_p67 : lw_okq (⟨"IntentVatsModel", "isCell", "(II)Z"⟩, 25) := ⟨⟨by decide +kernel, by decide +kernel⟩, List.mem_of_getElem? (i := 889) (by decide +kernel), List.mem_of_getElem? (i := 1358) (by decide +kernel), List.mem_of_getElem? (i := 1359) (by decide +kernel)⟩
theorem lw_p68 : lw_okq (⟨"IntentVatsModel", "isRight", "(II)Z"⟩, 25) := ⟨⟨by decide +kernel, by decide +kernel⟩, List.mem_of_getElem? (i := 889) (by decide +kernel), List.mem_of_getElem? (i := 1370) (by decide +kernel), List.mem_of_getElem? (i := 1371) (by decide +kernel)⟩
theorem lw_p69 : lw_okq (⟨"IntentVatsModel", "isHeld", "(I)Z"⟩, 25) := ⟨⟨by decide +kernel, by decide +kernel⟩, List.mem_of_getElem? (i := 889) (by decide +kernel), List.mem_of_getElem? (i := 1402) (by decide +kernel), List.mem_of_getElem? (i := 1403) (by decide +kernel)⟩
theorem lw_p70 : lw_okq (⟨"IntentVatsModel", "rubs", "(I)I"⟩, 25) := ⟨⟨by decide +kernel, by decide +kernel⟩, List.mem_of_getElem? (i := 889) (by decide +kernel), List.mem_of_getElem? (i := 1413) (by decide +kernel), List.mem_of_getElem? (i := 1414) (by decide +kernel)⟩
theorem lw_p71 : lw_okq (⟨"IntentVatsModel", "linenRubs", "(I)I"⟩, 25) := ⟨⟨by decide +kernel, by decide +kernel⟩, List.mem_of_getElem? (i := 889) (by decide +kernel), List.mem_of_getElem? (i := 1417) (by decide +kernel), List.mem_of_getElem? (i := 1418) (by decide +kernel)⟩
theorem lw_p72 : lw_okq (⟨"IntentVatsModel", "runs", "(I)V"⟩, 25) := ⟨⟨by decide +kernel, by decide +kernel⟩, List.mem_of_getElem? (i := 889) (by decide +kernel), List.mem_of_getElem? (i := 1421) (by decide +kernel), List.mem_of_getElem? (i := 1422) (by decide +kernel)⟩
theorem lw_p73 : lw_okq (⟨"IntentVatsModel", "plainRubs", "(I)I"⟩, 25) := ⟨⟨by decide +kernel, by decide +kernel⟩, List.mem_of_getElem? (i := 889) (by decide +kernel), List.mem_of_getElem? (i := 1425) (by decide +kernel), List.mem_of_getElem? (i := 1426) (by decide +kernel)⟩
theorem lw_p74 : lw_okq (⟨"IntentVatsModel", "steepsAct", "(I)I"⟩, 25) := ⟨⟨by decide +kernel, by decide +kernel⟩, List.mem_of_getElem? (i := 889) (by decide +kernel), List.mem_of_getElem? (i := 1429) (by decide +kernel), List.mem_of_getElem? (i := 1430) (by decide +kernel)⟩
theorem lw_p75 : lw_okq (⟨"IntentVatsModel", "plainSteeps", "(I)I"⟩, 25) := ⟨⟨by decide +kernel, by decide +kernel⟩, List.mem_of_getElem? (i := 889) (by decide +kernel), List.mem_of_getElem? (i := 1433) (by decide +kernel), List.mem_of_getElem? (i := 1434) (by decide +kernel)⟩
theorem lw_p76 : lw_okq (⟨"IntentVatsModel", "parts", "(I)I"⟩, 25) := ⟨⟨by decide +kernel, by decide +kernel⟩, List.mem_of_getElem? (i := 889) (by decide +kernel), List.mem_of_getElem? (i := 1437) (by decide +kernel), List.mem_of_getElem? (i := 1438) (by decide +kernel)⟩
theorem lw_p77 : lw_okq (⟨"IntentVatsModel", "plainParts", "(I)I"⟩, 25) := ⟨⟨by decide +kernel, by decide +kernel⟩, List.mem_of_getElem? (i := 889) (by decide +kernel), List.mem_of_getElem? (i := 1441) (by decide +kernel), List.mem_of_getElem? (i := 1442) (by decide +kernel)⟩
theorem lw_p78 : lw_okq (⟨"IntentVatsModel", "driesAct", "(I)I"⟩, 25) := ⟨⟨by decide +kernel, by decide +kernel⟩, List.mem_of_getElem? (i := 889) (by decide +kernel), List.mem_of_getElem? (i := 1445) (by decide +kernel), List.mem_of_getElem? (i := 1446) (by decide +kernel)⟩
theorem lw_p79 : lw_okq (⟨"IntentVatsModel", "plainDries", "(I)I"⟩, 25) := ⟨⟨by decide +kernel, by decide +kernel⟩, List.mem_of_getElem? (i := 889) (by decide +kernel), List.mem_of_getElem? (i := 1449) (by decide +kernel), List.mem_of_getElem? (i := 1450) (by decide +kernel)⟩
def lw_privs_5 : List (MethodName × Nat) := [(⟨"IntentVatsModel", "figures", "()I"⟩, 25), (⟨"IntentVatsModel", "twoTold", "(IILjava/lang/String;I)V"⟩, 25), (⟨"IntentVatsModel", "lawTold", "(I)V"⟩, 25), (⟨"IntentVatsModel", "isCell", "(II)Z"⟩, 25), (⟨"IntentVatsModel", "isRight", "(II)Z"⟩, 25), (⟨"IntentVatsModel", "isHeld", "(I)Z"⟩, 25), (⟨"IntentVatsModel", "rubs", "(I)I"⟩, 25), (⟨"IntentVatsModel", "linenRubs", "(I)I"⟩, 25), (⟨"IntentVatsModel", "runs", "(I)V"⟩, 25), (⟨"IntentVatsModel", "plainRubs", "(I)I"⟩, 25), (⟨"IntentVatsModel", "steepsAct", "(I)I"⟩, 25), (⟨"IntentVatsModel", "plainSteeps", "(I)I"⟩, 25), (⟨"IntentVatsModel", "parts", "(I)I"⟩, 25), (⟨"IntentVatsModel", "plainParts", "(I)I"⟩, 25), (⟨"IntentVatsModel", "driesAct", "(I)I"⟩, 25), (⟨"IntentVatsModel", "plainDries", "(I)I"⟩, 25)]
theorem lw_r5 : ∀ q ∈ lw_privs_5, lw_okq q := List.forall_mem_cons.mpr ⟨lw_p64, List.forall_mem_cons.mpr ⟨lw_p65, List.forall_mem_cons.mpr ⟨lw_p66, List.forall_mem_cons.mpr ⟨lw_p67, List.forall_mem_cons.mpr ⟨lw_p68, List.forall_mem_cons.mpr ⟨lw_p69, List.forall_mem_cons.mpr ⟨lw_p70, List.forall_mem_cons.mpr ⟨lw_p71, List.forall_mem_cons.mpr ⟨lw_p72, List.forall_mem_cons.mpr ⟨lw_p73, List.forall_mem_cons.mpr ⟨lw_p74, List.forall_mem_cons.mpr ⟨lw_p75, List.forall_mem_cons.mpr ⟨lw_p76, List.forall_mem_cons.mpr ⟨lw_p77, List.forall_mem_cons.mpr ⟨lw_p78, List.forall_mem_cons.mpr ⟨lw_p79, fun _ h => absurd h List.not_mem_nil⟩⟩⟩⟩⟩⟩⟩⟩⟩⟩⟩⟩⟩⟩⟩⟩
theorem lw_p80 : lw_okq (⟨"IntentVatsModel", "purposesAbout", "()I"⟩, 25) := ⟨⟨by decide +kernel, by decide +kernel⟩, List.mem_of_getElem? (i := 889) (by decide +kernel), List.mem_of_getElem? (i := 1461) (by decide +kernel), List.mem_of_getElem? (i := 1462) (by decide +kernel)⟩
def lw_privs_6 : List (MethodName × Nat) := [(⟨"IntentVatsModel", "purposesAbout", "()I"⟩, 25)]
theorem lw_r6 : ∀ q ∈ lw_privs_6, lw_okq q := List.forall_mem_cons.mpr ⟨lw_p80, fun _ h => absurd h List.not_mem_nil⟩
def lw_privs : List (MethodName × Nat) := lw_privs_1 ++ (lw_privs_2 ++ (lw_privs_3 ++ (lw_privs_4 ++ (lw_privs_5 ++ (lw_privs_6)))))
def lw_tbl : List Cond := k2_sels lw_privs ++ tables_1
theorem lw_privs_ok : ∀ q ∈ lw_privs, lw_okq q := by
  show ∀ q ∈ lw_privs_1 ++ (lw_privs_2 ++ (lw_privs_3 ++ (lw_privs_4 ++ (lw_privs_5 ++ (lw_privs_6))))), lw_okq q
  exact List.forall_mem_append.mpr ⟨lw_r1, List.forall_mem_append.mpr ⟨lw_r2, List.forall_mem_append.mpr ⟨lw_r3, List.forall_mem_append.mpr ⟨lw_r4, List.forall_mem_append.mpr ⟨lw_r5, lw_r6⟩⟩⟩⟩⟩
theorem goodIn_r {big : List Cond} (ws : List Cond) (ps : List Nat) (hp : ws = ps.filterMap (fun i => big[i]?)) (h : ws.all goodWord = true) : GoodIn big ws := by
  intro w hw
  have h1 := List.all_eq_true.mp h w hw
  rw [hp] at hw
  obtain ⟨i, -, hi⟩ := List.mem_filterMap.mp hw
  have hm : w ∈ big := by first | exact List.mem_of_getElem? hi | exact List.getElem?_mem hi
  exact ⟨hm, good_of_word h1⟩
theorem goodIn_app {big a b : List Cond} (ha : GoodIn big a) (hb : GoodIn big b) : GoodIn big (a ++ b) := fun w h => (List.mem_append.mp h).elim (ha w) (hb w)
theorem goodIn_ca {big a b : List Cond} {c : Cond} (ha : GoodIn big (c :: a)) (hb : GoodIn big b) : GoodIn big (c :: (a ++ b)) := fun w h => (List.mem_cons.mp h).elim (fun e => ha w (List.mem_cons.mpr (Or.inl e))) (fun h => (List.mem_append.mp h).elim (fun h => ha w (List.mem_cons.mpr (Or.inr h))) (hb w))
theorem goodIn_sub {big ws : List Cond} (hm : ∀ w ∈ ws, w ∈ big) (h : ws.all goodWord = true) : GoodIn big ws := fun w hw => ⟨hm w hw, good_of_word (List.all_eq_true.mp h w hw)⟩

def RX0 : String := "IntentVats$Acts"
def TX0 : u_T := fun k => match k with
  | 0 => ("IntentVats$Acts", "bodies", "[I", true)
  | 1 => ("IntentVats$Acts", "traced", "I", false)
  | 2 => ("IntentVats$Acts", "kind", "I", false)
  | 3 => ("IntentVats$Acts", "n", "I", false)
  | 4 => ("IntentVats$Acts", "a", "I", false)
  | _ => ("IntentVats$Acts", "broken", "Z", false)
def tyX0 : Nat → FieldType := fun k => match k with
  | 0 => .array .int
  | 1 => .int
  | 2 => .int
  | 3 => .int
  | 4 => .int
  | _ => .boolean
abbrev wsX00 : List Cond := u_ws RX0 TX0 6
theorem nmX0 : ∀ a, a < 6 → ∀ b, b < 6 → a ≠ b → (TX0 a).2.1 ≠ (TX0 b).2.1 := by decide +kernel
theorem tyX0_ok : ∀ k, k < 6 → parseFieldDescriptor (TX0 k).2.2.1 = some (tyX0 k) := by decide +kernel
abbrev cX0_init : ByteArray := prog_2_method_1_code
def yX0_init : MethodName := ⟨RX0, "<init>", "()V"⟩
abbrev cX0_forget : ByteArray := prog_2_method_2_code
def yX0_forget : MethodName := ⟨RX0, "forget", "()V"⟩
abbrev cX0_hold : ByteArray := prog_2_method_3_code
def yX0_hold : MethodName := ⟨RX0, "hold", "(III)V"⟩
abbrev cX0_perform : ByteArray := prog_2_method_4_code
def yX0_perform : MethodName := ⟨RX0, "perform", "(II)I"⟩
abbrev cX0_own : ByteArray := prog_2_method_5_code
def yX0_own : MethodName := ⟨RX0, "own", "(III)I"⟩
abbrev cX0_body : ByteArray := prog_2_method_6_code
def yX0_body : MethodName := ⟨RX0, "body", "(III)I"⟩
abbrev cX0_parted : ByteArray := prog_2_method_7_code
def yX0_parted : MethodName := ⟨RX0, "parted", "(II)I"⟩
abbrev cX0_note : ByteArray := prog_2_method_8_code
def yX0_note : MethodName := ⟨RX0, "note", "(I)V"⟩
def RX1 : String := "IntentVats$Chances"
def TX1 : u_T := fun k => match k with
  | _ => ("", "", "", false)
def tyX1 : Nat → FieldType := fun k => match k with
  | _ => .int
abbrev wsX10 : List Cond := u_ws RX1 TX1 0
theorem nmX1 : ∀ a, a < 0 → ∀ b, b < 0 → a ≠ b → (TX1 a).2.1 ≠ (TX1 b).2.1 := by decide +kernel
theorem tyX1_ok : ∀ k, k < 0 → parseFieldDescriptor (TX1 k).2.2.1 = some (tyX1 k) := by decide +kernel
abbrev cX1_justSlip : ByteArray := prog_3_method_2_code
def yX1_justSlip : MethodName := ⟨RX1, "justSlip", "(IIII)J"⟩
abbrev cX1_choices : ByteArray := prog_3_method_3_code
def yX1_choices : MethodName := ⟨RX1, "choices", "(II)J"⟩
abbrev cX1_partOf : ByteArray := prog_3_method_4_code
def yX1_partOf : MethodName := ⟨RX1, "partOf", "(JJI)J"⟩
abbrev cX1_commonDivisor : ByteArray := prog_3_method_5_code
def yX1_commonDivisor : MethodName := ⟨RX1, "commonDivisor", "(JJ)J"⟩
def RX2 : String := "IntentVats$Forecast"
def TX2 : u_T := fun k => match k with
  | _ => ("IntentVats$Forecast", "tried", "LIntentVats$Mill;", true)
def tyX2 : Nat → FieldType := fun k => match k with
  | _ => .object "IntentVats$Mill"
abbrev wsX20 : List Cond := u_ws RX2 TX2 1
theorem nmX2 : ∀ a, a < 1 → ∀ b, b < 1 → a ≠ b → (TX2 a).2.1 ≠ (TX2 b).2.1 := by decide +kernel
theorem tyX2_ok : ∀ k, k < 1 → parseFieldDescriptor (TX2 k).2.2.1 = some (tyX2 k) := by decide +kernel
abbrev cX2_init : ByteArray := prog_4_method_1_code
def yX2_init : MethodName := ⟨RX2, "<init>", "()V"⟩
abbrev cX2_behind : ByteArray := prog_4_method_2_code
def yX2_behind : MethodName := ⟨RX2, "behind", "(LIntentVats$Mill;I)LIntentVats$Mill;"⟩
abbrev cX2_luckyDays : ByteArray := prog_4_method_3_code
def yX2_luckyDays : MethodName := ⟨RX2, "luckyDays", "(LIntentVats$Mill;I)I"⟩
abbrev cX2_daysUntilAbout : ByteArray := prog_4_method_4_code
def yX2_daysUntilAbout : MethodName := ⟨RX2, "daysUntilAbout", "(LIntentVats$Mill;II)I"⟩
abbrev cX2_spoiltBehind : ByteArray := prog_4_method_5_code
def yX2_spoiltBehind : MethodName := ⟨RX2, "spoiltBehind", "(LIntentVats$Mill;I)I"⟩
abbrev cX2_spoiltFromHere : ByteArray := prog_4_method_6_code
def yX2_spoiltFromHere : MethodName := ⟨RX2, "spoiltFromHere", "(LIntentVats$Mill;I)I"⟩
abbrev cX2_vatsThrough : ByteArray := prog_4_method_7_code
def yX2_vatsThrough : MethodName := ⟨RX2, "vatsThrough", "(LIntentVats$Mill;II)I"⟩
abbrev cX2_leadsTo : ByteArray := prog_4_method_8_code
def yX2_leadsTo : MethodName := ⟨RX2, "leadsTo", "(LIntentVats$Mill;IIII)Z"⟩
abbrev cX2_deepestVat : ByteArray := prog_4_method_9_code
def yX2_deepestVat : MethodName := ⟨RX2, "deepestVat", "(LIntentVats$Mill;II)I"⟩
abbrev cX2_deepestKind : ByteArray := prog_4_method_10_code
def yX2_deepestKind : MethodName := ⟨RX2, "deepestKind", "(LIntentVats$Mill;II)I"⟩
abbrev cX2_leastStrength : ByteArray := prog_4_method_11_code
def yX2_leastStrength : MethodName := ⟨RX2, "leastStrength", "(LIntentVats$Mill;IIII)I"⟩
abbrev cX2_fewestHung : ByteArray := prog_4_method_12_code
def yX2_fewestHung : MethodName := ⟨RX2, "fewestHung", "(LIntentVats$Mill;II)I"⟩
abbrev cX2_hangJust : ByteArray := prog_4_method_13_code
def yX2_hangJust : MethodName := ⟨RX2, "hangJust", "(LIntentVats$Mill;I)V"⟩
abbrev cX2_manyFitting : ByteArray := prog_4_method_14_code
def yX2_manyFitting : MethodName := ⟨RX2, "manyFitting", "(LIntentVats$Mill;ILIntentVats$SheetRow;)I"⟩
abbrev cX2_leastFitting : ByteArray := prog_4_method_15_code
def yX2_leastFitting : MethodName := ⟨RX2, "leastFitting", "(LIntentVats$Mill;ILIntentVats$SheetRow;)I"⟩
abbrev cX2_fitsAs : ByteArray := prog_4_method_16_code
def yX2_fitsAs : MethodName := ⟨RX2, "fitsAs", "(LIntentVats$Mill;IILIntentVats$SheetRow;)Z"⟩
abbrev cX2_writeRows : ByteArray := prog_4_method_17_code
def yX2_writeRows : MethodName := ⟨RX2, "writeRows", "(LIntentVats$Mill;IILIntentVats$Rows;)V"⟩
abbrev cX2_firstWrongRow : ByteArray := prog_4_method_18_code
def yX2_firstWrongRow : MethodName := ⟨RX2, "firstWrongRow", "(LIntentVats$Mill;ILIntentVats$Rows;)I"⟩
abbrev cX2_rowPart : ByteArray := prog_4_method_19_code
def yX2_rowPart : MethodName := ⟨RX2, "rowPart", "(II)I"⟩
def RX3 : String := "IntentVats$Mill"
def TX3 : u_T := fun k => match k with
  | 0 => ("IntentVats$Mill", "laws", "[I", true)
  | 1 => ("IntentVats$Mill", "purposes", "[I", true)
  | 2 => ("IntentVats$Mill", "strengths", "[I", true)
  | 3 => ("IntentVats$Mill", "roster", "[I", true)
  | 4 => ("IntentVats$Mill", "kinds", "[I", true)
  | 5 => ("IntentVats$Mill", "abouts", "[I", true)
  | 6 => ("IntentVats$Mill", "deeps", "[I", true)
  | 7 => ("IntentVats$Mill", "hungs", "[I", true)
  | 8 => ("IntentVats$Mill", "dips", "[I", true)
  | 9 => ("IntentVats$Mill", "count", "I", false)
  | 10 => ("IntentVats$Mill", "day", "I", false)
  | _ => ("IntentVats$Mill", "z", "I", false)
def tyX3 : Nat → FieldType := fun k => match k with
  | 0 => .array .int
  | 1 => .array .int
  | 2 => .array .int
  | 3 => .array .int
  | 4 => .array .int
  | 5 => .array .int
  | 6 => .array .int
  | 7 => .array .int
  | 8 => .array .int
  | 9 => .int
  | 10 => .int
  | _ => .int
abbrev wsX30 : List Cond := u_ws RX3 TX3 12
theorem nmX3 : ∀ a, a < 12 → ∀ b, b < 12 → a ≠ b → (TX3 a).2.1 ≠ (TX3 b).2.1 := by decide +kernel
theorem tyX3_ok : ∀ k, k < 12 → parseFieldDescriptor (TX3 k).2.2.1 = some (tyX3 k) := by decide +kernel
abbrev cX3_init : ByteArray := prog_5_method_1_code
def yX3_init : MethodName := ⟨RX3, "<init>", "()V"⟩
abbrev cX3_becomeFirst : ByteArray := prog_5_method_2_code
def yX3_becomeFirst : MethodName := ⟨RX3, "becomeFirst", "()V"⟩
abbrev cX3_copyFrom : ByteArray := prog_5_method_3_code
def yX3_copyFrom : MethodName := ⟨RX3, "copyFrom", "(LIntentVats$Mill;)V"⟩
abbrev cX3_has : ByteArray := prog_5_method_4_code
def yX3_has : MethodName := ⟨RX3, "has", "(I)Z"⟩
abbrev cX3_addCloth : ByteArray := prog_5_method_5_code
def yX3_addCloth : MethodName := ⟨RX3, "addCloth", "(I)I"⟩
abbrev cX3_takes : ByteArray := prog_5_method_6_code
def yX3_takes : MethodName := ⟨RX3, "takes", "(II)I"⟩
abbrev cX3_fights : ByteArray := prog_5_method_7_code
def yX3_fights : MethodName := ⟨RX3, "fights", "(II)I"⟩
abbrev cX3_fades : ByteArray := prog_5_method_8_code
def yX3_fades : MethodName := ⟨RX3, "fades", "(I)I"⟩
abbrev cX3_dipInto : ByteArray := prog_5_method_9_code
def yX3_dipInto : MethodName := ⟨RX3, "dipInto", "(II)V"⟩
abbrev cX3_settle : ByteArray := prog_5_method_10_code
def yX3_settle : MethodName := ⟨RX3, "settle", "(II)V"⟩
abbrev cX3_deepen : ByteArray := prog_5_method_11_code
def yX3_deepen : MethodName := ⟨RX3, "deepen", "(II)V"⟩
abbrev cX3_vatOfToday : ByteArray := prog_5_method_12_code
def yX3_vatOfToday : MethodName := ⟨RX3, "vatOfToday", "()I"⟩
abbrev cX3_passDays : ByteArray := prog_5_method_13_code
def yX3_passDays : MethodName := ⟨RX3, "passDays", "(I)V"⟩
abbrev cX3_passDay : ByteArray := prog_5_method_14_code
def yX3_passDay : MethodName := ⟨RX3, "passDay", "()V"⟩
abbrev cX3_draw : ByteArray := prog_5_method_15_code
def yX3_draw : MethodName := ⟨RX3, "draw", "()I"⟩
abbrev cX3_passDrawnDay : ByteArray := prog_5_method_16_code
def yX3_passDrawnDay : MethodName := ⟨RX3, "passDrawnDay", "()V"⟩
abbrev cX3_allDepths : ByteArray := prog_5_method_17_code
def yX3_allDepths : MethodName := ⟨RX3, "allDepths", "()I"⟩
abbrev cX3_hungSet : ByteArray := prog_5_method_18_code
def yX3_hungSet : MethodName := ⟨RX3, "hungSet", "()I"⟩
abbrev cX3_aboutSet : ByteArray := prog_5_method_19_code
def yX3_aboutSet : MethodName := ⟨RX3, "aboutSet", "()I"⟩
abbrev cX3_purposeSet : ByteArray := prog_5_method_20_code
def yX3_purposeSet : MethodName := ⟨RX3, "purposeSet", "()I"⟩
abbrev cX3_oddPairs : ByteArray := prog_5_method_21_code
def yX3_oddPairs : MethodName := ⟨RX3, "oddPairs", "()I"⟩
abbrev cX3_isForOdds : ByteArray := prog_5_method_22_code
def yX3_isForOdds : MethodName := ⟨RX3, "isForOdds", "(I)Z"⟩
def RX4 : String := "IntentVats$Rows"
def TX4 : u_T := fun k => match k with
  | 0 => ("IntentVats$Rows", "parts", "[I", true)
  | _ => ("IntentVats$Rows", "count", "I", false)
def tyX4 : Nat → FieldType := fun k => match k with
  | 0 => .array .int
  | _ => .int
abbrev wsX40 : List Cond := u_ws RX4 TX4 2
theorem nmX4 : ∀ a, a < 2 → ∀ b, b < 2 → a ≠ b → (TX4 a).2.1 ≠ (TX4 b).2.1 := by decide +kernel
theorem tyX4_ok : ∀ k, k < 2 → parseFieldDescriptor (TX4 k).2.2.1 = some (tyX4 k) := by decide +kernel
abbrev cX4_init : ByteArray := prog_6_method_1_code
def yX4_init : MethodName := ⟨RX4, "<init>", "()V"⟩
abbrev cX4_has : ByteArray := prog_6_method_2_code
def yX4_has : MethodName := ⟨RX4, "has", "(II)Z"⟩
abbrev cX4_read : ByteArray := prog_6_method_3_code
def yX4_read : MethodName := ⟨RX4, "read", "(II)I"⟩
abbrev cX4_write : ByteArray := prog_6_method_4_code
def yX4_write : MethodName := ⟨RX4, "write", "(III)V"⟩
def RX5 : String := "IntentVats$SheetRow"
def TX5 : u_T := fun k => match k with
  | 0 => ("IntentVats$SheetRow", "sort", "I", true)
  | _ => ("IntentVats$SheetRow", "items", "[I", true)
def tyX5 : Nat → FieldType := fun k => match k with
  | 0 => .int
  | _ => .array .int
abbrev wsX50 : List Cond := u_ws RX5 TX5 2
theorem nmX5 : ∀ a, a < 2 → ∀ b, b < 2 → a ≠ b → (TX5 a).2.1 ≠ (TX5 b).2.1 := by decide +kernel
theorem tyX5_ok : ∀ k, k < 2 → parseFieldDescriptor (TX5 k).2.2.1 = some (tyX5 k) := by decide +kernel
abbrev cX5_init : ByteArray := prog_7_method_1_code
def yX5_init : MethodName := ⟨RX5, "<init>", "(II)V"⟩
abbrev cX5_size : ByteArray := prog_7_method_2_code
def yX5_size : MethodName := ⟨RX5, "size", "()I"⟩
abbrev cX5_has : ByteArray := prog_7_method_3_code
def yX5_has : MethodName := ⟨RX5, "has", "(I)Z"⟩
abbrev cX5_read : ByteArray := prog_7_method_4_code
def yX5_read : MethodName := ⟨RX5, "read", "(I)I"⟩
abbrev cX5_write : ByteArray := prog_7_method_5_code
def yX5_write : MethodName := ⟨RX5, "write", "(II)V"⟩
def RX6 : String := "IntentVats$Shelves"
def TX6 : u_T := fun k => match k with
  | 0 => ("IntentVats$Shelves", "cloths", "[I", true)
  | _ => ("IntentVats$Shelves", "held", "[LIntentVats$SheetRow;", true)
def tyX6 : Nat → FieldType := fun k => match k with
  | 0 => .array .int
  | _ => .array (.object "IntentVats$SheetRow")
abbrev wsX60 : List Cond := u_ws RX6 TX6 2
theorem nmX6 : ∀ a, a < 2 → ∀ b, b < 2 → a ≠ b → (TX6 a).2.1 ≠ (TX6 b).2.1 := by decide +kernel
theorem tyX6_ok : ∀ k, k < 2 → parseFieldDescriptor (TX6 k).2.2.1 = some (tyX6 k) := by decide +kernel
abbrev cX6_init : ByteArray := prog_8_method_1_code
def yX6_init : MethodName := ⟨RX6, "<init>", "()V"⟩
abbrev cX6_holdCloth : ByteArray := prog_8_method_2_code
def yX6_holdCloth : MethodName := ⟨RX6, "holdCloth", "(II)V"⟩
abbrev cX6_holdRow : ByteArray := prog_8_method_3_code
def yX6_holdRow : MethodName := ⟨RX6, "holdRow", "(ILIntentVats$SheetRow;)V"⟩
abbrev cX6_clothOn : ByteArray := prog_8_method_4_code
def yX6_clothOn : MethodName := ⟨RX6, "clothOn", "(I)I"⟩
abbrev cX6_rowOn : ByteArray := prog_8_method_5_code
def yX6_rowOn : MethodName := ⟨RX6, "rowOn", "(I)LIntentVats$SheetRow;"⟩
def RX7 : String := "IntentVats$Tape"
def TX7 : u_T := fun k => match k with
  | 0 => ("IntentVats$Tape", "bytes", "[I", true)
  | 1 => ("IntentVats$Tape", "length", "I", false)
  | 2 => ("IntentVats$Tape", "at", "I", false)
  | 3 => ("IntentVats$Tape", "start", "I", false)
  | 4 => ("IntentVats$Tape", "sort", "I", false)
  | _ => ("IntentVats$Tape", "number", "I", false)
def tyX7 : Nat → FieldType := fun k => match k with
  | 0 => .array .int
  | 1 => .int
  | 2 => .int
  | 3 => .int
  | 4 => .int
  | _ => .int
abbrev wsX70 : List Cond := u_ws RX7 TX7 6
theorem nmX7 : ∀ a, a < 6 → ∀ b, b < 6 → a ≠ b → (TX7 a).2.1 ≠ (TX7 b).2.1 := by decide +kernel
theorem tyX7_ok : ∀ k, k < 6 → parseFieldDescriptor (TX7 k).2.2.1 = some (tyX7 k) := by decide +kernel
abbrev cX7_init : ByteArray := prog_9_method_1_code
def yX7_init : MethodName := ⟨RX7, "<init>", "()V"⟩
abbrev cX7_room : ByteArray := prog_9_method_2_code
def yX7_room : MethodName := ⟨RX7, "room", "()I"⟩
abbrev cX7_take : ByteArray := prog_9_method_3_code
def yX7_take : MethodName := ⟨RX7, "take", "(JI)V"⟩
abbrev cX7_useUp : ByteArray := prog_9_method_4_code
def yX7_useUp : MethodName := ⟨RX7, "useUp", "()V"⟩
abbrev cX7_readInto : ByteArray := prog_9_method_5_code
def yX7_readInto : MethodName := ⟨RX7, "readInto", "(LIntentVats$Mill;)I"⟩
abbrev cX7_readStatement : ByteArray := prog_9_method_6_code
def yX7_readStatement : MethodName := ⟨RX7, "readStatement", "(LIntentVats$Mill;)Z"⟩
abbrev cX7_readCloth : ByteArray := prog_9_method_7_code
def yX7_readCloth : MethodName := ⟨RX7, "readCloth", "(LIntentVats$Mill;I)Z"⟩
abbrev cX7_readVat : ByteArray := prog_9_method_8_code
def yX7_readVat : MethodName := ⟨RX7, "readVat", "(LIntentVats$Mill;)Z"⟩
abbrev cX7_readStrong : ByteArray := prog_9_method_9_code
def yX7_readStrong : MethodName := ⟨RX7, "readStrong", "(LIntentVats$Mill;)Z"⟩
abbrev cX7_readDay : ByteArray := prog_9_method_10_code
def yX7_readDay : MethodName := ⟨RX7, "readDay", "(LIntentVats$Mill;)Z"⟩
abbrev cX7_readLaw : ByteArray := prog_9_method_11_code
def yX7_readLaw : MethodName := ⟨RX7, "readLaw", "(LIntentVats$Mill;I)Z"⟩
abbrev cX7_readNumber : ByteArray := prog_9_method_12_code
def yX7_readNumber : MethodName := ⟨RX7, "readNumber", "(II)Z"⟩
abbrev cX7_readName : ByteArray := prog_9_method_13_code
def yX7_readName : MethodName := ⟨RX7, "readName", "(Ljava/lang/String;)Z"⟩
abbrev cX7_readStop : ByteArray := prog_9_method_14_code
def yX7_readStop : MethodName := ⟨RX7, "readStop", "()Z"⟩
abbrev cX7_isStop : ByteArray := prog_9_method_15_code
def yX7_isStop : MethodName := ⟨RX7, "isStop", "()Z"⟩
abbrev cX7_kindNamed : ByteArray := prog_9_method_16_code
def yX7_kindNamed : MethodName := ⟨RX7, "kindNamed", "()I"⟩
abbrev cX7_lawNamed : ByteArray := prog_9_method_17_code
def yX7_lawNamed : MethodName := ⟨RX7, "lawNamed", "()I"⟩
abbrev cX7_isName : ByteArray := prog_9_method_18_code
def yX7_isName : MethodName := ⟨RX7, "isName", "(Ljava/lang/String;)Z"⟩
abbrev cX7_readWord : ByteArray := prog_9_method_19_code
def yX7_readWord : MethodName := ⟨RX7, "readWord", "()V"⟩
abbrev cX7_readDigits : ByteArray := prog_9_method_20_code
def yX7_readDigits : MethodName := ⟨RX7, "readDigits", "()V"⟩
def RX8 : String := "IntentVats"
def TX8 : u_T := fun k => match k with
  | 0 => ("IntentVats", "now", "LIntentVats$Mill;", true)
  | 1 => ("IntentVats", "told", "LIntentVats$Mill;", true)
  | 2 => ("IntentVats", "kept", "LIntentVats$Mill;", true)
  | 3 => ("IntentVats", "isKept", "Z", false)
  | 4 => ("IntentVats", "forecast", "LIntentVats$Forecast;", true)
  | 5 => ("IntentVats", "tape", "LIntentVats$Tape;", true)
  | 6 => ("IntentVats", "rows", "LIntentVats$Rows;", true)
  | 7 => ("IntentVats", "sheets", "[LIntentVats$SheetRow;", true)
  | 8 => ("IntentVats", "shelves", "LIntentVats$Shelves;", true)
  | _ => ("IntentVats", "acts", "LIntentVats$Acts;", true)
def tyX8 : Nat → FieldType := fun k => match k with
  | 0 => .object "IntentVats$Mill"
  | 1 => .object "IntentVats$Mill"
  | 2 => .object "IntentVats$Mill"
  | 3 => .boolean
  | 4 => .object "IntentVats$Forecast"
  | 5 => .object "IntentVats$Tape"
  | 6 => .object "IntentVats$Rows"
  | 7 => .array (.object "IntentVats$SheetRow")
  | 8 => .object "IntentVats$Shelves"
  | _ => .object "IntentVats$Acts"
abbrev wsX80 : List Cond := u_ws RX8 TX8 10
theorem nmX8 : ∀ a, a < 10 → ∀ b, b < 10 → a ≠ b → (TX8 a).2.1 ≠ (TX8 b).2.1 := by decide +kernel
theorem tyX8_ok : ∀ k, k < 10 → parseFieldDescriptor (TX8 k).2.2.1 = some (tyX8 k) := by decide +kernel
abbrev cX8_init : ByteArray := prog_1_method_1_code
def yX8_init : MethodName := ⟨RX8, "<init>", "()V"⟩
abbrev cX8_feed : ByteArray := prog_1_method_2_code
def yX8_feed : MethodName := ⟨RX8, "feed", "(JI)I"⟩
abbrev cX8_mill : ByteArray := prog_1_method_3_code
def yX8_mill : MethodName := ⟨RX8, "mill", "()I"⟩
abbrev cX8_set : ByteArray := prog_1_method_4_code
def yX8_set : MethodName := ⟨RX8, "set", "(II)I"⟩
abbrev cX8_lawOf : ByteArray := prog_1_method_5_code
def yX8_lawOf : MethodName := ⟨RX8, "lawOf", "(I)I"⟩
abbrev cX8_fill : ByteArray := prog_1_method_6_code
def yX8_fill : MethodName := ⟨RX8, "fill", "(III)I"⟩
abbrev cX8_vatOf : ByteArray := prog_1_method_7_code
def yX8_vatOf : MethodName := ⟨RX8, "vatOf", "(II)I"⟩
abbrev cX8_roster : ByteArray := prog_1_method_8_code
def yX8_roster : MethodName := ⟨RX8, "roster", "(II)I"⟩
abbrev cX8_rosterOf : ByteArray := prog_1_method_9_code
def yX8_rosterOf : MethodName := ⟨RX8, "rosterOf", "(I)I"⟩
abbrev cX8_cloth : ByteArray := prog_1_method_10_code
def yX8_cloth : MethodName := ⟨RX8, "cloth", "(I)I"⟩
abbrev cX8_of : ByteArray := prog_1_method_11_code
def yX8_of : MethodName := ⟨RX8, "of", "(II)I"⟩
abbrev cX8_does : ByteArray := prog_1_method_12_code
def yX8_does : MethodName := ⟨RX8, "does", "(III)I"⟩
abbrev cX8_mind : ByteArray := prog_1_method_13_code
def yX8_mind : MethodName := ⟨RX8, "mind", "(II)I"⟩
abbrev cX8_steep : ByteArray := prog_1_method_14_code
def yX8_steep : MethodName := ⟨RX8, "steep", "(III)I"⟩
abbrev cX8_hang : ByteArray := prog_1_method_15_code
def yX8_hang : MethodName := ⟨RX8, "hang", "(II)I"⟩
abbrev cX8_dip : ByteArray := prog_1_method_16_code
def yX8_dip : MethodName := ⟨RX8, "dip", "(II)I"⟩
abbrev cX8_days : ByteArray := prog_1_method_17_code
def yX8_days : MethodName := ⟨RX8, "days", "(I)I"⟩
abbrev cX8_seed : ByteArray := prog_1_method_18_code
def yX8_seed : MethodName := ⟨RX8, "seed", "(I)I"⟩
abbrev cX8_day : ByteArray := prog_1_method_19_code
def yX8_day : MethodName := ⟨RX8, "day", "()I"⟩
abbrev cX8_luck : ByteArray := prog_1_method_20_code
def yX8_luck : MethodName := ⟨RX8, "luck", "(I)I"⟩
abbrev cX8_state : ByteArray := prog_1_method_21_code
def yX8_state : MethodName := ⟨RX8, "state", "(I)I"⟩
abbrev cX8_gone : ByteArray := prog_1_method_22_code
def yX8_gone : MethodName := ⟨RX8, "gone", "(II)I"⟩
abbrev cX8_depth : ByteArray := prog_1_method_23_code
def yX8_depth : MethodName := ⟨RX8, "depth", "(II)I"⟩
abbrev cX8_comes : ByteArray := prog_1_method_24_code
def yX8_comes : MethodName := ⟨RX8, "comes", "(II)I"⟩
abbrev cX8_bare : ByteArray := prog_1_method_25_code
def yX8_bare : MethodName := ⟨RX8, "bare", "(I)I"⟩
abbrev cX8_spoilt : ByteArray := prog_1_method_26_code
def yX8_spoilt : MethodName := ⟨RX8, "spoilt", "(I)I"⟩
abbrev cX8_through : ByteArray := prog_1_method_27_code
def yX8_through : MethodName := ⟨RX8, "through", "(II)I"⟩
abbrev cX8_vatFor : ByteArray := prog_1_method_28_code
def yX8_vatFor : MethodName := ⟨RX8, "vatFor", "(II)I"⟩
abbrev cX8_kindFor : ByteArray := prog_1_method_29_code
def yX8_kindFor : MethodName := ⟨RX8, "kindFor", "(II)I"⟩
abbrev cX8_strengthFor : ByteArray := prog_1_method_30_code
def yX8_strengthFor : MethodName := ⟨RX8, "strengthFor", "(IIII)I"⟩
abbrev cX8_hangFor : ByteArray := prog_1_method_31_code
def yX8_hangFor : MethodName := ⟨RX8, "hangFor", "(II)I"⟩
abbrev cX8_fits : ByteArray := prog_1_method_32_code
def yX8_fits : MethodName := ⟨RX8, "fits", "(III)I"⟩
abbrev cX8_odds : ByteArray := prog_1_method_33_code
def yX8_odds : MethodName := ⟨RX8, "odds", "(III)J"⟩
abbrev cX8_hope : ByteArray := prog_1_method_34_code
def yX8_hope : MethodName := ⟨RX8, "hope", "(II)J"⟩
abbrev cX8_prove : ByteArray := prog_1_method_35_code
def yX8_prove : MethodName := ⟨RX8, "prove", "(II)I"⟩
abbrev cX8_row : ByteArray := prog_1_method_36_code
def yX8_row : MethodName := ⟨RX8, "row", "(II)I"⟩
abbrev cX8_alterRow : ByteArray := prog_1_method_37_code
def yX8_alterRow : MethodName := ⟨RX8, "alterRow", "(III)I"⟩
abbrev cX8_judge : ByteArray := prog_1_method_38_code
def yX8_judge : MethodName := ⟨RX8, "judge", "(I)I"⟩
abbrev cX8_minds : ByteArray := prog_1_method_39_code
def yX8_minds : MethodName := ⟨RX8, "minds", "(IIII)I"⟩
abbrev cX8_sheet : ByteArray := prog_1_method_40_code
def yX8_sheet : MethodName := ⟨RX8, "sheet", "(III)I"⟩
abbrev cX8_put : ByteArray := prog_1_method_41_code
def yX8_put : MethodName := ⟨RX8, "put", "(III)I"⟩
abbrev cX8_item : ByteArray := prog_1_method_42_code
def yX8_item : MethodName := ⟨RX8, "item", "(III)I"⟩
abbrev cX8_shelf : ByteArray := prog_1_method_43_code
def yX8_shelf : MethodName := ⟨RX8, "shelf", "(III)I"⟩
abbrev cX8_taken : ByteArray := prog_1_method_44_code
def yX8_taken : MethodName := ⟨RX8, "taken", "(II)I"⟩
abbrev cX8_act : ByteArray := prog_1_method_45_code
def yX8_act : MethodName := ⟨RX8, "act", "(III)I"⟩
abbrev cX8_trace : ByteArray := prog_1_method_46_code
def yX8_trace : MethodName := ⟨RX8, "trace", "(I)I"⟩
abbrev cX8_many : ByteArray := prog_1_method_47_code
def yX8_many : MethodName := ⟨RX8, "many", "(I)I"⟩
abbrev cX8_keep : ByteArray := prog_1_method_48_code
def yX8_keep : MethodName := ⟨RX8, "keep", "()I"⟩
abbrev cX8_again : ByteArray := prog_1_method_49_code
def yX8_again : MethodName := ⟨RX8, "again", "()I"⟩
abbrev cX8_isIn : ByteArray := prog_1_method_50_code
def yX8_isIn : MethodName := ⟨RX8, "isIn", "(III)Z"⟩
abbrev cX8_isVat : ByteArray := prog_1_method_51_code
def yX8_isVat : MethodName := ⟨RX8, "isVat", "(I)Z"⟩
abbrev cX8_isRest : ByteArray := prog_1_method_52_code
def yX8_isRest : MethodName := ⟨RX8, "isRest", "(I)Z"⟩
abbrev cX8_isKind : ByteArray := prog_1_method_53_code
def yX8_isKind : MethodName := ⟨RX8, "isKind", "(I)Z"⟩
abbrev cX8_isPurpose : ByteArray := prog_1_method_54_code
def yX8_isPurpose : MethodName := ⟨RX8, "isPurpose", "(I)Z"⟩
abbrev cX8_isDays : ByteArray := prog_1_method_55_code
def yX8_isDays : MethodName := ⟨RX8, "isDays", "(I)Z"⟩
abbrev cX8_isSheet : ByteArray := prog_1_method_56_code
def yX8_isSheet : MethodName := ⟨RX8, "isSheet", "(I)Z"⟩
abbrev cX8_isShelf : ByteArray := prog_1_method_57_code
def yX8_isShelf : MethodName := ⟨RX8, "isShelf", "(I)Z"⟩
abbrev cX8_mostOfLaw : ByteArray := prog_1_method_58_code
def yX8_mostOfLaw : MethodName := ⟨RX8, "mostOfLaw", "(I)I"⟩
abbrev cX8_parentKind : ByteArray := prog_1_method_59_code
def yX8_parentKind : MethodName := ⟨RX8, "parentKind", "(I)I"⟩
abbrev cX8_isUnder : ByteArray := prog_1_method_60_code
def yX8_isUnder : MethodName := ⟨RX8, "isUnder", "(II)Z"⟩
def RX9 : String := "IntentVatsModel"
def TX9 : u_T := fun k => match k with
  | 0 => ("IntentVatsModel", "most", "[I", true)
  | 1 => ("IntentVatsModel", "atFirst", "[I", true)
  | 2 => ("IntentVatsModel", "s", "[I", true)
  | 3 => ("IntentVatsModel", "kept", "[I", true)
  | 4 => ("IntentVatsModel", "aside", "[I", true)
  | 5 => ("IntentVatsModel", "isKept", "Z", false)
  | 6 => ("IntentVatsModel", "tape", "[I", true)
  | 7 => ("IntentVatsModel", "taped", "I", false)
  | 8 => ("IntentVatsModel", "from", "I", false)
  | 9 => ("IntentVatsModel", "to", "I", false)
  | 10 => ("IntentVatsModel", "isWrong", "Z", false)
  | 11 => ("IntentVatsModel", "rows", "[I", true)
  | 12 => ("IntentVatsModel", "rowMany", "I", false)
  | 13 => ("IntentVatsModel", "sortOf", "[I", true)
  | 14 => ("IntentVatsModel", "sizeOf", "[I", true)
  | 15 => ("IntentVatsModel", "items", "[I", true)
  | 16 => ("IntentVatsModel", "laid", "[I", true)
  | 17 => ("IntentVatsModel", "heldNumber", "[I", true)
  | 18 => ("IntentVatsModel", "heldSize", "[I", true)
  | 19 => ("IntentVatsModel", "ran", "[I", true)
  | 20 => ("IntentVatsModel", "bodies", "I", false)
  | 21 => ("IntentVatsModel", "kind", "I", false)
  | 22 => ("IntentVatsModel", "n", "I", false)
  | 23 => ("IntentVatsModel", "a", "I", false)
  | _ => ("IntentVatsModel", "isParted", "Z", false)
def tyX9 : Nat → FieldType := fun k => match k with
  | 0 => .array .int
  | 1 => .array .int
  | 2 => .array .int
  | 3 => .array .int
  | 4 => .array .int
  | 5 => .boolean
  | 6 => .array .int
  | 7 => .int
  | 8 => .int
  | 9 => .int
  | 10 => .boolean
  | 11 => .array .int
  | 12 => .int
  | 13 => .array .int
  | 14 => .array .int
  | 15 => .array .int
  | 16 => .array .int
  | 17 => .array .int
  | 18 => .array .int
  | 19 => .array .int
  | 20 => .int
  | 21 => .int
  | 22 => .int
  | 23 => .int
  | _ => .boolean
abbrev wsX90 : List Cond := u_ws RX9 TX9 25
theorem nmX9 : ∀ a, a < 25 → ∀ b, b < 25 → a ≠ b → (TX9 a).2.1 ≠ (TX9 b).2.1 := by decide +kernel
theorem tyX9_ok : ∀ k, k < 25 → parseFieldDescriptor (TX9 k).2.2.1 = some (tyX9 k) := by decide +kernel
abbrev cX9_init : ByteArray := prog_11_method_1_code
def yX9_init : MethodName := ⟨RX9, "<init>", "()V"⟩
abbrev cX9_anew : ByteArray := prog_11_method_2_code
def yX9_anew : MethodName := ⟨RX9, "anew", "()V"⟩
abbrev cX9_in : ByteArray := prog_11_method_3_code
def yX9_in : MethodName := ⟨RX9, "in", "(JJJ)Z"⟩
abbrev cX9_become : ByteArray := prog_11_method_4_code
def yX9_become : MethodName := ⟨RX9, "become", "([I[I)V"⟩
abbrev cX9_lends : ByteArray := prog_11_method_5_code
def yX9_lends : MethodName := ⟨RX9, "lends", "()V"⟩
abbrev cX9_laysBack : ByteArray := prog_11_method_6_code
def yX9_laysBack : MethodName := ⟨RX9, "laysBack", "()V"⟩
abbrev cX9_isCloth : ByteArray := prog_11_method_7_code
def yX9_isCloth : MethodName := ⟨RX9, "isCloth", "(I)Z"⟩
abbrev cX9_isVat : ByteArray := prog_11_method_8_code
def yX9_isVat : MethodName := ⟨RX9, "isVat", "(I)Z"⟩
abbrev cX9_isPurpose : ByteArray := prog_11_method_9_code
def yX9_isPurpose : MethodName := ⟨RX9, "isPurpose", "(I)Z"⟩
abbrev cX9_isRest : ByteArray := prog_11_method_10_code
def yX9_isRest : MethodName := ⟨RX9, "isRest", "(I)Z"⟩
abbrev cX9_its : ByteArray := prog_11_method_11_code
def yX9_its : MethodName := ⟨RX9, "its", "(II)I"⟩
abbrev cX9_sets : ByteArray := prog_11_method_12_code
def yX9_sets : MethodName := ⟨RX9, "sets", "(III)V"⟩
abbrev cX9_becomes : ByteArray := prog_11_method_13_code
def yX9_becomes : MethodName := ⟨RX9, "becomes", "(II)I"⟩
abbrev cX9_set : ByteArray := prog_11_method_14_code
def yX9_set : MethodName := ⟨RX9, "set", "(II)I"⟩
abbrev cX9_lawOf : ByteArray := prog_11_method_15_code
def yX9_lawOf : MethodName := ⟨RX9, "lawOf", "(I)I"⟩
abbrev cX9_fill : ByteArray := prog_11_method_16_code
def yX9_fill : MethodName := ⟨RX9, "fill", "(III)I"⟩
abbrev cX9_vatOf : ByteArray := prog_11_method_17_code
def yX9_vatOf : MethodName := ⟨RX9, "vatOf", "(II)I"⟩
abbrev cX9_roster : ByteArray := prog_11_method_18_code
def yX9_roster : MethodName := ⟨RX9, "roster", "(II)I"⟩
abbrev cX9_rosterOf : ByteArray := prog_11_method_19_code
def yX9_rosterOf : MethodName := ⟨RX9, "rosterOf", "(I)I"⟩
abbrev cX9_isKind : ByteArray := prog_11_method_20_code
def yX9_isKind : MethodName := ⟨RX9, "isKind", "(I)Z"⟩
abbrev cX9_isUnder : ByteArray := prog_11_method_21_code
def yX9_isUnder : MethodName := ⟨RX9, "isUnder", "(II)Z"⟩
abbrev cX9_takesOf : ByteArray := prog_11_method_22_code
def yX9_takesOf : MethodName := ⟨RX9, "takesOf", "(II)I"⟩
abbrev cX9_fightsOf : ByteArray := prog_11_method_23_code
def yX9_fightsOf : MethodName := ⟨RX9, "fightsOf", "(II)I"⟩
abbrev cX9_fadesOf : ByteArray := prog_11_method_24_code
def yX9_fadesOf : MethodName := ⟨RX9, "fadesOf", "(I)I"⟩
abbrev cX9_adds : ByteArray := prog_11_method_25_code
def yX9_adds : MethodName := ⟨RX9, "adds", "(I)V"⟩
abbrev cX9_cloth : ByteArray := prog_11_method_26_code
def yX9_cloth : MethodName := ⟨RX9, "cloth", "(I)I"⟩
abbrev cX9_of : ByteArray := prog_11_method_27_code
def yX9_of : MethodName := ⟨RX9, "of", "(II)I"⟩
abbrev cX9_does : ByteArray := prog_11_method_28_code
def yX9_does : MethodName := ⟨RX9, "does", "(III)I"⟩
abbrev cX9_changed : ByteArray := prog_11_method_29_code
def yX9_changed : MethodName := ⟨RX9, "changed", "(III)I"⟩
abbrev cX9_mind : ByteArray := prog_11_method_30_code
def yX9_mind : MethodName := ⟨RX9, "mind", "(II)I"⟩
abbrev cX9_isDeep : ByteArray := prog_11_method_31_code
def yX9_isDeep : MethodName := ⟨RX9, "isDeep", "(II)V"⟩
abbrev cX9_steep : ByteArray := prog_11_method_32_code
def yX9_steep : MethodName := ⟨RX9, "steep", "(III)I"⟩
abbrev cX9_hang : ByteArray := prog_11_method_33_code
def yX9_hang : MethodName := ⟨RX9, "hang", "(II)I"⟩
abbrev cX9_dips : ByteArray := prog_11_method_34_code
def yX9_dips : MethodName := ⟨RX9, "dips", "(II)V"⟩
abbrev cX9_dip : ByteArray := prog_11_method_35_code
def yX9_dip : MethodName := ⟨RX9, "dip", "(II)I"⟩
abbrev cX9_aDay : ByteArray := prog_11_method_36_code
def yX9_aDay : MethodName := ⟨RX9, "aDay", "()V"⟩
abbrev cX9_goes : ByteArray := prog_11_method_37_code
def yX9_goes : MethodName := ⟨RX9, "goes", "(I)V"⟩
abbrev cX9_depths : ByteArray := prog_11_method_38_code
def yX9_depths : MethodName := ⟨RX9, "depths", "()I"⟩
abbrev cX9_days : ByteArray := prog_11_method_39_code
def yX9_days : MethodName := ⟨RX9, "days", "(I)I"⟩
abbrev cX9_seed : ByteArray := prog_11_method_40_code
def yX9_seed : MethodName := ⟨RX9, "seed", "(I)I"⟩
abbrev cX9_draw : ByteArray := prog_11_method_41_code
def yX9_draw : MethodName := ⟨RX9, "draw", "()I"⟩
abbrev cX9_byDraws : ByteArray := prog_11_method_42_code
def yX9_byDraws : MethodName := ⟨RX9, "byDraws", "()V"⟩
abbrev cX9_day : ByteArray := prog_11_method_43_code
def yX9_day : MethodName := ⟨RX9, "day", "()I"⟩
abbrev cX9_luck : ByteArray := prog_11_method_44_code
def yX9_luck : MethodName := ⟨RX9, "luck", "(I)I"⟩
abbrev cX9_hungSet : ByteArray := prog_11_method_45_code
def yX9_hungSet : MethodName := ⟨RX9, "hungSet", "()I"⟩
abbrev cX9_aboutSet : ByteArray := prog_11_method_46_code
def yX9_aboutSet : MethodName := ⟨RX9, "aboutSet", "()I"⟩
abbrev cX9_isAtOdds : ByteArray := prog_11_method_47_code
def yX9_isAtOdds : MethodName := ⟨RX9, "isAtOdds", "(II)Z"⟩
abbrev cX9_oddsAmong : ByteArray := prog_11_method_48_code
def yX9_oddsAmong : MethodName := ⟨RX9, "oddsAmong", "()I"⟩
abbrev cX9_state : ByteArray := prog_11_method_49_code
def yX9_state : MethodName := ⟨RX9, "state", "(I)I"⟩
abbrev cX9_isAhead : ByteArray := prog_11_method_50_code
def yX9_isAhead : MethodName := ⟨RX9, "isAhead", "(I)Z"⟩
abbrev cX9_isSoon : ByteArray := prog_11_method_51_code
def yX9_isSoon : MethodName := ⟨RX9, "isSoon", "(I)Z"⟩
abbrev cX9_behind : ByteArray := prog_11_method_52_code
def yX9_behind : MethodName := ⟨RX9, "behind", "(III)I"⟩
abbrev cX9_gone : ByteArray := prog_11_method_53_code
def yX9_gone : MethodName := ⟨RX9, "gone", "(II)I"⟩
abbrev cX9_depth : ByteArray := prog_11_method_54_code
def yX9_depth : MethodName := ⟨RX9, "depth", "(II)I"⟩
abbrev cX9_firstAbout : ByteArray := prog_11_method_55_code
def yX9_firstAbout : MethodName := ⟨RX9, "firstAbout", "(II)I"⟩
abbrev cX9_comes : ByteArray := prog_11_method_56_code
def yX9_comes : MethodName := ⟨RX9, "comes", "(II)I"⟩
abbrev cX9_bare : ByteArray := prog_11_method_57_code
def yX9_bare : MethodName := ⟨RX9, "bare", "(I)I"⟩
abbrev cX9_spoiltIn : ByteArray := prog_11_method_58_code
def yX9_spoiltIn : MethodName := ⟨RX9, "spoiltIn", "(I)I"⟩
abbrev cX9_spoilt : ByteArray := prog_11_method_59_code
def yX9_spoilt : MethodName := ⟨RX9, "spoilt", "(I)I"⟩
abbrev cX9_isThrough : ByteArray := prog_11_method_60_code
def yX9_isThrough : MethodName := ⟨RX9, "isThrough", "(IIII)Z"⟩
abbrev cX9_through : ByteArray := prog_11_method_61_code
def yX9_through : MethodName := ⟨RX9, "through", "(II)I"⟩
abbrev cX9_vatFor : ByteArray := prog_11_method_62_code
def yX9_vatFor : MethodName := ⟨RX9, "vatFor", "(II)I"⟩
abbrev cX9_kindFor : ByteArray := prog_11_method_63_code
def yX9_kindFor : MethodName := ⟨RX9, "kindFor", "(II)I"⟩
abbrev cX9_strengthFor : ByteArray := prog_11_method_64_code
def yX9_strengthFor : MethodName := ⟨RX9, "strengthFor", "(IIII)I"⟩
abbrev cX9_ones : ByteArray := prog_11_method_65_code
def yX9_ones : MethodName := ⟨RX9, "ones", "(I)I"⟩
abbrev cX9_hangs : ByteArray := prog_11_method_66_code
def yX9_hangs : MethodName := ⟨RX9, "hangs", "(I)V"⟩
abbrev cX9_hangFor : ByteArray := prog_11_method_67_code
def yX9_hangFor : MethodName := ⟨RX9, "hangFor", "(II)I"⟩
abbrev cX9_isSo : ByteArray := prog_11_method_68_code
def yX9_isSo : MethodName := ⟨RX9, "isSo", "(III)Z"⟩
abbrev cX9_fits : ByteArray := prog_11_method_69_code
def yX9_fits : MethodName := ⟨RX9, "fits", "(III)I"⟩
abbrev cX9_lowest : ByteArray := prog_11_method_70_code
def yX9_lowest : MethodName := ⟨RX9, "lowest", "(JJI)J"⟩
abbrev cX9_odds : ByteArray := prog_11_method_71_code
def yX9_odds : MethodName := ⟨RX9, "odds", "(III)J"⟩
abbrev cX9_hope : ByteArray := prog_11_method_72_code
def yX9_hope : MethodName := ⟨RX9, "hope", "(II)J"⟩
abbrev cX9_feed : ByteArray := prog_11_method_73_code
def yX9_feed : MethodName := ⟨RX9, "feed", "(JI)I"⟩
abbrev cX9_isByte : ByteArray := prog_11_method_74_code
def yX9_isByte : MethodName := ⟨RX9, "isByte", "(III)Z"⟩
abbrev cX9_next : ByteArray := prog_11_method_75_code
def yX9_next : MethodName := ⟨RX9, "next", "()V"⟩
abbrev cX9_isWord : ByteArray := prog_11_method_76_code
def yX9_isWord : MethodName := ⟨RX9, "isWord", "(Ljava/lang/String;)Z"⟩
abbrev cX9_must : ByteArray := prog_11_method_77_code
def yX9_must : MethodName := ⟨RX9, "must", "(Z)V"⟩
abbrev cX9_figures : ByteArray := prog_11_method_78_code
def yX9_figures : MethodName := ⟨RX9, "figures", "()I"⟩
abbrev cX9_number : ByteArray := prog_11_method_79_code
def yX9_number : MethodName := ⟨RX9, "number", "(II)I"⟩
abbrev cX9_kindHere : ByteArray := prog_11_method_80_code
def yX9_kindHere : MethodName := ⟨RX9, "kindHere", "()I"⟩
abbrev cX9_takes : ByteArray := prog_11_method_81_code
def yX9_takes : MethodName := ⟨RX9, "takes", "(Ljava/lang/String;)Z"⟩
abbrev cX9_clothTold : ByteArray := prog_11_method_82_code
def yX9_clothTold : MethodName := ⟨RX9, "clothTold", "(I)V"⟩
abbrev cX9_twoTold : ByteArray := prog_11_method_83_code
def yX9_twoTold : MethodName := ⟨RX9, "twoTold", "(IILjava/lang/String;I)V"⟩
abbrev cX9_lawTold : ByteArray := prog_11_method_84_code
def yX9_lawTold : MethodName := ⟨RX9, "lawTold", "(I)V"⟩
abbrev cX9_lawHere : ByteArray := prog_11_method_85_code
def yX9_lawHere : MethodName := ⟨RX9, "lawHere", "()I"⟩
abbrev cX9_item : ByteArray := prog_11_method_86_code
def yX9_item : MethodName := ⟨RX9, "item", "()V"⟩
abbrev cX9_mill : ByteArray := prog_11_method_87_code
def yX9_mill : MethodName := ⟨RX9, "mill", "()I"⟩
abbrev cX9_prove : ByteArray := prog_11_method_88_code
def yX9_prove : MethodName := ⟨RX9, "prove", "(II)I"⟩
abbrev cX9_isCell : ByteArray := prog_11_method_89_code
def yX9_isCell : MethodName := ⟨RX9, "isCell", "(II)Z"⟩
abbrev cX9_row : ByteArray := prog_11_method_90_code
def yX9_row : MethodName := ⟨RX9, "row", "(II)I"⟩
abbrev cX9_alterRow : ByteArray := prog_11_method_91_code
def yX9_alterRow : MethodName := ⟨RX9, "alterRow", "(III)I"⟩
abbrev cX9_isRight : ByteArray := prog_11_method_92_code
def yX9_isRight : MethodName := ⟨RX9, "isRight", "(II)Z"⟩
abbrev cX9_judge : ByteArray := prog_11_method_93_code
def yX9_judge : MethodName := ⟨RX9, "judge", "(I)I"⟩
abbrev cX9_isFour : ByteArray := prog_11_method_94_code
def yX9_isFour : MethodName := ⟨RX9, "isFour", "(I)Z"⟩
abbrev cX9_minds : ByteArray := prog_11_method_95_code
def yX9_minds : MethodName := ⟨RX9, "minds", "(IIII)I"⟩
abbrev cX9_sheet : ByteArray := prog_11_method_96_code
def yX9_sheet : MethodName := ⟨RX9, "sheet", "(III)I"⟩
abbrev cX9_narrowed : ByteArray := prog_11_method_97_code
def yX9_narrowed : MethodName := ⟨RX9, "narrowed", "(II)I"⟩
abbrev cX9_put : ByteArray := prog_11_method_98_code
def yX9_put : MethodName := ⟨RX9, "put", "(III)I"⟩
abbrev cX9_item_ : ByteArray := prog_11_method_99_code
def yX9_item_ : MethodName := ⟨RX9, "item", "(III)I"⟩
abbrev cX9_shelf : ByteArray := prog_11_method_100_code
def yX9_shelf : MethodName := ⟨RX9, "shelf", "(III)I"⟩
abbrev cX9_isHeld : ByteArray := prog_11_method_101_code
def yX9_isHeld : MethodName := ⟨RX9, "isHeld", "(I)Z"⟩
abbrev cX9_taken : ByteArray := prog_11_method_102_code
def yX9_taken : MethodName := ⟨RX9, "taken", "(II)I"⟩
abbrev cX9_runs : ByteArray := prog_11_method_103_code
def yX9_runs : MethodName := ⟨RX9, "runs", "(I)V"⟩
abbrev cX9_plainRubs : ByteArray := prog_11_method_104_code
def yX9_plainRubs : MethodName := ⟨RX9, "plainRubs", "(I)I"⟩
abbrev cX9_linenRubs : ByteArray := prog_11_method_105_code
def yX9_linenRubs : MethodName := ⟨RX9, "linenRubs", "(I)I"⟩
abbrev cX9_rubs : ByteArray := prog_11_method_106_code
def yX9_rubs : MethodName := ⟨RX9, "rubs", "(I)I"⟩
abbrev cX9_plainSteeps : ByteArray := prog_11_method_107_code
def yX9_plainSteeps : MethodName := ⟨RX9, "plainSteeps", "(I)I"⟩
abbrev cX9_steepsAct : ByteArray := prog_11_method_108_code
def yX9_steepsAct : MethodName := ⟨RX9, "steepsAct", "(I)I"⟩
abbrev cX9_plainParts : ByteArray := prog_11_method_109_code
def yX9_plainParts : MethodName := ⟨RX9, "plainParts", "(I)I"⟩
abbrev cX9_parts : ByteArray := prog_11_method_110_code
def yX9_parts : MethodName := ⟨RX9, "parts", "(I)I"⟩
abbrev cX9_plainDries : ByteArray := prog_11_method_111_code
def yX9_plainDries : MethodName := ⟨RX9, "plainDries", "(I)I"⟩
abbrev cX9_driesAct : ByteArray := prog_11_method_112_code
def yX9_driesAct : MethodName := ⟨RX9, "driesAct", "(I)I"⟩
abbrev cX9_act : ByteArray := prog_11_method_113_code
def yX9_act : MethodName := ⟨RX9, "act", "(III)I"⟩
abbrev cX9_trace : ByteArray := prog_11_method_114_code
def yX9_trace : MethodName := ⟨RX9, "trace", "(I)I"⟩
abbrev cX9_purposesAbout : ByteArray := prog_11_method_115_code
def yX9_purposesAbout : MethodName := ⟨RX9, "purposesAbout", "()I"⟩
abbrev cX9_many : ByteArray := prog_11_method_116_code
def yX9_many : MethodName := ⟨RX9, "many", "(I)I"⟩
abbrev cX9_keep : ByteArray := prog_11_method_117_code
def yX9_keep : MethodName := ⟨RX9, "keep", "()I"⟩
abbrev cX9_again : ByteArray := prog_11_method_118_code
def yX9_again : MethodName := ⟨RX9, "again", "()I"⟩
def RJ6 : String := "java/lang/Integer"
def TJ6 : u_T := fun k => match k with
  | _ => ("", "", "", false)
def tyJ6 : Nat → FieldType := fun k => match k with
  | _ => .int
abbrev wsJ60 : List Cond := u_ws RJ6 TJ6 0
theorem nmJ6 : ∀ a, a < 0 → ∀ b, b < 0 → a ≠ b → (TJ6 a).2.1 ≠ (TJ6 b).2.1 := by decide +kernel
theorem tyJ6_ok : ∀ k, k < 0 → parseFieldDescriptor (TJ6 k).2.2.1 = some (tyJ6 k) := by decide +kernel
abbrev cJ6_bitCount_0f7a4 : ByteArray := prog_12_method_49_code
def yJ6_bitCount_0f7a4 : MethodName := ⟨RJ6, "bitCount", "(I)I"⟩
def RJ9 : String := "java/lang/Math"
def TJ9 : u_T := fun k => match k with
  | _ => ("", "", "", false)
def tyJ9 : Nat → FieldType := fun k => match k with
  | _ => .int
abbrev wsJ90 : List Cond := u_ws RJ9 TJ9 0
theorem nmJ9 : ∀ a, a < 0 → ∀ b, b < 0 → a ≠ b → (TJ9 a).2.1 ≠ (TJ9 b).2.1 := by decide +kernel
theorem tyJ9_ok : ∀ k, k < 0 → parseFieldDescriptor (TJ9 k).2.2.1 = some (tyJ9 k) := by decide +kernel
abbrev cJ9_abs_0f7a4 : ByteArray := prog_13_method_59_code
def yJ9_abs_0f7a4 : MethodName := ⟨RJ9, "abs", "(I)I"⟩
abbrev cJ9_max_7cf53 : ByteArray := prog_13_method_65_code
def yJ9_max_7cf53 : MethodName := ⟨RJ9, "max", "(II)I"⟩
abbrev cJ9_min_7cf53 : ByteArray := prog_13_method_69_code
def yJ9_min_7cf53 : MethodName := ⟨RJ9, "min", "(II)I"⟩
def RJ0 : String := "java/lang/String"
def TJ0 : u_T := fun k => match k with
  | _ => ("", "", "", false)
def tyJ0 : Nat → FieldType := fun k => match k with
  | _ => .int
abbrev wsJ00 : List Cond := u_ws RJ0 TJ0 0
theorem nmJ0 : ∀ a, a < 0 → ∀ b, b < 0 → a ≠ b → (TJ0 a).2.1 ≠ (TJ0 b).2.1 := by decide +kernel
theorem tyJ0_ok : ∀ k, k < 0 → parseFieldDescriptor (TJ0 k).2.2.1 = some (tyJ0 k) := by decide +kernel
abbrev cJ0_length_8abf5 : ByteArray := prog_14_method_54_code
def yJ0_length_8abf5 : MethodName := ⟨RJ0, "length", "()I"⟩
abbrev cJ0_charAt_5068e : ByteArray := prog_14_method_56_code
def yJ0_charAt_5068e : MethodName := ⟨RJ0, "charAt", "(I)C"⟩
abbrev cJ0_coder_7d493 : ByteArray := prog_14_method_152_code
def yJ0_coder_7d493 : MethodName := ⟨RJ0, "coder", "()B"⟩
abbrev cJ0_isLatin1_aae02 : ByteArray := prog_14_method_154_code
def yJ0_isLatin1_aae02 : MethodName := ⟨RJ0, "isLatin1", "()Z"⟩
abbrev cJ0_checkIndex_df160 : ByteArray := prog_14_method_155_code
def yJ0_checkIndex_df160 : MethodName := ⟨RJ0, "checkIndex", "(II)V"⟩
def RJ1 : String := "java/lang/StringLatin1"
def TJ1 : u_T := fun k => match k with
  | _ => ("", "", "", false)
def tyJ1 : Nat → FieldType := fun k => match k with
  | _ => .int
abbrev wsJ10 : List Cond := u_ws RJ1 TJ1 0
theorem nmJ1 : ∀ a, a < 0 → ∀ b, b < 0 → a ≠ b → (TJ1 a).2.1 ≠ (TJ1 b).2.1 := by decide +kernel
theorem tyJ1_ok : ∀ k, k < 0 → parseFieldDescriptor (TJ1 k).2.2.1 = some (tyJ1 k) := by decide +kernel
abbrev cJ1_charAt_3b067 : ByteArray := prog_15_method_2_code
def yJ1_charAt_3b067 : MethodName := ⟨RJ1, "charAt", "([BI)C"⟩
def RJ2 : String := "java/lang/StringUTF16"
def TJ2 : u_T := fun k => match k with
  | _ => ("", "", "", false)
def tyJ2 : Nat → FieldType := fun k => match k with
  | _ => .int
abbrev wsJ20 : List Cond := u_ws RJ2 TJ2 0
theorem nmJ2 : ∀ a, a < 0 → ∀ b, b < 0 → a ≠ b → (TJ2 a).2.1 ≠ (TJ2 b).2.1 := by decide +kernel
theorem tyJ2_ok : ∀ k, k < 0 → parseFieldDescriptor (TJ2 k).2.2.1 = some (tyJ2 k) := by decide +kernel
abbrev cJ2_getChar_3b067 : ByteArray := prog_16_method_5_code
def yJ2_getChar_3b067 : MethodName := ⟨RJ2, "getChar", "([BI)C"⟩
abbrev cJ2_length_9d52b : ByteArray := prog_16_method_6_code
def yJ2_length_9d52b : MethodName := ⟨RJ2, "length", "([B)I"⟩
abbrev cJ2_charAt_3b067 : ByteArray := prog_16_method_83_code
def yJ2_charAt_3b067 : MethodName := ⟨RJ2, "charAt", "([BI)C"⟩
abbrev cJ2_checkIndex_2214a : ByteArray := prog_16_method_91_code
def yJ2_checkIndex_2214a : MethodName := ⟨RJ2, "checkIndex", "(I[B)V"⟩
def RJ10 : String := "java/lang/System"
def TJ10 : u_T := fun k => match k with
  | _ => ("", "", "", false)
def tyJ10 : Nat → FieldType := fun k => match k with
  | _ => .int
abbrev wsJ100 : List Cond := u_ws RJ10 TJ10 0
theorem nmJ10 : ∀ a, a < 0 → ∀ b, b < 0 → a ≠ b → (TJ10 a).2.1 ≠ (TJ10 b).2.1 := by decide +kernel
theorem tyJ10_ok : ∀ k, k < 0 → parseFieldDescriptor (TJ10 k).2.2.1 = some (tyJ10 k) := by decide +kernel
def RJ3 : String := "jdk/internal/util/Preconditions"
def TJ3 : u_T := fun k => match k with
  | _ => ("", "", "", false)
def tyJ3 : Nat → FieldType := fun k => match k with
  | _ => .int
abbrev wsJ30 : List Cond := u_ws RJ3 TJ3 0
theorem nmJ3 : ∀ a, a < 0 → ∀ b, b < 0 → a ≠ b → (TJ3 a).2.1 ≠ (TJ3 b).2.1 := by decide +kernel
theorem tyJ3_ok : ∀ k, k < 0 → parseFieldDescriptor (TJ3 k).2.2.1 = some (tyJ3 k) := by decide +kernel
abbrev cJ3_checkIndex_8e157 : ByteArray := prog_18_method_11_code
def yJ3_checkIndex_8e157 : MethodName := ⟨RJ3, "checkIndex", "(IILjava/util/function/BiFunction;)I"⟩
def RL : String := "IntentVatsLaw"
abbrev cL_law : ByteArray := code
def yL_law : MethodName := ⟨RL, "law", "([I)Z"⟩
set_option maxRecDepth 20000 in
set_option maxRecDepth 20000 in
abbrev vwCl : List vw_C := [(RX0, TX0, 6), (RX2, TX2, 1), (RX3, TX3, 12), (RX4, TX4, 2), (RX5, TX5, 2), (RX6, TX6, 2), (RX7, TX7, 6), (RX8, TX8, 10), (RX9, TX9, 25)]
end
section
/-! THE EVALUATOR: an executable picture of the bytecode over cells that are named by a tag and a number; what it answers holds of the machine (part 03) -/
abbrev mv_V : Type := Value ⊕ (Nat × Nat)
abbrev mv_L : Type := List (Nat × mv_V)
abbrev mv_E : Type := Nat × Instr × Nat × List Nat
/-- the heap's picture: ints by tag, number, place; refs likewise; lengths of arrays; how many of a tag there are -/
abbrev mv_G : Type := (Nat → Nat → Nat → Int32) × (Nat → Nat → Nat → Option (Nat × Nat)) × (Nat → Nat → Nat) × (Nat → Nat)
def stx : Nat → List Int32
  | 0 => [118, 97, 116]
  | 1 => [115, 116, 114, 111, 110, 103]
  | 2 => [100, 97, 121]
  | 3 => [97, 98, 111, 117, 116]
  | 4 => [100, 101, 101, 112]
  | 5 => [104, 117, 110, 103]
  | 6 => [111, 102]
  | 7 => [99, 108, 111, 116, 104]
  | 8 => [119, 111, 111, 108]
  | 9 => [108, 105, 110, 101, 110]
  | 10 => [102, 101, 108, 116]
  | 11 => [115, 104, 114, 111, 117, 100]
  | 12 => [109, 117, 115, 108, 105, 110]
  | 13 => [109, 111, 114, 100, 97, 110, 116]
  | 14 => [108, 105, 103, 104, 116]
  | 15 => [113, 117, 97, 114, 114, 101, 108]
  | 16 => [115, 108, 105, 112]
  | 17 => [99, 108, 111, 116, 104]
  | 18 => [119, 111, 111, 108]
  | 19 => [108, 105, 110, 101, 110]
  | 20 => [102, 101, 108, 116]
  | 21 => [115, 104, 114, 111, 117, 100]
  | 22 => [109, 117, 115, 108, 105, 110]
  | 23 => [97, 98, 111, 117, 116]
  | 24 => [100, 101, 101, 112]
  | 25 => [104, 117, 110, 103]
  | 26 => [109, 111, 114, 100, 97, 110, 116]
  | 27 => [108, 105, 103, 104, 116]
  | 28 => [113, 117, 97, 114, 114, 101, 108]
  | 29 => [115, 108, 105, 112]
  | 30 => [118, 97, 116]
  | 31 => [111, 102]
  | 32 => [115, 116, 114, 111, 110, 103]
  | 33 => []
  | 34 => [100, 97, 121]
  | 35 => [59]
  | _ => []
def stl (q : Nat) : Nat := (stx q).length
def stc (q k : Nat) : Int32 := (stx q).getD k 0
def mv_sw : Nat → Option (String × Nat × String)
  | 0 => some ("IntentVats$Tape", 50, "vat")
  | 1 => some ("IntentVats$Tape", 59, "strong")
  | 2 => some ("IntentVats$Tape", 64, "day")
  | 3 => some ("IntentVats$Tape", 82, "about")
  | 4 => some ("IntentVats$Tape", 97, "deep")
  | 5 => some ("IntentVats$Tape", 99, "hung")
  | 6 => some ("IntentVats$Tape", 108, "of")
  | 7 => some ("IntentVats$Tape", 135, "cloth")
  | 8 => some ("IntentVats$Tape", 137, "wool")
  | 9 => some ("IntentVats$Tape", 139, "linen")
  | 10 => some ("IntentVats$Tape", 141, "felt")
  | 11 => some ("IntentVats$Tape", 143, "shroud")
  | 12 => some ("IntentVats$Tape", 145, "muslin")
  | 13 => some ("IntentVats$Tape", 147, "mordant")
  | 14 => some ("IntentVats$Tape", 149, "light")
  | 15 => some ("IntentVats$Tape", 151, "quarrel")
  | 16 => some ("IntentVats$Tape", 153, "slip")
  | 17 => some ("IntentVatsModel", 262, "cloth")
  | 18 => some ("IntentVatsModel", 268, "wool")
  | 19 => some ("IntentVatsModel", 270, "linen")
  | 20 => some ("IntentVatsModel", 272, "felt")
  | 21 => some ("IntentVatsModel", 274, "shroud")
  | 22 => some ("IntentVatsModel", 276, "muslin")
  | 23 => some ("IntentVatsModel", 278, "about")
  | 24 => some ("IntentVatsModel", 286, "deep")
  | 25 => some ("IntentVatsModel", 288, "hung")
  | 26 => some ("IntentVatsModel", 290, "mordant")
  | 27 => some ("IntentVatsModel", 292, "light")
  | 28 => some ("IntentVatsModel", 294, "quarrel")
  | 29 => some ("IntentVatsModel", 296, "slip")
  | 30 => some ("IntentVatsModel", 307, "vat")
  | 31 => some ("IntentVatsModel", 309, "of")
  | 32 => some ("IntentVatsModel", 315, "strong")
  | 33 => some ("IntentVatsModel", 317, "")
  | 34 => some ("IntentVatsModel", 319, "day")
  | 35 => some ("IntentVatsModel", 324, ";")
  | _ => none
def mv_bod : List Int32 := [10, 11, 12, 13, 10, 20, 12, 13, 30, 11, 12, 31, 51, 20, 50, 13, 40, 41, 12, 31, 10, 11, 61, 60]
def bod (k : Nat) : Int32 := mv_bod.getD k 0
def mv_mem (n : Nat) : List Nat → Bool
  | [] => false
  | a :: l => cond (Nat.beq a n) true (mv_mem n l)
def mv_seek (pc : Nat) : List mv_E → List mv_E
  | [] => []
  | e :: l => cond (Nat.beq e.1 pc) (e :: l) (mv_seek pc l)
def mv_get (k : Nat) : mv_L → Option mv_V
  | [] => none
  | q :: l => cond (Nat.beq q.1 k) (some q.2) (mv_get k l)
def mv_two : mv_V → Bool
  | .inl (.long _) => true
  | .inl (.double _) => true
  | _ => false
def mv_f1 (i : Nat) : mv_L → mv_L
  | [] => []
  | q :: l => cond (Nat.beq q.1 i || (Nat.beq (q.1 + 1) i && mv_two q.2)) (mv_f1 i l) (q :: mv_f1 i l)
def mv_f2 (i : Nat) : mv_L → mv_L
  | [] => []
  | q :: l => cond (Nat.beq q.1 i || (Nat.beq q.1 (i + 1) || (Nat.beq (q.1 + 1) i && mv_two q.2))) (mv_f2 i l) (q :: mv_f2 i l)
def mv_f1K {α : Type} (i : Nat) (l : mv_L) (k : mv_L → α) : α := match l with
  | [] => k []
  | q :: l => mv_f1K i l fun l' => match Nat.beq q.1 i || (Nat.beq (q.1 + 1) i && mv_two q.2) with
    | true => k l'
    | false => k (q :: l')
def mv_f2K {α : Type} (i : Nat) (l : mv_L) (k : mv_L → α) : α := match l with
  | [] => k []
  | q :: l => mv_f2K i l fun l' => match Nat.beq q.1 i || (Nat.beq q.1 (i + 1) || (Nat.beq (q.1 + 1) i && mv_two q.2)) with
    | true => k l'
    | false => k (q :: l')
/-- the arguments of a call off the stack, and what is left -/
def mv_tk {α : Type} (n : Nat) (as st : List mv_V) (k : List mv_V → List mv_V → Option α) : Option α := match n with
  | 0 => k as st
  | n + 1 => match st with
    | [] => none
    | v :: st => mv_tk n (v :: as) st k
def mv_ap {α : Type} (vs st : List mv_V) (k : List mv_V → α) : α := match vs with
  | [] => k st
  | v :: vs => mv_ap vs st fun l => k (v :: l)
def mv_nth {α : Type} (j : Nat) (l : List α) : Option α := match l with
  | [] => none
  | a :: l => match j with
    | 0 => some a
    | j + 1 => mv_nth j l
def mv_cats : List mv_V → Nat
  | [] => 0
  | v :: l => (match mv_two v with
    | true => 2
    | false => 1) + mv_cats l
/-- an int constant, by its sign and size -/
def mv_c (sg n : Nat) : Int32 := cond (Nat.beq sg 0) (nI n) (-(nI n))
def mv_cl (sg n : Nat) : Int64 := cond (Nat.beq sg 0) (lN n) (-(lN n))
def mv_inb (i : Int32) (n : Nat) : Bool := !(decide (i < 0) || Nat.ble n i.toNatClampNeg)
def mv_gd {α : Type} (b : Bool) (k : Option α) : Option α := match b with
  | true => k
  | false => none
def mv_bh {β α : Type} (h : β) (k : β → α) : α := k h
def mv_bi {α : Type} (x : Int32) (k : Int32 → α) : α := k x
def mv_bl {α : Type} (x : Int64) (k : Int64 → α) : α := k x
def mv_el {α β : Type} (o : Option β) (a : α) (f : β → α) : α := match o with
  | none => a
  | some b => f b
def mv_q : Option (Nat × Nat) → mv_V
  | none => .inl .null
  | some q => .inr q
def mv_vi (x : Int32) : mv_V := .inl (.int x)
def mv_vl (x : Int64) : mv_V := .inl (.long x)
/-- what works on the stack alone -/
def mv_op {α : Type} (i : Instr) (st : List mv_V) (k : List mv_V → Option α) : Option α := match i with
  | .iadd => match st with
    | .inl (.int y) :: .inl (.int x) :: st => k (.inl (.int (x + y)) :: st)
    | _ => none
  | .isub => match st with
    | .inl (.int y) :: .inl (.int x) :: st => k (.inl (.int (x - y)) :: st)
    | _ => none
  | .imul => match st with
    | .inl (.int y) :: .inl (.int x) :: st => k (.inl (.int (x * y)) :: st)
    | _ => none
  | .iand => match st with
    | .inl (.int y) :: .inl (.int x) :: st => k (.inl (.int (x &&& y)) :: st)
    | _ => none
  | .ior => match st with
    | .inl (.int y) :: .inl (.int x) :: st => k (.inl (.int (x ||| y)) :: st)
    | _ => none
  | .ixor => match st with
    | .inl (.int y) :: .inl (.int x) :: st => k (.inl (.int (x ^^^ y)) :: st)
    | _ => none
  | .idiv => match st with
    | .inl (.int y) :: .inl (.int x) :: st => mv_gd (!decide (y = 0)) (k (.inl (.int (x / y)) :: st))
    | _ => none
  | .irem => match st with
    | .inl (.int y) :: .inl (.int x) :: st => mv_gd (!decide (y = 0)) (k (.inl (.int (x - x / y * y)) :: st))
    | _ => none
  | .ineg => match st with
    | .inl (.int x) :: st => k (.inl (.int (-x)) :: st)
    | _ => none
  | .ishl => match st with
    | .inl (.int y) :: .inl (.int x) :: st => k (.inl (.int (x <<< (y &&& 31))) :: st)
    | _ => none
  | .ishr => match st with
    | .inl (.int y) :: .inl (.int x) :: st => k (.inl (.int (x >>> (y &&& 31))) :: st)
    | _ => none
  | .iushr => match st with
    | .inl (.int y) :: .inl (.int x) :: st => k (.inl (.int ((x.toUInt32 >>> (y.toUInt32 &&& Int32.toUInt32 31)).toInt32)) :: st)
    | _ => none
  | .ladd => match st with
    | .inl (.long y) :: .inl (.long x) :: st => k (.inl (.long (x + y)) :: st)
    | _ => none
  | .lmul => match st with
    | .inl (.long y) :: .inl (.long x) :: st => k (.inl (.long (x * y)) :: st)
    | _ => none
  | .land => match st with
    | .inl (.long y) :: .inl (.long x) :: st => k (.inl (.long (x &&& y)) :: st)
    | _ => none
  | .lor => match st with
    | .inl (.long y) :: .inl (.long x) :: st => k (.inl (.long (x ||| y)) :: st)
    | _ => none
  | .ldiv => match st with
    | .inl (.long y) :: .inl (.long x) :: st => mv_gd (!decide (y = 0)) (k (.inl (.long (x / y)) :: st))
    | _ => none
  | .lrem => match st with
    | .inl (.long y) :: .inl (.long x) :: st => mv_gd (!decide (y = 0)) (k (.inl (.long (x - x / y * y)) :: st))
    | _ => none
  | .lshl => match st with
    | .inl (.int y) :: .inl (.long x) :: st => k (.inl (.long (x <<< (y.toInt64 &&& 63))) :: st)
    | _ => none
  | .lshr => match st with
    | .inl (.int y) :: .inl (.long x) :: st => k (.inl (.long (x >>> (y.toInt64 &&& 63))) :: st)
    | _ => none
  | .lcmp => match st with
    | .inl (.long y) :: .inl (.long x) :: st => k (.inl (.int (lg_cmp x y)) :: st)
    | _ => none
  | .i2l => match st with
    | .inl (.int x) :: st => k (.inl (.long x.toInt64) :: st)
    | _ => none
  | .l2i => match st with
    | .inl (.long x) :: st => k (.inl (.int x.toInt32) :: st)
    | _ => none
  | .i2b => match st with
    | .inl (.int x) :: st => k (.inl (.int x.toInt8.toInt32) :: st)
    | _ => none
  | .i2c => match st with
    | .inl (.int x) :: st => k (.inl (.int x.toUInt32.toUInt16.toUInt32.toInt32) :: st)
    | _ => none
  | .i2s => match st with
    | .inl (.int x) :: st => k (.inl (.int x.toInt16.toInt32) :: st)
    | _ => none
  | .dup => match st with
    | v :: st => match mv_two v with
      | false => k (v :: v :: st)
      | true => none
    | _ => none
  | .dup_x1 => match st with
    | v :: w :: st => match mv_two v || mv_two w with
      | false => k (v :: w :: v :: st)
      | true => none
    | _ => none
  | .dup2 => match st with
    | v :: w :: st => match mv_two v || mv_two w with
      | false => k (v :: w :: v :: w :: st)
      | true => none
    | _ => none
  | .pop => match st with
    | v :: st => match mv_two v with
      | false => k st
      | true => none
    | _ => none
  | .aconst_null => k (.inl .null :: st)
  | _ => none
def mv_cmp (c : ClassFile.Cond) (x y : Int32) {α : Type} (a b : α) : α := match c with
  | .eq => if x = y then a else b
  | .ne => if x = y then b else a
  | .lt => if x < y then a else b
  | .ge => if y ≤ x then a else b
  | .gt => if y < x then a else b
  | .le => if x ≤ y then a else b
def mv_ts {α : Type} (x : Int32) (lo : Nat) (d : α) (f : Nat → α) : List Nat → α
  | [] => d
  | t :: l => if x = nI lo then f t else mv_ts x (lo + 1) d f l
def mv_ls {α : Type} (x : Int32) (d : α) (f : Nat → α) : List Nat → α
  | k :: t :: l => if x = nI k then f t else mv_ls x d f l
  | _ => d
def mv_cpy (f : Nat → Int32) (g : Nat → Int32) (n : Nat) : Nat → Int32 := fun k => if k < n then f k else g k
/-- tags of int arrays, of arrays of rows -/
def mv_ra (t : Nat) : Bool := Nat.beq t 601 || Nat.beq t 807
def mv_ia (t : Nat) : Bool := Nat.ble 100 t && !(mv_ra t)
section
variable {Hp : Type} (rI : Hp → Nat → Nat → Nat → Int32) (rR : Hp → Nat → Nat → Nat → (Option (Nat × Nat) → Option (List mv_V × Hp)) → Option (List mv_V × Hp)) (ln : Hp → Nat → Nat → Nat) (wI : Hp → Nat → Nat → Nat → Int32 → Hp) (wR : Hp → Nat → Nat → Nat → Option (Nat × Nat) → (Hp → Option (List mv_V × Hp)) → Option (List mv_V × Hp)) (nw : Hp → Nat → Nat → (Nat → Hp → Option (List mv_V × Hp)) → Option (List mv_V × Hp)) (cp : Hp → Nat → Nat → Nat → Nat → Nat → Hp)
/-- reads and writes of the heap; lk: what the table says of the instruction's operands -/
def mv_hop (bod : Nat → Int32) (sc : Option (Nat × (Nat → Int32))) (i : Instr) (lk : List Nat) (st : List mv_V) (h : Hp) (k : List mv_V → Hp → Option (List mv_V × Hp)) : Option (List mv_V × Hp) := match i with
  | .getfield _ => match lk with
    | ci :: f :: kd :: _ => match st with
      | .inr (t, o) :: st => match Nat.beq t ci with
        | true => match Nat.beq kd 1 with
          | true => rR h t o f fun q => match q with
            | none => k (.inl .null :: st) h
            | some q => k (.inr q :: st) h
          | false => match Nat.beq t 11 with
            | true => match Nat.beq kd 3 with
              | true => k (.inr (12, o) :: st) h
              | false => k (.inl (.int (nI 0)) :: st) h
            | false => k (.inl (.int (rI h t o f)) :: st) h
        | false => none
      | _ => none
    | _ => none
  | .putfield _ => match lk with
    | ci :: f :: kd :: _ => match Nat.beq kd 1 with
      | true => match st with
        | .inr q :: .inr (t, o) :: st => match Nat.beq t ci with
          | true => wR h t o f (some q) fun h => k st h
          | false => none
        | .inl .null :: .inr (t, o) :: st => match Nat.beq t ci with
          | true => wR h t o f none fun h => k st h
          | false => none
        | _ => none
      | false => match st with
        | .inl (.int x) :: .inr (t, o) :: st => match Nat.beq t ci with
          | true => match Nat.beq kd 2 with
            | true => mv_gd (decide (x = nI 0) || decide (x = nI 1)) (mv_bh (wI h t o f x) fun h => k st h)
            | false => mv_bh (wI h t o f x) fun h => k st h
          | false => none
        | _ => none
    | _ => none
  | .iaload => match st with
    | .inl (.int i) :: .inr (t, o) :: st => match Nat.beq t 10 && Nat.beq o 0 with
      | true => match sc with
        | some q => mv_gd (mv_inb i q.1) (k (.inl (.int (q.2 i.toNatClampNeg)) :: st) h)
        | none => none
      | false => match Nat.beq t 13 && Nat.beq o 0 with
        | true => mv_gd (mv_inb i 24) (k (.inl (.int (bod i.toNatClampNeg)) :: st) h)
        | false => match mv_ia t with
          | true => mv_gd (mv_inb i (ln h t o)) (k (.inl (.int (rI h t o i.toNatClampNeg)) :: st) h)
          | false => none
    | _ => none
  | .iastore => match st with
    | .inl (.int x) :: .inl (.int i) :: .inr (t, o) :: st => match mv_ia t with
      | true => mv_gd (mv_inb i (ln h t o)) (mv_bh (wI h t o i.toNatClampNeg x) fun h => k st h)
      | false => none
    | _ => none
  | .aaload => match st with
    | .inl (.int i) :: .inr (t, o) :: st => match mv_ra t with
      | true => mv_gd (mv_inb i (ln h t o)) (rR h t o i.toNatClampNeg fun q => match q with
        | none => k (.inl .null :: st) h
        | some q => k (.inr q :: st) h)
      | false => none
    | _ => none
  | .aastore => match st with
    | .inr (u, n) :: .inl (.int i) :: .inr (t, o) :: st => match mv_ra t && Nat.beq u 4 with
      | true => mv_gd (mv_inb i (ln h t o)) (wR h t o i.toNatClampNeg (some (u, n)) fun h => k st h)
      | false => none
    | .inl .null :: .inl (.int i) :: .inr (t, o) :: st => match mv_ra t with
      | true => mv_gd (mv_inb i (ln h t o)) (wR h t o i.toNatClampNeg none fun h => k st h)
      | false => none
    | _ => none
  | .arraylength => match st with
    | .inr (t, o) :: st => match Nat.beq t 10 && Nat.beq o 0 with
      | true => match sc with
        | some q => k (.inl (.int (nI q.1)) :: st) h
        | none => none
      | false => match Nat.beq t 12 with
        | true => k (.inl (.int (nI (stl o))) :: st) h
        | false => match Nat.ble 100 t with
          | true => k (.inl (.int (nI (ln h t o))) :: st) h
          | false => none
    | _ => none
  | .baload => match st with
    | .inl (.int i) :: .inr (t, o) :: st => match Nat.beq t 12 with
      | true => mv_gd (mv_inb i (stl o)) (k (.inl (.int (stc o i.toNatClampNeg)) :: st) h)
      | false => none
    | _ => none
  | .getstatic _ => match lk with
    | t :: _ => match Nat.beq t 13 with
      | true => k (.inr (13, 0) :: st) h
      | false => match Nat.beq t 14 with
        | true => k (.inr (14, 0) :: st) h
        | false => k (.inl (.int (nI 1)) :: st) h
    | _ => none
  | _ => none
/-- locals, constants, stack -/
def mv_lop (i : Instr) (lk : List Nat) (lv : mv_L) (st : List mv_V) (k : mv_L → List mv_V → Option (List mv_V × Hp)) : Option (List mv_V × Hp) := match i with
  | .iload_n _ | .iload _ => match lk with
    | n :: _ => match mv_get n lv with
      | some (.inl (.int x)) => k lv (.inl (.int x) :: st)
      | _ => none
    | _ => none
  | .lload_n _ | .lload _ => match lk with
    | n :: _ => match mv_get n lv with
      | some (.inl (.long x)) => k lv (.inl (.long x) :: st)
      | _ => none
    | _ => none
  | .aload_n _ | .aload _ => match lk with
    | n :: _ => match mv_get n lv with
      | some (.inr q) => k lv (.inr q :: st)
      | some (.inl .null) => k lv (.inl .null :: st)
      | _ => none
    | _ => none
  | .istore_n _ | .istore _ => match lk with
    | n :: _ => match st with
      | .inl (.int x) :: st => mv_f1K n lv fun lv => mv_bi x fun x => k ((n, .inl (.int x)) :: lv) st
      | _ => none
    | _ => none
  | .lstore_n _ | .lstore _ => match lk with
    | n :: _ => match st with
      | .inl (.long x) :: st => mv_f2K n lv fun lv => mv_bl x fun x => k ((n, .inl (.long x)) :: lv) st
      | _ => none
    | _ => none
  | .astore_n _ | .astore _ => match lk with
    | n :: _ => match st with
      | .inr q :: st => mv_f1K n lv fun lv => k ((n, .inr q) :: lv) st
      | .inl .null :: st => mv_f1K n lv fun lv => k ((n, .inl .null) :: lv) st
      | _ => none
    | _ => none
  | .iinc _ _ => match lk with
    | n :: sg :: c :: _ => match mv_get n lv with
      | some (.inl (.int x)) => mv_f1K n lv fun lv => mv_bi (x + mv_c sg c) fun x => k ((n, .inl (.int x)) :: lv) st
      | _ => none
    | _ => none
  | .iconst _ | .bipush _ | .sipush _ => match lk with
    | sg :: c :: _ => k lv (.inl (.int (mv_c sg c)) :: st)
    | _ => none
  | .ldc _ | .ldc_w _ => match lk with
    | 0 :: sg :: c :: _ => k lv (.inl (.int (mv_c sg c)) :: st)
    | 1 :: n :: _ => k lv (.inr (11, n) :: st)
    | _ => none
  | .lconst _ | .ldc2_w _ => match lk with
    | sg :: c :: _ => k lv (.inl (.long (mv_cl sg c)) :: st)
    | _ => none
  | i => mv_op i st (k lv)
abbrev mv_C (Hp : Type) : Type := (Nat × Nat) × (List mv_V → Hp → (List mv_V → Hp → Option (List mv_V × Hp)) → Option (List mv_V × Hp))
/-- calls and makings: cells and slots made so far go along -/
def mv_cop (G : List (mv_C Hp)) (MC MS : Nat) (i : Instr) (lk : List Nat) (lv : mv_L) (st : List mv_V) (h : Hp) (ce sl : Nat) (k : List mv_V → Hp → Nat → Nat → Option (List mv_V × Hp)) : Option (List mv_V × Hp) :=
  match i with
  | .new _ => match lk with
    | ci :: n :: _ => match Nat.ble (ce + 1) MC && Nat.ble (sl + n) MS with
      | true => nw h ci 0 fun o h => k (.inr (ci, o) :: st) h (ce + 1) (sl + n)
      | false => none
    | _ => none
  | .newarray _ | .anewarray _ => match lk with
    | t :: _ => match st with
      | .inl (.int n) :: st => match Nat.ble (ce + 1) MC with
        | true => mv_gd (!decide (n < 0) && (Nat.ble n.toNatClampNeg 1000 && Nat.ble (sl + n.toNatClampNeg) MS)) (nw h t n.toNatClampNeg fun o h => k (.inr (t, o) :: st) h (ce + 1) (sl + n.toNatClampNeg))
        | false => none
      | _ => none
    | _ => none
  | .invokestatic _ => match lk with
    | 0 :: j :: n :: _ => match mv_nth j G with
      | some (c, f) => mv_tk n [] st fun as st => match Nat.ble (ce + c.1) MC && (Nat.ble (sl + c.2) MS && Nat.ble (mv_cats st) 8) with
        | true => f as h fun vs h => mv_ap vs st fun st => k st h (ce + c.1) (sl + c.2)
        | false => none
      | none => none
    | 1 :: _ => match st with
      | .inl (.int y) :: .inl (.int x) :: st => match Nat.ble (mv_cats st) 8 with
        | true => k (.inl (.int (if x < y then y else x)) :: st) h ce sl
        | false => none
      | _ => none
    | 2 :: _ => match st with
      | .inl (.int y) :: .inl (.int x) :: st => match Nat.ble (mv_cats st) 8 with
        | true => k (.inl (.int (if y < x then y else x)) :: st) h ce sl
        | false => none
      | _ => none
    | 3 :: _ => match st with
      | .inl (.int x) :: st => match Nat.ble (mv_cats st) 8 with
        | true => k (.inl (.int (if 0 ≤ x then x else 0 - x)) :: st) h ce sl
        | false => none
      | _ => none
    | 4 :: _ => match st with
      | .inl (.int n) :: .inl (.int dp) :: .inr (t', o') :: .inl (.int sp) :: .inr (t, o) :: st => match Nat.beq t t' && (mv_ia t && Nat.ble (mv_cats st) 8) with
        | true => mv_gd (decide (sp = nI 0) && (decide (dp = nI 0) && (!decide (n < 0) && (Nat.ble n.toNatClampNeg (ln h t o) && Nat.ble n.toNatClampNeg (ln h t o'))))) (mv_bh (cp h t o o' n.toNatClampNeg 0) fun h => k st h ce sl)
        | false => none
      | _ => none
    | _ => none
  | .invokevirtual _ | .invokespecial _ => match lk with
    | 0 :: j :: n :: _ => match mv_nth j G with
      | some (c, f) => mv_tk n [] st fun as st => match Nat.ble (ce + c.1) MC && (Nat.ble (sl + c.2) MS && Nat.ble (mv_cats st) 8) with
        | true => f as h fun vs h => mv_ap vs st fun st => k st h (ce + c.1) (sl + c.2)
        | false => none
      | none => none
    | 5 :: _ => match st with
      | .inr _ :: st => match Nat.ble (mv_cats st) 8 with
        | true => k st h ce sl
        | false => none
      | _ => none
    | _ => none
  | _ => none
/-- one instruction: 'nx' goes on behind it, 'jp' at a place -/
def mv_step (bod : Nat → Int32) (sc : Option (Nat × (Nat → Int32))) (G : List (mv_C Hp)) (MC MS : Nat) (nx : mv_L → List mv_V → Hp → Nat → Nat → Option (List mv_V × Hp)) (jp : Nat → mv_L → List mv_V → Hp → Nat → Nat → Option (List mv_V × Hp)) (i : Instr) (lk : List Nat) (lv : mv_L) (st : List mv_V) (h : Hp) (ce sl : Nat) : Option (List mv_V × Hp) :=
  match i with
  | .getfield _ | .putfield _ | .iaload | .iastore | .aaload | .aastore | .arraylength | .baload | .getstatic _ => mv_hop rI rR ln wI wR bod sc i lk st h fun st h => nx lv st h ce sl
  | .invokestatic _ | .invokevirtual _ | .invokespecial _ | .new _ | .newarray _ | .anewarray _ => mv_cop ln nw cp G MC MS i lk lv st h ce sl fun st h ce sl => nx lv st h ce sl
  | .goto _ => match lk with
    | t :: _ => jp t lv st h ce sl
    | _ => none
  | .ifCond c _ => match lk with
    | t :: _ => match st with
      | .inl (.int x) :: st => mv_cmp c x 0 (jp t lv st h ce sl) (nx lv st h ce sl)
      | _ => none
    | _ => none
  | .if_icmp c _ => match lk with
    | t :: _ => match st with
      | .inl (.int y) :: .inl (.int x) :: st => mv_cmp c x y (jp t lv st h ce sl) (nx lv st h ce sl)
      | _ => none
    | _ => none
  | .ifnull _ => match lk with
    | t :: _ => match st with
      | .inr _ :: st => nx lv st h ce sl
      | .inl .null :: st => jp t lv st h ce sl
      | _ => none
    | _ => none
  | .ifnonnull _ => match lk with
    | t :: _ => match st with
      | .inr _ :: st => jp t lv st h ce sl
      | .inl .null :: st => nx lv st h ce sl
      | _ => none
    | _ => none
  | .tableswitch _ _ _ _ => match lk with
    | lo :: d :: l => match st with
      | .inl (.int x) :: st => mv_ts x lo (jp d lv st h ce sl) (fun t => jp t lv st h ce sl) l
      | _ => none
    | _ => none
  | .lookupswitch _ _ => match lk with
    | d :: l => match st with
      | .inl (.int x) :: st => mv_ls x (jp d lv st h ce sl) (fun t => jp t lv st h ce sl) l
      | _ => none
    | _ => none
  | .ireturn => match lk with
    | 1 :: _ => match st with
      | [.inl (.int x)] => mv_gd (decide (x = nI 0) || decide (x = nI 1)) (some ([.inl (.int x)], h))
      | _ => none
    | 2 :: _ => match st with
      | [.inl (.int x)] => mv_gd (decide (0 ≤ x) && decide (x ≤ 127)) (some ([.inl (.int x)], h))
      | _ => none
    | _ => match st with
      | [.inl (.int x)] => some ([.inl (.int x)], h)
      | _ => none
  | .lreturn => match st with
    | [.inl (.long x)] => some ([.inl (.long x)], h)
    | _ => none
  | .areturn => match st with
    | [.inr q] => some ([.inr q], h)
    | [.inl .null] => some ([.inl .null], h)
    | _ => none
  | .return_ => match st with
    | [] => some ([], h)
    | _ => none
  | i => mv_lop i lk lv st fun lv st => nx lv st h ce sl
def mv_nx (stops : List Nat) (ka : Nat → mv_L → List mv_V → Hp → Nat → Nat → Option (List mv_V × Hp)) (go : List mv_E → mv_L → List mv_V → Hp → Nat → Nat → Option (List mv_V × Hp)) (cs : List mv_E) (lv : mv_L) (st : List mv_V) (h : Hp) (ce sl : Nat) : Option (List mv_V × Hp) := match cs with
  | [] => none
  | e :: cs => match mv_mem e.1 stops with
    | true => ka e.1 lv st h ce sl
    | false => go (e :: cs) lv st h ce sl
/-- a stretch of code, up to returns and to the places 'stops', where 'ka' goes on -/
def mv_blk (bod : Nat → Int32) (sc : Option (Nat × (Nat → Int32))) (tab : List mv_E) (G : List (mv_C Hp)) (MC MS : Nat) (stops : List Nat) (ka : Nat → mv_L → List mv_V → Hp → Nat → Nat → Option (List mv_V × Hp)) : Nat → List mv_E → mv_L → List mv_V → Hp → Nat → Nat → Option (List mv_V × Hp)
  | 0 => fun _ _ _ _ _ _ => none
  | n + 1 => fun cs lv st h ce sl => match cs with
    | [] => none
    | e :: cs => mv_step rI rR ln wI wR nw cp bod sc G MC MS (mv_nx stops ka (mv_blk bod sc tab G MC MS stops ka n) cs) (fun t => mv_nx stops ka (mv_blk bod sc tab G MC MS stops ka n) (mv_seek t tab)) e.2.1 e.2.2.2 lv st h ce sl
end
end
section
/-! WHAT THE EVALUATOR'S ANSWERS MEAN, over the machine -/
def tch : Nat → List Cond
  | 0 => k2_sels lw_privs
  | 1 => tables_1_1
  | 2 => tables_1_2
  | 3 => tables_1_3
  | 4 => tables_1_4
  | 5 => tables_1_5
  | 6 => tables_1_6
  | 7 => tables_1_7
  | _ => []
theorem tch_in : ∀ (j : Nat) (w : Cond), w ∈ tch j → w ∈ lw_tbl
  | 0, w, h => List.mem_append.mpr (Or.inl h)
  | 1, w, h => List.mem_append.mpr (Or.inr (List.mem_append.mpr (Or.inl h)))
  | 2, w, h => List.mem_append.mpr (Or.inr (List.mem_append.mpr (Or.inr (List.mem_append.mpr (Or.inl h)))))
  | 3, w, h => List.mem_append.mpr (Or.inr (List.mem_append.mpr (Or.inr (List.mem_append.mpr (Or.inr (List.mem_append.mpr (Or.inl h)))))))
  | 4, w, h => List.mem_append.mpr (Or.inr (List.mem_append.mpr (Or.inr (List.mem_append.mpr (Or.inr (List.mem_append.mpr (Or.inr (List.mem_append.mpr (Or.inl h)))))))))
  | 5, w, h => List.mem_append.mpr (Or.inr (List.mem_append.mpr (Or.inr (List.mem_append.mpr (Or.inr (List.mem_append.mpr (Or.inr (List.mem_append.mpr (Or.inr (List.mem_append.mpr (Or.inl h)))))))))))
  | 6, w, h => List.mem_append.mpr (Or.inr (List.mem_append.mpr (Or.inr (List.mem_append.mpr (Or.inr (List.mem_append.mpr (Or.inr (List.mem_append.mpr (Or.inr (List.mem_append.mpr (Or.inr (List.mem_append.mpr (Or.inl h)))))))))))))
  | 7, w, h => List.mem_append.mpr (Or.inr (List.mem_append.mpr (Or.inr (List.mem_append.mpr (Or.inr (List.mem_append.mpr (Or.inr (List.mem_append.mpr (Or.inr (List.mem_append.mpr (Or.inr (List.mem_append.mpr (Or.inr h)))))))))))))
  | _ + 8, _, h => absurd h List.not_mem_nil
/-- the words that every contract asks: all of the tables' that hold wherever they held -/
def WS : List Cond := lw_tbl.filter goodWord
def wAt (j i : Nat) (w : Cond) : Bool := decide ((tch j)[i]? = some w) && goodWord w
theorem wAt_in {j i : Nat} {w : Cond} (h : wAt j i w = true) : w ∈ WS := by
  simp only [wAt, Bool.and_eq_true, decide_eq_true_eq] at h
  exact List.mem_filter.mpr ⟨tch_in j w (List.mem_of_getElem? h.1), h.2⟩
theorem WS_good {w : Cond} (h : w ∈ WS) : (w.onTables && w.keeps) = true ∨ ∃ ty, w = .arrayClass ty := good_of_word (List.mem_filter.mp h).2
-- the classes by their tags
def mv_T : Nat → u_T
  | 0 => TX0
  | 1 => TX2
  | 2 => TX3
  | 3 => TX4
  | 4 => TX5
  | 5 => TX6
  | 6 => TX7
  | 7 => TX8
  | _ => TX9
def mv_R : Nat → String
  | 0 => RX0
  | 1 => RX2
  | 2 => RX3
  | 3 => RX4
  | 4 => RX5
  | 5 => RX6
  | 6 => RX7
  | 7 => RX8
  | _ => RX9
def mv_nf : Nat → Nat
  | 0 => 6
  | 1 => 1
  | 2 => 12
  | 3 => 2
  | 4 => 2
  | 5 => 2
  | 6 => 6
  | 7 => 10
  | _ => 25
def mv_ty : Nat → Nat → FieldType
  | 0 => tyX0
  | 1 => tyX2
  | 2 => tyX3
  | 3 => tyX4
  | 4 => tyX5
  | 5 => tyX6
  | 6 => tyX7
  | 7 => tyX8
  | _ => tyX9
def mv_isR (t k : Nat) : Bool := match mv_ty t k with
  | .int => false
  | .boolean => false
  | _ => true
theorem mv_clOf (t : Nat) (h : t < 9) : vwCl[t]? = some (mv_R t, mv_T t, mv_nf t) := by
  match t, h with
  | 0, _ | 1, _ | 2, _ | 3, _ | 4, _ | 5, _ | 6, _ | 7, _ | 8, _ => rfl
  | _ + 9, h => omega
theorem mv_nm (t : Nat) (h : t < 9) : ∀ a, a < mv_nf t → ∀ b, b < mv_nf t → a ≠ b → (mv_T t a).2.1 ≠ (mv_T t b).2.1 := by
  match t, h with
  | 0, _ => exact nmX0
  | 1, _ => exact nmX2
  | 2, _ => exact nmX3
  | 3, _ => exact nmX4
  | 4, _ => exact nmX5
  | 5, _ => exact nmX6
  | 6, _ => exact nmX7
  | 7, _ => exact nmX8
  | 8, _ => exact nmX9
  | _ + 9, h => omega
theorem mv_tyok (t : Nat) (h : t < 9) : ∀ k, k < mv_nf t → parseFieldDescriptor (mv_T t k).2.2.1 = some (mv_ty t k) := by
  match t, h with
  | 0, _ => exact tyX0_ok
  | 1, _ => exact tyX2_ok
  | 2, _ => exact tyX3_ok
  | 3, _ => exact tyX4_ok
  | 4, _ => exact tyX5_ok
  | 5, _ => exact tyX6_ok
  | 6, _ => exact tyX7_ok
  | 7, _ => exact tyX8_ok
  | 8, _ => exact tyX9_ok
  | _ + 9, h => omega
-- where the words of a class's fields stand
def mv_lay : Nat → List (Nat × Nat)
  | 0 => [(1, 185), (1, 187), (1, 189), (1, 191), (1, 193), (1, 195)]
  | 1 => [(1, 111)]
  | 2 => [(1, 76), (1, 78), (1, 80), (1, 82), (1, 84), (1, 86), (1, 88), (1, 90), (1, 92), (1, 94), (1, 96), (1, 98)]
  | 3 => [(1, 150), (1, 152)]
  | 4 => [(4, 58), (4, 60)]
  | 5 => [(1, 166), (1, 168)]
  | 6 => [(1, 127), (1, 129), (1, 131), (1, 133), (1, 135), (1, 137)]
  | 7 => [(1, 208), (1, 210), (1, 212), (1, 214), (1, 216), (1, 218), (1, 220), (1, 222), (1, 224), (1, 226)]
  | _ => [(4, 203), (4, 205), (4, 207), (4, 209), (4, 211), (4, 213), (4, 215), (4, 217), (4, 219), (4, 221), (4, 223), (4, 225), (4, 227), (4, 229), (4, 231), (4, 233), (4, 235), (4, 237), (4, 239), (5, 1), (5, 3), (5, 5), (5, 7), (5, 9), (5, 11)]
theorem mv_layok : ∀ t, t < 9 → ((List.range (mv_nf t)).all fun k => wAt ((mv_lay t).getD k (0, 0)).1 ((mv_lay t).getD k (0, 0)).2 (u_lay (mv_R t) (mv_T t) k)) = true := by decide +kernel
theorem mv_wsin (t : Nat) (h : t < 9) : ∀ w ∈ u_ws (mv_R t) (mv_T t) (mv_nf t), w ∈ WS := by
  intro w hw
  obtain ⟨k, hk, rfl⟩ := List.mem_map.mp hw
  exact wAt_in (List.all_eq_true.mp (mv_layok t h) k hk)
-- values, cells, the world
def mv_v (φ : Nat → Nat → Nat) : mv_V → Value
  | .inl v => v
  | .inr q => .ref (φ q.1 q.2)
def mv_fv (φ : Nat → Nat → Nat) (g : mv_G) (t o k : Nat) : Value := match mv_isR t k with
  | true => va_rf ((g.2.1 t o k).map fun q => φ q.1 q.2)
  | false => .int (g.1 t o k)
def mv_cell (cI cQ : ClassId) (φ : Nat → Nat → Nat) (g : mv_G) (t o : Nat) : va_E :=
  if t < 9 then .inr (t, (List.range (mv_nf t)).map (mv_fv φ g t o))
  else if mv_ra t = true then .inl (cQ, g.2.2.1 t o, .inr (.inr (.inr (.inr fun k => (g.2.1 t o k).map fun q => φ q.1 q.2))))
  else .inl (cI, g.2.2.1 t o, .inl (g.1 t o))
def mv_W (D : va_G) (cI cQ : ClassId) (q0 : Nat) (φ : Nat → Nat → Nat) (g : mv_G) (H : Heap) : Prop :=
  (∀ t o, o < g.2.2.2 t → va_at D vwCl (φ t o, mv_cell cI cQ φ g t o) H) ∧ (∀ t o, o < g.2.2.2 t → q0 ≤ φ t o) ∧
  (∀ t o t' o', o < g.2.2.2 t → o' < g.2.2.2 t' → φ t o = φ t' o' → t = t' ∧ o = o') ∧
  (∀ t o k q, o < g.2.2.2 t → g.2.1 t o k = some q → q.2 < g.2.2.2 q.1) ∧ (∃ ts : List Nat, ts.Nodup ∧ ∀ t, 0 < g.2.2.2 t → t ∈ ts) ∧ ∀ t, 10 ≤ t → t < 100 → g.2.2.2 t = 0
def mv_live (g : mv_G) : mv_V → Prop
  | .inl _ => True
  | .inr q => q.2 < g.2.2.2 q.1 ∨ (10 ≤ q.1 ∧ q.1 < 100 ∧ (q.1 = 11 ∨ q.1 = 12 → q.2 < 36))
/-- a later picture: more cells, those that were there where they were -/
def mv_ge (g0 : mv_G) (φ0 : Nat → Nat → Nat) (g : mv_G) (φ : Nat → Nat → Nat) : Prop :=
  (∀ t o, o < g0.2.2.2 t → φ t o = φ0 t o) ∧ (∀ t o, 10 ≤ t → t < 100 → φ t o = φ0 t o) ∧ ∀ t, g0.2.2.2 t ≤ g.2.2.2 t
theorem mv_ge.rf {g : mv_G} {φ : Nat → Nat → Nat} : mv_ge g φ g φ := ⟨fun _ _ _ => rfl, fun _ _ _ _ => rfl, fun _ => Nat.le_refl _⟩
theorem mv_ge.trans {g0 g1 g2 : mv_G} {φ0 φ1 φ2 : Nat → Nat → Nat} (h1 : mv_ge g0 φ0 g1 φ1) (h2 : mv_ge g1 φ1 g2 φ2) : mv_ge g0 φ0 g2 φ2 :=
  ⟨fun t o h => (h2.1 t o (Nat.lt_of_lt_of_le h (h1.2.2 t))).trans (h1.1 t o h), fun t o a b => (h2.2.1 t o a b).trans (h1.2.1 t o a b), fun t => Nat.le_trans (h1.2.2 t) (h2.2.2 t)⟩
theorem mv_live.up {g0 g : mv_G} {φ0 φ : Nat → Nat → Nat} (hg : mv_ge g0 φ0 g φ) {v : mv_V} (h : mv_live g0 v) : mv_live g v := by
  cases v with
  | inl _ => trivial
  | inr q => exact h.imp (fun h => Nat.lt_of_lt_of_le h (hg.2.2 q.1)) id
theorem mv_live.same {g0 g : mv_G} {φ0 φ : Nat → Nat → Nat} (hg : mv_ge g0 φ0 g φ) {v : mv_V} (h : mv_live g0 v) : mv_v φ v = mv_v φ0 v := by
  cases v with
  | inl _ => rfl
  | inr q =>
    show Value.ref _ = Value.ref _
    rcases h with h | h
    · rw [hg.1 _ _ h]
    · rw [hg.2.1 _ _ h.1 h.2.1]
theorem mv_live.sames {g0 g : mv_G} {φ0 φ : Nat → Nat → Nat} (hg : mv_ge g0 φ0 g φ) {l : List mv_V} (h : ∀ v ∈ l, mv_live g0 v) : l.map (mv_v φ) = l.map (mv_v φ0) :=
  List.map_congr_left fun v hv => (h v hv).same hg
theorem mv_live.samel {g0 g : mv_G} {φ0 φ : Nat → Nat → Nat} (hg : mv_ge g0 φ0 g φ) {l : mv_L} (h : ∀ q ∈ l, mv_live g0 q.2) : (l.map fun q => (q.1, mv_v φ q.2)) = l.map fun q => (q.1, mv_v φ0 q.2) :=
  List.map_congr_left fun q hq => by rw [(h q hq).same hg]
-- texts

def mv_nl : List (String × Nat × MethodName) := [("IntentVats", 28, ⟨"IntentVats$Forecast", "<init>", "()V"⟩), ("IntentVats", 35, ⟨"IntentVats$Tape", "<init>", "()V"⟩), ("IntentVats", 42, ⟨"IntentVats$Rows", "<init>", "()V"⟩), ("IntentVats", 62, ⟨"IntentVats$Acts", "<init>", "()V"⟩), ("IntentVats$Tape", 131, ⟨"IntentVats", "isIn", "(III)Z"⟩), ("IntentVats$Tape", 125, ⟨"IntentVats", "mostOfLaw", "(I)I"⟩), ("IntentVats$Mill", 58, ⟨"IntentVats", "isIn", "(III)Z"⟩), ("IntentVats$Rows", 19, ⟨"IntentVats", "isIn", "(III)Z"⟩), ("IntentVats$SheetRow", 17, ⟨"IntentVats", "isIn", "(III)Z"⟩)]
-- what lies outside: the literals, the acts' table, the two statics
def mv_Ext (q0 : Nat) (φ : Nat → Nat → Nat) (s : State) : Prop :=
  (∀ k own idx tx, mv_sw k = some (own, idx, tx) → vk_R own idx tx (φ 11 k) s) ∧
  (∀ k, k < 36 → va_O "java/lang/String" (φ 11 k) (fun q => q0 ≤ q) s s.heap ∧ va_OF "java/lang/String" "coder" "B" (.int 0) (φ 11 k) (fun q => q0 ≤ q) s s.heap ∧ va_OF "java/lang/String" "value" "[B" (.ref (φ 12 k)) (φ 11 k) (fun q => q0 ≤ q) s s.heap ∧ va_T .byte (φ 12 k) (stl k) (fun j => .int (stc k j)) (fun q => q0 ≤ q) s s.heap) ∧
  va_Z "IntentVats$Acts" "BODIES" "[I" (.ref (φ 13 0)) (fun q => q0 ≤ q) s s.heap ∧ va_T .int (φ 13 0) 24 (fun j => .int (bod j)) (fun q => q0 ≤ q) s s.heap ∧
  va_Z "java/lang/String" "COMPACT_STRINGS" "Z" (.int 1) (fun q => q0 ≤ q) s s.heap ∧ va_Z "jdk/internal/util/Preconditions" "SIOOBE_FORMATTER" "Ljava/util/function/BiFunction;" (.ref (φ 14 0)) (fun q => q0 ≤ q) s s.heap ∧
  (∀ q ∈ mv_nl, va_Nw (.methodLinkNest q.1 q.2.1 q.2.2 "IntentVats") s) ∧ va_Nw (.fieldLinkNest "IntentVats" 79 "IntentVats$Tape" "length" "I" "IntentVats") s
theorem mv_Ext.next {q0 : Nat} {φ φ' : Nat → Nat → Nat} {s U : State} (h : mv_Ext q0 φ s) (hW : s.WarmedH U.vm) (hq : ∀ a : Nat, a < s.heap.size → ¬ q0 ≤ a → U.heap[a]? = s.heap[a]?) (hφ : ∀ t o, 10 ≤ t → t < 100 → φ' t o = φ t o) : mv_Ext q0 φ' U := by
  obtain ⟨h1, h2, h3, h4, h5, h6, h7, h8⟩ := h
  have hv : s.vm.Alike U.vm := hW.alike
  have e : ∀ o, φ' 11 o = φ 11 o ∧ φ' 12 o = φ 12 o ∧ φ' 13 o = φ 13 o ∧ φ' 14 o = φ 14 o := fun o => ⟨hφ _ _ (by decide) (by decide), hφ _ _ (by decide) (by decide), hφ _ _ (by decide) (by decide), hφ _ _ (by decide) (by decide)⟩
  refine ⟨fun k own idx tx hk => by rw [(e k).1]; exact (h1 k own idx tx hk).warm hW, fun k hk => ?_, ?_, ?_, (h5.moved hv).kept hq, ?_⟩
  · obtain ⟨a, b, c, d⟩ := h2 k hk
    rw [(e k).1, (e k).2.1]
    exact ⟨(a.moved hv).kept hq, (b.moved hv).kept hq, (c.moved hv).kept hq, (d.moved hv).kept hq⟩
  · rw [(e 0).2.2.1]; exact (h3.moved hv).kept hq
  · rw [(e 0).2.2.1]; exact (h4.moved hv).kept hq
  · rw [(e 0).2.2.2]; exact ⟨(h6.moved hv).kept hq, fun q hq => va_Nw.warmM hW (h7 q hq), va_Nw.warmF hW h8⟩
theorem mv_Ext.same {q0 : Nat} {φ : Nat → Nat → Nat} {u U : State} (hv : U.vm = u.vm) (hh : U.heap = u.heap) (h : mv_Ext q0 φ u) : mv_Ext q0 φ U := by
  obtain ⟨h1, h2, h3, h4, h5, h6, h7, h8⟩ := h
  have hA : u.vm.Alike U.vm := by rw [hv]; exact Vm.Alike.refl _
  refine ⟨fun k own idx tx hk => (h1 k own idx tx hk).same hv, fun k hk => ?_, ?_, ?_, ?_, ?_⟩
  · obtain ⟨a, b, c, d⟩ := h2 k hk
    rw [hh]
    exact ⟨a.moved hA, b.moved hA, c.moved hA, d.moved hA⟩
  · rw [hh]; exact h3.moved hA
  · rw [hh]; exact h4.moved hA
  · rw [hh]; exact h5.moved hA
  · rw [hh]; exact ⟨h6.moved hA, fun q hq => va_Nw.same rfl hv.symm (h7 q hq), va_Nw.same rfl hv.symm h8⟩
theorem mv_sw_lt {n : Nat} {q : String × Nat × String} (h : mv_sw n = some q) : n < 36 := by
  unfold mv_sw at h
  split at h <;> first | decide | cases h
/-- the script of the law -/
def mv_Scr (sc : Option (Nat × (Nat → Int32))) (q0 : Nat) (φ : Nat → Nat → Nat) (s : State) : Prop := ∀ q, sc = some q → va_X (φ 10 0) q.1 q.2 s s.heap ∧ φ 10 0 < s.heap.size ∧ ¬ q0 ≤ φ 10 0
-- a method: its name, code, locals, what it returns
abbrev mv_MD : Type := MethodName × ByteArray × Nat × Option FieldType
def mv_rm (n MC MS : Nat) : Room := { frames := n, cells := MC, slots := MS, locals := 40 * (n + 1) }
def mv_B (md : mv_MD) (n MC MS : Nat) (sc : Option (Nat × (Nat → Int32))) (p : Program) (R : Room) (s : State) (m : MethodId) (args : Array Value) (meth : Method) (c : Code) (D : va_G) (cI cQ : ClassId) (q0 : Nat) (φ0 : Nat → Nat → Nat) : Prop :=
  p.tables.exec = Jvm.exec ∧ c.code = md.2.1 ∧ c.maxLocals = md.2.2.1 ∧ s.vm.findClass md.1.cls = some m.cls ∧ meth.name = md.1.name ∧ (∀ w ∈ WS, w.before args s = true) ∧
  va_K D vwCl [(cI, .int), (cQ, .object RX5)] s ∧ q0 ≤ s.heap.size ∧ (n ≤ R.frames ∧ MC ≤ R.cells ∧ MS ≤ R.slots ∧ 40 * (n + 1) ≤ R.locals) ∧ mv_Ext q0 φ0 s ∧ mv_Scr sc q0 φ0 s
section
variable {Hp : Type} (vw : Hp → mv_G)
def mv_Ret (md : mv_MD) (MC MS : Nat) (g0 : mv_G) (res : List mv_V × Hp) (p : Program) (l : Launch) (e : Env) (R : Room) (s : State) (m : MethodId) (args : Array Value) (below : List Frame) (meth : Method) (c : Code) (D : va_G) (cI cQ : ClassId) (q0 : Nat) (φ0 : Nat → Nat → Nat) (Qf : State → Prop) : Prop :=
  ∀ φ H locs ls pc, mv_ge g0 φ0 (vw res.2) φ → mv_W D cI cQ q0 φ (vw res.2) H → va_S (fun q => q0 ≤ q) s.heap H locs → (∀ v ∈ res.1, mv_live (vw res.2) v) →
    (∀ x, res.1 = [.inl (.int x)] → decode md.2.1 pc = .ok (.ireturn, 1) → (∃ ty, md.2.2.2 = some ty ∧ narrow ty (.int x) = .int x) → W p l e R s m args below meth c H locs MC MS Qf (F0 m pc ls [.int x])) ∧
    (∀ x, res.1 = [.inl (.long x)] → decode md.2.1 pc = .ok (.lreturn, 1) → md.2.2.2 = some .long → W p l e R s m args below meth c H locs MC MS Qf (F0 m pc ls [.long x])) ∧
    (∀ v, res.1 = [v] → decode md.2.1 pc = .ok (.areturn, 1) → (∃ n, md.2.2.2 = some (.object n)) → (v = .inl .null ∨ ∃ q, v = .inr q) → W p l e R s m args below meth c H locs MC MS Qf (F0 m pc ls [mv_v φ v])) ∧
    (res.1 = [] → decode md.2.1 pc = .ok (.return_, 1) → md.2.2.2 = none → W p l e R s m args below meth c H locs MC MS Qf (F0 m pc ls []))
/-- the machine, at this place with this picture, comes to the end 'Qf' -/
def mv_Y (md : mv_MD) (MC MS : Nat) (g0 : mv_G) (p : Program) (l : Launch) (e : Env) (R : Room) (s : State) (m : MethodId) (args : Array Value) (below : List Frame) (meth : Method) (c : Code) (D : va_G) (cI cQ : ClassId) (q0 : Nat) (φ0 : Nat → Nat → Nat) (Qf : State → Prop) (pc : Nat) (lv : mv_L) (st : List mv_V) (h : Hp) (ce sl : Nat) : Prop :=
  ce ≤ MC → sl ≤ MS → (∀ v ∈ st, mv_live (vw h) v) → (∀ q ∈ lv, mv_live (vw h) q.2) → ∀ φ H locs ls, mv_ge g0 φ0 (vw h) φ → mv_W D cI cQ q0 φ (vw h) H → va_S (fun q => q0 ≤ q) s.heap H locs → lv_has ls md.2.2.1 (lv.map fun q => (q.1, mv_v φ q.2)) → W p l e R s m args below meth c H locs ce sl Qf (F0 m pc ls (st.map (mv_v φ)))
def mv_X (md : mv_MD) (n MC MS : Nat) (sc : Option (Nat × (Nat → Int32))) (g0 : mv_G) (res : List mv_V × Hp) (pc : Nat) (lv : mv_L) (st : List mv_V) (h : Hp) (ce sl : Nat) : Prop :=
  ∀ (p : Program) (l : Launch) (e : Env) (R : Room) (s : State) (m : MethodId) (args : Array Value) (below : List Frame) (meth : Method) (c : Code) (D : va_G) (cI cQ : ClassId) (q0 : Nat) (φ0 : Nat → Nat → Nat) (Qf : State → Prop), mv_B md n MC MS sc p R s m args meth c D cI cQ q0 φ0 → mv_Ret vw md MC MS g0 res p l e R s m args below meth c D cI cQ q0 φ0 Qf → mv_Y vw md MC MS g0 p l e R s m args below meth c D cI cQ q0 φ0 Qf pc lv st h ce sl
/-- a method's contract, at given arguments and heap -/
def mv_Met (n MC MS : Nat) (md : mv_MD) (as : List mv_V) (h : Hp) (vs : List mv_V) (h' : Hp) : Prop :=
  ∀ (l : Launch) (D : va_G) (cI cQ : ClassId) (q0 : Nat) (φ : Nat → Nat → Nat), Met l md.1 (.code md.1 md.2.1 md.2.2.1 md.2.2.2 :: WS) (mv_rm n MC MS) (va_Pc (as.map (mv_v φ)) fun U => q0 ≤ U.heap.size ∧ va_K D vwCl [(cI, .int), (cQ, .object RX5)] U ∧ mv_Ext q0 φ U ∧ (∀ v ∈ as, mv_live (vw h) v) ∧ mv_W D cI cQ q0 φ (vw h) U.heap)
    (fun _ st oc t => ∃ φ', mv_ge (vw h) φ (vw h') φ' ∧ (∀ v ∈ vs, mv_live (vw h') v) ∧ oc = .returned (vs.map (mv_v φ')).head? ∧ mv_W D cI cQ q0 φ' (vw h') t.heap ∧ va_F (fun q => q0 ≤ q) st t) MC MS (fun q => q0 ≤ q)
/-- a call-form holds: where it answers, the callee's contract gives the answer -/
def mv_rcv (md : mv_MD) (as : List mv_V) : Prop := ∃ t o rest, as = .inr (t, o) :: rest ∧ ((t < 9 ∧ md.1.cls = mv_R t) ∨ (t = 11 ∧ md.1.cls = "java/lang/String"))
def mv_Cal (n : Nat) (md : mv_MD × Bool) (C : mv_C Hp) : Prop := ∀ as h k res, C.2 as h k = some res → ∃ vs h', k vs h' = some res ∧ vs.length ≤ 1 ∧ (md.2 = true → mv_rcv md.1 as) ∧ mv_Met vw n C.1.1 C.1.2 md.1 as h vs h'
end
end
section
theorem mv_gd_some {α : Type} {b : Bool} {k : Option α} {r : α} (h : mv_gd b k = some r) : b = true ∧ k = some r := by
  cases b with
  | true => exact ⟨rfl, h⟩
  | false => cases h
section
variable {p : Program} {l : Launch} {e : Env} {R : Room} {s : State} {m : MethodId} {args : Array Value} {below : List Frame} {meth : Method} {c : Code} {H : Heap} {locs : List Loc} {cells slots : Nat} {Q : State → Prop} {cc : ByteArray} {pc : Nat} {ls : Array Slot} {φ : Nat → Nat → Nat} {g : mv_G}
theorem mv_two_cat {v : mv_V} (h : mv_two v = false) : (mv_v φ v).category = 1 := by
  cases v with
  | inr q => rfl
  | inl v => cases v <;> first | rfl | cases h
set_option maxHeartbeats 4000000 in
/-- what works on the stack alone -/
theorem mv_op_sound {α : Type} (hx : p.tables.exec = Jvm.exec) (hb : c.code = cc) {i : Instr} (hd : decode cc pc = .ok (i, 1)) {st : List mv_V} {k : List mv_V → Option α} {res : α} (h : mv_op i st k = some res) (hv : ∀ v ∈ st, mv_live g v)
    (kk : ∀ st', k st' = some res → (∀ v ∈ st', mv_live g v) → W p l e R s m args below meth c H locs cells slots Q (F0 m (pc + 1) ls (st'.map (mv_v φ)))) : W p l e R s m args below meth c H locs cells slots Q (F0 m pc ls (st.map (mv_v φ))) := by
  unfold mv_op at h
  split at h
  · split at h
    · exact lv_iadd hx hb hd (kk _ h (List.forall_mem_cons.mpr ⟨trivial, (List.forall_mem_cons.mp (List.forall_mem_cons.mp hv).2).2⟩))
    · cases h
  · split at h
    · exact lv_isub hx hb hd (kk _ h (List.forall_mem_cons.mpr ⟨trivial, (List.forall_mem_cons.mp (List.forall_mem_cons.mp hv).2).2⟩))
    · cases h
  · split at h
    · exact lv_imul hx hb hd (kk _ h (List.forall_mem_cons.mpr ⟨trivial, (List.forall_mem_cons.mp (List.forall_mem_cons.mp hv).2).2⟩))
    · cases h
  · split at h
    · exact lv_iand hx hb hd (kk _ h (List.forall_mem_cons.mpr ⟨trivial, (List.forall_mem_cons.mp (List.forall_mem_cons.mp hv).2).2⟩))
    · cases h
  · split at h
    · exact lv_ior hx hb hd (kk _ h (List.forall_mem_cons.mpr ⟨trivial, (List.forall_mem_cons.mp (List.forall_mem_cons.mp hv).2).2⟩))
    · cases h
  · split at h
    · exact lv_ixor hx hb hd (kk _ h (List.forall_mem_cons.mpr ⟨trivial, (List.forall_mem_cons.mp (List.forall_mem_cons.mp hv).2).2⟩))
    · cases h
  · split at h
    · obtain ⟨hg, h⟩ := mv_gd_some h
      exact lv_idiv hx hb hd (by simpa using hg) (kk _ h (List.forall_mem_cons.mpr ⟨trivial, (List.forall_mem_cons.mp (List.forall_mem_cons.mp hv).2).2⟩))
    · cases h
  · split at h
    · obtain ⟨hg, h⟩ := mv_gd_some h
      exact lv_irem hx hb hd (by simpa using hg) (kk _ h (List.forall_mem_cons.mpr ⟨trivial, (List.forall_mem_cons.mp (List.forall_mem_cons.mp hv).2).2⟩))
    · cases h
  · split at h
    · exact lv_ineg hx hb hd (kk _ h (List.forall_mem_cons.mpr ⟨trivial, (List.forall_mem_cons.mp hv).2⟩))
    · cases h
  · split at h
    · exact lv_ishl hx hb hd (kk _ h (List.forall_mem_cons.mpr ⟨trivial, (List.forall_mem_cons.mp (List.forall_mem_cons.mp hv).2).2⟩))
    · cases h
  · split at h
    · exact lv_ishr hx hb hd (kk _ h (List.forall_mem_cons.mpr ⟨trivial, (List.forall_mem_cons.mp (List.forall_mem_cons.mp hv).2).2⟩))
    · cases h
  · split at h
    · exact lv_iushr hx hb hd rfl (kk _ h (List.forall_mem_cons.mpr ⟨trivial, (List.forall_mem_cons.mp (List.forall_mem_cons.mp hv).2).2⟩))
    · cases h
  · split at h
    · exact lv_ladd hx hb hd (kk _ h (List.forall_mem_cons.mpr ⟨trivial, (List.forall_mem_cons.mp (List.forall_mem_cons.mp hv).2).2⟩))
    · cases h
  · split at h
    · exact lv_lmul hx hb hd (kk _ h (List.forall_mem_cons.mpr ⟨trivial, (List.forall_mem_cons.mp (List.forall_mem_cons.mp hv).2).2⟩))
    · cases h
  · split at h
    · exact lv_land hx hb hd (kk _ h (List.forall_mem_cons.mpr ⟨trivial, (List.forall_mem_cons.mp (List.forall_mem_cons.mp hv).2).2⟩))
    · cases h
  · split at h
    · exact lv_lor hx hb hd (kk _ h (List.forall_mem_cons.mpr ⟨trivial, (List.forall_mem_cons.mp (List.forall_mem_cons.mp hv).2).2⟩))
    · cases h
  · split at h
    · obtain ⟨hg, h⟩ := mv_gd_some h
      exact lv_ldiv hx hb hd (by simpa using hg) (kk _ h (List.forall_mem_cons.mpr ⟨trivial, (List.forall_mem_cons.mp (List.forall_mem_cons.mp hv).2).2⟩))
    · cases h
  · split at h
    · obtain ⟨hg, h⟩ := mv_gd_some h
      exact lv_lrem hx hb hd (by simpa using hg) (kk _ h (List.forall_mem_cons.mpr ⟨trivial, (List.forall_mem_cons.mp (List.forall_mem_cons.mp hv).2).2⟩))
    · cases h
  · split at h
    · exact lv_lshl hx hb hd rfl (kk _ h (List.forall_mem_cons.mpr ⟨trivial, (List.forall_mem_cons.mp (List.forall_mem_cons.mp hv).2).2⟩))
    · cases h
  · split at h
    · exact lv_lshr hx hb hd rfl (kk _ h (List.forall_mem_cons.mpr ⟨trivial, (List.forall_mem_cons.mp (List.forall_mem_cons.mp hv).2).2⟩))
    · cases h
  · split at h
    · exact W.lcmp hx hb hd (kk _ h (List.forall_mem_cons.mpr ⟨trivial, (List.forall_mem_cons.mp (List.forall_mem_cons.mp hv).2).2⟩))
    · cases h
  · split at h
    · exact lv_i2l hx hb hd rfl (kk _ h (List.forall_mem_cons.mpr ⟨trivial, (List.forall_mem_cons.mp hv).2⟩))
    · cases h
  · split at h
    · exact lv_l2i hx hb hd rfl (kk _ h (List.forall_mem_cons.mpr ⟨trivial, (List.forall_mem_cons.mp hv).2⟩))
    · cases h
  · split at h
    · exact lv_i2b hx hb hd rfl (kk _ h (List.forall_mem_cons.mpr ⟨trivial, (List.forall_mem_cons.mp hv).2⟩))
    · cases h
  · split at h
    · exact lv_i2c hx hb hd rfl (kk _ h (List.forall_mem_cons.mpr ⟨trivial, (List.forall_mem_cons.mp hv).2⟩))
    · cases h
  · split at h
    · exact lv_i2s hx hb hd rfl (kk _ h (List.forall_mem_cons.mpr ⟨trivial, (List.forall_mem_cons.mp hv).2⟩))
    · cases h
  · split at h
    · split at h
      · next h2 => exact lv_dup hx hb hd (mv_two_cat h2) (kk _ h (List.forall_mem_cons.mpr ⟨(List.forall_mem_cons.mp hv).1, hv⟩))
      · cases h
    · cases h
  · split at h
    · split at h
      · next h2 =>
        simp only [Bool.or_eq_false_iff] at h2
        exact lv_dup_x1 hx hb hd (mv_two_cat h2.1) (mv_two_cat h2.2) (kk _ h (List.forall_mem_cons.mpr ⟨(List.forall_mem_cons.mp hv).1, List.forall_mem_cons.mpr ⟨(List.forall_mem_cons.mp (List.forall_mem_cons.mp hv).2).1, List.forall_mem_cons.mpr ⟨(List.forall_mem_cons.mp hv).1, (List.forall_mem_cons.mp (List.forall_mem_cons.mp hv).2).2⟩⟩⟩))
      · cases h
    · cases h
  · split at h
    · split at h
      · next h2 =>
        simp only [Bool.or_eq_false_iff] at h2
        exact lv_dup2_11 hx hb hd (mv_two_cat h2.1) (mv_two_cat h2.2) (kk _ h (List.forall_mem_cons.mpr ⟨(List.forall_mem_cons.mp hv).1, List.forall_mem_cons.mpr ⟨(List.forall_mem_cons.mp (List.forall_mem_cons.mp hv).2).1, hv⟩⟩))
      · cases h
    · cases h
  · split at h
    · split at h
      · next h2 => exact lv_pop hx hb hd (mv_two_cat h2) (kk _ h (List.forall_mem_cons.mp hv).2)
      · cases h
    · cases h
  · exact lv_null hx hb hd (kk _ h (List.forall_mem_cons.mpr ⟨trivial, hv⟩))
  · cases h
end
-- ===== locals and constants =====
theorem mv_f1K_eq {α : Type} (i : Nat) : ∀ (l : mv_L) (k : mv_L → α), mv_f1K i l k = k (mv_f1 i l)
  | [], _ => rfl
  | q :: l, k => by
    unfold mv_f1K mv_f1
    rw [mv_f1K_eq i l]
    cases Nat.beq q.1 i || (Nat.beq (q.1 + 1) i && mv_two q.2) <;> rfl
theorem mv_f2K_eq {α : Type} (i : Nat) : ∀ (l : mv_L) (k : mv_L → α), mv_f2K i l k = k (mv_f2 i l)
  | [], _ => rfl
  | q :: l, k => by
    unfold mv_f2K mv_f2
    rw [mv_f2K_eq i l]
    cases Nat.beq q.1 i || (Nat.beq q.1 (i + 1) || (Nat.beq (q.1 + 1) i && mv_two q.2)) <;> rfl
theorem mv_two_beq (φ : Nat → Nat → Nat) (v : mv_V) : ((mv_v φ v).category == 2) = mv_two v := by
  cases v with
  | inr q => rfl
  | inl v => cases v <;> rfl
theorem mv_beqN (a b : Nat) : (a == b) = Nat.beq a b := by
  rw [Bool.eq_iff_iff]
  constructor
  · intro h
    have := eq_of_beq h
    subst this
    exact Nat.beq_refl a
  · intro h
    have := Nat.eq_of_beq_eq_true h
    subst this
    exact beq_self_eq_true a
theorem mv_f1_map (φ : Nat → Nat → Nat) (i : Nat) : ∀ l : mv_L, (mv_f1 i l).map (fun q => (q.1, mv_v φ q.2)) = (l.map fun q => (q.1, mv_v φ q.2)).filter (fun q => !(q.1 == i) && !(q.1 + 1 == i && q.2.category == 2))
  | [] => rfl
  | q :: l => by
    have ih := mv_f1_map φ i l
    simp only [List.map_cons, List.filter_cons, mv_two_beq]
    unfold mv_f1
    rw [mv_beqN, mv_beqN]
    cases h1 : Nat.beq q.1 i <;> cases h2 : (Nat.beq (q.1 + 1) i && mv_two q.2) <;> simp [h1, h2, ih]
theorem mv_f2_map (φ : Nat → Nat → Nat) (i : Nat) : ∀ l : mv_L, (mv_f2 i l).map (fun q => (q.1, mv_v φ q.2)) = (l.map fun q => (q.1, mv_v φ q.2)).filter (fun q => !(q.1 == i) && (!(q.1 == i + 1) && !(q.1 + 1 == i && q.2.category == 2)))
  | [] => rfl
  | q :: l => by
    have ih := mv_f2_map φ i l
    simp only [List.map_cons, List.filter_cons, mv_two_beq]
    unfold mv_f2
    rw [mv_beqN, mv_beqN, mv_beqN]
    cases h1 : Nat.beq q.1 i <;> cases h3 : Nat.beq q.1 (i + 1) <;> cases h2 : (Nat.beq (q.1 + 1) i && mv_two q.2) <;> simp [h1, h2, h3, ih]
theorem mv_f1_mem {i : Nat} {q : Nat × mv_V} : ∀ {l : mv_L}, q ∈ mv_f1 i l → q ∈ l
  | [], h => h
  | a :: l, h => by
    unfold mv_f1 at h
    cases hc : (Nat.beq a.1 i || (Nat.beq (a.1 + 1) i && mv_two a.2)) with
    | true => rw [hc] at h; exact List.mem_cons_of_mem _ (mv_f1_mem h)
    | false =>
      rw [hc] at h
      rcases List.mem_cons.mp h with h | h
      · exact List.mem_cons.mpr (Or.inl h)
      · exact List.mem_cons_of_mem _ (mv_f1_mem h)
theorem mv_f2_mem {i : Nat} {q : Nat × mv_V} : ∀ {l : mv_L}, q ∈ mv_f2 i l → q ∈ l
  | [], h => h
  | a :: l, h => by
    unfold mv_f2 at h
    cases hc : (Nat.beq a.1 i || (Nat.beq a.1 (i + 1) || (Nat.beq (a.1 + 1) i && mv_two a.2))) with
    | true => rw [hc] at h; exact List.mem_cons_of_mem _ (mv_f2_mem h)
    | false =>
      rw [hc] at h
      rcases List.mem_cons.mp h with h | h
      · exact List.mem_cons.mpr (Or.inl h)
      · exact List.mem_cons_of_mem _ (mv_f2_mem h)
theorem mv_get_mem {k : Nat} {v : mv_V} : ∀ {l : mv_L}, mv_get k l = some v → (k, v) ∈ l
  | [], h => by cases h
  | q :: l, h => by
    unfold mv_get at h
    cases hc : Nat.beq q.1 k with
    | true =>
      rw [hc] at h
      have h1 : q.1 = k := Nat.eq_of_beq_eq_true hc
      have h2 : q.2 = v := Option.some.inj h
      exact List.mem_cons.mpr (Or.inl (by rw [← h1, ← h2]))
    | false => rw [hc] at h; exact List.mem_cons_of_mem _ (mv_get_mem h)
theorem mv_get_at {φ : Nat → Nat → Nat} {k nL : Nat} {v : mv_V} {lv : mv_L} {ls : Array Slot} (h : mv_get k lv = some v) (hl : lv_has ls nL (lv.map fun q => (q.1, mv_v φ q.2))) : ls[k]? = some (.val (mv_v φ v)) :=
  hl.2.2 (k, mv_v φ v) (List.mem_map.mpr ⟨(k, v), mv_get_mem h, rfl⟩)
/-- what the table's operands must be -/
def mv_chkL (nL : Nat) (own : String) (i : Instr) (len : Nat) (lk : List Nat) : Bool := match i with
  | .iload_n k => (match lk with
    | n :: _ => decide (len = 1) && decide ((k : Nat) = n)
    | _ => false)
  | .lload_n k => (match lk with
    | n :: _ => decide (len = 1) && decide ((k : Nat) = n)
    | _ => false)
  | .aload_n k => (match lk with
    | n :: _ => decide (len = 1) && decide ((k : Nat) = n)
    | _ => false)
  | .iload k => (match lk with
    | n :: _ => decide (len = 2) && decide (k = n)
    | _ => false)
  | .lload k => (match lk with
    | n :: _ => decide (len = 2) && decide (k = n)
    | _ => false)
  | .aload k => (match lk with
    | n :: _ => decide (len = 2) && decide (k = n)
    | _ => false)
  | .istore_n k => (match lk with
    | n :: _ => decide (len = 1) && (decide ((k : Nat) = n) && decide (n < nL))
    | _ => false)
  | .lstore_n k => (match lk with
    | n :: _ => decide (len = 1) && (decide ((k : Nat) = n) && decide (n + 1 < nL))
    | _ => false)
  | .astore_n k => (match lk with
    | n :: _ => decide (len = 1) && (decide ((k : Nat) = n) && decide (n < nL))
    | _ => false)
  | .istore k => (match lk with
    | n :: _ => decide (len = 2) && (decide (k = n) && decide (n < nL))
    | _ => false)
  | .lstore k => (match lk with
    | n :: _ => decide (len = 2) && (decide (k = n) && decide (n + 1 < nL))
    | _ => false)
  | .astore k => (match lk with
    | n :: _ => decide (len = 2) && (decide (k = n) && decide (n < nL))
    | _ => false)
  | .iinc k z => (match lk with
    | n :: sg :: cn :: _ => decide (len = 3) && (decide (k = n) && (decide (n < nL) && decide (Int32.ofInt z = mv_c sg cn)))
    | _ => false)
  | .iconst z => (match lk with
    | sg :: cn :: _ => decide (len = 1) && decide (Int32.ofInt z = mv_c sg cn)
    | _ => false)
  | .bipush z => (match lk with
    | sg :: cn :: _ => decide (len = 2) && decide ((Int8.ofInt z).toInt32 = mv_c sg cn)
    | _ => false)
  | .sipush z => (match lk with
    | sg :: cn :: _ => decide (len = 3) && decide ((Int16.ofInt z).toInt32 = mv_c sg cn)
    | _ => false)
  | .ldc x => (match lk with
    | 0 :: sg :: cn :: a :: b :: _ => decide (len = 2) && wAt a b (.constant own x (mv_c sg cn))
    | 1 :: n :: _ => (match mv_sw n with
      | some q => decide (len = 2) && (decide (q.1 = own) && decide (q.2.1 = x))
      | none => false)
    | _ => false)
  | .ldc_w x => (match lk with
    | 0 :: sg :: cn :: a :: b :: _ => decide (len = 3) && wAt a b (.constant own x (mv_c sg cn))
    | 1 :: n :: _ => (match mv_sw n with
      | some q => decide (len = 3) && (decide (q.1 = own) && decide (q.2.1 = x))
      | none => false)
    | _ => false)
  | .lconst z => (match lk with
    | sg :: cn :: _ => decide (len = 1) && decide (Int64.ofNat (z : Nat) = mv_cl sg cn)
    | _ => false)
  | .ldc2_w x => (match lk with
    | sg :: cn :: a :: b :: _ => decide (len = 3) && wAt a b (.constantLong own x (mv_cl sg cn))
    | _ => false)
  | _ => decide (len = 1)
section
variable {p : Program} {l : Launch} {e : Env} {R : Room} {s : State} {m : MethodId} {args : Array Value} {below : List Frame} {meth : Method} {c : Code} {H : Heap} {locs : List Loc} {cells slots : Nat} {Q : State → Prop} {cc : ByteArray} {pc : Nat} {ls : Array Slot} {φ : Nat → Nat → Nat} {g : mv_G}
theorem mv_ldcwS {T : State} (X : Stand p l e R s m args below meth c T locs cells slots) (hexec : p.tables.exec = Jvm.exec) {own text : String} {index : Nat} {a : Addr} (hown : s.vm.findClass own = some m.cls)
    (hconst : (Cond.stringRef own index text).before args s = true) (hev : (Term.string own index).eval args s none [] s = some (.ref a)) {g : JFrame} (hg : g.method = m) (hdg : decode c.code g.pc = .ok (.ldc_w index, 3)) :
    ∀ target, Steps p.tables e below (T.setTop { g with pc := g.pc + 3, stack := .ref a :: g.stack }) target → Steps p.tables e below (T.setTop g) target := by
  obtain ⟨k, cf, i, a', hk, hcf, hcp, -, hr, hev'⟩ := Cond.stringRef_spec hown hconst
  cases hev.symm.trans hev'
  obtain ⟨k', hk', he⟩ := X.warmed.alike.2.2 _ _ hk
  have hr' : k'.resolved[index]? = some (some (.string a)) := by
    rcases X.warmed.entry hk hk' index with h | ⟨h, -⟩
    · rw [h]; exact hr
    · rw [hr] at h; cases h
  intro target hrest
  subst hg
  jvm_step X.here [hexec, hdg, ldc_w.wp_string (e := e) (s := T) (f := g) X.here.top hk' (by rw [he]; exact hcf) hcp hr']
  exact hrest
theorem mv_ldcwSW (hexec : p.tables.exec = Jvm.exec) (hb : c.code = cc) {own tx : String} {index q : Nat} {rest : List Value} (hown : s.vm.findClass own = some m.cls) (hZ : vk_R own index tx q s) (hdg : decode cc pc = .ok (.ldc_w index, 3))
    (k : W p l e R s m args below meth c H locs cells slots Q (F0 m (pc + 3) ls (.ref q :: rest))) : W p l e R s m args below meth c H locs cells slots Q (F0 m pc ls rest) := by
  intro T hT X
  obtain ⟨t, a1, b1⟩ := k T hT X
  exact ⟨t, mv_ldcwS X hexec hown (text := tx) (a := q) hZ.1 hZ.2 (g := F0 m pc ls rest) rfl (by rw [hb]; exact hdg) t a1, b1⟩
end
theorem mv_op_len {α : Type} {nL : Nat} {own : String} {i : Instr} {len : Nat} {lk : List Nat} {st : List mv_V} {k : List mv_V → Option α} {res : α} (h : mv_op i st k = some res) (hc : mv_chkL nL own i len lk = true) : len = 1 := by
  unfold mv_op at h
  split at h <;> first | exact of_decide_eq_true hc | cases h
section
variable {Hp : Type} {p : Program} {l : Launch} {e : Env} {R : Room} {s : State} {m : MethodId} {args : Array Value} {below : List Frame} {meth : Method} {c : Code} {H : Heap} {locs : List Loc} {cells slots : Nat} {Q : State → Prop} {cc : ByteArray} {pc : Nat} {ls : Array Slot} {φ : Nat → Nat → Nat} {g : mv_G}
set_option maxHeartbeats 8000000 in
theorem mv_lop_sound (hx : p.tables.exec = Jvm.exec) (hb : c.code = cc) {own : String} {nL : Nat} (hown : s.vm.findClass own = some m.cls) (hts : ∀ w ∈ WS, w.before args s = true) (hst : ∀ k o idx tx, mv_sw k = some (o, idx, tx) → vk_R o idx tx (φ 11 k) s)
    {i : Instr} {len : Nat} {lk : List Nat} (hd : decode cc pc = .ok (i, len)) (hc : mv_chkL nL own i len lk = true) {lv : mv_L} {st : List mv_V} {k : mv_L → List mv_V → Option (List mv_V × Hp)} {res : List mv_V × Hp} (h : mv_lop i lk lv st k = some res) (hl : lv_has ls nL (lv.map fun q => (q.1, mv_v φ q.2)))
    (hv : ∀ v ∈ st, mv_live g v) (hvl : ∀ q ∈ lv, mv_live g q.2)
    (kk : ∀ lv' st' ls', k lv' st' = some res → (∀ v ∈ st', mv_live g v) → (∀ q ∈ lv', mv_live g q.2) → lv_has ls' nL (lv'.map fun q => (q.1, mv_v φ q.2)) → W p l e R s m args below meth c H locs cells slots Q (F0 m (pc + len) ls' (st'.map (mv_v φ)))) : W p l e R s m args below meth c H locs cells slots Q (F0 m pc ls (st.map (mv_v φ))) := by
  unfold mv_lop at h
  split at h
  · split at h
    · simp only [mv_chkL, Bool.and_eq_true, decide_eq_true_eq] at hc
      obtain ⟨rfl, rfl⟩ := hc
      split at h
      · next h2 => exact lv_iload_n hx hb hd rfl (mv_get_at h2 hl) (kk _ _ _ h (List.forall_mem_cons.mpr ⟨trivial, hv⟩) hvl hl)
      · cases h
    · cases h
  · split at h
    · simp only [mv_chkL, Bool.and_eq_true, decide_eq_true_eq] at hc
      obtain ⟨rfl, rfl⟩ := hc
      split at h
      · next h2 => exact lv_iload hx hb hd (mv_get_at h2 hl) (kk _ _ _ h (List.forall_mem_cons.mpr ⟨trivial, hv⟩) hvl hl)
      · cases h
    · cases h
  · split at h
    · simp only [mv_chkL, Bool.and_eq_true, decide_eq_true_eq] at hc
      obtain ⟨rfl, rfl⟩ := hc
      split at h
      · next h2 => exact lv_lload_n hx hb hd rfl (mv_get_at h2 hl) (kk _ _ _ h (List.forall_mem_cons.mpr ⟨trivial, hv⟩) hvl hl)
      · cases h
    · cases h
  · split at h
    · simp only [mv_chkL, Bool.and_eq_true, decide_eq_true_eq] at hc
      obtain ⟨rfl, rfl⟩ := hc
      split at h
      · next h2 => exact lv_lload hx hb hd (mv_get_at h2 hl) (kk _ _ _ h (List.forall_mem_cons.mpr ⟨trivial, hv⟩) hvl hl)
      · cases h
    · cases h
  · split at h
    · simp only [mv_chkL, Bool.and_eq_true, decide_eq_true_eq] at hc
      obtain ⟨rfl, rfl⟩ := hc
      split at h
      · next h2 => exact lv_aload_n hx hb hd rfl (mv_get_at h2 hl) (kk _ _ _ h (List.forall_mem_cons.mpr ⟨hvl _ (mv_get_mem h2), hv⟩) hvl hl)
      · next h2 => exact lv_aload_nN hx hb hd rfl (mv_get_at h2 hl) (kk _ _ _ h (List.forall_mem_cons.mpr ⟨trivial, hv⟩) hvl hl)
      · cases h
    · cases h
  · split at h
    · simp only [mv_chkL, Bool.and_eq_true, decide_eq_true_eq] at hc
      obtain ⟨rfl, rfl⟩ := hc
      split at h
      · next h2 => exact lv_aload hx hb hd (mv_get_at h2 hl) (kk _ _ _ h (List.forall_mem_cons.mpr ⟨hvl _ (mv_get_mem h2), hv⟩) hvl hl)
      · next h2 => exact lv_aloadN hx hb hd (mv_get_at h2 hl) (kk _ _ _ h (List.forall_mem_cons.mpr ⟨trivial, hv⟩) hvl hl)
      · cases h
    · cases h
  · split at h
    · simp only [mv_chkL, Bool.and_eq_true, decide_eq_true_eq] at hc
      obtain ⟨rfl, rfl, hn⟩ := hc
      split at h
      · rw [mv_f1K_eq] at h
        exact lv_istore_n hx hb hd rfl hl hn rfl fun ls' hl' => kk _ _ ls' h (List.forall_mem_cons.mp hv).2 (List.forall_mem_cons.mpr ⟨trivial, fun q hq => hvl q (mv_f1_mem hq)⟩) (by rw [List.map_cons, mv_f1_map]; exact hl')
      · cases h
    · cases h
  · split at h
    · simp only [mv_chkL, Bool.and_eq_true, decide_eq_true_eq] at hc
      obtain ⟨rfl, rfl, hn⟩ := hc
      split at h
      · rw [mv_f1K_eq] at h
        exact lv_istore hx hb hd hl hn rfl fun ls' hl' => kk _ _ ls' h (List.forall_mem_cons.mp hv).2 (List.forall_mem_cons.mpr ⟨trivial, fun q hq => hvl q (mv_f1_mem hq)⟩) (by rw [List.map_cons, mv_f1_map]; exact hl')
      · cases h
    · cases h
  · split at h
    · simp only [mv_chkL, Bool.and_eq_true, decide_eq_true_eq] at hc
      obtain ⟨rfl, rfl, hn⟩ := hc
      split at h
      · rw [mv_f2K_eq] at h
        exact lv_lstore_n hx hb hd rfl hl hn rfl fun ls' hl' => kk _ _ ls' h (List.forall_mem_cons.mp hv).2 (List.forall_mem_cons.mpr ⟨trivial, fun q hq => hvl q (mv_f2_mem hq)⟩) (by rw [List.map_cons, mv_f2_map]; exact hl')
      · cases h
    · cases h
  · split at h
    · simp only [mv_chkL, Bool.and_eq_true, decide_eq_true_eq] at hc
      obtain ⟨rfl, rfl, hn⟩ := hc
      split at h
      · rw [mv_f2K_eq] at h
        exact lv_lstore hx hb hd hl hn rfl fun ls' hl' => kk _ _ ls' h (List.forall_mem_cons.mp hv).2 (List.forall_mem_cons.mpr ⟨trivial, fun q hq => hvl q (mv_f2_mem hq)⟩) (by rw [List.map_cons, mv_f2_map]; exact hl')
      · cases h
    · cases h
  · split at h
    · simp only [mv_chkL, Bool.and_eq_true, decide_eq_true_eq] at hc
      obtain ⟨rfl, rfl, hn⟩ := hc
      split at h
      · rw [mv_f1K_eq] at h
        exact lv_astore_n hx hb hd rfl hl hn rfl fun ls' hl' => kk _ _ ls' h (List.forall_mem_cons.mp hv).2 (List.forall_mem_cons.mpr ⟨(List.forall_mem_cons.mp hv).1, fun q hq => hvl q (mv_f1_mem hq)⟩) (by rw [List.map_cons, mv_f1_map]; exact hl')
      · rw [mv_f1K_eq] at h
        exact lv_astore_nN hx hb hd rfl hl hn rfl fun ls' hl' => kk _ _ ls' h (List.forall_mem_cons.mp hv).2 (List.forall_mem_cons.mpr ⟨trivial, fun q hq => hvl q (mv_f1_mem hq)⟩) (by rw [List.map_cons, mv_f1_map]; exact hl')
      · cases h
    · cases h
  · split at h
    · simp only [mv_chkL, Bool.and_eq_true, decide_eq_true_eq] at hc
      obtain ⟨rfl, rfl, hn⟩ := hc
      split at h
      · rw [mv_f1K_eq] at h
        exact lv_astore hx hb hd hl hn rfl fun ls' hl' => kk _ _ ls' h (List.forall_mem_cons.mp hv).2 (List.forall_mem_cons.mpr ⟨(List.forall_mem_cons.mp hv).1, fun q hq => hvl q (mv_f1_mem hq)⟩) (by rw [List.map_cons, mv_f1_map]; exact hl')
      · rw [mv_f1K_eq] at h
        exact lv_astoreN hx hb hd hl hn rfl fun ls' hl' => kk _ _ ls' h (List.forall_mem_cons.mp hv).2 (List.forall_mem_cons.mpr ⟨trivial, fun q hq => hvl q (mv_f1_mem hq)⟩) (by rw [List.map_cons, mv_f1_map]; exact hl')
      · cases h
    · cases h
  · split at h
    · simp only [mv_chkL, Bool.and_eq_true, decide_eq_true_eq] at hc
      obtain ⟨rfl, rfl, hn, hz⟩ := hc
      split at h
      · next h2 =>
        rw [mv_f1K_eq] at h
        obtain ⟨j, hj⟩ := List.getElem?_of_mem (List.mem_map.mpr ⟨_, mv_get_mem h2, rfl⟩ : ((_, mv_v φ _) : Nat × Value) ∈ lv.map fun q => (q.1, mv_v φ q.2))
        exact lv_iinc hx hb hd hl hj (by rw [hz]) hn rfl fun ls' hl' => kk _ _ ls' h hv (List.forall_mem_cons.mpr ⟨trivial, fun q hq => hvl q (mv_f1_mem hq)⟩) (by rw [List.map_cons, mv_f1_map]; exact hl')
      · cases h
    · cases h
  · split at h
    · simp only [mv_chkL, Bool.and_eq_true, decide_eq_true_eq] at hc
      obtain ⟨rfl, hz⟩ := hc
      exact lv_iconst hx hb hd hz (kk _ _ _ h (List.forall_mem_cons.mpr ⟨trivial, hv⟩) hvl hl)
    · cases h
  · split at h
    · simp only [mv_chkL, Bool.and_eq_true, decide_eq_true_eq] at hc
      obtain ⟨rfl, hz⟩ := hc
      exact lv_bipush hx hb hd hz (kk _ _ _ h (List.forall_mem_cons.mpr ⟨trivial, hv⟩) hvl hl)
    · cases h
  · split at h
    · simp only [mv_chkL, Bool.and_eq_true, decide_eq_true_eq] at hc
      obtain ⟨rfl, hz⟩ := hc
      exact lv_sipush hx hb hd hz (kk _ _ _ h (List.forall_mem_cons.mpr ⟨trivial, hv⟩) hvl hl)
    · cases h
  · split at h
    · simp only [mv_chkL] at hc
      split at hc
      · next heq =>
        cases heq
        simp only [Bool.and_eq_true, decide_eq_true_eq] at hc
        obtain ⟨rfl, hz⟩ := hc
        exact lv_ldc hx hb hown (hts _ (wAt_in hz)) hd (kk _ _ _ h (List.forall_mem_cons.mpr ⟨trivial, hv⟩) hvl hl)
      · next heq => cases heq
      · cases hc
    · simp only [mv_chkL] at hc
      split at hc
      · next q hq =>
        simp only [Bool.and_eq_true, decide_eq_true_eq] at hc
        obtain ⟨rfl, h1, h2⟩ := hc
        obtain ⟨q1, q2, q3⟩ := q
        have h3 := hst _ _ _ _ hq
        rw [show q1 = own from h1, show q2 = _ from h2] at h3
        exact va_ldcS hx hb hown h3 hd (kk _ _ _ h (List.forall_mem_cons.mpr ⟨Or.inr ⟨show 10 ≤ 11 by decide, show 11 < 100 by decide, fun _ => mv_sw_lt hq⟩, hv⟩) hvl hl)
      · cases hc
    · cases h
  · split at h
    · simp only [mv_chkL] at hc
      split at hc
      · next heq =>
        cases heq
        simp only [Bool.and_eq_true, decide_eq_true_eq] at hc
        obtain ⟨rfl, hz⟩ := hc
        exact lv_ldcw hx hb hown (hts _ (wAt_in hz)) hd (kk _ _ _ h (List.forall_mem_cons.mpr ⟨trivial, hv⟩) hvl hl)
      · next heq => cases heq
      · cases hc
    · simp only [mv_chkL] at hc
      split at hc
      · next q hq =>
        simp only [Bool.and_eq_true, decide_eq_true_eq] at hc
        obtain ⟨rfl, h1, h2⟩ := hc
        obtain ⟨q1, q2, q3⟩ := q
        have h3 := hst _ _ _ _ hq
        rw [show q1 = own from h1, show q2 = _ from h2] at h3
        exact mv_ldcwSW hx hb hown h3 hd (kk _ _ _ h (List.forall_mem_cons.mpr ⟨Or.inr ⟨show 10 ≤ 11 by decide, show 11 < 100 by decide, fun _ => mv_sw_lt hq⟩, hv⟩) hvl hl)
      · cases hc
    · cases h
  · split at h
    · simp only [mv_chkL, Bool.and_eq_true, decide_eq_true_eq] at hc
      obtain ⟨rfl, hz⟩ := hc
      exact lv_lconst hx hb hd hz (kk _ _ _ h (List.forall_mem_cons.mpr ⟨trivial, hv⟩) hvl hl)
    · cases h
  · split at h
    · simp only [mv_chkL] at hc
      split at hc
      · next heq =>
        cases heq
        simp only [Bool.and_eq_true, decide_eq_true_eq] at hc
        obtain ⟨rfl, hz⟩ := hc
        exact lv_ldc2 hx hb hown (hts _ (wAt_in hz)) hd (kk _ _ _ h (List.forall_mem_cons.mpr ⟨trivial, hv⟩) hvl hl)
      · cases hc
    · cases h
  · have hl1 := mv_op_len h hc
    subst hl1
    exact mv_op_sound hx hb hd h hv fun st' h' hv' => kk _ _ _ h' hv' hvl hl
end
end
section
-- ===== the world as a list, a cell changed, a cell made =====
theorem mv_cover {D : va_G} {cI cQ : ClassId} {q0 : Nat} {φ : Nat → Nat → Nat} {g : mv_G} {H : Heap} (hW : mv_W D cI cQ q0 φ g H) : ∃ ws : va_W, va_P D vwCl ws H ∧ va_D (fun q => q0 ≤ q) ws ∧ (∀ t o, o < g.2.2.2 t → ∃ k : Nat, ws[k]? = some (φ t o, mv_cell cI cQ φ g t o)) := by
  obtain ⟨h1, h2, h3, h4, ⟨ts, hn, hts⟩, -⟩ := hW
  have hmem : ∀ q : Nat × Nat, q ∈ ts.flatMap (fun t => (List.range (g.2.2.2 t)).map fun o => (t, o)) ↔ q.2 < g.2.2.2 q.1 := by
    intro q
    simp only [List.mem_flatMap, List.mem_map, List.mem_range]
    constructor
    · rintro ⟨t, -, o, ho, rfl⟩
      exact ho
    · intro h
      exact ⟨q.1, hts _ (Nat.lt_of_le_of_lt (Nat.zero_le _) h), q.2, h, rfl⟩
  have hnd : (ts.flatMap (fun t => (List.range (g.2.2.2 t)).map fun o => (t, o))).Nodup := by
    rw [List.nodup_iff_pairwise_ne] at hn ⊢
    rw [List.pairwise_flatMap]
    refine ⟨fun t _ => ?_, hn.imp fun {a b} hab => ?_⟩
    · rw [List.pairwise_map]
      exact (List.nodup_iff_pairwise_ne.mp List.nodup_range).imp fun {a b} hab e => hab (Prod.mk.inj e).2
    · intro x hx y hy
      obtain ⟨_, -, rfl⟩ := List.mem_map.mp hx
      obtain ⟨_, -, rfl⟩ := List.mem_map.mp hy
      exact fun e => hab (Prod.mk.inj e).1
  generalize ts.flatMap (fun t => (List.range (g.2.2.2 t)).map fun o => (t, o)) = L at hmem hnd
  refine ⟨L.map fun q => (φ q.1 q.2, mv_cell cI cQ φ g q.1 q.2), fun k q hk => ?_, ⟨fun i j x y hi hj e => ?_, fun k q hk => ?_⟩, fun t o ho => ?_⟩
  · rw [List.getElem?_map, Option.map_eq_some_iff] at hk
    obtain ⟨a, ha, rfl⟩ := hk
    exact h1 _ _ ((hmem a).mp (List.mem_of_getElem? ha))
  · rw [List.getElem?_map, Option.map_eq_some_iff] at hi hj
    obtain ⟨a, ha, rfl⟩ := hi
    obtain ⟨b, hb, rfl⟩ := hj
    have hab := h3 _ _ _ _ ((hmem a).mp (List.mem_of_getElem? ha)) ((hmem b).mp (List.mem_of_getElem? hb)) e
    have : a = b := Prod.ext hab.1 hab.2
    subst this
    obtain ⟨hi', ei⟩ := List.getElem?_eq_some_iff.mp ha
    obtain ⟨hj', ej⟩ := List.getElem?_eq_some_iff.mp hb
    have hpw := List.pairwise_iff_getElem.mp (List.nodup_iff_pairwise_ne.mp hnd)
    rcases Nat.lt_trichotomy i j with hij | hij | hij
    · exact absurd (ei.trans ej.symm) (hpw i j hi' hj' hij)
    · exact hij
    · exact absurd (ej.trans ei.symm) (hpw j i hj' hi' hij)
  · rw [List.getElem?_map, Option.map_eq_some_iff] at hk
    obtain ⟨a, ha, rfl⟩ := hk
    exact h2 _ _ ((hmem a).mp (List.mem_of_getElem? ha))
  · obtain ⟨k, hk⟩ := List.getElem?_of_mem ((hmem (t, o)).mpr ho)
    exact ⟨k, by rw [List.getElem?_map, hk]; rfl⟩
theorem mv_W.set {D : va_G} {cI cQ : ClassId} {q0 : Nat} {φ : Nat → Nat → Nat} {g g' : mv_G} {H H1 : Heap} (hW : mv_W D cI cQ q0 φ g H) {ws : va_W} (hcov : ∀ t o, o < g.2.2.2 t → ∃ k : Nat, ws[k]? = some (φ t o, mv_cell cI cQ φ g t o)) {p t o : Nat} {e0 e1 : va_E} (hp : ws[p]? = some (φ t o, e0)) (ho : o < g.2.2.2 t)
    (hP1 : va_P D vwCl (ws.set p (φ t o, e1)) H1) (he : mv_cell cI cQ φ g' t o = e1) (hoth : ∀ t' o', o' < g.2.2.2 t' → ¬ (t' = t ∧ o' = o) → mv_cell cI cQ φ g' t' o' = mv_cell cI cQ φ g t' o') (hcnt : g'.2.2.2 = g.2.2.2) (hcl : ∀ t o k q, o < g.2.2.2 t → g'.2.1 t o k = some q → q.2 < g.2.2.2 q.1) : mv_W D cI cQ q0 φ g' H1 := by
  obtain ⟨h1, h2, h3, h4, h5⟩ := hW
  have hl := (List.getElem?_eq_some_iff.mp hp).1
  refine ⟨fun t' o' h' => ?_, by rw [hcnt]; exact h2, by rw [hcnt]; exact h3, by rw [hcnt]; exact hcl, by rw [hcnt]; exact h5⟩
  rw [hcnt] at h'
  by_cases hto : t' = t ∧ o' = o
  · obtain ⟨rfl, rfl⟩ := hto
    rw [he]
    exact hP1 p _ (List.getElem?_set_self hl)
  · rw [hoth t' o' h' hto]
    obtain ⟨k, hk⟩ := hcov t' o' h'
    refine hP1 k _ ?_
    rw [List.getElem?_set_ne (fun e => ?_)]
    · exact hk
    · subst e
      have h6 := Option.some.inj (hp.symm.trans hk)
      exact hto (h3 t' o' t o h' ho (Prod.mk.inj h6).1.symm)
/-- the picture with one more cell of a tag: nothing in it -/
def mv_mk (g : mv_G) (t n : Nat) : mv_G :=
  (fun t' o' k => if t' = t ∧ o' = g.2.2.2 t then 0 else g.1 t' o' k, fun t' o' k => if t' = t ∧ o' = g.2.2.2 t then none else g.2.1 t' o' k, fun t' o' => if t' = t ∧ o' = g.2.2.2 t then n else g.2.2.1 t' o', fun t' => if t' = t then g.2.2.2 t + 1 else g.2.2.2 t')
def mv_phi (φ : Nat → Nat → Nat) (t c q : Nat) : Nat → Nat → Nat := fun t' o' => if t' = t ∧ o' = c then q else φ t' o'
theorem mv_cell_congr {cI cQ : ClassId} {φ φ' : Nat → Nat → Nat} {g g' : mv_G} {t o : Nat} (h1 : ∀ k, g'.1 t o k = g.1 t o k) (h2 : ∀ k, (g'.2.1 t o k).map (fun q => φ' q.1 q.2) = (g.2.1 t o k).map fun q => φ q.1 q.2) (h3 : g'.2.2.1 t o = g.2.2.1 t o) : mv_cell cI cQ φ' g' t o = mv_cell cI cQ φ g t o := by
  have hf : mv_fv φ' g' t o = mv_fv φ g t o := by
    funext k
    unfold mv_fv
    rw [h1, h2]
  have h4 : (fun k => (g'.2.1 t o k).map fun q => φ' q.1 q.2) = fun k => (g.2.1 t o k).map fun q => φ q.1 q.2 := funext h2
  have h5 : g'.1 t o = g.1 t o := funext h1
  unfold mv_cell
  rw [hf, h4, h3, h5]
theorem mv_W.new {D : va_G} {cI cQ : ClassId} {q0 : Nat} {φ : Nat → Nat → Nat} {g : mv_G} {H H1 : Heap} (hW : mv_W D cI cQ q0 φ g H) {ws : va_W} (hcov : ∀ t o, o < g.2.2.2 t → ∃ k : Nat, ws[k]? = some (φ t o, mv_cell cI cQ φ g t o)) {t n q : Nat} {e1 : va_E} (ht : t < 10 ∨ 100 ≤ t)
    (hP1 : va_P D vwCl (ws ++ [(q, e1)]) H1) (hD1 : va_D (fun q => q0 ≤ q) (ws ++ [(q, e1)])) (he : mv_cell cI cQ (mv_phi φ t (g.2.2.2 t) q) (mv_mk g t n) t (g.2.2.2 t) = e1) :
    mv_W D cI cQ q0 (mv_phi φ t (g.2.2.2 t) q) (mv_mk g t n) H1 ∧ mv_ge g φ (mv_mk g t n) (mv_phi φ t (g.2.2.2 t) q) := by
  obtain ⟨h1, h2, h3, h4, ⟨ts, hn, hts⟩, hx⟩ := hW
  have hge : mv_ge g φ (mv_mk g t n) (mv_phi φ t (g.2.2.2 t) q) := by
    refine ⟨fun t' o' h' => ?_, fun t' o' ha hb => ?_, fun t' => ?_⟩
    · show (if t' = t ∧ o' = g.2.2.2 t then q else φ t' o') = φ t' o'
      rw [if_neg (fun e => by obtain ⟨rfl, rfl⟩ := e; omega)]
    · show (if t' = t ∧ o' = g.2.2.2 t then q else φ t' o') = φ t' o'
      rw [if_neg (fun e => by obtain ⟨rfl, rfl⟩ := e; omega)]
    · show g.2.2.2 t' ≤ if t' = t then g.2.2.2 t + 1 else g.2.2.2 t'
      split
      · next e => subst e; omega
      · exact Nat.le_refl _
  have hold : ∀ t' o', o' < (mv_mk g t n).2.2.2 t' → (t' = t ∧ o' = g.2.2.2 t) ∨ (¬ (t' = t ∧ o' = g.2.2.2 t) ∧ o' < g.2.2.2 t') := by
    intro t' o' h'
    change o' < (if t' = t then g.2.2.2 t + 1 else g.2.2.2 t') at h'
    by_cases e : t' = t
    · subst e
      rw [if_pos rfl] at h'
      by_cases e2 : o' = g.2.2.2 t'
      · exact Or.inl ⟨rfl, e2⟩
      · exact Or.inr ⟨fun z => e2 z.2, by omega⟩
    · rw [if_neg e] at h'
      exact Or.inr ⟨fun z => e z.1, h'⟩
  have hnew : mv_phi φ t (g.2.2.2 t) q t (g.2.2.2 t) = q := if_pos ⟨rfl, rfl⟩
  have hlast : (ws ++ [(q, e1)])[ws.length]? = some (q, e1) := by
    rw [List.getElem?_append_right (Nat.le_refl _), Nat.sub_self]; rfl
  have hin : ∀ t' o', o' < g.2.2.2 t' → ∃ k : Nat, k < ws.length ∧ (ws ++ [(q, e1)])[k]? = some (φ t' o', mv_cell cI cQ φ g t' o') := by
    intro t' o' h'
    obtain ⟨k, hk⟩ := hcov t' o' h'
    have hl := (List.getElem?_eq_some_iff.mp hk).1
    exact ⟨k, hl, by rw [List.getElem?_append_left hl]; exact hk⟩
  refine ⟨⟨fun t' o' h' => ?_, fun t' o' h' => ?_, fun t' o' t2 o2 ha hb e => ?_, fun t' o' k z h' hz => ?_, ?_, ?_⟩, hge⟩
  · rcases hold t' o' h' with ⟨rfl, rfl⟩ | ⟨hne, hlt⟩
    · rw [he, hnew]
      exact hP1 _ _ hlast
    · obtain ⟨k, -, hk⟩ := hin t' o' hlt
      have hc : mv_cell cI cQ (mv_phi φ t (g.2.2.2 t) q) (mv_mk g t n) t' o' = mv_cell cI cQ φ g t' o' := by
        refine mv_cell_congr (fun k => if_neg hne) (fun k => ?_) (if_neg hne)
        show (if t' = t ∧ o' = g.2.2.2 t then none else g.2.1 t' o' k).map _ = _
        rw [if_neg hne]
        cases hr : g.2.1 t' o' k with
        | none => rfl
        | some z => exact congrArg some (hge.1 _ _ (h4 _ _ _ _ hlt hr))
      rw [hc, hge.1 _ _ hlt]
      exact hP1 k _ hk
  · rcases hold t' o' h' with ⟨rfl, rfl⟩ | ⟨hne, hlt⟩
    · rw [hnew]; exact hD1.2 _ _ hlast
    · rw [hge.1 _ _ hlt]; exact h2 _ _ hlt
  · rcases hold t' o' ha with ⟨rfl, rfl⟩ | ⟨hne, hlt⟩ <;> rcases hold t2 o2 hb with ⟨rfl, rfl⟩ | ⟨hne2, hlt2⟩
    · exact ⟨rfl, rfl⟩
    · obtain ⟨k, hk1, hk⟩ := hin t2 o2 hlt2
      rw [hnew, hge.1 _ _ hlt2] at e
      have := hD1.1 _ _ _ _ hlast hk e
      omega
    · obtain ⟨k, hk1, hk⟩ := hin t' o' hlt
      rw [hnew, hge.1 _ _ hlt] at e
      have := hD1.1 _ _ _ _ hk hlast e
      omega
    · rw [hge.1 _ _ hlt, hge.1 _ _ hlt2] at e
      exact h3 _ _ _ _ hlt hlt2 e
  · rcases hold t' o' h' with ⟨rfl, rfl⟩ | ⟨hne, hlt⟩
    · have hz' : (if t' = t' ∧ g.2.2.2 t' = g.2.2.2 t' then none else g.2.1 t' (g.2.2.2 t') k) = some z := hz
      rw [if_pos ⟨rfl, rfl⟩] at hz'
      cases hz'
    · have hz' : (if t' = t ∧ o' = g.2.2.2 t then none else g.2.1 t' o' k) = some z := hz
      rw [if_neg hne] at hz'
      exact Nat.lt_of_lt_of_le (h4 _ _ _ _ hlt hz') (hge.2.2 _)
  · by_cases hm : t ∈ ts
    · refine ⟨ts, hn, fun t' h' => ?_⟩
      change 0 < (if t' = t then g.2.2.2 t + 1 else g.2.2.2 t') at h'
      by_cases e : t' = t
      · rw [e]; exact hm
      · rw [if_neg e] at h'; exact hts _ h'
    · refine ⟨t :: ts, List.nodup_cons.mpr ⟨hm, hn⟩, fun t' h' => ?_⟩
      change 0 < (if t' = t then g.2.2.2 t + 1 else g.2.2.2 t') at h'
      by_cases e : t' = t
      · rw [e]; exact List.mem_cons_self
      · rw [if_neg e] at h'; exact List.mem_cons_of_mem _ (hts _ h')
  · intro t' ha hb
    show (if t' = t then g.2.2.2 t + 1 else g.2.2.2 t') = 0
    rw [if_neg (by omega)]
    exact hx t' ha hb
theorem mv_single {D : va_G} {cl : List vw_C} {q : Nat × va_E} {H : Heap} (h : va_at D cl q H) : va_P D cl [q] H := by
  intro k x hk
  match k, hk with
  | 0, hk => cases hk; exact h
  | k + 1, hk => cases hk
-- ===== reads and writes of the heap =====
def mv_setI (g : mv_G) (t o k : Nat) (v : Int32) : mv_G := (fun t' o' k' => if t' = t ∧ o' = o ∧ k' = k then v else g.1 t' o' k', g.2)
def mv_setR (g : mv_G) (t o k : Nat) (q : Option (Nat × Nat)) : mv_G := (g.1, fun t' o' k' => if t' = t ∧ o' = o ∧ k' = k then q else g.2.1 t' o' k', g.2.2)
def mv_setC (g : mv_G) (t o o' n : Nat) : mv_G := (fun t' q k => if t' = t ∧ q = o' ∧ k < n then g.1 t o k else g.1 t' q k, g.2)
/-- the heap's operations are what they should be -/
def mv_Ax {Hp : Type} (rI : Hp → Nat → Nat → Nat → Int32) (rR : Hp → Nat → Nat → Nat → (Option (Nat × Nat) → Option (List mv_V × Hp)) → Option (List mv_V × Hp)) (ln : Hp → Nat → Nat → Nat) (wI : Hp → Nat → Nat → Nat → Int32 → Hp) (wR : Hp → Nat → Nat → Nat → Option (Nat × Nat) → (Hp → Option (List mv_V × Hp)) → Option (List mv_V × Hp)) (nw : Hp → Nat → Nat → (Nat → Hp → Option (List mv_V × Hp)) → Option (List mv_V × Hp)) (cp : Hp → Nat → Nat → Nat → Nat → Nat → Hp) (vw : Hp → mv_G) : Prop :=
  (∀ h t o k, rI h t o k = (vw h).1 t o k) ∧ (∀ h t o k ka res, rR h t o k ka = some res → ka ((vw h).2.1 t o k) = some res) ∧ (∀ h t o, ln h t o = (vw h).2.2.1 t o) ∧ (∀ h t o k v, vw (wI h t o k v) = mv_setI (vw h) t o k v) ∧
  (∀ h t o k q ka res, wR h t o k q ka = some res → ∃ h', ka h' = some res ∧ vw h' = mv_setR (vw h) t o k q ∧ ∀ z, q = some z → z.2 < (vw h).2.2.2 z.1) ∧
  (∀ h t n ka res, nw h t n ka = some res → ∃ h', ka ((vw h).2.2.2 t) h' = some res ∧ vw h' = mv_mk (vw h) t n) ∧ (∀ h t o o' n z, vw (cp h t o o' n z) = mv_setC (vw h) t o o' n)
def mv_chkH (own name : String) (i : Instr) (len : Nat) (lk : List Nat) : Bool := match i with
  | .getfield x => (match lk with
    | 11 :: _ :: 3 :: _ :: a :: b :: _ => decide (len = 3) && wAt a b (.fieldLink own x "java/lang/String" "value" "[B")
    | 11 :: _ :: 4 :: _ :: a :: b :: _ => decide (len = 3) && wAt a b (.fieldLink own x "java/lang/String" "coder" "B")
    | ci :: f :: kd :: ne :: a :: b :: _ => decide (len = 3) && (decide (ci < 9) && (decide (f < mv_nf ci) && (decide (Nat.beq kd 1 = mv_isR ci f) && (match ne with
      | 0 => wAt a b (.fieldLink own x (mv_T ci f).1 (mv_T ci f).2.1 (mv_T ci f).2.2.1)
      | _ => decide ((own, x, (mv_T ci f).1, (mv_T ci f).2.1, (mv_T ci f).2.2.1) = ("IntentVats", 79, "IntentVats$Tape", "length", "I"))))))
    | _ => false)
  | .putfield x => (match lk with
    | ci :: f :: kd :: _ :: a :: b :: _ => decide (len = 3) && (decide (ci < 9) && (decide (f < mv_nf ci) && (decide (Nat.beq kd 1 = mv_isR ci f) && (decide (Nat.beq kd 2 = decide (mv_ty ci f = .boolean)) && (wAt a b (.fieldLink own x (mv_T ci f).1 (mv_T ci f).2.1 (mv_T ci f).2.2.1) && (!(mv_T ci f).2.2.2 || (decide (name = "<init>") && decide ((mv_T ci f).1 = own))))))))
    | _ => false)
  | .getstatic x => (match lk with
    | 13 :: a :: b :: _ => decide (len = 3) && wAt a b (.fieldLink own x "IntentVats$Acts" "BODIES" "[I")
    | 14 :: a :: b :: _ => decide (len = 3) && wAt a b (.fieldLink own x "jdk/internal/util/Preconditions" "SIOOBE_FORMATTER" "Ljava/util/function/BiFunction;")
    | 15 :: a :: b :: _ => decide (len = 3) && wAt a b (.fieldLink own x "java/lang/String" "COMPACT_STRINGS" "Z")
    | _ => false)
  | _ => decide (len = 1)
theorem mv_inb_in {i : Int32} {n : Nat} (h : mv_inb i n = true) : vp_in i n := by
  intro hn
  simp only [mv_inb, Bool.not_eq_true', Bool.or_eq_false_iff, decide_eq_false_iff_not] at h
  rcases hn with h1 | h1
  · exact h.1 h1
  · exact absurd (Nat.ble_eq.mpr h1) (by rw [h.2]; decide)
theorem mv_obj {cI cQ : ClassId} {φ : Nat → Nat → Nat} {g : mv_G} {t o : Nat} (h : t < 9) : mv_cell cI cQ φ g t o = .inr (t, (List.range (mv_nf t)).map (mv_fv φ g t o)) := if_pos h
theorem mv_ia_cell {cI cQ : ClassId} {φ : Nat → Nat → Nat} {g : mv_G} {t o : Nat} (h : mv_ia t = true) : mv_cell cI cQ φ g t o = .inl (cI, g.2.2.1 t o, .inl (g.1 t o)) := by
  simp only [mv_ia, Bool.and_eq_true, Bool.not_eq_true'] at h
  have h1 : 100 ≤ t := Nat.ble_eq.mp h.1
  unfold mv_cell
  rw [if_neg (by omega), if_neg (by rw [h.2]; decide)]
theorem mv_ra_cell {cI cQ : ClassId} {φ : Nat → Nat → Nat} {g : mv_G} {t o : Nat} (h : mv_ra t = true) : mv_cell cI cQ φ g t o = .inl (cQ, g.2.2.1 t o, .inr (.inr (.inr (.inr fun k => (g.2.1 t o k).map fun q => φ q.1 q.2)))) := by
  have h1 : ¬ t < 9 := by
    intro h2
    simp only [mv_ra, Bool.or_eq_true] at h
    rcases h with h | h
    · have := Nat.eq_of_beq_eq_true h; omega
    · have := Nat.eq_of_beq_eq_true h; omega
  unfold mv_cell
  rw [if_neg h1, if_pos h]
theorem mv_live.int {g : mv_G} {t o : Nat} (h : mv_live g (.inr (t, o))) (ht : t < 10 ∨ 100 ≤ t) : o < g.2.2.2 t := by
  rcases h with h | h
  · exact h
  · obtain ⟨a, b, -⟩ := h
    change 10 ≤ t at a
    change t < 100 at b
    omega
theorem mv_live.str {D : va_G} {cI cQ : ClassId} {q0 : Nat} {φ : Nat → Nat → Nat} {g : mv_G} {H : Heap} {t o : Nat} (hW : mv_W D cI cQ q0 φ g H) (h : mv_live g (.inr (t, o))) (ht : t = 11 ∨ t = 12) : o < 36 := by
  rcases h with h | h
  · have hz := hW.2.2.2.2.2 t (by omega) (by omega)
    change o < g.2.2.2 t at h
    omega
  · exact h.2.2 ht
theorem mv_ia_big {t : Nat} (h : mv_ia t = true) : 100 ≤ t := by
  simp only [mv_ia, Bool.and_eq_true] at h
  exact Nat.ble_eq.mp h.1
theorem mv_ra_big {t : Nat} (h : mv_ra t = true) : 100 ≤ t := by
  simp only [mv_ra, Bool.or_eq_true] at h
  rcases h with h | h
  · have := Nat.eq_of_beq_eq_true h; omega
  · have := Nat.eq_of_beq_eq_true h; omega
theorem mv_live.cnt {g g' : mv_G} (hc : g'.2.2.2 = g.2.2.2) {v : mv_V} (h : mv_live g v) : mv_live g' v := by
  cases v with
  | inl _ => trivial
  | inr q =>
    show q.2 < g'.2.2.2 q.1 ∨ _
    rw [hc]; exact h
theorem mv_set_range {α : Type} (f f' : Nat → α) (k N : Nat) (v : α) (h1 : f' k = v) (h2 : ∀ j, j ≠ k → f' j = f j) : ((List.range N).map f).set k v = (List.range N).map f' := by
  apply List.ext_getElem?
  intro j
  rw [List.getElem?_set]
  by_cases e : k = j
  · subst e
    rw [if_pos rfl, List.getElem?_map, List.length_map, List.length_range]
    by_cases hk : k < N
    · rw [if_pos hk, List.getElem?_range hk]
      exact congrArg some h1.symm
    · rw [if_neg hk, List.getElem?_eq_none (by rw [List.length_range]; omega)]
      rfl
  · rw [if_neg e, List.getElem?_map, List.getElem?_map]
    by_cases hj : j < N
    · rw [List.getElem?_range hj]
      exact congrArg some (h2 j (Ne.symm e)).symm
    · rw [List.getElem?_eq_none (by rw [List.length_range]; omega)]
      rfl
theorem mv_isR_ref : ∀ t, t < 9 → ∀ f, f < mv_nf t → mv_isR t f = true → (mv_ty t f).isReference = true := by decide +kernel
theorem mv_isR_int {t f : Nat} (h : mv_isR t f = false) (h2 : ¬ mv_ty t f = .boolean) : mv_ty t f = .int := by
  unfold mv_isR at h
  split at h
  · next e => exact e
  · next e => exact absurd e h2
  · cases h
theorem mv_nar_ref (ty : FieldType) (a : Nat) : narrow ty (.ref a) = .ref a := by cases ty <;> rfl
theorem mv_nar_null (ty : FieldType) : narrow ty .null = .null := by cases ty <;> rfl
theorem mv_fit_ref (ty : FieldType) (a : Nat) (h : ty.isReference = true) : fits ty (.ref a) = true := by cases ty <;> first | rfl | cases h
theorem mv_fit_null (ty : FieldType) (h : ty.isReference = true) : fits ty .null = true := by cases ty <;> first | rfl | cases h
section
variable {Hp : Type} {rI : Hp → Nat → Nat → Nat → Int32} {rR : Hp → Nat → Nat → Nat → (Option (Nat × Nat) → Option (List mv_V × Hp)) → Option (List mv_V × Hp)} {ln : Hp → Nat → Nat → Nat} {wI : Hp → Nat → Nat → Nat → Int32 → Hp} {wR : Hp → Nat → Nat → Nat → Option (Nat × Nat) → (Hp → Option (List mv_V × Hp)) → Option (List mv_V × Hp)} {nw : Hp → Nat → Nat → (Nat → Hp → Option (List mv_V × Hp)) → Option (List mv_V × Hp)} {cp : Hp → Nat → Nat → Nat → Nat → Nat → Hp} {vw : Hp → mv_G}
variable {p : Program} {l : Launch} {e : Env} {R : Room} {s : State} {m : MethodId} {args : Array Value} {below : List Frame} {meth : Method} {c : Code} {H : Heap} {locs : List Loc} {cells slots : Nat} {Q : State → Prop} {pc : Nat} {ls : Array Slot} {φ φ0 : Nat → Nat → Nat} {md : mv_MD} {n MC MS : Nat} {sc : Option (Nat × (Nat → Int32))} {D : va_G} {cI cQ : ClassId} {q0 : Nat}
set_option maxHeartbeats 8000000 in
theorem mv_hop_sound (hA : mv_Ax rI rR ln wI wR nw cp vw) (hB : mv_B md n MC MS sc p R s m args meth c D cI cQ q0 φ0) (hφ : ∀ t o, 10 ≤ t → t < 100 → φ t o = φ0 t o) {i : Instr} {len : Nat} {lk : List Nat} (hd : decode md.2.1 pc = .ok (i, len)) (hc : mv_chkH md.1.cls md.1.name i len lk = true)
    {st : List mv_V} {h : Hp} {k : List mv_V → Hp → Option (List mv_V × Hp)} {res : List mv_V × Hp} (hh : mv_hop rI rR ln wI wR bod sc i lk st h k = some res) (hv : ∀ v ∈ st, mv_live (vw h) v) (hW : mv_W D cI cQ q0 φ (vw h) H) (hS : va_S (fun q => q0 ≤ q) s.heap H locs)
    (kk : ∀ st' h' H' locs', k st' h' = some res → (∀ v ∈ st', mv_live (vw h') v) → (vw h').2.2.2 = (vw h).2.2.2 → mv_W D cI cQ q0 φ (vw h') H' → va_S (fun q => q0 ≤ q) s.heap H' locs' → W p l e R s m args below meth c H' locs' cells slots Q (F0 m (pc + len) ls (st'.map (mv_v φ)))) : W p l e R s m args below meth c H locs cells slots Q (F0 m pc ls (st.map (mv_v φ))) := by
  obtain ⟨hx, hb, hml, hown, hnm, hts, hK, hq0, hR, hE, hScr⟩ := hB
  obtain ⟨aI, aR, aL, aW, aV, aN, aC⟩ := hA
  obtain ⟨ws, hP, hDw, hcov⟩ := mv_cover hW
  unfold mv_hop at hh
  split at hh
  · -- getfield
    split at hh
    · next ci f kd rest =>
      split at hh
      · next t o st =>
        split at hh
        · next hteq =>
          have hteq := Nat.eq_of_beq_eq_true hteq
          subst hteq
          simp only [mv_chkH] at hc
          split at hc
          · next heq =>
            cases heq
            simp only [Bool.and_eq_true, decide_eq_true_eq] at hc
            obtain ⟨rfl, hl⟩ := hc
            obtain ⟨hv0, hv1⟩ := List.forall_mem_cons.mp hv
            have ho := mv_live.str hW hv0 (Or.inl rfl)
            have hOF := (hE.2.1 o ho).2.2.1
            have h5 := kk _ _ _ _ hh (List.forall_mem_cons.mpr ⟨Or.inr ⟨show 10 ≤ 12 by decide, show 12 < 100 by decide, fun _ => ho⟩, hv1⟩) rfl hW hS
            have h6 := va_getX (p := p) (l := l) (e := e) (R := R) (m := m) (args := args) (below := below) (meth := meth) (cells := cells) (slots := slots) (Q := Q) (ls := ls) (rest := st.map (mv_v φ)) (N := 1) (v := fun _ => .ref (φ0 12 o)) (ad := fun _ => φ0 11 o) (i := 0) hx hb (fun _ _ => hOF) (by decide) hS hown (hts _ (wAt_in hl)) (fun _ h9 => h9) hd (by rw [← hφ 12 o (by decide) (by decide)]; exact h5)
            rw [← hφ 11 o (by decide) (by decide)] at h6
            exact h6
          · next heq =>
            cases heq
            simp only [Bool.and_eq_true, decide_eq_true_eq] at hc
            obtain ⟨rfl, hl⟩ := hc
            obtain ⟨hv0, hv1⟩ := List.forall_mem_cons.mp hv
            have ho := mv_live.str hW hv0 (Or.inl rfl)
            have hOF := (hE.2.1 o ho).2.1
            have h5 := kk _ _ _ _ hh (List.forall_mem_cons.mpr ⟨trivial, hv1⟩) rfl hW hS
            have h6 := va_getX (p := p) (l := l) (e := e) (R := R) (m := m) (args := args) (below := below) (meth := meth) (cells := cells) (slots := slots) (Q := Q) (ls := ls) (rest := st.map (mv_v φ)) (N := 1) (v := fun _ => .int 0) (ad := fun _ => φ0 11 o) (i := 0) hx hb (fun _ _ => hOF) (by decide) hS hown (hts _ (wAt_in hl)) (fun _ h9 => h9) hd h5
            rw [← hφ 11 o (by decide) (by decide)] at h6
            exact h6
          · next heq =>
            cases heq
            simp only [Bool.and_eq_true, decide_eq_true_eq] at hc
            obtain ⟨rfl, hci, hf, hkd, hl⟩ := hc
            obtain ⟨hv0, hv1⟩ := List.forall_mem_cons.mp hv
            have hlo := hv0.int (Or.inl (by omega))
            obtain ⟨p0, hp0⟩ := hcov t o hlo
            rw [mv_obj hci] at hp0
            have hfs : ((List.range (mv_nf t)).map (mv_fv φ (vw h) t o))[f]? = some (mv_fv φ (vw h) t o f) := by
              rw [List.getElem?_map, List.getElem?_range hf]; rfl
            have hgo : ∀ (kk2 : W p l e R s m args below meth c H locs cells slots Q (F0 m (pc + 3) ls (mv_fv φ (vw h) t o f :: st.map (mv_v φ)))), W p l e R s m args below meth c H locs cells slots Q (F0 m pc ls (.ref (φ t o) :: st.map (mv_v φ))) := by
              intro kk2
              split at hl
              · exact va_get hx hb hts (mv_wsin t hci) hown hK hP p0 hp0 (mv_clOf t hci) f hf (hts _ (wAt_in hl)) (fun _ h9 => h9) hfs hd kk2
              · have hl := of_decide_eq_true hl
                simp only [Prod.mk.injEq] at hl
                obtain ⟨e1, e2, e3, e4, e5⟩ := hl
                have hnw := va_Nw.use (A := args) rfl hE.2.2.2.2.2.2.2
                rw [← e1, ← e2, ← e3, ← e4, ← e5] at hnw
                exact va_getN hx hb hts (mv_wsin t hci) hown hK hP p0 hp0 (mv_clOf t hci) f hf hnw (fun _ h9 => h9) hfs hd kk2
            refine hgo ?_
            split at hh
            · next hk1 =>
              rw [hk1] at hkd
              have h3 := aR _ _ _ _ _ _ hh
              unfold mv_fv
              rw [← hkd]
              cases hr : (vw h).2.1 t o f with
              | none => rw [hr] at h3; exact kk _ _ _ _ h3 (List.forall_mem_cons.mpr ⟨trivial, hv1⟩) rfl hW hS
              | some z => rw [hr] at h3; exact kk _ _ _ _ h3 (List.forall_mem_cons.mpr ⟨Or.inl (hW.2.2.2.1 _ _ _ _ hlo hr), hv1⟩) rfl hW hS
            · next hk1 =>
              rw [hk1] at hkd
              unfold mv_fv
              rw [← hkd, ← aI]
              split at hh
              · next h11 =>
                have := Nat.eq_of_beq_eq_true h11
                omega
              · exact kk _ _ _ _ hh (List.forall_mem_cons.mpr ⟨trivial, hv1⟩) rfl hW hS
          · cases hc
        · cases hh
      · cases hh
    · cases hh
  · -- putfield
    split at hh
    · next ci f kd rest =>
      simp only [mv_chkH] at hc
      split at hc
      · next heq =>
        cases heq
        simp only [Bool.and_eq_true, decide_eq_true_eq] at hc
        obtain ⟨rfl, hci, hf, hkd, hkb, hl, hfin⟩ := hc
        -- the row, for any value of the field's type
        have hput : ∀ (o : Nat) (h' : Hp) (v : Value) (rst : List Value), o < (vw h).2.2.2 ci → narrow (mv_ty ci f) v = v → fits (mv_ty ci f) v = true → mv_fv φ (vw h') ci o f = v → (∀ j, j ≠ f → mv_fv φ (vw h') ci o j = mv_fv φ (vw h) ci o j) → (∀ t' o', ¬ (t' = ci ∧ o' = o) → mv_cell cI cQ φ (vw h') t' o' = mv_cell cI cQ φ (vw h) t' o') → (vw h').2.2.2 = (vw h).2.2.2 → (∀ t o k q, o < (vw h).2.2.2 t → (vw h').2.1 t o k = some q → q.2 < (vw h).2.2.2 q.1) →
            (∀ H1 locs1, mv_W D cI cQ q0 φ (vw h') H1 → va_S (fun q => q0 ≤ q) s.heap H1 locs1 → W p l e R s m args below meth c H1 locs1 cells slots Q (F0 m (pc + 3) ls rst)) → W p l e R s m args below meth c H locs cells slots Q (F0 m pc ls (v :: .ref (φ ci o) :: rst)) := by
          intro o h' v rst hlo hn hfit h1 h2 h3 h4 h5 k2
          obtain ⟨p0, hp0⟩ := hcov ci o hlo
          rw [mv_obj hci] at hp0
          have hlen : f < ((List.range (mv_nf ci)).map (mv_fv φ (vw h) ci o)).length := by rw [List.length_map, List.length_range]; exact hf
          have hgo : ∀ (H1 : Heap) (locs1 : List Loc), va_P D vwCl (ws.set p0 (φ ci o, .inr (ci, ((List.range (mv_nf ci)).map (mv_fv φ (vw h) ci o)).set f v))) H1 → va_D (fun q => q0 ≤ q) (ws.set p0 (φ ci o, .inr (ci, ((List.range (mv_nf ci)).map (mv_fv φ (vw h) ci o)).set f v))) → va_S (fun q => q0 ≤ q) s.heap H1 locs1 → W p l e R s m args below meth c H1 locs1 cells slots Q (F0 m (pc + 3) ls rst) := by
            intro H1 locs1 hP1 _ hS1
            refine k2 H1 locs1 (hW.set hcov hp0 hlo hP1 ?_ (fun t' o' _ hne => h3 t' o' hne) h4 h5) hS1
            rw [mv_obj hci, mv_set_range _ _ _ _ _ h1 h2]
          cases hf2 : (mv_T ci f).2.2.2 with
          | false => exact va_put hx hb hts (mv_wsin ci hci) (mv_ty ci) (mv_tyok ci hci) (mv_nm ci hci) hown hK hP hDw hS p0 hp0 (mv_clOf ci hci) f hf (hts _ (wAt_in hl)) (fun _ h9 => h9) hf2 (mv_tyok ci hci f hf) hn hfit hlen hd hgo
          | true =>
            rw [hf2] at hfin
            simp only [Bool.not_true, Bool.false_or, Bool.and_eq_true, decide_eq_true_eq] at hfin
            exact va_putF hx hb hts (mv_wsin ci hci) (mv_ty ci) (mv_tyok ci hci) (mv_nm ci hci) hown hK hP hDw hS p0 hp0 (mv_clOf ci hci) f hf (hts _ (wAt_in hl)) (fun _ h9 => h9) hf2 (hnm.trans hfin.1) hfin.2 (mv_tyok ci hci f hf) hn hfit hlen hd hgo
        split at hh
        · next hk1 =>
          rw [hk1] at hkd
          have hrf := mv_isR_ref ci hci f hf hkd.symm
          split at hh
          · next q t o st =>
            split at hh
            · next hteq =>
              have hteq := Nat.eq_of_beq_eq_true hteq
              subst hteq
              obtain ⟨hq1, hv1⟩ := List.forall_mem_cons.mp hv
              obtain ⟨hv0, hv2⟩ := List.forall_mem_cons.mp hv1
              have hlo := hv0.int (Or.inl (by omega))
              obtain ⟨h', h3, h4, h5⟩ := aV _ _ _ _ _ _ _ hh
              refine hput o h' (.ref (φ q.1 q.2)) _ hlo (mv_nar_ref _ _) (mv_fit_ref _ _ hrf) ?_ ?_ ?_ (by rw [h4]; rfl) ?_ fun H1 locs1 hW1 hS1 => kk _ _ _ _ h3 (fun v hv => (hv2 v hv).cnt (by rw [h4]; rfl)) (by rw [h4]; rfl) hW1 hS1
              · rw [h4]
                unfold mv_fv
                rw [← hkd]
                show va_rf ((if t = t ∧ o = o ∧ f = f then some q else _).map _) = _
                rw [if_pos ⟨rfl, rfl, rfl⟩]
                rfl
              · intro j hj
                rw [h4]
                unfold mv_fv
                show (match mv_isR t j with | true => va_rf ((if t = t ∧ o = o ∧ j = f then some q else (vw h).2.1 t o j).map _) | false => _) = _
                rw [if_neg (fun z => hj z.2.2)]
                rfl
              · intro t' o' hne
                rw [h4]
                refine mv_cell_congr (fun _ => rfl) (fun k => ?_) rfl
                show (if t' = t ∧ o' = o ∧ k = f then some q else (vw h).2.1 t' o' k).map _ = _
                rw [if_neg (fun z => hne ⟨z.1, z.2.1⟩)]
              · intro t1 o1 k1 z hlt hz
                rw [h4] at hz
                change (if t1 = t ∧ o1 = o ∧ k1 = f then some q else (vw h).2.1 t1 o1 k1) = some z at hz
                split at hz
                · cases hz; exact h5 _ rfl
                · exact hW.2.2.2.1 _ _ _ _ hlt hz
            · cases hh
          · next t o st =>
            split at hh
            · next hteq =>
              have hteq := Nat.eq_of_beq_eq_true hteq
              subst hteq
              obtain ⟨-, hv1⟩ := List.forall_mem_cons.mp hv
              obtain ⟨hv0, hv2⟩ := List.forall_mem_cons.mp hv1
              have hlo := hv0.int (Or.inl (by omega))
              obtain ⟨h', h3, h4, h5⟩ := aV _ _ _ _ _ _ _ hh
              refine hput o h' .null _ hlo (mv_nar_null _) (mv_fit_null _ hrf) ?_ ?_ ?_ (by rw [h4]; rfl) ?_ fun H1 locs1 hW1 hS1 => kk _ _ _ _ h3 (fun v hv => (hv2 v hv).cnt (by rw [h4]; rfl)) (by rw [h4]; rfl) hW1 hS1
              · rw [h4]
                unfold mv_fv
                rw [← hkd]
                show va_rf ((if t = t ∧ o = o ∧ f = f then none else _).map _) = _
                rw [if_pos ⟨rfl, rfl, rfl⟩]
                rfl
              · intro j hj
                rw [h4]
                unfold mv_fv
                show (match mv_isR t j with | true => va_rf ((if t = t ∧ o = o ∧ j = f then none else (vw h).2.1 t o j).map _) | false => _) = _
                rw [if_neg (fun z => hj z.2.2)]
                rfl
              · intro t' o' hne
                rw [h4]
                refine mv_cell_congr (fun _ => rfl) (fun k => ?_) rfl
                show (if t' = t ∧ o' = o ∧ k = f then none else (vw h).2.1 t' o' k).map _ = _
                rw [if_neg (fun z => hne ⟨z.1, z.2.1⟩)]
              · intro t1 o1 k1 z hlt hz
                rw [h4] at hz
                change (if t1 = t ∧ o1 = o ∧ k1 = f then none else (vw h).2.1 t1 o1 k1) = some z at hz
                split at hz
                · cases hz
                · exact hW.2.2.2.1 _ _ _ _ hlt hz
            · cases hh
          · cases hh
        · next hk1 =>
          rw [hk1] at hkd
          split at hh
          · next x t o st =>
            split at hh
            · next hteq =>
              have hteq := Nat.eq_of_beq_eq_true hteq
              subst hteq
              obtain ⟨-, hv1⟩ := List.forall_mem_cons.mp hv
              obtain ⟨hv0, hv2⟩ := List.forall_mem_cons.mp hv1
              have hlo := hv0.int (Or.inl (by omega))
              have hall : mv_bh (wI h t o f x) (fun h => k st h) = some res → narrow (mv_ty t f) (.int x) = .int x → fits (mv_ty t f) (.int x) = true → W p l e R s m args below meth c H locs cells slots Q (F0 m pc ls (List.map (mv_v φ) (.inl (.int x) :: .inr (t, o) :: st))) := by
                intro h3 hn hfit
                have h4 := aW h t o f x
                refine hput o (wI h t o f x) (.int x) _ hlo hn hfit ?_ ?_ ?_ (by rw [h4]; rfl) ?_ fun H1 locs1 hW1 hS1 => kk _ _ _ _ h3 (fun v hv => (hv2 v hv).cnt (by rw [h4]; rfl)) (by rw [h4]; rfl) hW1 hS1
                · rw [h4]
                  unfold mv_fv
                  rw [← hkd]
                  show Value.int (if t = t ∧ o = o ∧ f = f then x else _) = _
                  rw [if_pos ⟨rfl, rfl, rfl⟩]
                · intro j hj
                  rw [h4]
                  unfold mv_fv
                  show (match mv_isR t j with | true => _ | false => Value.int (if t = t ∧ o = o ∧ j = f then x else (vw h).1 t o j)) = _
                  rw [if_neg (fun z => hj z.2.2)]
                  rfl
                · intro t' o' hne
                  rw [h4]
                  refine mv_cell_congr (fun k => ?_) (fun _ => rfl) rfl
                  show (if t' = t ∧ o' = o ∧ k = f then x else (vw h).1 t' o' k) = _
                  rw [if_neg (fun z => hne ⟨z.1, z.2.1⟩)]
                · intro t1 o1 k1 z hlt hz
                  rw [h4] at hz
                  exact hW.2.2.2.1 _ _ _ _ hlt hz
              split at hh
              · next hk2 =>
                rw [hk2] at hkb
                obtain ⟨hg, hh⟩ := mv_gd_some hh
                have hty : mv_ty t f = .boolean := of_decide_eq_true hkb.symm
                simp only [Bool.or_eq_true, decide_eq_true_eq] at hg
                rcases hg with rfl | rfl
                · exact hall hh (by rw [hty]; rfl) (by rw [hty]; rfl)
                · exact hall hh (by rw [hty]; rfl) (by rw [hty]; rfl)
              · next hk2 =>
                rw [hk2] at hkb
                have hty : mv_ty t f = .int := mv_isR_int hkd.symm (of_decide_eq_false hkb.symm)
                exact hall hh (by rw [hty]; rfl) (by rw [hty]; rfl)
            · cases hh
          · cases hh
      · cases hc
    · cases hh
  · -- iaload
    simp only [mv_chkH, decide_eq_true_eq] at hc
    subst hc
    split at hh
    · next x t o st =>
      obtain ⟨-, hv1⟩ := List.forall_mem_cons.mp hv
      obtain ⟨hv0, hv2⟩ := List.forall_mem_cons.mp hv1
      split at hh
      · next ht =>
        simp only [Bool.and_eq_true] at ht
        have h1 := Nat.eq_of_beq_eq_true ht.1
        have h2 := Nat.eq_of_beq_eq_true ht.2
        subst h1; subst h2
        split at hh
        · next q =>
          obtain ⟨hg, hh⟩ := mv_gd_some hh
          obtain ⟨s1, s2, s3⟩ := hScr q rfl
          have h3 := va_sld (p := p) (l := l) (e := e) (R := R) (m := m) (args := args) (below := below) (meth := meth) (cells := cells) (slots := slots) (Q := Q) (ls := ls) (rest := st.map (mv_v φ)) hx hb s1 s2 s3 hS (mv_inb_in hg) hd (kk _ _ _ _ hh (List.forall_mem_cons.mpr ⟨trivial, hv2⟩) rfl hW hS)
          rw [← hφ 10 0 (by decide) (by decide)] at h3
          exact h3
        · cases hh
      · split at hh
        · next ht =>
          simp only [Bool.and_eq_true] at ht
          have h1 := Nat.eq_of_beq_eq_true ht.1
          have h2 := Nat.eq_of_beq_eq_true ht.2
          subst h1; subst h2
          obtain ⟨hg, hh⟩ := mv_gd_some hh
          have h3 := va_ti (p := p) (l := l) (e := e) (R := R) (m := m) (args := args) (below := below) (meth := meth) (cells := cells) (slots := slots) (Q := Q) (ls := ls) (rest := st.map (mv_v φ)) hx hb hE.2.2.2.1 hS (mv_inb_in hg) rfl hd (kk _ _ _ _ hh (List.forall_mem_cons.mpr ⟨trivial, hv2⟩) rfl hW hS)
          rw [← hφ 13 0 (by decide) (by decide)] at h3
          exact h3
        · split at hh
          · next hia =>
            obtain ⟨hg, hh⟩ := mv_gd_some hh
            have hlo := hv0.int (Or.inr (mv_ia_big hia))
            have hat := hW.1 t o hlo
            rw [mv_ia_cell hia] at hat
            rw [aL] at hg
            rw [aI] at hh
            exact va_iald hx hb hK (mv_single hat) 0 0 rfl rfl (mv_inb_in hg) hd (kk _ _ _ _ hh (List.forall_mem_cons.mpr ⟨trivial, hv2⟩) rfl hW hS)
          · cases hh
    · cases hh
  · -- iastore
    simp only [mv_chkH, decide_eq_true_eq] at hc
    subst hc
    split at hh
    · next v x t o st =>
      obtain ⟨-, hv1⟩ := List.forall_mem_cons.mp hv
      obtain ⟨-, hv2⟩ := List.forall_mem_cons.mp hv1
      obtain ⟨hv0, hv3⟩ := List.forall_mem_cons.mp hv2
      split at hh
      · next hia =>
        obtain ⟨hg, hh⟩ := mv_gd_some hh
        have hlo := hv0.int (Or.inr (mv_ia_big hia))
        obtain ⟨p0, hp0⟩ := hcov t o hlo
        rw [mv_ia_cell hia] at hp0
        rw [aL] at hg
        have h4 := aW h t o x.toNatClampNeg v
        refine va_iast hx hb hK hP hDw hS p0 0 hp0 rfl (mv_inb_in hg) hd fun H1 locs1 hP1 _ hS1 => ?_
        refine kk _ _ _ _ hh (fun v hv => (hv3 v hv).cnt (by rw [h4]; rfl)) (by rw [h4]; rfl) (hW.set hcov hp0 hlo hP1 ?_ (fun t' o' _ hne => ?_) (by rw [h4]; rfl) ?_) hS1
        · rw [mv_ia_cell hia, h4]
          have : (mv_setI (vw h) t o x.toNatClampNeg v).1 t o = upd ((vw h).1 t o) x.toNatClampNeg v := by
            funext j
            show (if t = t ∧ o = o ∧ j = x.toNatClampNeg then v else (vw h).1 t o j) = _
            by_cases hj : j = x.toNatClampNeg
            · rw [if_pos ⟨rfl, rfl, hj⟩]; simp [upd, hj]
            · rw [if_neg (fun z => hj z.2.2)]; simp [upd, hj]
          rw [this]
          rfl
        · rw [h4]
          refine mv_cell_congr (fun k => ?_) (fun _ => rfl) rfl
          show (if t' = t ∧ o' = o ∧ k = x.toNatClampNeg then v else (vw h).1 t' o' k) = _
          rw [if_neg (fun z => hne ⟨z.1, z.2.1⟩)]
        · intro t1 o1 k1 z hlt hz
          rw [h4] at hz
          exact hW.2.2.2.1 _ _ _ _ hlt hz
      · cases hh
    · cases hh
  · -- aaload
    simp only [mv_chkH, decide_eq_true_eq] at hc
    subst hc
    split at hh
    · next x t o st =>
      obtain ⟨-, hv1⟩ := List.forall_mem_cons.mp hv
      obtain ⟨hv0, hv2⟩ := List.forall_mem_cons.mp hv1
      split at hh
      · next hra =>
        obtain ⟨hg, hh⟩ := mv_gd_some hh
        have hlo := hv0.int (Or.inr (mv_ra_big hra))
        have hat := hW.1 t o hlo
        rw [mv_ra_cell hra] at hat
        rw [aL] at hg
        have h3 := aR _ _ _ _ _ _ hh
        refine va_aldq hx hb hK (mv_single hat) 0 1 rfl rfl (mv_inb_in hg) hd ?_
        cases hr : (vw h).2.1 t o x.toNatClampNeg with
        | none => rw [hr] at h3; exact kk _ _ _ _ h3 (List.forall_mem_cons.mpr ⟨trivial, hv2⟩) rfl hW hS
        | some z => rw [hr] at h3; exact kk _ _ _ _ h3 (List.forall_mem_cons.mpr ⟨Or.inl (hW.2.2.2.1 _ _ _ _ hlo hr), hv2⟩) rfl hW hS
      · cases hh
    · cases hh
  · -- aastore
    simp only [mv_chkH, decide_eq_true_eq] at hc
    subst hc
    have hset : ∀ (t o j : Nat) (q : Option (Nat × Nat)) (h' : Hp), mv_ra t = true → vw h' = mv_setR (vw h) t o j q → mv_cell cI cQ φ (vw h') t o = .inl (cQ, (vw h).2.2.1 t o, .inr (.inr (.inr (.inr (va_up (fun k => ((vw h).2.1 t o k).map fun q => φ q.1 q.2) j (q.map fun q => φ q.1 q.2)))))) := by
      intro t o j q h' hra h4
      rw [mv_ra_cell hra, h4]
      have : (fun k => ((mv_setR (vw h) t o j q).2.1 t o k).map fun q => φ q.1 q.2) = va_up (fun k => ((vw h).2.1 t o k).map fun q => φ q.1 q.2) j (q.map fun q => φ q.1 q.2) := by
        funext k
        show (if t = t ∧ o = o ∧ k = j then q else (vw h).2.1 t o k).map _ = _
        by_cases hj : k = j
        · rw [if_pos ⟨rfl, rfl, hj⟩]; simp [va_up, hj]
        · rw [if_neg (fun z => hj z.2.2)]; simp [va_up, hj]
      rw [this]
      rfl
    have hoth : ∀ (t o j : Nat) (q : Option (Nat × Nat)) (h' : Hp), vw h' = mv_setR (vw h) t o j q → ∀ t' o', ¬ (t' = t ∧ o' = o) → mv_cell cI cQ φ (vw h') t' o' = mv_cell cI cQ φ (vw h) t' o' := by
      intro t o j q h' h4 t' o' hne
      rw [h4]
      refine mv_cell_congr (fun _ => rfl) (fun k => ?_) rfl
      show (if t' = t ∧ o' = o ∧ k = j then q else (vw h).2.1 t' o' k).map _ = _
      rw [if_neg (fun z => hne ⟨z.1, z.2.1⟩)]
    have hcls : ∀ (t o j : Nat) (q : Option (Nat × Nat)) (h' : Hp), vw h' = mv_setR (vw h) t o j q → (∀ z, q = some z → z.2 < (vw h).2.2.2 z.1) → ∀ t o k q, o < (vw h).2.2.2 t → (vw h').2.1 t o k = some q → q.2 < (vw h).2.2.2 q.1 := by
      intro t o j q h' h4 h5 t1 o1 k1 z hlt hz
      rw [h4] at hz
      change (if t1 = t ∧ o1 = o ∧ k1 = j then q else (vw h).2.1 t1 o1 k1) = some z at hz
      split at hz
      · exact h5 _ hz
      · exact hW.2.2.2.1 _ _ _ _ hlt hz
    split at hh
    · next u z x t o st =>
      obtain ⟨hvu, hv1⟩ := List.forall_mem_cons.mp hv
      obtain ⟨-, hv2⟩ := List.forall_mem_cons.mp hv1
      obtain ⟨hv0, hv3⟩ := List.forall_mem_cons.mp hv2
      split at hh
      · next hra =>
        simp only [Bool.and_eq_true] at hra
        obtain ⟨hra, hu⟩ := hra
        have hu := Nat.eq_of_beq_eq_true hu
        subst hu
        obtain ⟨hg, hh⟩ := mv_gd_some hh
        have hlo := hv0.int (Or.inr (mv_ra_big hra))
        have hlu := hvu.int (Or.inl (by decide))
        obtain ⟨p0, hp0⟩ := hcov t o hlo
        rw [mv_ra_cell hra] at hp0
        obtain ⟨p1, hp1⟩ := hcov 4 z hlu
        rw [mv_obj (by decide)] at hp1
        rw [aL] at hg
        obtain ⟨h', h3, h4, h5⟩ := aV _ _ _ _ _ _ _ hh
        refine va_astq (r := (mv_R 4, mv_T 4, mv_nf 4)) hx hb hK hP hDw hS p0 1 p1 4 hp0 rfl hp1 (mv_clOf 4 (by decide)) (mv_inb_in hg) hd fun H1 locs1 hP1 _ hS1 => ?_
        exact kk _ _ _ _ h3 (fun v hv => (hv3 v hv).cnt (by rw [h4]; rfl)) (by rw [h4]; rfl) (hW.set hcov hp0 hlo hP1 (hset _ _ _ _ _ hra h4) (fun t' o' _ hne => hoth _ _ _ _ _ h4 t' o' hne) (by rw [h4]; rfl) (hcls _ _ _ _ _ h4 h5)) hS1
      · cases hh
    · next x t o st =>
      obtain ⟨-, hv1⟩ := List.forall_mem_cons.mp hv
      obtain ⟨-, hv2⟩ := List.forall_mem_cons.mp hv1
      obtain ⟨hv0, hv3⟩ := List.forall_mem_cons.mp hv2
      split at hh
      · next hra =>
        obtain ⟨hg, hh⟩ := mv_gd_some hh
        have hlo := hv0.int (Or.inr (mv_ra_big hra))
        obtain ⟨p0, hp0⟩ := hcov t o hlo
        rw [mv_ra_cell hra] at hp0
        rw [aL] at hg
        obtain ⟨h', h3, h4, h5⟩ := aV _ _ _ _ _ _ _ hh
        refine va_astqN hx hb hK hP hDw hS p0 1 hp0 rfl (mv_inb_in hg) hd fun H1 locs1 hP1 _ hS1 => ?_
        exact kk _ _ _ _ h3 (fun v hv => (hv3 v hv).cnt (by rw [h4]; rfl)) (by rw [h4]; rfl) (hW.set hcov hp0 hlo hP1 (hset _ _ _ _ _ hra h4) (fun t' o' _ hne => hoth _ _ _ _ _ h4 t' o' hne) (by rw [h4]; rfl) (hcls _ _ _ _ _ h4 h5)) hS1
      · cases hh
    · cases hh
  · -- arraylength
    simp only [mv_chkH, decide_eq_true_eq] at hc
    subst hc
    split at hh
    · next t o st =>
      obtain ⟨hv0, hv1⟩ := List.forall_mem_cons.mp hv
      split at hh
      · next ht =>
        simp only [Bool.and_eq_true] at ht
        have h1 := Nat.eq_of_beq_eq_true ht.1
        have h2 := Nat.eq_of_beq_eq_true ht.2
        subst h1; subst h2
        split at hh
        · next q =>
          obtain ⟨s1, s2, s3⟩ := hScr q rfl
          have h3 := va_slen (p := p) (l := l) (e := e) (R := R) (m := m) (args := args) (below := below) (meth := meth) (cells := cells) (slots := slots) (Q := Q) (ls := ls) (rest := st.map (mv_v φ)) hx hb s1 s2 s3 hS hd (kk _ _ _ _ hh (List.forall_mem_cons.mpr ⟨trivial, hv1⟩) rfl hW hS)
          rw [← hφ 10 0 (by decide) (by decide)] at h3
          exact h3
        · cases hh
      · split at hh
        · next h12 =>
          have h1 := Nat.eq_of_beq_eq_true h12
          subst h1
          have ho := mv_live.str hW hv0 (Or.inr rfl)
          have h3 := va_tlen (p := p) (l := l) (e := e) (R := R) (m := m) (args := args) (below := below) (meth := meth) (cells := cells) (slots := slots) (Q := Q) (ls := ls) (rest := st.map (mv_v φ)) hx hb (hE.2.1 o ho).2.2.2 hS rfl hd (kk _ _ _ _ hh (List.forall_mem_cons.mpr ⟨trivial, hv1⟩) rfl hW hS)
          rw [← hφ 12 o (by decide) (by decide)] at h3
          exact h3
        split at hh
        · next h100 =>
          have h100 := Nat.ble_eq.mp h100
          have hlo := hv0.int (Or.inr h100)
          have hat := hW.1 t o hlo
          rw [aL] at hh
          cases hra : mv_ra t with
          | true =>
            rw [mv_ra_cell hra] at hat
            exact va_alen hx hb hK (mv_single hat) 0 1 rfl rfl rfl hd (kk _ _ _ _ hh (List.forall_mem_cons.mpr ⟨trivial, hv1⟩) rfl hW hS)
          | false =>
            have hia : mv_ia t = true := by unfold mv_ia; rw [hra, Nat.ble_eq.mpr h100]; rfl
            rw [mv_ia_cell hia] at hat
            exact va_alen hx hb hK (mv_single hat) 0 0 rfl rfl rfl hd (kk _ _ _ _ hh (List.forall_mem_cons.mpr ⟨trivial, hv1⟩) rfl hW hS)
        · cases hh
    · cases hh
  · -- baload
    simp only [mv_chkH, decide_eq_true_eq] at hc
    subst hc
    split at hh
    · next x t o st =>
      obtain ⟨-, hv1⟩ := List.forall_mem_cons.mp hv
      obtain ⟨hv0, hv2⟩ := List.forall_mem_cons.mp hv1
      split at hh
      · next h12 =>
        have h1 := Nat.eq_of_beq_eq_true h12
        subst h1
        have ho := mv_live.str hW hv0 (Or.inr rfl)
        obtain ⟨hg, hh2⟩ := mv_gd_some hh
        have h3 := va_tb (p := p) (l := l) (e := e) (R := R) (m := m) (args := args) (below := below) (meth := meth) (cells := cells) (slots := slots) (Q := Q) (ls := ls) (rest := st.map (mv_v φ)) hx hb (hE.2.1 o ho).2.2.2 hS (mv_inb_in hg) rfl hd (kk _ _ _ _ hh2 (List.forall_mem_cons.mpr ⟨trivial, hv2⟩) rfl hW hS)
        rw [← hφ 12 o (by decide) (by decide)] at h3
        exact h3
      · cases hh
    · cases hh
  · -- getstatic
    split at hh
    · next t rest =>
      split at hh
      · next ht =>
        have ht2 := Nat.eq_of_beq_eq_true ht
        subst ht2
        simp only [mv_chkH] at hc
        split at hc
        · next heq =>
          cases heq
          simp only [Bool.and_eq_true, decide_eq_true_eq] at hc
          obtain ⟨rfl, hl⟩ := hc
          have h3 := va_gets (p := p) (l := l) (e := e) (R := R) (m := m) (args := args) (below := below) (meth := meth) (cells := cells) (slots := slots) (Q := Q) (ls := ls) (rest := st.map (mv_v φ)) hx hb hE.2.2.1 hS hown (hts _ (wAt_in hl)) (fun _ h9 => h9) hd (by
            rw [← hφ 13 0 (by decide) (by decide)]
            exact kk _ _ _ _ hh (List.forall_mem_cons.mpr ⟨Or.inr ⟨by decide, by decide, fun h => absurd h (by decide)⟩, hv⟩) rfl hW hS)
          exact h3
        all_goals first | (next heq => cases heq) | cases hc
      · split at hh
        · next ht =>
          have ht2 := Nat.eq_of_beq_eq_true ht
          subst ht2
          simp only [mv_chkH] at hc
          split at hc
          · next heq => cases heq
          · next heq =>
            cases heq
            simp only [Bool.and_eq_true, decide_eq_true_eq] at hc
            obtain ⟨rfl, hl⟩ := hc
            have h3 := va_gets (p := p) (l := l) (e := e) (R := R) (m := m) (args := args) (below := below) (meth := meth) (cells := cells) (slots := slots) (Q := Q) (ls := ls) (rest := st.map (mv_v φ)) hx hb hE.2.2.2.2.2.1 hS hown (hts _ (wAt_in hl)) (fun _ h9 => h9) hd (by
              rw [← hφ 14 0 (by decide) (by decide)]
              exact kk _ _ _ _ hh (List.forall_mem_cons.mpr ⟨Or.inr ⟨by decide, by decide, fun h => absurd h (by decide)⟩, hv⟩) rfl hW hS)
            exact h3
          all_goals first | (next heq => cases heq) | cases hc
        · next h13 _ h14 =>
          simp only [mv_chkH] at hc
          split at hc
          · next heq => cases heq; exact absurd h13 (by decide)
          · next heq => cases heq; exact absurd h14 (by decide)
          · next heq =>
            cases heq
            simp only [Bool.and_eq_true, decide_eq_true_eq] at hc
            obtain ⟨rfl, hl⟩ := hc
            exact va_gets (p := p) (l := l) (e := e) (R := R) (m := m) (args := args) (below := below) (meth := meth) (cells := cells) (slots := slots) (Q := Q) (ls := ls) (rest := st.map (mv_v φ)) hx hb hE.2.2.2.2.1 hS hown (hts _ (wAt_in hl)) (fun _ h9 => h9) hd (kk _ _ _ _ hh (List.forall_mem_cons.mpr ⟨trivial, hv⟩) rfl hW hS)
          · cases hc
    · cases hh
  · cases hh
end
end
section
-- ===== calls and makings =====
def mv_chkC (own : String) (Ms : List (mv_MD × Bool)) (i : Instr) (len : Nat) (lk : List Nat) : Bool := match i with
  | .new x => (match lk with
    | ci :: n :: a :: b :: a2 :: b2 :: a3 :: b3 :: _ => decide (len = 3) && (decide (ci < 9) && (decide (n = mv_nf ci) && (wAt a b (.classLink own x (mv_R ci)) && (wAt a2 b2 (.instantiable (mv_R ci) n) && wAt a3 b3 (.initialized (mv_R ci))))))
    | _ => false)
  | .newarray ty => (match lk with
    | t :: a :: b :: _ => decide (len = 2) && (decide (ty = .int) && (mv_ia t && wAt a b (.arrayClass .int)))
    | _ => false)
  | .anewarray x => (match lk with
    | t :: a :: b :: a2 :: b2 :: _ => decide (len = 3) && (mv_ra t && (wAt a b (.classLink own x RX5) && wAt a2 b2 (.arrayOver (.object RX5))))
    | _ => false)
  | .invokestatic x => (match lk with
    | 0 :: j :: n :: kd :: a :: b :: a2 :: b2 :: a3 :: b3 :: a4 :: b4 :: _ => (match mv_nth j Ms with
      | some ((y, bytes, maxL, ret), _) => decide (len = 3) && (decide (maxL ≤ 20) && (decide (y.cls ≠ "java/lang/invoke/MethodHandle" ∧ y.cls ≠ "java/lang/invoke/VarHandle" ∧ (parseMethodDescriptor y.desc).map (fun d => d.parameters.length) = some n) && (wAt a2 b2 (.static y) && (wAt a3 b3 (.initialized y.cls) && (wAt a4 b4 (.code y bytes maxL ret) && (match kd with
        | 1 => wAt a b (.methodLink own x y)
        | _ => decide ((own, x, y) ∈ mv_nl)))))))
      | none => false)
    | 1 :: a :: b :: a2 :: b2 :: a3 :: b3 :: a4 :: b4 :: _ => decide (len = 3) && (wAt a b (.methodLink own x Lib.Math.max.name) && (wAt a2 b2 (.static Lib.Math.max.name) && (wAt a3 b3 (.initialized "java/lang/Math") && wAt a4 b4 (.code Lib.Math.max.name Lib.Math.max.code 2 (some .int)))))
    | 2 :: a :: b :: a2 :: b2 :: a3 :: b3 :: a4 :: b4 :: _ => decide (len = 3) && (wAt a b (.methodLink own x Lib.Math.min.name) && (wAt a2 b2 (.static Lib.Math.min.name) && (wAt a3 b3 (.initialized "java/lang/Math") && wAt a4 b4 (.code Lib.Math.min.name Lib.Math.min.code 2 (some .int)))))
    | 3 :: a :: b :: a2 :: b2 :: a3 :: b3 :: a4 :: b4 :: _ => decide (len = 3) && (wAt a b (.methodLink own x Lib.Math.abs.name) && (wAt a2 b2 (.static Lib.Math.abs.name) && (wAt a3 b3 (.initialized "java/lang/Math") && wAt a4 b4 (.code Lib.Math.abs.name Lib.Math.abs.code 1 (some .int)))))
    | 4 :: a :: b :: a2 :: b2 :: a3 :: b3 :: a4 :: b4 :: _ => decide (len = 3) && (wAt a b (.methodLink own x arraycopyName) && (wAt a2 b2 (.native arraycopyName) && (wAt a3 b3 (.static arraycopyName) && wAt a4 b4 (.initialized "java/lang/System"))))
    | 9 :: _ => true
    | _ => false)
  | .invokevirtual x => (match lk with
    | 0 :: j :: n :: kd :: a :: b :: a2 :: b2 :: a3 :: b3 :: a4 :: b4 :: a5 :: b5 :: _ => (match mv_nth j Ms with
      | some ((y, bytes, maxL, ret), ins) => decide (len = 3) && (ins && (decide (maxL ≤ 20) && (decide (y.cls ≠ "java/lang/invoke/MethodHandle" ∧ y.cls ≠ "java/lang/invoke/VarHandle" ∧ (parseMethodDescriptor y.desc).map (fun d => d.parameters.length + 1) = some n) && (wAt a2 b2 (.instanceMethod y) && (wAt a3 b3 (.initialized y.cls) && (wAt a4 b4 (.code y bytes maxL ret) && (wAt a5 b5 (.selects y.cls y y) && (wAt a b (.methodLink own x y)))))))))
      | none => false)
    | _ => false)
  | .invokespecial x => (match lk with
    | 0 :: j :: n :: kd :: a :: b :: a2 :: b2 :: a3 :: b3 :: a4 :: b4 :: _ => (match mv_nth j Ms with
      | some ((y, bytes, maxL, ret), ins) => decide (len = 3) && (ins && (decide (ret = none) && (decide (y.name = "<init>") && (decide (maxL ≤ 20) && (decide (y.cls ≠ "java/lang/invoke/MethodHandle" ∧ y.cls ≠ "java/lang/invoke/VarHandle" ∧ (parseMethodDescriptor y.desc).map (fun d => d.parameters.length + 1) = some n) && (wAt a2 b2 (.instanceMethod y) && (wAt a3 b3 (.initialized y.cls) && (wAt a4 b4 (.code y bytes maxL ret) && (match kd with
        | 2 => wAt a b (.methodLink own x y)
        | _ => decide ((own, x, y) ∈ mv_nl))))))))))
      | none => false)
    | 5 :: a :: b :: a2 :: b2 :: a3 :: b3 :: _ => decide (len = 3) && (wAt a b (.methodLink own x Lib.objectInit) && (wAt a2 b2 (.instanceMethod Lib.objectInit) && wAt a3 b3 (.code Lib.objectInit ⟨#[0xb1]⟩ 1 none)))
    | _ => false)
  | _ => false
theorem mv_tk_some {α : Type} : ∀ (n : Nat) (as st : List mv_V) (k : List mv_V → List mv_V → Option α) (r : α), mv_tk n as st k = some r → ∃ a b, st = a ++ b ∧ a.length = n ∧ k (a.reverse ++ as) b = some r
  | 0, as, st, k, r, h => ⟨[], st, rfl, rfl, h⟩
  | n + 1, as, [], k, r, h => by cases h
  | n + 1, as, v :: st, k, r, h => by
    obtain ⟨a, b, h1, h2, h3⟩ := mv_tk_some n (v :: as) st k r h
    exact ⟨v :: a, b, by rw [h1]; rfl, by rw [List.length_cons, h2], by rw [List.reverse_cons, List.append_assoc]; exact h3⟩
theorem mv_ap_eq {α : Type} : ∀ (vs st : List mv_V) (k : List mv_V → α), mv_ap vs st k = k (vs ++ st)
  | [], _, _ => rfl
  | v :: vs, st, k => by
    show mv_ap vs st (fun l => k (v :: l)) = _
    rw [mv_ap_eq vs st]
    rfl
theorem mv_cats_eq (φ : Nat → Nat → Nat) : ∀ st : List mv_V, ((st.map (mv_v φ)).map fun v => v.category).sum = mv_cats st
  | [] => rfl
  | v :: st => by
    rw [List.map_cons, List.map_cons, List.sum_cons, mv_cats_eq φ st]
    show _ = (match mv_two v with
      | true => 2
      | false => 1) + mv_cats st
    congr 1
    cases h : mv_two v with
    | true => have := mv_two_beq φ v; rw [h] at this; exact eq_of_beq this
    | false => exact mv_two_cat h
theorem mv_dflt : ∀ t, t < 9 → ∀ j, j < mv_nf t → defaultValue (mv_ty t j) = (match mv_isR t j with
    | true => Value.null
    | false => Value.int 0) := by decide +kernel
theorem mv_WSgood (md : mv_MD) (h : Cond.code md.1 md.2.1 md.2.2.1 md.2.2.2 ∈ WS) : GoodIn WS (.code md.1 md.2.1 md.2.2.1 md.2.2.2 :: WS) := fun w hw => by
  rcases List.mem_cons.mp hw with rfl | hw
  · exact ⟨h, WS_good h⟩
  · exact ⟨hw, WS_good hw⟩
section
variable {Hp : Type} {vw : Hp → mv_G}
variable {p : Program} {l : Launch} {e : Env} {R : Room} {s : State} {m : MethodId} {args : Array Value} {below : List Frame} {meth : Method} {c : Code} {H : Heap} {locs : List Loc} {cells slots : Nat} {Q : State → Prop} {pc : Nat} {ls : Array Slot} {φ φ0 : Nat → Nat → Nat} {md : mv_MD} {n MC MS : Nat} {sc : Option (Nat × (Nat → Int32))} {D : va_G} {cI cQ : ClassId} {q0 : Nat}
/-- behind a call -/
theorem mv_back {g g' : mv_G} {vs : List mv_V} {mc ms : Nat} {st0 rest : List Value} (hr : va_Run p l e R s m args below meth c H locs cells slots mc ms (F0 m pc ls st0) rest (fun st oc t => ∃ φ', mv_ge g φ g' φ' ∧ (∀ v ∈ vs, mv_live g' v) ∧ oc = .returned (vs.map (mv_v φ')).head? ∧ mv_W D cI cQ q0 φ' g' t.heap ∧ va_F (fun q => q0 ≤ q) st t) (fun q => q0 ≤ q))
    (hS : va_S (fun q => q0 ≤ q) s.heap H locs) (kk : ∀ φ' H1 locs1, mv_ge g φ g' φ' → (∀ v ∈ vs, mv_live g' v) → mv_W D cI cQ q0 φ' g' H1 → va_S (fun q => q0 ≤ q) s.heap H1 locs1 → W p l e R s m args below meth c H1 locs1 (cells + mc) (slots + ms) Q (F0 m (pc + 3) ls ((vs.map (mv_v φ')).head?.toList ++ rest))) : W p l e R s m args below meth c H locs cells slots Q (F0 m pc ls st0) := by
  intro T hT X
  obtain ⟨v, st₀, t, T', L, h0, X', hL, e1, e2, ⟨φ', h1, h2, h3, h4, h5, h6⟩, st⟩ := hr T hT X
  cases h3
  rw [h0] at h5 h6
  obtain ⟨t2, a1, b1⟩ := kk φ' T'.heap (locs ++ L) h1 h2 (by rw [e1]; exact h4)
    ⟨Nat.le_trans hS.1 (by rw [e1]; exact h5), fun q ha hb => by rw [e1, h6 q (Nat.lt_of_lt_of_le ha hS.1) hb]; exact hS.2.1 q ha hb, fun q hq => by
      rcases List.mem_append.mp hq with h | h
      · exact hS.2.2 q h
      · exact hL q h⟩ T' rfl X'
  exact ⟨t2, st t2 a1, b1⟩
theorem mv_blind {as : List mv_V} {g : mv_G} : FrameBlind (va_Pc (as.map (mv_v φ)) fun U => q0 ≤ U.heap.size ∧ va_K D vwCl [(cI, .int), (cQ, .object RX5)] U ∧ mv_Ext q0 φ U ∧ (∀ v ∈ as, mv_live g v) ∧ mv_W D cI cQ q0 φ g U.heap) := by
  intro a U g mk q
  obtain ⟨h0, h1, h2, h3, h4, h5⟩ := q
  exact ⟨h0, h1, va_K.moved (u := U) (U := U.calling g mk a) (Vm.Alike.refl U.vm) h2, mv_Ext.same (u := U) (U := U.calling g mk a) rfl rfl h3, h4, h5⟩
theorem mv_pre (hB : mv_B md n MC MS sc p R s m args meth c D cI cQ q0 φ0) (hφ : ∀ t o, 10 ≤ t → t < 100 → φ t o = φ0 t o) {as : List mv_V} {g : mv_G} (hv : ∀ v ∈ as, mv_live g v) (hW : mv_W D cI cQ q0 φ g H) (hS : va_S (fun q => q0 ≤ q) s.heap H locs) :
    ∀ U : State, U.heap = H → s.WarmedH U.vm → (va_Pc (as.map (mv_v φ)) fun U => q0 ≤ U.heap.size ∧ va_K D vwCl [(cI, .int), (cQ, .object RX5)] U ∧ mv_Ext q0 φ U ∧ (∀ v ∈ as, mv_live g v) ∧ mv_W D cI cQ q0 φ g U.heap) (as.map (mv_v φ)).toArray U := by
  obtain ⟨hx, hb, hml, hown, hnm, hts, hK, hq0, hR, hE, hScr⟩ := hB
  intro U hU hWm
  refine ⟨rfl, by rw [hU]; exact Nat.le_trans hq0 hS.1, va_K.moved hWm.alike hK, hE.next hWm (fun a h1 h2 => by rw [hU]; exact hS.2.1 a h1 h2) hφ, hv, by rw [hU]; exact hW⟩
end
section
variable {Hp : Type} {rI : Hp → Nat → Nat → Nat → Int32} {rR : Hp → Nat → Nat → Nat → (Option (Nat × Nat) → Option (List mv_V × Hp)) → Option (List mv_V × Hp)} {ln : Hp → Nat → Nat → Nat} {wI : Hp → Nat → Nat → Nat → Int32 → Hp} {wR : Hp → Nat → Nat → Nat → Option (Nat × Nat) → (Hp → Option (List mv_V × Hp)) → Option (List mv_V × Hp)} {nw : Hp → Nat → Nat → (Nat → Hp → Option (List mv_V × Hp)) → Option (List mv_V × Hp)} {cp : Hp → Nat → Nat → Nat → Nat → Nat → Hp} {vw : Hp → mv_G}
variable {p : Program} {l : Launch} {e : Env} {R : Room} {s : State} {m : MethodId} {args : Array Value} {below : List Frame} {meth : Method} {c : Code} {H : Heap} {locs : List Loc} {Q : State → Prop} {pc : Nat} {ls : Array Slot} {φ φ0 : Nat → Nat → Nat} {md : mv_MD} {n MC MS : Nat} {sc : Option (Nat × (Nat → Int32))} {D : va_G} {cI cQ : ClassId} {q0 : Nat}
/-- what a call-form's answer gives, for any of the three kinds of call -/
theorem mv_call (hB : mv_B md n MC MS sc p R s m args meth c D cI cQ q0 φ0) (hφ : ∀ t o, 10 ≤ t → t < 100 → φ t o = φ0 t o) {x j nn len : Nat} {G : List (mv_C Hp)} {C : mv_C Hp} {i : Instr} {n' : Nat} {y : MethodName} {bytes : ByteArray} {maxL : Nat} {ret : Option FieldType} {ins : Bool} (hn : n' + 1 ≤ n) (hCal : mv_Cal vw n' ((y, bytes, maxL, ret), ins) C)
    {lv : mv_L} {a b : List mv_V} {h : Hp} {ce sl : Nat} {k : List mv_V → Hp → Nat → Nat → Option (List mv_V × Hp)} {res : List mv_V × Hp} (hh : C.2 a.reverse h (fun vs h => mv_ap vs b fun st => k st h (ce + C.1.1) (sl + C.1.2)) = some res) (hca : ce + C.1.1 ≤ MC) (hcb : sl + C.1.2 ≤ MS) (hcat : mv_cats b ≤ 8)
    (hv : ∀ v ∈ a ++ b, mv_live (vw h) v) (hls : ls.size = md.2.2.1) (hW : mv_W D cI cQ q0 φ (vw h) H) (hS : va_S (fun q => q0 ≤ q) s.heap H locs)
    (hgo : ∀ vs h', vs.length ≤ 1 → (ins = true → mv_rcv (y, bytes, maxL, ret) a.reverse) → mv_Met vw n' C.1.1 C.1.2 (y, bytes, maxL, ret) a.reverse h vs h' → (∀ U : State, U.heap = H → s.WarmedH U.vm → (va_Pc (a.reverse.map (mv_v φ)) fun U => q0 ≤ U.heap.size ∧ va_K D vwCl [(cI, .int), (cQ, .object RX5)] U ∧ mv_Ext q0 φ U ∧ (∀ v ∈ a.reverse, mv_live (vw h) v) ∧ mv_W D cI cQ q0 φ (vw h) U.heap) (a.reverse.map (mv_v φ)).toArray U) →
      va_Run p l e R s m args below meth c H locs ce sl C.1.1 C.1.2 (F0 m pc ls ((a ++ b).map (mv_v φ))) (b.map (mv_v φ)) (fun st oc t => ∃ φ', mv_ge (vw h) φ (vw h') φ' ∧ (∀ v ∈ vs, mv_live (vw h') v) ∧ oc = .returned (vs.map (mv_v φ')).head? ∧ mv_W D cI cQ q0 φ' (vw h') t.heap ∧ va_F (fun q => q0 ≤ q) st t) (fun q => q0 ≤ q))
    (kk : ∀ st' h' ce' sl' φ' H' locs', k st' h' ce' sl' = some res → ce' ≤ MC → sl' ≤ MS → (∀ v ∈ st', mv_live (vw h') v) → mv_ge (vw h) φ (vw h') φ' → mv_W D cI cQ q0 φ' (vw h') H' → va_S (fun q => q0 ≤ q) s.heap H' locs' → W p l e R s m args below meth c H' locs' ce' sl' Q (F0 m (pc + 3) ls (st'.map (mv_v φ')))) : W p l e R s m args below meth c H locs ce sl Q (F0 m pc ls ((a ++ b).map (mv_v φ))) := by
  obtain ⟨vs, h', h1, h2, h3, h4⟩ := hCal _ _ _ _ hh
  rw [mv_ap_eq] at h1
  have hva : ∀ v ∈ a.reverse, mv_live (vw h) v := fun v hv' => hv v (List.mem_append_left _ (List.mem_reverse.mp hv'))
  have hvb : ∀ v ∈ b, mv_live (vw h) v := fun v hv' => hv v (List.mem_append_right _ hv')
  refine mv_back (hgo vs h' h2 h3 h4 (mv_pre hB hφ hva hW hS)) hS fun φ' H1 locs1 g1 g2 g3 g4 => ?_
  have hst : (vs.map (mv_v φ')).head?.toList ++ b.map (mv_v φ) = (vs ++ b).map (mv_v φ') := by
    rw [List.map_append, mv_live.sames g1 hvb]
    congr 1
    match vs, h2 with
    | [], _ => rfl
    | [v], _ => rfl
  rw [hst]
  refine kk _ _ _ _ φ' H1 locs1 h1 hca hcb (fun v hv' => ?_) g1 g3 g4
  rcases List.mem_append.mp hv' with hv' | hv'
  · exact g2 v hv'
  · exact (hvb v hv').up g1
set_option maxHeartbeats 8000000 in
theorem mv_cop_sound (hA : mv_Ax rI rR ln wI wR nw cp vw) (hB : mv_B md n MC MS sc p R s m args meth c D cI cQ q0 φ0) (hφ : ∀ t o, 10 ≤ t → t < 100 → φ t o = φ0 t o) {G : List (mv_C Hp)} {Ms : List (mv_MD × Bool)} (hG : ∀ j C md', mv_nth j G = some C → mv_nth j Ms = some md' → ∃ n', n' + 1 ≤ n ∧ mv_Cal vw n' md' C) (hn1 : 1 ≤ n)
    {i : Instr} {len : Nat} {lk : List Nat} (hd : decode md.2.1 pc = .ok (i, len)) (hc : mv_chkC md.1.cls Ms i len lk = true)
    {lv : mv_L} {st : List mv_V} {h : Hp} {ce sl : Nat} {k : List mv_V → Hp → Nat → Nat → Option (List mv_V × Hp)} {res : List mv_V × Hp} (hh : mv_cop ln nw cp G MC MS i lk lv st h ce sl k = some res) (hce : ce ≤ MC) (hsl : sl ≤ MS) (hv : ∀ v ∈ st, mv_live (vw h) v) (hls : ls.size = md.2.2.1) (hW : mv_W D cI cQ q0 φ (vw h) H) (hS : va_S (fun q => q0 ≤ q) s.heap H locs)
    (kk : ∀ st' h' ce' sl' φ' H' locs', k st' h' ce' sl' = some res → ce' ≤ MC → sl' ≤ MS → (∀ v ∈ st', mv_live (vw h') v) → mv_ge (vw h) φ (vw h') φ' → mv_W D cI cQ q0 φ' (vw h') H' → va_S (fun q => q0 ≤ q) s.heap H' locs' → W p l e R s m args below meth c H' locs' ce' sl' Q (F0 m (pc + len) ls (st'.map (mv_v φ')))) : W p l e R s m args below meth c H locs ce sl Q (F0 m pc ls (st.map (mv_v φ))) := by
  have hB' := hB
  obtain ⟨hx, hb, hml, hown, hnm, hts, hK, hq0, ⟨hR1, hR2, hR3, hR4⟩, hE, hScr⟩ := hB
  obtain ⟨aI, aR, aL, aW, aV, aN, aC⟩ := hA
  obtain ⟨ws, hP, hDw, hcov⟩ := mv_cover hW
  have hA0 : ∀ q : Nat, s.heap.size ≤ q → q0 ≤ q := fun q hq => Nat.le_trans hq0 hq
  unfold mv_cop at hh
  split at hh
  · -- new
    split at hh
    · next ci nn rest =>
      simp only [mv_chkC] at hc
      split at hc
      · next heq =>
        cases heq
        simp only [Bool.and_eq_true, decide_eq_true_eq] at hc
        obtain ⟨rfl, hci, rfl, hl1, hl2, hl3⟩ := hc
        split at hh
        · next hg =>
          simp only [Bool.and_eq_true, Nat.ble_eq] at hg
          obtain ⟨h', h3, h4⟩ := aN _ _ _ _ _ hh
          have hfs : ∀ j, j < mv_nf ci → defaultValue (mv_ty ci j) = vp_V ((List.range (mv_nf ci)).map (mv_fv φ (mv_mk (vw h) ci 0) ci ((vw h).2.2.2 ci))) j := by
            intro j hj
            rw [mv_dflt ci hci j hj]
            unfold vp_V
            rw [List.getD_eq_getElem?_getD, List.getElem?_map, List.getElem?_range hj]
            show _ = mv_fv φ (mv_mk (vw h) ci 0) ci ((vw h).2.2.2 ci) j
            unfold mv_fv
            show _ = (match mv_isR ci j with
              | true => va_rf ((if ci = ci ∧ (vw h).2.2.2 ci = (vw h).2.2.2 ci then none else _).map _)
              | false => Value.int (if ci = ci ∧ (vw h).2.2.2 ci = (vw h).2.2.2 ci then 0 else _))
            rw [if_pos ⟨rfl, rfl⟩, if_pos ⟨rfl, rfl⟩]
            cases mv_isR ci j <;> rfl
          refine va_new hx hb hts (mv_wsin ci hci) (mv_ty ci) (mv_tyok ci hci) hown (hts _ (wAt_in hl1)) (hts _ (wAt_in hl2)) (hts _ (wAt_in hl3)) hK hP hDw hS hA0 (mv_clOf ci hci) hfs (Nat.le_trans hg.1 hR2) (Nat.le_trans hg.2 hR3) hd fun q H1 hP1 hD1 hS1 => ?_
          have he : mv_cell cI cQ (mv_phi φ ci ((vw h).2.2.2 ci) q) (mv_mk (vw h) ci 0) ci ((vw h).2.2.2 ci) = .inr (ci, (List.range (mv_nf ci)).map (mv_fv φ (mv_mk (vw h) ci 0) ci ((vw h).2.2.2 ci))) := by
            rw [mv_obj hci]
            have : mv_fv (mv_phi φ ci ((vw h).2.2.2 ci) q) (mv_mk (vw h) ci 0) ci ((vw h).2.2.2 ci) = mv_fv φ (mv_mk (vw h) ci 0) ci ((vw h).2.2.2 ci) := by
              funext j
              unfold mv_fv
              show (match mv_isR ci j with
                | true => va_rf ((if ci = ci ∧ (vw h).2.2.2 ci = (vw h).2.2.2 ci then none else _).map _)
                | false => _) = (match mv_isR ci j with
                | true => va_rf ((if ci = ci ∧ (vw h).2.2.2 ci = (vw h).2.2.2 ci then none else _).map _)
                | false => _)
              rw [if_pos ⟨rfl, rfl⟩]
              rfl
            rw [this]
          obtain ⟨hW1, hge⟩ := hW.new hcov (Or.inl (by omega)) hP1 hD1 he
          rw [← h4] at hW1 hge
          have h5 := kk _ _ _ _ _ H1 locs h3 hg.1 hg.2 (List.forall_mem_cons.mpr ⟨Or.inl (by rw [h4]; show (vw h).2.2.2 ci < if ci = ci then _ else _; rw [if_pos rfl]; omega), fun v hv' => (hv v hv').up hge⟩) hge hW1 hS1
          rw [List.map_cons, mv_live.sames hge hv] at h5
          have h6 : mv_v (mv_phi φ ci ((vw h).2.2.2 ci) q) (.inr (ci, (vw h).2.2.2 ci)) = .ref q := congrArg Value.ref (if_pos ⟨rfl, rfl⟩)
          rw [h6] at h5
          exact h5
        · cases hh
      · cases hc
    · cases hh
  · -- newarray
    split at hh
    · next t rest =>
      split at hh
      · next x st =>
        obtain ⟨-, hv1⟩ := List.forall_mem_cons.mp hv
        simp only [mv_chkC] at hc
        split at hc
        · next heq =>
          cases heq
          simp only [Bool.and_eq_true, decide_eq_true_eq] at hc
          obtain ⟨rfl, rfl, hia, hl1⟩ := hc
          split at hh
          · next hg1 =>
            have hg1 := Nat.ble_eq.mp hg1
            obtain ⟨hg, hh⟩ := mv_gd_some hh
            simp only [Bool.and_eq_true, Nat.ble_eq, Bool.not_eq_true', decide_eq_false_iff_not] at hg
            obtain ⟨h', h3, h4⟩ := aN _ _ _ _ _ hh
            refine va_newa hx hb (hts _ (wAt_in hl1)) rfl hK hP hDw hS hA0 (a0 := (x.toNatClampNeg, .inl (fun _ => 0))) (fun cA => rfl) hg.1 rfl (by show x.toNatClampNeg * componentBytes .int ≤ _; have : componentBytes .int = 4 := rfl; rw [this]; omega) (Nat.le_trans hg1 hR2) (Nat.le_trans hg.2.2 hR3) hd fun q cA H1 hK1 hP1 hD1 hS1 => ?_
            have hcA : cA = cI := by
              have e1 := (hK1.2 2 _ rfl).2
              have e2 := (hK.2 0 _ rfl).2
              exact Option.some.inj ((show s.vm.findClass _ = some cA from e1).symm.trans (show s.vm.findClass _ = some cI from e2))
            subst hcA
            have he : mv_cell cA cQ (mv_phi φ t ((vw h).2.2.2 t) q) (mv_mk (vw h) t x.toNatClampNeg) t ((vw h).2.2.2 t) = .inl (cA, x.toNatClampNeg, .inl (fun _ => 0)) := by
              rw [mv_ia_cell hia]
              have e1 : (mv_mk (vw h) t x.toNatClampNeg).2.2.1 t ((vw h).2.2.2 t) = x.toNatClampNeg := if_pos ⟨rfl, rfl⟩
              have e2 : (mv_mk (vw h) t x.toNatClampNeg).1 t ((vw h).2.2.2 t) = fun _ => 0 := funext fun _ => if_pos ⟨rfl, rfl⟩
              rw [e1, e2]
            obtain ⟨hW1, hge⟩ := hW.new hcov (Or.inr (mv_ia_big hia)) hP1 hD1 he
            rw [← h4] at hW1 hge
            have h5 := kk _ _ _ _ _ H1 locs h3 hg1 hg.2.2 (List.forall_mem_cons.mpr ⟨Or.inl (by rw [h4]; show (vw h).2.2.2 t < if t = t then _ else _; rw [if_pos rfl]; omega), fun v hv' => (hv1 v hv').up hge⟩) hge hW1 hS1
            rw [List.map_cons, mv_live.sames hge hv1] at h5
            have h6 : mv_v (mv_phi φ t ((vw h).2.2.2 t) q) (.inr (t, (vw h).2.2.2 t)) = .ref q := congrArg Value.ref (if_pos ⟨rfl, rfl⟩)
            rw [h6] at h5
            exact h5
          · cases hh
        · cases hc
      · cases hh
    · cases hh
  · -- anewarray
    split at hh
    · next t rest =>
      split at hh
      · next x st =>
        obtain ⟨-, hv1⟩ := List.forall_mem_cons.mp hv
        simp only [mv_chkC] at hc
        split at hc
        · next heq =>
          cases heq
          simp only [Bool.and_eq_true, decide_eq_true_eq] at hc
          obtain ⟨rfl, hra, hl1, hl2⟩ := hc
          split at hh
          · next hg1 =>
            have hg1 := Nat.ble_eq.mp hg1
            obtain ⟨hg, hh⟩ := mv_gd_some hh
            simp only [Bool.and_eq_true, Nat.ble_eq, Bool.not_eq_true', decide_eq_false_iff_not] at hg
            obtain ⟨h', h3, h4⟩ := aN _ _ _ _ _ hh
            refine va_newq hx hb hown (hts _ (wAt_in hl1)) (va_AO.of (hts _ (wAt_in hl2))) hK hP hDw hS hA0 hg.1 rfl (by omega) (Nat.le_trans hg1 hR2) (Nat.le_trans hg.2.2 hR3) hd fun q cA H1 hK1 hP1 hD1 hS1 => ?_
            have hcA : cA = cQ := by
              obtain ⟨_, _, -, -, -, e1⟩ := (hK1.2 2 _ rfl).2
              obtain ⟨_, _, -, -, -, e2⟩ := (hK.2 1 _ rfl).2
              exact Option.some.inj (e1.symm.trans e2)
            subst hcA
            have he : mv_cell cI cA (mv_phi φ t ((vw h).2.2.2 t) q) (mv_mk (vw h) t x.toNatClampNeg) t ((vw h).2.2.2 t) = .inl (cA, x.toNatClampNeg, .inr (.inr (.inr (.inr (fun _ => none))))) := by
              rw [mv_ra_cell hra]
              have e1 : (mv_mk (vw h) t x.toNatClampNeg).2.2.1 t ((vw h).2.2.2 t) = x.toNatClampNeg := if_pos ⟨rfl, rfl⟩
              have e2 : (fun k => ((mv_mk (vw h) t x.toNatClampNeg).2.1 t ((vw h).2.2.2 t) k).map fun z => mv_phi φ t ((vw h).2.2.2 t) q z.1 z.2) = fun _ => none := funext fun k => by
                show (if t = t ∧ (vw h).2.2.2 t = (vw h).2.2.2 t then none else _).map _ = _
                rw [if_pos ⟨rfl, rfl⟩]
                rfl
              rw [e1, e2]
            obtain ⟨hW1, hge⟩ := hW.new hcov (Or.inr (mv_ra_big hra)) hP1 hD1 he
            rw [← h4] at hW1 hge
            have h5 := kk _ _ _ _ _ H1 locs h3 hg1 hg.2.2 (List.forall_mem_cons.mpr ⟨Or.inl (by rw [h4]; show (vw h).2.2.2 t < if t = t then _ else _; rw [if_pos rfl]; omega), fun v hv' => (hv1 v hv').up hge⟩) hge hW1 hS1
            rw [List.map_cons, mv_live.sames hge hv1] at h5
            have h6 : mv_v (mv_phi φ t ((vw h).2.2.2 t) q) (.inr (t, (vw h).2.2.2 t)) = .ref q := congrArg Value.ref (if_pos ⟨rfl, rfl⟩)
            rw [h6] at h5
            exact h5
          · cases hh
        · cases hc
      · cases hh
    · cases hh
  · -- invokestatic
    split at hh
    · next j nn rest =>
      simp only [mv_chkC] at hc
      split at hh
      · next C1 f hC =>
        split at hc
        · next heq =>
          cases heq
          split at hc
          · next y bytes maxL ret ins hM =>
            simp only [Bool.and_eq_true, decide_eq_true_eq] at hc
            obtain ⟨rfl, hmax, hd1, hw2, hw3, hw4, hw1⟩ := hc
            obtain ⟨n', hn', hCal⟩ := hG _ _ _ hC hM
            obtain ⟨a, b, rfl, hlen, hh⟩ := mv_tk_some _ _ _ _ _ hh
            rw [List.append_nil] at hh
            split at hh
            · next hg =>
              simp only [Bool.and_eq_true, Nat.ble_eq] at hg
              refine mv_call (C := (C1, f)) (G := G) (i := .nop) (x := 0) (j := 0) (nn := 0) (len := 0) (lv := lv) hB' hφ hn' hCal hh hg.1 hg.2.1 hg.2.2 hv hls hW hS (fun vs h' q1 q2 q3 q4 => ?_) kk
              have hroom : (mv_rm n' C1.1 C1.2).frames + 1 ≤ R.frames ∧ 8 + (maxL + 11) + (mv_rm n' C1.1 C1.2).locals ≤ R.locals := ⟨Nat.le_trans hn' hR1, by show 8 + (maxL + 11) + 40 * (n' + 1) ≤ R.locals; omega⟩
              have hG2 := mv_WSgood (y, bytes, maxL, ret) (wAt_in hw4)
              have hstk : (F0 m pc ls ((a ++ b).map (mv_v φ))).stack = (a.reverse.map (mv_v φ)).reverse ++ b.map (mv_v φ) := by
                show (a ++ b).map (mv_v φ) = _
                rw [List.map_append, List.map_reverse, List.reverse_reverse]
              have hrest : 2 * (F0 m pc ls ((a ++ b).map (mv_v φ))).monitorRoom + ((b.map (mv_v φ)).map fun v => v.category).sum ≤ 8 := lv_room (by rw [mv_cats_eq]; exact hg.2.2)
              have hal : (a.reverse.map (mv_v φ)).length = nn := by rw [List.length_map, List.length_reverse]; exact hlen
              split at hw1
              · exact va_runS ⟨hx, hb, hml, hown, hts⟩ (q3 l D cI cQ q0 φ) (va_cwS nn hts (fun w hw => by
                  unfold va_wsS at hw
                  rcases List.mem_append.mp hw with hw | hw
                  · simp only [List.mem_cons, List.not_mem_nil, or_false] at hw
                    rcases hw with rfl | rfl | rfl
                    · exact ⟨wAt_in hw1, WS_good (wAt_in hw1)⟩
                    · exact ⟨wAt_in hw2, WS_good (wAt_in hw2)⟩
                    · exact ⟨wAt_in hw3, WS_good (wAt_in hw3)⟩
                  · exact hG2 w hw) rfl rfl rfl hd1 hroom) ⟨mv_blind, q4⟩ rfl hal hls hstk hrest hd ⟨Nat.le_trans hg.1 hR2, Nat.le_trans hg.2.1 hR3⟩
              · exact va_runSN (host := "IntentVats") ⟨hx, hb, hml, hown, hts⟩ (q3 l D cI cQ q0 φ) ⟨va_cnB nn hts hG2 rfl rfl rfl (hE.2.2.2.2.2.2.1 _ (of_decide_eq_true hw1)) (hts _ (wAt_in hw3)) hd1 hroom, hts _ (wAt_in hw2), trivial⟩ ⟨mv_blind, q4⟩ rfl hal hls hstk hrest hd ⟨Nat.le_trans hg.1 hR2, Nat.le_trans hg.2.1 hR3⟩
            · cases hh
          · cases hc
        all_goals first | (next heq => cases heq) | cases hc
      · cases hh
    · -- max
      simp only [mv_chkC] at hc
      split at hh
      · next y x st =>
        obtain ⟨-, hv1⟩ := List.forall_mem_cons.mp hv
        obtain ⟨-, hv2⟩ := List.forall_mem_cons.mp hv1
        split at hc
        · next heq => cases heq
        · next heq =>
          cases heq
          simp only [Bool.and_eq_true, decide_eq_true_eq] at hc
          obtain ⟨rfl, hw1, hw2, hw3, hw4⟩ := hc
          split at hh
          · next hg =>
            have hg := Nat.ble_eq.mp hg
            exact va_mmax hx hb (hml.trans hls.symm) hown (hts _ (wAt_in hw1)) (hts _ (wAt_in hw2)) (hts _ (wAt_in hw3)) (hts _ (wAt_in hw4)) (Nat.le_trans hn1 hR1) (by rw [mv_cats_eq]; omega) (Nat.le_trans hce hR2) (Nat.le_trans hsl hR3) hd (kk _ _ _ _ φ H locs hh hce hsl (List.forall_mem_cons.mpr ⟨trivial, hv2⟩) mv_ge.rf hW hS)
          · cases hh
        all_goals first | (next heq => cases heq) | cases hc
      · cases hh
    · -- min
      simp only [mv_chkC] at hc
      split at hh
      · next y x st =>
        obtain ⟨-, hv1⟩ := List.forall_mem_cons.mp hv
        obtain ⟨-, hv2⟩ := List.forall_mem_cons.mp hv1
        split at hc
        · next heq => cases heq
        · next heq => cases heq
        · next heq =>
          cases heq
          simp only [Bool.and_eq_true, decide_eq_true_eq] at hc
          obtain ⟨rfl, hw1, hw2, hw3, hw4⟩ := hc
          split at hh
          · next hg =>
            have hg := Nat.ble_eq.mp hg
            exact va_mmin hx hb (hml.trans hls.symm) hown (hts _ (wAt_in hw1)) (hts _ (wAt_in hw2)) (hts _ (wAt_in hw3)) (hts _ (wAt_in hw4)) (Nat.le_trans hn1 hR1) (by rw [mv_cats_eq]; omega) (Nat.le_trans hce hR2) (Nat.le_trans hsl hR3) hd (kk _ _ _ _ φ H locs hh hce hsl (List.forall_mem_cons.mpr ⟨trivial, hv2⟩) mv_ge.rf hW hS)
          · cases hh
        all_goals first | (next heq => cases heq) | cases hc
      · cases hh
    · -- abs
      simp only [mv_chkC] at hc
      split at hh
      · next x st =>
        obtain ⟨-, hv1⟩ := List.forall_mem_cons.mp hv
        split at hc
        · next heq => cases heq
        · next heq => cases heq
        · next heq => cases heq
        · next heq =>
          cases heq
          simp only [Bool.and_eq_true, decide_eq_true_eq] at hc
          obtain ⟨rfl, hw1, hw2, hw3, hw4⟩ := hc
          split at hh
          · next hg =>
            have hg := Nat.ble_eq.mp hg
            exact va_mabs hx hb (hml.trans hls.symm) hown (hts _ (wAt_in hw1)) (hts _ (wAt_in hw2)) (hts _ (wAt_in hw3)) (hts _ (wAt_in hw4)) (Nat.le_trans hn1 hR1) (by rw [mv_cats_eq]; omega) (Nat.le_trans hce hR2) (Nat.le_trans hsl hR3) hd (kk _ _ _ _ φ H locs hh hce hsl (List.forall_mem_cons.mpr ⟨trivial, hv1⟩) mv_ge.rf hW hS)
          · cases hh
        all_goals first | (next heq => cases heq) | cases hc
      · cases hh
    · -- arraycopy
      simp only [mv_chkC] at hc
      split at hh
      · next x dp t' o' sp t o st =>
        obtain ⟨-, hv1⟩ := List.forall_mem_cons.mp hv
        obtain ⟨-, hv2⟩ := List.forall_mem_cons.mp hv1
        obtain ⟨hvd, hv3⟩ := List.forall_mem_cons.mp hv2
        obtain ⟨-, hv4⟩ := List.forall_mem_cons.mp hv3
        obtain ⟨hvs, hv5⟩ := List.forall_mem_cons.mp hv4
        split at hc
        · next heq => cases heq
        · next heq => cases heq
        · next heq => cases heq
        · next heq => cases heq
        · next heq =>
          cases heq
          simp only [Bool.and_eq_true, decide_eq_true_eq] at hc
          obtain ⟨rfl, hw1, hw2, hw3, hw4⟩ := hc
          split at hh
          · next hg1 =>
            simp only [Bool.and_eq_true, Nat.ble_eq] at hg1
            obtain ⟨htt, hia, hcat⟩ := hg1
            have htt := Nat.eq_of_beq_eq_true htt
            subst htt
            obtain ⟨hg, hh2⟩ := mv_gd_some hh
            simp only [Bool.and_eq_true, Nat.ble_eq, Bool.not_eq_true', decide_eq_false_iff_not, decide_eq_true_eq] at hg
            obtain ⟨rfl, rfl, hn0, hle1, hle2⟩ := hg
            rw [aL] at hle1 hle2
            have hlo := hvs.int (Or.inr (mv_ia_big hia))
            have hld := hvd.int (Or.inr (mv_ia_big hia))
            obtain ⟨p0, hp0⟩ := hcov t o hlo
            obtain ⟨p1, hp1⟩ := hcov t o' hld
            rw [mv_ia_cell hia] at hp0 hp1
            have h4 := aC h t o o' x.toNatClampNeg 0
            have e0 : (nI 0).toNatClampNeg = 0 := nI_clamp (by decide)
            have hnat : nativeFrameWords "java/lang/System" "arraycopy" 5 + 11 ≤ 32 := by decide
            refine va_copyi hx hb (hml.trans hls.symm) hown (hts _ (wAt_in hw1)) (hts _ (wAt_in hw2)) (hts _ (wAt_in hw3)) (hts _ (wAt_in hw4)) hK hP hDw hS p0 p1 0 0 hp0 hp1 rfl rfl rfl (nI_pos (by decide)) (nI_pos (by decide)) hn0 (by rw [e0]; omega) (by rw [e0]; omega) (fun _ _ => rfl) (Nat.le_trans hn1 hR1) (by rw [mv_cats_eq]; omega) hd fun H1 locs1 hP1 _ hS1 => ?_
            refine kk _ _ _ _ φ H1 locs1 hh2 hce hsl (fun v hv' => (hv5 v hv').cnt (by rw [h4]; rfl)) ⟨fun _ _ _ => rfl, fun _ _ _ _ => rfl, fun _ => by rw [h4]; exact Nat.le_refl _⟩ (hW.set hcov hp1 hld hP1 ?_ (fun t2 o2 _ hne => ?_) (by rw [h4]; rfl) ?_) hS1
            · rw [mv_ia_cell hia, h4, e0]
              have : (mv_setC (vw h) t o o' x.toNatClampNeg).1 t o' = va_cpy ((vw h).1 t o) ((vw h).1 t o') 0 0 x.toNatClampNeg := by
                funext j
                show (if t = t ∧ o' = o' ∧ j < x.toNatClampNeg then (vw h).1 t o j else (vw h).1 t o' j) = _
                unfold va_cpy
                by_cases hj : j < x.toNatClampNeg
                · rw [if_pos ⟨rfl, rfl, hj⟩, if_pos ⟨Nat.zero_le _, by omega⟩, Nat.zero_add, Nat.sub_zero]
                · rw [if_neg (fun z => hj z.2.2), if_neg (fun z => hj (by omega))]
              rw [this]
              rfl
            · rw [h4]
              refine mv_cell_congr (fun k => ?_) (fun _ => rfl) rfl
              show (if t2 = t ∧ o2 = o' ∧ k < x.toNatClampNeg then (vw h).1 t o k else (vw h).1 t2 o2 k) = _
              rw [if_neg (fun z => hne ⟨z.1, z.2.1⟩)]
            · intro t1 o1 k1 z hlt hz
              rw [h4] at hz
              exact hW.2.2.2.1 _ _ _ _ hlt hz
          · cases hh
        all_goals first | (next heq => cases heq) | cases hc
      · cases hh
    · cases hh
  · -- invokevirtual
    split at hh
    · next j nn rest =>
      simp only [mv_chkC] at hc
      split at hh
      · next C1 f hC =>
        split at hc
        · next heq =>
          cases heq
          split at hc
          · next y bytes maxL ret ins hM =>
            simp only [Bool.and_eq_true, decide_eq_true_eq] at hc
            obtain ⟨rfl, hins, hmax, ⟨hd1, hd2, hd3⟩, hw2, hw3, hw4, hw5, hw1⟩ := hc
            obtain ⟨n', hn', hCal⟩ := hG _ _ _ hC hM
            obtain ⟨a, b, rfl, hlen, hh⟩ := mv_tk_some _ _ _ _ _ hh
            rw [List.append_nil] at hh
            split at hh
            · next hg =>
              simp only [Bool.and_eq_true, Nat.ble_eq] at hg
              refine mv_call (C := (C1, f)) (G := G) (i := .nop) (x := 0) (j := 0) (nn := 0) (len := 0) (lv := lv) hB' hφ hn' hCal hh hg.1 hg.2.1 hg.2.2 hv hls hW hS (fun vs h' q1 q2 q3 q4 => ?_) kk
              obtain ⟨t, o, As, hAs, hcls⟩ := q2 hins
              have ha : a = As.reverse ++ [.inr (t, o)] := by rw [← List.reverse_reverse a, hAs, List.reverse_cons]
              have hro : mv_live (vw h) (.inr (t, o)) := hv _ (List.mem_append_left _ (by rw [ha]; simp))
              have hroom : (mv_rm n' C1.1 C1.2).frames + 1 ≤ R.frames ∧ 8 + (maxL + 11) + (mv_rm n' C1.1 C1.2).locals ≤ R.locals := ⟨Nat.le_trans hn' hR1, by show 8 + (maxL + 11) + 40 * (n' + 1) ≤ R.locals; omega⟩
              have hG2 := mv_WSgood (y, bytes, maxL, ret) (wAt_in hw4)
              have hstk : (F0 m pc ls ((a ++ b).map (mv_v φ))).stack = (As.map (mv_v φ)).reverse ++ .ref (φ t o) :: b.map (mv_v φ) := by
                show (a ++ b).map (mv_v φ) = _
                rw [ha, List.map_append, List.map_append, List.map_reverse, List.append_assoc]
                rfl
              have hrest : 2 * (F0 m pc ls ((a ++ b).map (mv_v φ))).monitorRoom + ((b.map (mv_v φ)).map fun v => v.category).sum ≤ 8 := lv_room (by rw [mv_cats_eq]; exact hg.2.2)
              have hal : As.length + 1 = nn := by
                have e3 := congrArg List.length hAs
                rw [List.length_reverse, List.length_cons] at e3
                omega
              have hd4 : (parseMethodDescriptor y.desc).map (fun d => d.parameters.length) = some (As.length) := by
                obtain ⟨sig, e1, e2⟩ := Option.map_eq_some_iff.mp hd3
                rw [e1]
                exact congrArg some (show sig.parameters.length = As.length by have e3 : sig.parameters.length + 1 = nn := e2; omega)
              have hrcv : ∃ cellB : Cell, H[φ t o]? = some cellB ∧ cellB.vm.isStatics = false ∧ s.vm.findClass y.cls = some cellB.cls := by
                rcases hcls with ⟨ht, hc9⟩ | ⟨rfl, hc9⟩
                · have hlo := hro.int (Or.inl (by omega))
                  have hat := hW.1 t o hlo
                  rw [mv_obj ht] at hat
                  rw [show y.cls = mv_R t from hc9]
                  exact va_recv hK (mv_single hat) (mv_clOf t ht) (q0 := 0) rfl
                · have ho : o < 36 := by
                    rcases hro with hro | hro
                    · have hz := hW.2.2.2.2.2 11 (by decide) (by decide)
                      change o < (vw h).2.2.2 11 at hro
                      omega
                    · exact hro.2.2 (Or.inl rfl)
                  obtain ⟨cell, h1, h2, h3, h4⟩ := (hE.2.1 o ho).1
                  rw [hφ 11 o (by decide) (by decide), show y.cls = "java/lang/String" from hc9]
                  exact ⟨cell, by rw [hS.2.1 _ (Array.getElem?_eq_some_iff.mp h1).1 h4]; exact h1, h2, h3⟩
              rw [hAs, List.map_cons] at q4
              have q3' := q3 l D cI cQ q0 φ
              rw [hAs, List.map_cons] at q3'
              exact va_runV (C := y.cls) ⟨hx, hb, hml, hown, hts⟩ q3' (cwV As.length hts (fun w hw => by
                  unfold wsV at hw
                  rcases List.mem_append.mp hw with hw | hw
                  · simp only [List.mem_cons, List.not_mem_nil, or_false] at hw
                    rcases hw with rfl | rfl | rfl | rfl
                    · exact ⟨wAt_in hw1, WS_good (wAt_in hw1)⟩
                    · exact ⟨wAt_in hw2, WS_good (wAt_in hw2)⟩
                    · exact ⟨wAt_in hw5, WS_good (wAt_in hw5)⟩
                    · exact ⟨wAt_in hw3, WS_good (wAt_in hw3)⟩
                  · exact hG2 w hw) rfl rfl rfl ⟨rfl, hd1, hd2, hd4⟩ hroom) ⟨by have hbl := mv_blind (φ := φ) (q0 := q0) (D := D) (cI := cI) (cQ := cQ) (as := a.reverse) (g := vw h); rw [hAs, List.map_cons] at hbl; exact hbl, hrcv, q4⟩ rfl (List.length_map _) hls hstk hrest hd ⟨Nat.le_trans hg.1 hR2, Nat.le_trans hg.2.1 hR3⟩
            · cases hh
          · cases hc
        all_goals first | (next heq => cases heq) | cases hc
      · cases hh
    · simp only [mv_chkC] at hc
      cases hc
    · cases hh
  · -- invokespecial
    split at hh
    · next j nn rest =>
      simp only [mv_chkC] at hc
      split at hh
      · next C1 f hC =>
        split at hc
        · next heq =>
          cases heq
          split at hc
          · next y bytes maxL ret ins hM =>
            simp only [Bool.and_eq_true, decide_eq_true_eq] at hc
            obtain ⟨rfl, hins, rfl, hnm2, hmax, ⟨hd1, hd2, hd3⟩, hw2, hw3, hw4, hw1⟩ := hc
            obtain ⟨n', hn', hCal⟩ := hG _ _ _ hC hM
            obtain ⟨a, b, rfl, hlen, hh⟩ := mv_tk_some _ _ _ _ _ hh
            rw [List.append_nil] at hh
            split at hh
            · next hg =>
              simp only [Bool.and_eq_true, Nat.ble_eq] at hg
              refine mv_call (C := (C1, f)) (G := G) (i := .nop) (x := 0) (j := 0) (nn := 0) (len := 0) (lv := lv) hB' hφ hn' hCal hh hg.1 hg.2.1 hg.2.2 hv hls hW hS (fun vs h' q1 q2 q3 q4 => ?_) kk
              obtain ⟨t, o, As, hAs, hcls⟩ := q2 hins
              have ha : a = As.reverse ++ [.inr (t, o)] := by rw [← List.reverse_reverse a, hAs, List.reverse_cons]
              have hroom : (mv_rm n' C1.1 C1.2).frames + 1 ≤ R.frames ∧ 8 + (maxL + 11) + (mv_rm n' C1.1 C1.2).locals ≤ R.locals := ⟨Nat.le_trans hn' hR1, by show 8 + (maxL + 11) + 40 * (n' + 1) ≤ R.locals; omega⟩
              have hG2 := mv_WSgood (y, bytes, maxL, none) (wAt_in hw4)
              have hstk : (F0 m pc ls ((a ++ b).map (mv_v φ))).stack = (As.map (mv_v φ)).reverse ++ .ref (φ t o) :: b.map (mv_v φ) := by
                show (a ++ b).map (mv_v φ) = _
                rw [ha, List.map_append, List.map_append, List.map_reverse, List.append_assoc]
                rfl
              have hrest : 2 * (F0 m pc ls ((a ++ b).map (mv_v φ))).monitorRoom + ((b.map (mv_v φ)).map fun v => v.category).sum ≤ 8 := lv_room (by rw [mv_cats_eq]; exact hg.2.2)
              have hal : As.length + 1 = nn := by
                have e3 := congrArg List.length hAs
                rw [List.length_reverse, List.length_cons] at e3
                omega
              have hd4 : (parseMethodDescriptor y.desc).map (fun d => d.parameters.length) = some (As.length) := by
                obtain ⟨sig, e1, e2⟩ := Option.map_eq_some_iff.mp hd3
                rw [e1]
                exact congrArg some (show sig.parameters.length = As.length by have e3 : sig.parameters.length + 1 = nn := e2; omega)
              rw [hAs, List.map_cons] at q4
              have q3' := q3 l D cI cQ q0 φ
              rw [hAs, List.map_cons] at q3'
              have hbl := mv_blind (φ := φ) (q0 := q0) (D := D) (cI := cI) (cQ := cQ) (as := a.reverse) (g := vw h)
              rw [hAs, List.map_cons] at hbl
              split at hw1
              · have hcb : CallB R s args md.1.cls _ y bytes maxL none (.code y bytes maxL none :: WS) (mv_rm n' C1.1 C1.2) C1.1 C1.2 As.length := callB_of As.length hts hG2 rfl rfl rfl (hts _ (wAt_in hw3)) (hts _ (wAt_in hw1)) ⟨hd1, hd2, hd4⟩ hroom
                exact va_runI ⟨hx, hb, hml, hown, hts⟩ q3' ⟨hcb, hnm2, hts _ (wAt_in hw2)⟩ ⟨hbl, q4⟩ rfl (List.length_map _) hls hstk hrest hd ⟨Nat.le_trans hg.1 hR2, Nat.le_trans hg.2.1 hR3⟩
              · exact va_runIN (host := "IntentVats") ⟨hx, hb, hml, hown, hts⟩ q3' ⟨va_cnB As.length hts hG2 rfl rfl rfl (hE.2.2.2.2.2.2.1 _ (of_decide_eq_true hw1)) (hts _ (wAt_in hw3)) ⟨hd1, hd2, hd4⟩ hroom, hnm2, hts _ (wAt_in hw2)⟩ ⟨hbl, q4⟩ rfl (List.length_map _) hls hstk hrest hd ⟨Nat.le_trans hg.1 hR2, Nat.le_trans hg.2.1 hR3⟩
            · cases hh
          · cases hc
        all_goals first | (next heq => cases heq) | cases hc
      · cases hh
    · -- Object()
      split at hh
      · next q st =>
        obtain ⟨-, hv1⟩ := List.forall_mem_cons.mp hv
        simp only [mv_chkC] at hc
        split at hc
        · next heq => cases heq
        · next heq =>
          cases heq
          simp only [Bool.and_eq_true, decide_eq_true_eq] at hc
          obtain ⟨rfl, hw1, hw2, hw3⟩ := hc
          split at hh
          · next hg =>
            have hg := Nat.ble_eq.mp hg
            exact W.objInit hx hb hown (hts _ (wAt_in hw1)) (hts _ (wAt_in hw2)) (hts _ (wAt_in hw3)) (g := F0 m pc ls _) rfl (hls.trans hml.symm) rfl hd (Nat.le_trans hn1 hR1) (by rw [mv_cats_eq]; show 2 * 0 + _ + 12 ≤ _; omega) (kk _ _ _ _ φ H locs hh hce hsl hv1 mv_ge.rf hW hS)
          · cases hh
        · cases hc
      · cases hh
    · cases hh
  · cases hh
end
end
section
-- ===== one instruction, a stretch of code, a method =====
theorem mv_nar0 : narrow .boolean (.int (nI 0)) = .int (nI 0) := by decide +kernel
theorem mv_nar1 : narrow .boolean (.int (nI 1)) = .int (nI 1) := by decide +kernel
theorem mv_narN : ∀ n, n < 128 → narrow .byte (.int (nI n)) = .int (nI n) ∧ narrow .char (.int (nI n)) = .int (nI n) := by decide +kernel
theorem mv_nar127 {x : Int32} (h1 : 0 ≤ x) (h2 : x ≤ 127) : narrow .byte (.int x) = .int x ∧ narrow .char (.int x) = .int x := by
  have e1 : (0 : Int) ≤ x.toInt := Int32.le_iff_toInt_le.mp h1
  have e2 : x.toInt ≤ 127 := Int32.le_iff_toInt_le.mp h2
  have e3 : x = nI x.toInt.toNat := Int32.toInt_inj.mp (by rw [nI_toInt (by omega)]; omega)
  rw [e3]
  exact mv_narN _ (by omega)
def mv_tgts (pc : Nat) : List Int → List Nat → Bool
  | [], [] => true
  | o :: os, t :: ts => decide ((pc : Int) + o = (t : Int)) && mv_tgts pc os ts
  | _, _ => false
def mv_prs (pc : Nat) : List (Int × Int) → List Nat → Bool
  | [], [] => true
  | q :: ps, k :: t :: l => decide (q.1 = (k : Int)) && (decide (k < 2 ^ 31) && (decide ((pc : Int) + q.2 = (t : Int)) && mv_prs pc ps l))
  | _, _ => false
def mv_chk (md : mv_MD) (Ms : List (mv_MD × Bool)) (pc : Nat) (i : Instr) (len : Nat) (lk : List Nat) : Bool := match i with
  | .getfield _ | .putfield _ | .iaload | .iastore | .aaload | .aastore | .arraylength | .baload | .getstatic _ => mv_chkH md.1.cls md.1.name i len lk
  | .invokestatic _ | .invokevirtual _ | .invokespecial _ | .new _ | .newarray _ | .anewarray _ => mv_chkC md.1.cls Ms i len lk
  | .goto off => (match lk with
    | t :: _ => decide (len = 3) && decide ((pc : Int) + off = (t : Int))
    | _ => false)
  | .ifCond _ off => (match lk with
    | t :: _ => decide (len = 3) && decide ((pc : Int) + off = (t : Int))
    | _ => false)
  | .if_icmp _ off => (match lk with
    | t :: _ => decide (len = 3) && decide ((pc : Int) + off = (t : Int))
    | _ => false)
  | .ifnull off => (match lk with
    | t :: _ => decide (len = 3) && decide ((pc : Int) + off = (t : Int))
    | _ => false)
  | .ifnonnull off => (match lk with
    | t :: _ => decide (len = 3) && decide ((pc : Int) + off = (t : Int))
    | _ => false)
  | .tableswitch d lo hi offs => (match lk with
    | lo' :: d' :: l => decide (lo = (lo' : Int)) && (decide (hi + 1 = (lo' + l.length : Nat)) && (decide (lo' + l.length < 2 ^ 31) && (decide ((pc : Int) + d = (d' : Int)) && mv_tgts pc offs.toList l)))
    | _ => false)
  | .lookupswitch d ps => (match lk with
    | d' :: l => decide ((pc : Int) + d = (d' : Int)) && ((ps.toList.zip (ps.toList.drop 1)).all (fun (a, next) => a.1 < next.1) && mv_prs pc ps.toList l)
    | _ => false)
  | .ireturn => (match lk with
    | 1 :: _ => decide (len = 1) && decide (md.2.2.2 = some .boolean)
    | 2 :: _ => decide (len = 1) && (decide (md.2.2.2 = some .byte) || decide (md.2.2.2 = some .char))
    | _ => decide (len = 1) && decide (md.2.2.2 = some .int))
  | .lreturn => decide (len = 1) && decide (md.2.2.2 = some .long)
  | .areturn => decide (len = 1) && (match md.2.2.2 with
    | some (.object _) => true
    | _ => false)
  | .return_ => decide (len = 1) && decide (md.2.2.2 = none)
  | i => mv_chkL md.2.2.1 md.1.cls i len lk
theorem mv_tgts_get {pc : Nat} : ∀ {os : List Int} {ts : List Nat}, mv_tgts pc os ts = true → ∀ (k : Nat) (t : Nat), ts[k]? = some t → ∃ o, os[k]? = some o ∧ (pc : Int) + o = (t : Int)
  | [], [], _, k, t, h => by simp at h
  | [], _ :: _, h, _, _, _ => by cases h
  | _ :: _, [], h, _, _, _ => by cases h
  | o :: os, t :: ts, h, k, t', hk => by
    simp only [mv_tgts, Bool.and_eq_true, decide_eq_true_eq] at h
    cases k with
    | zero =>
      rw [List.getElem?_cons_zero] at hk
      cases hk
      exact ⟨o, rfl, h.1⟩
    | succ k =>
      rw [List.getElem?_cons_succ] at hk
      obtain ⟨o', h1, h2⟩ := mv_tgts_get h.2 k t' hk
      exact ⟨o', by rw [List.getElem?_cons_succ]; exact h1, h2⟩
theorem mv_ts_some {α : Type} {x : Int32} {d : α} {f : Nat → α} : ∀ {l : List Nat} {lo : Nat} {r : α}, mv_ts x lo d f l = r → (∃ (k t : Nat), l[k]? = some t ∧ x = nI (lo + k) ∧ f t = r) ∨ ((∀ k, k < l.length → ¬ x = nI (lo + k)) ∧ d = r)
  | [], lo, r, h => Or.inr ⟨fun k hk => by simp at hk, h⟩
  | t :: l, lo, r, h => by
    unfold mv_ts at h
    split at h
    · next e => exact Or.inl ⟨0, t, rfl, e, h⟩
    · next e =>
      rcases mv_ts_some h with ⟨k, t', h1, h2, h3⟩ | ⟨h1, h2⟩
      · exact Or.inl ⟨k + 1, t', by rw [List.getElem?_cons_succ]; exact h1, by rw [h2]; congr 1; omega, h3⟩
      · refine Or.inr ⟨fun k hk => ?_, h2⟩
        cases k with
        | zero => exact e
        | succ k =>
          have := h1 k (by simpa using hk)
          rw [show lo + (k + 1) = lo + 1 + k by omega]
          exact this
theorem mv_of_toInt {x : Int32} {n : Nat} (hn : n < 2 ^ 31) (h : x.toInt = (n : Int)) : x = nI n := Int32.toInt_inj.mp (h.trans (nI_toInt hn).symm)
theorem mv_ls_some {α : Type} {pc : Nat} {x : Int32} {d : α} {f : Nat → α} : ∀ {ps : List (Int × Int)} {l : List Nat} {r : α} {dd : Int}, mv_prs pc ps l = true → mv_ls x d f l = r → (∃ (o : Int) (t : Nat), Op.lookupswitch.offset ps dd x.toInt = o ∧ (pc : Int) + o = (t : Int) ∧ f t = r) ∨ (Op.lookupswitch.offset ps dd x.toInt = dd ∧ d = r)
  | [], [], r, dd, _, h => Or.inr ⟨rfl, h⟩
  | [], _ :: _, _, _, h, _ => by cases h
  | _ :: _, [], _, _, h, _ => by cases h
  | _ :: _, [_], _, _, h, _ => by cases h
  | (a, o) :: ps, k :: t :: l, r, dd, h, hh => by
    simp only [mv_prs, Bool.and_eq_true, decide_eq_true_eq] at h
    obtain ⟨h1, h2, h3, h4⟩ := h
    unfold mv_ls at hh
    rw [Op.lookupswitch.offset_cons]
    split at hh
    · next e =>
      subst e
      exact Or.inl ⟨o, t, by rw [if_pos (h1.trans (nI_toInt h2).symm)], h3, hh⟩
    · next e =>
      have hne : ¬ a = x.toInt := fun z => e (mv_of_toInt h2 (z.symm.trans h1))
      rw [if_neg hne]
      exact mv_ls_some h4 hh
section
variable {Hp : Type} {rI : Hp → Nat → Nat → Nat → Int32} {rR : Hp → Nat → Nat → Nat → (Option (Nat × Nat) → Option (List mv_V × Hp)) → Option (List mv_V × Hp)} {ln : Hp → Nat → Nat → Nat} {wI : Hp → Nat → Nat → Nat → Int32 → Hp} {wR : Hp → Nat → Nat → Nat → Option (Nat × Nat) → (Hp → Option (List mv_V × Hp)) → Option (List mv_V × Hp)} {nw : Hp → Nat → Nat → (Nat → Hp → Option (List mv_V × Hp)) → Option (List mv_V × Hp)} {cp : Hp → Nat → Nat → Nat → Nat → Nat → Hp} {vw : Hp → mv_G}
variable {p : Program} {l : Launch} {e : Env} {R : Room} {s : State} {m : MethodId} {args : Array Value} {below : List Frame} {meth : Method} {c : Code} {φ0 : Nat → Nat → Nat} {md : mv_MD} {n MC MS : Nat} {sc : Option (Nat × (Nat → Int32))} {D : va_G} {cI cQ : ClassId} {q0 : Nat} {g0 : mv_G} {res : List mv_V × Hp} {Qf : State → Prop}
theorem mv_chk_lop {Ms : List (mv_MD × Bool)} {i : Instr} {pc len : Nat} {lk : List Nat} {lv : mv_L} {st : List mv_V} {k : mv_L → List mv_V → Option (List mv_V × Hp)} (h : mv_lop i lk lv st k = some res) (hc : mv_chk md Ms pc i len lk = true) : mv_chkL md.2.2.1 md.1.cls i len lk = true := by
  unfold mv_lop at h
  split at h <;> first | exact hc | (unfold mv_op at h; split at h <;> first | exact hc | cases h)
theorem mv_fv1 {α : Type} {P : α → Prop} {a : α} {l : List α} (h : ∀ v ∈ a :: l, P v) : ∀ v ∈ l, P v := (List.forall_mem_cons.mp h).2
set_option maxHeartbeats 8000000 in
theorem mv_step_sound (hA : mv_Ax rI rR ln wI wR nw cp vw) (hB : mv_B md n MC MS sc p R s m args meth c D cI cQ q0 φ0) (hRet : mv_Ret vw md MC MS g0 res p l e R s m args below meth c D cI cQ q0 φ0 Qf) {G : List (mv_C Hp)} {Ms : List (mv_MD × Bool)} (hG : ∀ j C md', mv_nth j G = some C → mv_nth j Ms = some md' → ∃ n', n' + 1 ≤ n ∧ mv_Cal vw n' md' C) (hn1 : 1 ≤ n)
    {i : Instr} {pc len : Nat} {lk : List Nat} (hd : decode md.2.1 pc = .ok (i, len)) (hc : mv_chk md Ms pc i len lk = true)
    {nx : mv_L → List mv_V → Hp → Nat → Nat → Option (List mv_V × Hp)} {jp : Nat → mv_L → List mv_V → Hp → Nat → Nat → Option (List mv_V × Hp)}
    (hnx : ∀ lv st h ce sl, nx lv st h ce sl = some res → mv_Y vw md MC MS g0 p l e R s m args below meth c D cI cQ q0 φ0 Qf (pc + len) lv st h ce sl)
    (hjp : ∀ t lv st h ce sl, jp t lv st h ce sl = some res → mv_Y vw md MC MS g0 p l e R s m args below meth c D cI cQ q0 φ0 Qf t lv st h ce sl)
    {lv : mv_L} {st : List mv_V} {h : Hp} {ce sl : Nat} (hh : mv_step rI rR ln wI wR nw cp bod sc G MC MS nx jp i lk lv st h ce sl = some res) : mv_Y vw md MC MS g0 p l e R s m args below meth c D cI cQ q0 φ0 Qf pc lv st h ce sl := by
  intro hce hsl hv hvl φ H locs ls hge hW hS hl
  have hB' := hB
  obtain ⟨hx, hb, hml, hown, hnm, hts, hK, hq0, hR, hE, hScr⟩ := hB'
  have hφ := hge.2.1
  have hH : mv_chkH md.1.cls md.1.name i len lk = true → mv_hop rI rR ln wI wR bod sc i lk st h (fun st h => nx lv st h ce sl) = some res → W p l e R s m args below meth c H locs ce sl Qf (F0 m pc ls (st.map (mv_v φ))) := by
    intro hc hh
    refine mv_hop_sound hA hB hφ hd hc hh hv hW hS fun st' h' H' locs' k1 k2 k3 k4 k5 => ?_
    refine hnx _ _ _ _ _ k1 hce hsl k2 (fun q hq => (hvl q hq).cnt k3) φ H' locs' ls ⟨hge.1, hge.2.1, fun t => ?_⟩ k4 k5 hl
    rw [k3]; exact hge.2.2 t
  have hC : mv_chkC md.1.cls Ms i len lk = true → mv_cop ln nw cp G MC MS i lk lv st h ce sl (fun st h ce sl => nx lv st h ce sl) = some res → W p l e R s m args below meth c H locs ce sl Qf (F0 m pc ls (st.map (mv_v φ))) := by
    intro hc hh
    refine mv_cop_sound hA hB hφ hG hn1 hd hc hh hce hsl hv hl.1 hW hS fun st' h' ce' sl' φ' H' locs' k1 k2 k3 k4 k5 k6 k7 => ?_
    exact hnx _ _ _ _ _ k1 k2 k3 k4 (fun q hq => (hvl q hq).up k5) φ' H' locs' ls (hge.trans k5) k6 k7 (by rw [mv_live.samel k5 hvl]; exact hl)
  have hLo : mv_chkL md.2.2.1 md.1.cls i len lk = true → mv_lop i lk lv st (fun lv st => nx lv st h ce sl) = some res → W p l e R s m args below meth c H locs ce sl Qf (F0 m pc ls (st.map (mv_v φ))) := by
    intro hc hh
    refine mv_lop_sound hx hb hown hts (fun k o idx tx hk => ?_) hd hc hh hl hv hvl fun lv' st' ls' k1 k2 k3 k4 => ?_
    · rw [hφ 11 k (by decide) (by decide)]; exact hE.1 k o idx tx hk
    · exact hnx _ _ _ _ _ k1 hce hsl k2 k3 φ H locs ls' hge hW hS k4
  unfold mv_step at hh
  split at hh
  · exact hH hc hh
  · exact hH hc hh
  · exact hH hc hh
  · exact hH hc hh
  · exact hH hc hh
  · exact hH hc hh
  · exact hH hc hh
  · exact hH hc hh
  · exact hH hc hh
  · exact hC hc hh
  · exact hC hc hh
  · exact hC hc hh
  · exact hC hc hh
  · exact hC hc hh
  · exact hC hc hh
  · -- goto
    split at hh
    · simp only [mv_chk, Bool.and_eq_true, decide_eq_true_eq] at hc
      obtain ⟨rfl, ht⟩ := hc
      exact lv_goto hx hb hd ht (hjp _ _ _ _ _ _ hh hce hsl hv hvl φ H locs ls hge hW hS hl)
    · cases hh
  · -- ifCond
    split at hh
    · next t tl =>
      simp only [mv_chk, Bool.and_eq_true, decide_eq_true_eq] at hc
      obtain ⟨rfl, ht⟩ := hc
      split at hh
      · next x st =>
        have hJ := fun (z : jp t lv st h ce sl = some res) => hjp _ _ _ _ _ _ z hce hsl (mv_fv1 hv) hvl φ H locs ls hge hW hS hl
        have hN := fun (z : nx lv st h ce sl = some res) => hnx _ _ _ _ _ z hce hsl (mv_fv1 hv) hvl φ H locs ls hge hW hS hl
        unfold mv_cmp at hh
        split at hh
        · exact lv_if_eq hx hb hd ht (fun z => hJ (by rw [if_pos z] at hh; exact hh)) (fun z => hN (by rw [if_neg z] at hh; exact hh))
        · exact lv_if_ne hx hb hd ht (fun z => hJ (by rw [if_neg z] at hh; exact hh)) (fun z => hN (by rw [if_pos z] at hh; exact hh))
        · exact lv_if_lt hx hb hd ht (fun z => hJ (by rw [if_pos z] at hh; exact hh)) (fun z => hN (by rw [if_neg z] at hh; exact hh))
        · exact lv_if_ge hx hb hd ht (fun z => hJ (by rw [if_pos z] at hh; exact hh)) (fun z => hN (by rw [if_neg z] at hh; exact hh))
        · exact lv_if_gt hx hb hd ht (fun z => hJ (by rw [if_pos z] at hh; exact hh)) (fun z => hN (by rw [if_neg z] at hh; exact hh))
        · exact lv_if_le hx hb hd ht (fun z => hJ (by rw [if_pos z] at hh; exact hh)) (fun z => hN (by rw [if_neg z] at hh; exact hh))
      · cases hh
    · cases hh
  · -- if_icmp
    split at hh
    · next t tl =>
      simp only [mv_chk, Bool.and_eq_true, decide_eq_true_eq] at hc
      obtain ⟨rfl, ht⟩ := hc
      split at hh
      · next y x st =>
        have hJ := fun (z : jp t lv st h ce sl = some res) => hjp _ _ _ _ _ _ z hce hsl (mv_fv1 (mv_fv1 hv)) hvl φ H locs ls hge hW hS hl
        have hN := fun (z : nx lv st h ce sl = some res) => hnx _ _ _ _ _ z hce hsl (mv_fv1 (mv_fv1 hv)) hvl φ H locs ls hge hW hS hl
        unfold mv_cmp at hh
        split at hh
        · exact lv_icmp_eq hx hb hd ht (fun z => hJ (by rw [if_pos z] at hh; exact hh)) (fun z => hN (by rw [if_neg z] at hh; exact hh))
        · exact lv_icmp_ne hx hb hd ht (fun z => hJ (by rw [if_neg z] at hh; exact hh)) (fun z => hN (by rw [if_pos z] at hh; exact hh))
        · exact lv_icmp_lt hx hb hd ht (fun z => hJ (by rw [if_pos z] at hh; exact hh)) (fun z => hN (by rw [if_neg z] at hh; exact hh))
        · exact lv_icmp_ge hx hb hd ht (fun z => hJ (by rw [if_pos z] at hh; exact hh)) (fun z => hN (by rw [if_neg z] at hh; exact hh))
        · exact lv_icmp_gt hx hb hd ht (fun z => hJ (by rw [if_pos z] at hh; exact hh)) (fun z => hN (by rw [if_neg z] at hh; exact hh))
        · exact lv_icmp_le hx hb hd ht (fun z => hJ (by rw [if_pos z] at hh; exact hh)) (fun z => hN (by rw [if_neg z] at hh; exact hh))
      · cases hh
    · cases hh
  · -- ifnull
    split at hh
    · simp only [mv_chk, Bool.and_eq_true, decide_eq_true_eq] at hc
      obtain ⟨rfl, ht⟩ := hc
      split at hh
      · exact lv_ifnull hx hb hd (hnx _ _ _ _ _ hh hce hsl (mv_fv1 hv) hvl φ H locs ls hge hW hS hl)
      · exact lv_ifnullN hx hb hd ht (hjp _ _ _ _ _ _ hh hce hsl (mv_fv1 hv) hvl φ H locs ls hge hW hS hl)
      · cases hh
    · cases hh
  · -- ifnonnull
    split at hh
    · simp only [mv_chk, Bool.and_eq_true, decide_eq_true_eq] at hc
      obtain ⟨rfl, ht⟩ := hc
      split at hh
      · exact lv_ifnonnull hx hb hd ht (hjp _ _ _ _ _ _ hh hce hsl (mv_fv1 hv) hvl φ H locs ls hge hW hS hl)
      · exact lv_ifnonnullN hx hb hd (hnx _ _ _ _ _ hh hce hsl (mv_fv1 hv) hvl φ H locs ls hge hW hS hl)
      · cases hh
    · cases hh
  · -- tableswitch
    split at hh
    · next lo' d' tl =>
      simp only [mv_chk, Bool.and_eq_true, decide_eq_true_eq] at hc
      obtain ⟨hlo, hhi, hbig, hdt, htg⟩ := hc
      split at hh
      · next x st =>
        rcases mv_ts_some hh with ⟨k, t, h1, h2, h3⟩ | ⟨h1, h2⟩
        · have hk : k < tl.length := (List.getElem?_eq_some_iff.mp h1).1
          obtain ⟨o, h4, h5⟩ := mv_tgts_get htg k t h1
          have hxi : x.toInt = ((lo' + k : Nat) : Int) := by rw [h2]; exact nI_toInt (by omega)
          refine lv_tableIn hx hb hd (by omega) (by omega) ?_ h5 (hjp _ _ _ _ _ _ h3 hce hsl (mv_fv1 hv) hvl φ H locs ls hge hW hS hl)
          rw [hxi, hlo, show (((lo' + k : Nat) : Int) - (lo' : Int)).toNat = k by omega]
          rw [← Array.getElem?_toList]
          exact h4
        · refine lv_tableOut hx hb hd ?_ hdt (hjp _ _ _ _ _ _ h2 hce hsl (mv_fv1 hv) hvl φ H locs ls hge hW hS hl)
          apply Classical.byContradiction
          intro hn
          obtain ⟨k, hk⟩ : ∃ k : Nat, x.toInt = ((lo' + k : Nat) : Int) := ⟨(x.toInt - lo').toNat, by omega⟩
          exact h1 k (by omega) (mv_of_toInt (by omega) hk)
      · cases hh
    · cases hh
  · -- lookupswitch
    split at hh
    · next d' tl =>
      simp only [mv_chk, Bool.and_eq_true, decide_eq_true_eq] at hc
      obtain ⟨hdt, hso, hps⟩ := hc
      split at hh
      · next x st =>
        rcases mv_ls_some hps hh with ⟨o, t, h1, h2, h3⟩ | ⟨h1, h2⟩
        · exact lv_lookup hx hb hd hso h1 h2 (hjp _ _ _ _ _ _ h3 hce hsl (mv_fv1 hv) hvl φ H locs ls hge hW hS hl)
        · exact lv_lookup hx hb hd hso h1 hdt (hjp _ _ _ _ _ _ h2 hce hsl (mv_fv1 hv) hvl φ H locs ls hge hW hS hl)
      · cases hh
    · cases hh
  · -- ireturn
    split at hh
    · split at hh
      · next x =>
        obtain ⟨hg, hh⟩ := mv_gd_some hh
        cases hh
        simp only [mv_chk, Bool.and_eq_true, decide_eq_true_eq] at hc
        simp only [Bool.or_eq_true, decide_eq_true_eq] at hg
        obtain ⟨rfl, hr⟩ := hc
        refine W.widen hce hsl ((hRet φ H locs ls pc hge hW hS hv).1 _ rfl hd ⟨_, hr, ?_⟩)
        rcases hg with rfl | rfl
        · exact mv_nar0
        · exact mv_nar1
      · cases hh
    · split at hh
      · next x =>
        obtain ⟨hg, hh⟩ := mv_gd_some hh
        cases hh
        simp only [mv_chk, Bool.and_eq_true, Bool.or_eq_true, decide_eq_true_eq] at hc
        simp only [Bool.and_eq_true, decide_eq_true_eq] at hg
        obtain ⟨rfl, hr⟩ := hc
        rcases hr with hr | hr
        · exact W.widen hce hsl ((hRet φ H locs ls pc hge hW hS hv).1 _ rfl hd ⟨_, hr, (mv_nar127 hg.1 hg.2).1⟩)
        · exact W.widen hce hsl ((hRet φ H locs ls pc hge hW hS hv).1 _ rfl hd ⟨_, hr, (mv_nar127 hg.1 hg.2).2⟩)
      · cases hh
    · next hlk =>
      split at hh
      · next x =>
        cases hh
        have hc2 : (decide (len = 1) && decide (md.2.2.2 = some .int)) = true := by
          simp only [mv_chk] at hc
          exact hc
        simp only [Bool.and_eq_true, decide_eq_true_eq] at hc2
        obtain ⟨rfl, hr⟩ := hc2
        exact W.widen hce hsl ((hRet φ H locs ls pc hge hW hS hv).1 _ rfl hd ⟨_, hr, rfl⟩)
      · cases hh
  · -- lreturn
    split at hh
    · cases hh
      simp only [mv_chk, Bool.and_eq_true, decide_eq_true_eq] at hc
      obtain ⟨rfl, hr⟩ := hc
      exact W.widen hce hsl ((hRet φ H locs ls pc hge hW hS hv).2.1 _ rfl hd hr)
    · cases hh
  · -- areturn
    have hc2 : len = 1 ∧ ∃ n, md.2.2.2 = some (.object n) := by
      simp only [mv_chk, Bool.and_eq_true, decide_eq_true_eq] at hc
      refine ⟨hc.1, ?_⟩
      have := hc.2
      split at this
      · next n hn => exact ⟨n, hn⟩
      · cases this
    obtain ⟨rfl, hr⟩ := hc2
    split at hh
    · cases hh
      exact W.widen hce hsl ((hRet φ H locs ls pc hge hW hS hv).2.2.1 _ rfl hd hr (Or.inr ⟨_, rfl⟩))
    · cases hh
      exact W.widen hce hsl ((hRet φ H locs ls pc hge hW hS hv).2.2.1 _ rfl hd hr (Or.inl rfl))
    · cases hh
  · -- return
    split at hh
    · cases hh
      simp only [mv_chk, Bool.and_eq_true, decide_eq_true_eq] at hc
      obtain ⟨rfl, hr⟩ := hc
      exact W.widen hce hsl ((hRet φ H locs ls pc hge hW hS hv).2.2.2 rfl hd hr)
    · cases hh
  · exact hLo (mv_chk_lop hh hc) hh
end
/-- a table is the method's code, and its operands are right -/
def mv_tok (md : mv_MD) (Ms : List (mv_MD × Bool)) : List mv_E → Bool
  | [] => true
  | e :: l => decide (decode md.2.1 e.1 = .ok (e.2.1, e.2.2.1)) && (mv_chk md Ms e.1 e.2.1 e.2.2.1 e.2.2.2 && ((match l with
    | [] => true
    | e2 :: _ => decide (e2.1 = e.1 + e.2.2.1)) && mv_tok md Ms l))
theorem mv_seek_ok {md : mv_MD} {Ms : List (mv_MD × Bool)} {t : Nat} : ∀ {tab : List mv_E}, mv_tok md Ms tab = true → mv_tok md Ms (mv_seek t tab) = true ∧ ∀ e l, mv_seek t tab = e :: l → e.1 = t
  | [], _ => ⟨rfl, fun e l h => by cases h⟩
  | a :: l, h => by
    unfold mv_seek
    cases hc : Nat.beq a.1 t with
    | true =>
      refine ⟨h, fun e l' he => ?_⟩
      have he2 : a :: l = e :: l' := he
      cases he2
      exact Nat.eq_of_beq_eq_true hc
    | false =>
      have h2 : mv_tok md Ms l = true := by
        unfold mv_tok at h
        simp only [Bool.and_eq_true] at h
        exact h.2.2.2
      exact mv_seek_ok h2
section
variable {Hp : Type} {rI : Hp → Nat → Nat → Nat → Int32} {rR : Hp → Nat → Nat → Nat → (Option (Nat × Nat) → Option (List mv_V × Hp)) → Option (List mv_V × Hp)} {ln : Hp → Nat → Nat → Nat} {wI : Hp → Nat → Nat → Nat → Int32 → Hp} {wR : Hp → Nat → Nat → Nat → Option (Nat × Nat) → (Hp → Option (List mv_V × Hp)) → Option (List mv_V × Hp)} {nw : Hp → Nat → Nat → (Nat → Hp → Option (List mv_V × Hp)) → Option (List mv_V × Hp)} {cp : Hp → Nat → Nat → Nat → Nat → Nat → Hp} {vw : Hp → mv_G}
variable {md : mv_MD} {n MC MS : Nat} {sc : Option (Nat × (Nat → Int32))} {g0 : mv_G} {res : List mv_V × Hp}
theorem mv_blk_sound {p : Program} {l : Launch} {e : Env} {R : Room} {s : State} {m : MethodId} {args : Array Value} {below : List Frame} {meth : Method} {c : Code} {φ0 : Nat → Nat → Nat} {D : va_G} {cI cQ : ClassId} {q0 : Nat} {Qf : State → Prop} (hA : mv_Ax rI rR ln wI wR nw cp vw) (hB : mv_B md n MC MS sc p R s m args meth c D cI cQ q0 φ0) (hRet : mv_Ret vw md MC MS g0 res p l e R s m args below meth c D cI cQ q0 φ0 Qf) {G : List (mv_C Hp)} {Ms : List (mv_MD × Bool)} (hG : ∀ j C md', mv_nth j G = some C → mv_nth j Ms = some md' → ∃ n', n' + 1 ≤ n ∧ mv_Cal vw n' md' C) (hn1 : 1 ≤ n)
    {tab : List mv_E} (htab : mv_tok md Ms tab = true) {stops : List Nat} {ka : Nat → mv_L → List mv_V → Hp → Nat → Nat → Option (List mv_V × Hp)} (hka : ∀ pc lv st h ce sl, ka pc lv st h ce sl = some res → mv_Y vw md MC MS g0 p l e R s m args below meth c D cI cQ q0 φ0 Qf pc lv st h ce sl) :
    ∀ (k : Nat) (cs : List mv_E), mv_tok md Ms cs = true → ∀ lv st h ce sl, mv_blk rI rR ln wI wR nw cp bod sc tab G MC MS stops ka k cs lv st h ce sl = some res → ∀ a l', cs = a :: l' → mv_Y vw md MC MS g0 p l e R s m args below meth c D cI cQ q0 φ0 Qf a.1 lv st h ce sl := by
  intro k
  induction k with
  | zero =>
    intro cs _ lv st h ce sl hh
    cases hh
  | succ k ih =>
    intro cs hcs lv st h ce sl hh a l' he
    subst he
    unfold mv_tok at hcs
    simp only [Bool.and_eq_true, decide_eq_true_eq] at hcs
    obtain ⟨hd, hc, hnext, hrest⟩ := hcs
    have hgo : ∀ (cs' : List mv_E), mv_tok md Ms cs' = true → ∀ lv st h ce sl, mv_nx stops ka (mv_blk rI rR ln wI wR nw cp bod sc tab G MC MS stops ka k) cs' lv st h ce sl = some res → ∀ a2 l2, cs' = a2 :: l2 → mv_Y vw md MC MS g0 p l e R s m args below meth c D cI cQ q0 φ0 Qf a2.1 lv st h ce sl := by
      intro cs' hok lv st h ce sl hh a2 l2 he
      subst he
      unfold mv_nx at hh
      split at hh
      · next heq => cases heq
      · next heq =>
        cases heq
        split at hh
        · exact hka _ _ _ _ _ _ hh
        · exact ih _ hok _ _ _ _ _ hh _ _ rfl
    refine mv_step_sound hA hB hRet hG hn1 hd hc (fun lv st h ce sl hh => ?_) (fun t lv st h ce sl hh => ?_) hh
    · cases hl : l' with
      | nil => rw [hl] at hh; cases hh
      | cons a2 l2 =>
        rw [hl] at hnext hrest hh
        have h1 : a2.1 = a.1 + a.2.2.1 := of_decide_eq_true hnext
        rw [← h1]
        exact hgo _ hrest _ _ _ _ _ hh _ _ rfl
    · obtain ⟨s1, s2⟩ := mv_seek_ok (t := t) htab
      cases hl : mv_seek t tab with
      | nil => rw [hl] at hh; cases hh
      | cons a2 l2 =>
        have h1 := s2 _ _ hl
        rw [hl] at s1 hh
        rw [← h1]
        exact hgo _ s1 _ _ _ _ _ hh _ _ rfl
theorem mv_blkX (hA : mv_Ax rI rR ln wI wR nw cp vw) {G : List (mv_C Hp)} {Ms : List (mv_MD × Bool)} (hG : ∀ j C md', mv_nth j G = some C → mv_nth j Ms = some md' → ∃ n', n' + 1 ≤ n ∧ mv_Cal vw n' md' C) (hn1 : 1 ≤ n)
    {tab : List mv_E} (htab : mv_tok md Ms tab = true) {stops : List Nat} {ka : Nat → mv_L → List mv_V → Hp → Nat → Nat → Option (List mv_V × Hp)} (hka : ∀ pc lv st h ce sl, ka pc lv st h ce sl = some res → mv_X vw md n MC MS sc g0 res pc lv st h ce sl)
    {k : Nat} {t : Nat} {lv : mv_L} {st : List mv_V} {h : Hp} {ce sl : Nat} (hh : mv_blk rI rR ln wI wR nw cp bod sc tab G MC MS stops ka k (mv_seek t tab) lv st h ce sl = some res) : mv_X vw md n MC MS sc g0 res t lv st h ce sl := by
  intro p l e R s m args below meth c D cI cQ q0 φ0 Qf hB hRet
  obtain ⟨s1, s2⟩ := mv_seek_ok (t := t) htab
  cases hl : mv_seek t tab with
  | nil =>
    rw [hl] at hh
    cases k with
    | zero => cases hh
    | succ k => cases hh
  | cons a2 l2 =>
    have h1 := s2 _ _ hl
    rw [hl] at s1 hh
    rw [← h1]
    exact mv_blk_sound hA hB hRet hG hn1 htab (fun pc lv st h ce sl h2 => hka pc lv st h ce sl h2 p l e R s m args below meth c D cI cQ q0 φ0 Qf hB hRet) k _ s1 _ _ _ _ _ hh _ _ rfl
/-- the locals at a method's entry -/
def mv_ent : Nat → List mv_V → mv_L
  | _, [] => []
  | i, v :: vs => (i, v) :: mv_ent (match mv_two v with
    | true => i + 2
    | false => i + 1) vs
theorem mv_ent_map (φ : Nat → Nat → Nat) : ∀ (vs : List mv_V) (i : Nat), (mv_ent i vs).map (fun q => (q.1, mv_v φ q.2)) = lv_args i (vs.map (mv_v φ))
  | [], _ => rfl
  | v :: vs, i => by
    have ih := mv_ent_map φ vs
    show (i, mv_v φ v) :: (mv_ent (match mv_two v with
      | true => i + 2
      | false => i + 1) vs).map _ = (i, mv_v φ v) :: lv_args (if (mv_v φ v).category = 2 then i + 2 else i + 1) (vs.map (mv_v φ))
    rw [ih]
    cases h : mv_two v with
    | true =>
      have h2 : (mv_v φ v).category = 2 := by have := mv_two_beq φ v; rw [h] at this; exact eq_of_beq this
      rw [if_pos h2]
    | false =>
      have h2 : ¬ (mv_v φ v).category = 2 := by rw [mv_two_cat h]; decide
      rw [if_neg h2]
theorem mv_ent_mem {P : mv_V → Prop} : ∀ {vs : List mv_V} {i : Nat}, (∀ v ∈ vs, P v) → ∀ q ∈ mv_ent i vs, P q.2
  | [], _, _, q, h => by cases h
  | v :: vs, i, h, q, hq => by
    unfold mv_ent at hq
    rcases List.mem_cons.mp hq with rfl | hq
    · exact (List.forall_mem_cons.mp h).1
    · exact mv_ent_mem (List.forall_mem_cons.mp h).2 q hq
theorem mv_slen (φ : Nat → Nat → Nat) : ∀ vs : List mv_V, (lg_sl (vs.map (mv_v φ))).length = mv_cats vs
  | [] => rfl
  | v :: vs => by
    have ih := mv_slen φ vs
    unfold lg_sl at ih ⊢
    rw [List.map_cons, List.flatMap_cons, List.length_append, ih]
    show _ = (match mv_two v with
      | true => 2
      | false => 1) + mv_cats vs
    congr 1
    cases h : mv_two v with
    | true =>
      have h2 : (mv_v φ v).category = 2 := by have := mv_two_beq φ v; rw [h] at this; exact eq_of_beq this
      rw [if_pos h2]; rfl
    | false =>
      have h2 : ¬ (mv_v φ v).category = 2 := by rw [mv_two_cat h]; decide
      rw [if_neg h2]; rfl
theorem mv_Met_of (hplain : plainName md.1.cls = true) {as : List mv_V} {h : Hp} {vs : List mv_V} {h' : Hp} (hfit : mv_cats as ≤ md.2.2.1) (hX : mv_X vw md n MC MS none (vw h) (vs, h') 0 (mv_ent 0 as) [] h 0 0) : mv_Met vw n MC MS md as h vs h' := by
  intro l D cI cQ q0 φ
  refine Met.ofW (cc := md.2.1) (maxL := md.2.2.1) (ret := md.2.2.2) hplain rfl ?_
  intro p e s m args below meth c s₁ B hml hv
  obtain ⟨rfl, hq0, hK, hE, hlv, hW⟩ := hv
  have hts := atoms_spec (ws := .code md.1 md.2.1 md.2.2.1 md.2.2.2 :: WS) B.pre
  have hr := B.returns
  have hlocks := B.notSynchronized
  have hB : mv_B md n MC MS none p (mv_rm n MC MS) s m (as.map (mv_v φ)).toArray meth c D cI cQ q0 φ :=
    ⟨B.exec, B.bytes, hml, findClass_of_methodNamed B.named, (name_of_methodNamed B.named B.method).1, fun w hw => hts w (List.mem_cons_of_mem _ hw), hK, hq0, ⟨Nat.le_refl _, Nat.le_refl _, Nat.le_refl _, Nat.le_refl _⟩, hE, fun q hq => by cases hq⟩
  have hl := lv_entry (as.map (mv_v φ)) (n := md.2.2.1) (by rw [mv_slen]; exact hfit)
  rw [lg_entry_eq]
  generalize (lg_sl (as.map (mv_v φ)) ++ List.replicate (md.2.2.1 - (lg_sl (as.map (mv_v φ))).length) Slot.unset).toArray = ls at hl ⊢
  rw [← mv_ent_map] at hl
  refine hX p l e (mv_rm n MC MS) s m _ below meth c D cI cQ q0 φ _ hB ?_ (Nat.zero_le _) (Nat.zero_le _) (fun v hv => by cases hv) (mv_ent_mem hlv) φ s.heap [] ls mv_ge.rf hW va_S.rf hl
  intro φ' H locs ls' pc hge hW' hS' hvs
  refine ⟨fun x hx hd hty => ?_, fun x hx hd hty => ?_, fun v hx hd hty hv => ?_, fun hx hd hty => ?_⟩
  · have hq : ∀ t : State, t.heap = H → s.WarmedH t.vm → ∃ φ', mv_ge (vw h) φ (vw h') φ' ∧ (∀ v ∈ vs, mv_live (vw h') v) ∧ Outcome.returned (some (.int x)) = .returned (vs.map (mv_v φ')).head? ∧ mv_W D cI cQ q0 φ' (vw h') t.heap ∧ va_F (fun q => q0 ≤ q) s t := fun t ht _ => ⟨φ', hge, hvs, by rw [show vs = _ from hx]; rfl, by rw [ht]; exact hW', hS'.F ht⟩
    obtain ⟨ty, hty, hnr⟩ := hty
    exact W.zret B.exec B.bytes (hr.trans hty) hnr hq hS'.2.2 hd
  · exact W.lret B.exec B.bytes (hr.trans hty) (fun t ht _ => ⟨φ', hge, hvs, by rw [show vs = _ from hx]; rfl, by rw [ht]; exact hW', hS'.F ht⟩) hS'.2.2 hd
  · obtain ⟨nm, hty⟩ := hty
    refine W.aret B.exec B.bytes (hr.trans hty) (Or.inl ⟨nm, rfl⟩) ?_ (fun t ht _ => ⟨φ', hge, hvs, by rw [show vs = _ from hx]; rfl, by rw [ht]; exact hW', hS'.F ht⟩) hS'.2.2 hd
    rcases hv with rfl | ⟨q, rfl⟩
    · exact Or.inl rfl
    · exact Or.inr ⟨_, rfl⟩
  · exact W.vret B.exec B.bytes (hr.trans hty) (fun t ht _ => ⟨φ', hge, hvs, by rw [show vs = _ from hx]; rfl, by rw [ht]; exact hW', hS'.F ht⟩) hS'.2.2 hd
end
end
